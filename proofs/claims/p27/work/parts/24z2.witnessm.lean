
/-- what the reference holds between two settles -/
def WRI (rw cl : Nat) (gp mv nw : Nat → Int32) (KB : Int32 → Nat → Nat → Bool) (Lo Hi N : Nat → Nat → Nat) (i0 j0 n : Nat) (U : Nat → Nat → Nat) : Prop := (∀ its, ¬ its = -2 → rowM (dmM rw cl gp its) U nw ∧ BND (dmM rw cl gp its) Lo Hi U ∧ LXW (KB its) Lo Hi (rsT (dmM rw cl gp its) N) i0 j0 n (rsT (dmM rw cl gp its) U) ∧ ∀ x y, dmM rw cl gp its x y = true → (¬ mv (12 * x + y) = 0 ↔ FR (KB its) i0 j0 n x y = true)) ∧ ∀ x y, x < rw → y < cl → gp x = -2 → mv (12 * x + y) = 0
section WR
variable {rw cl : Nat} {gp mv nw mv2 nw2 : Nat → Int32} {KB : Int32 → Nat → Nat → Bool} {Lo Hi N U V2 : Nat → Nat → Nat} {i0 j0 n ii jj : Nat}
theorem dm_ne {gp : Nat → Int32} {its its2 : Int32} {x y : Nat} (h : dmM rw cl gp its x y = true) (e : its ≠ its2) : dmM rw cl gp its2 x y = false := by
  rcases bo (dmM rw cl gp its2 x y) with d | d
  · exact absurd ((dmM_of h).2.2.symm.trans (dmM_of d).2.2) e
  · exact d
theorem ag_D {D K : Nat → Nat → Bool} {A : Nat → Nat → Nat} (hK : ∀ x y, K x y = true → D x y = true) (h : agN K Lo Hi (rsT D U) A) (x y : Nat) (hx : x < 12) (hy : y < 12) : rsT D (jnT D A U) x y = A x y := by
  rcases bo (D x y) with d | d
  · rw [rsT_t d, jnT_t d]
  · rw [rsT_f d]
    have q : ((A x y : Nat) : Int) = ((rsT D U x y : Nat) : Int) := h.1 x y hx hy (by
      rcases bo (K x y) with k | k
      · rw [hK x y k] at d; exact absurd d (by decide)
      · exact k)
    rw [rsT_f d] at q; omega
theorem WR_s (h : WRI rw cl gp mv nw KB Lo Hi N i0 j0 (12 * ii + jj) U) (hrw : rw ≤ 12) (hcl : cl ≤ 12) (hi0 : i0 < 12) (hj0 : j0 < 12) (hii : ii < rw) (hjj : jj < cl) (hg : ¬ gp ii = -2) (hKD : ∀ its, ¬ its = -2 → ∀ x y, KB its x y = true → dmM rw cl gp its x y = true) (hv2 : rowM (dmM rw cl gp (gp ii)) V2 nw2) (ha2 : agN (FR (KB (gp ii)) i0 j0 (12 * ii + jj)) Lo Hi (rsT (dmM rw cl gp (gp ii)) U) V2) (hb2 : BND (dmM rw cl gp (gp ii)) Lo Hi V2) (hf2 : ∀ x y, x < 12 → y < 12 → dmM rw cl gp (gp ii) x y = false → nw2 (12 * x + y) = nw (12 * x + y)) (hse : FR (KB (gp ii)) i0 j0 (12 * ii + jj) ii jj = true → ∀ w, agN (FR (KB (gp ii)) i0 j0 (12 * ii + jj)) Lo Hi (rsT (dmM rw cl gp (gp ii)) U) w → V2 ii jj ≤ w ii jj) (hm : only (12 * ii + jj) 0 mv mv2) : WRI rw cl gp mv2 nw2 KB Lo Hi N i0 j0 (12 * ii + (jj + 1)) (jnT (dmM rw cl gp (gp ii)) V2 U) ∧ jnT (dmM rw cl gp (gp ii)) V2 U i0 j0 = U i0 j0 := by
  have hd : dmM rw cl gp (gp ii) ii jj = true := dmM_mk hii hjj rfl
  obtain ⟨t1, t2, t3, t4⟩ := h.1 (gp ii) hg
  have hL := LX_s t3 hi0 hj0 (by omega) (by omega) ha2 hse
  have hFD : ∀ x y, FR (KB (gp ii)) i0 j0 (12 * ii + jj) x y = true → dmM rw cl gp (gp ii) x y = true := fun x y z => hKD (gp ii) hg x y (FR_i z).1
  refine ⟨⟨fun its hits => ?_, fun x y hx hy hgx => ?_⟩, ?_⟩
  · by_cases e : its = gp ii
    · rw [e]
      refine ⟨fun x y hx hy d => ?_, fun x y d => ?_, LX_c hL.1 hi0 hj0 (fun x y hx hy => ag_D hFD ha2 x y hx hy), fun x y d => ?_⟩
      · rw [jnT_t d]; exact hv2 x y hx hy d
      · rw [jnT_t d]; exact hb2 x y d
      · have q := dmM_of d
        rw [FR_s (by omega) (by omega)]
        by_cases c : x = ii ∧ y = jj
        · rw [c.1, c.2, offT_s, hm.1]
          exact ⟨fun z => absurd rfl z, fun z => absurd z (by decide)⟩
        · rw [offT_n c, hm.2 _ (by omega)]
          exact t4 x y d
    · obtain ⟨u1, u2, u3, u4⟩ := h.1 its hits
      have dn : ∀ x y, dmM rw cl gp its x y = true → dmM rw cl gp (gp ii) x y = false := fun x y d => dm_ne d e
      refine ⟨fun x y hx hy d => ?_, fun x y d => ?_, LX_c (LX_gap u3 (fun x y hx hy h1 h2 hk => ?_)) hi0 hj0 (fun x y hx hy => ?_), fun x y d => ?_⟩
      · rw [jnT_f (dn x y d), hf2 x y hx hy (dn x y d)]; exact u1 x y hx hy d
      · rw [jnT_f (dn x y d)]; exact u2 x y d
      · have d := hKD its hits x y hk
        obtain ⟨e1, e2⟩ : x = ii ∧ y = jj := by omega
        have g := (dmM_of d).2.2
        rw [e1] at g
        exact absurd g.symm e
      · rcases bo (dmM rw cl gp its x y) with d | d
        · rw [rsT_t d, rsT_t d, jnT_f (dn x y d)]
        · rw [rsT_f d, rsT_f d]
      · have q := dmM_of d
        have c : ¬ (x = ii ∧ y = jj) := fun z => e (by rw [← q.2.2, z.1])
        rw [FR_s (by omega) (by omega), offT_n c, hm.2 _ (by omega)]
        exact u4 x y d
  · by_cases c : 12 * x + y = 12 * ii + jj
    · rw [c]; exact hm.1
    · rw [hm.2 _ c]; exact h.2 x y hx hy hgx
  · rcases bo (dmM rw cl gp (gp ii) i0 j0) with d | d
    · rw [jnT_t d, hL.2, rsT_t d]
    · exact jnT_f d
theorem WR_0 (h : WRI rw cl gp mv nw KB Lo Hi N i0 j0 (12 * ii + jj) U) (hcl : cl ≤ 12) (hjj : jj < cl) (hg : gp ii = -2) (hKD : ∀ its, ¬ its = -2 → ∀ x y, KB its x y = true → dmM rw cl gp its x y = true) : WRI rw cl gp mv nw KB Lo Hi N i0 j0 (12 * ii + (jj + 1)) U := by
  refine ⟨fun its hits => ?_, h.2⟩
  obtain ⟨u1, u2, u3, u4⟩ := h.1 its hits
  refine ⟨u1, u2, LX_gap u3 (fun x y hx hy h1 h2 hk => ?_), fun x y d => ?_⟩
  · have d := hKD its hits x y hk
    obtain ⟨e1, e2⟩ : x = ii ∧ y = jj := by omega
    have g := (dmM_of d).2.2
    rw [e1, hg] at g
    exact absurd g.symm hits
  · have q := dmM_of d
    have c : ¬ (x = ii ∧ y = jj) := fun z => hits (by rw [← q.2.2, z.1]; exact hg)
    rw [FR_s (by omega) (by omega), offT_n c]
    exact u4 x y d
theorem WR_r (h : WRI rw cl gp mv nw KB Lo Hi N i0 j0 (12 * ii + jj) U) (hcl : cl ≤ 12) (hjj : jj = cl) (hKD : ∀ its, ¬ its = -2 → ∀ x y, KB its x y = true → dmM rw cl gp its x y = true) : WRI rw cl gp mv nw KB Lo Hi N i0 j0 (12 * (ii + 1)) U := by
  refine ⟨fun its hits => ?_, h.2⟩
  obtain ⟨u1, u2, u3, u4⟩ := h.1 its hits
  refine ⟨u1, u2, LX_gap u3 (fun x y hx hy h1 h2 hk => ?_), fun x y d => ?_⟩
  · have q := dmM_of (hKD its hits x y hk)
    omega
  · have q := dmM_of d
    rw [FR_r (cl := jj) (by omega) (fun z hz => by
      rcases bo (KB its ii z) with k | k
      · have := dmM_of (hKD its hits ii z k); omega
      · exact k) (by omega)]
    exact u4 x y d
theorem WR_1 (hrw : rw ≤ 12) (hcl : cl ≤ 12) (hi0 : i0 < rw) (hj0 : j0 < cl) (hg : ¬ gp i0 = -2) (hT : ∀ its, ¬ its = -2 → rowM (dmM rw cl gp its) N nw ∧ BND (dmM rw cl gp its) Lo Hi N ∧ ∀ x y, dmM rw cl gp its x y = true → (¬ mv (12 * x + y) = 0 ↔ KB its x y = true)) (hz : ∀ x y, x < rw → y < cl → gp x = -2 → mv (12 * x + y) = 0) (hKD : ∀ its, ¬ its = -2 → ∀ x y, KB its x y = true → dmM rw cl gp its x y = true) (hv2 : rowM (dmM rw cl gp (gp i0)) V2 nw2) (ha2 : agN (KB (gp i0)) Lo Hi (rsT (dmM rw cl gp (gp i0)) N) V2) (hb2 : BND (dmM rw cl gp (gp i0)) Lo Hi V2) (hf2 : ∀ x y, x < 12 → y < 12 → dmM rw cl gp (gp i0) x y = false → nw2 (12 * x + y) = nw (12 * x + y)) (hm : only (12 * i0 + j0) 0 mv mv2) : WRI rw cl gp mv2 nw2 KB Lo Hi N i0 j0 (12 * 0) (jnT (dmM rw cl gp (gp i0)) V2 N) := by
  have hFm : ∀ its x y, y < 12 → (FR (KB its) i0 j0 (12 * 0) x y = true ↔ (KB its x y = true ∧ ¬ (x = i0 ∧ y = j0))) := fun its x y hy => ⟨fun z => ⟨(FR_i z).1, (FR_i z).2.1⟩, fun z => FR_m z.1 z.2 (by omega)⟩
  refine ⟨fun its hits => ?_, fun x y hx hy hgx => ?_⟩
  · obtain ⟨u1, u2, u3⟩ := hT its hits
    by_cases e : its = gp i0
    · rw [e] at u3 ⊢
      refine ⟨fun x y hx hy d => ?_, fun x y d => ?_, LX_0 (agN_c ha2 (fun x y hx hy => ag_D (hKD _ hg) ha2 x y hx hy)), fun x y d => ?_⟩
      · rw [jnT_t d]; exact hv2 x y hx hy d
      · rw [jnT_t d]; exact hb2 x y d
      · have q := dmM_of d
        rw [hFm _ x y (by omega)]
        by_cases c : x = i0 ∧ y = j0
        · rw [c.1, c.2, hm.1]
          exact ⟨fun z => absurd rfl z, fun z => absurd ⟨rfl, rfl⟩ z.2⟩
        · rw [hm.2 _ (by omega), u3 x y d]
          exact ⟨fun z => ⟨z, c⟩, fun z => z.1⟩
    · have dn : ∀ x y, dmM rw cl gp its x y = true → dmM rw cl gp (gp i0) x y = false := fun x y d => dm_ne d e
      refine ⟨fun x y hx hy d => ?_, fun x y d => ?_, LX_0 (agN_c (agN_r (N := rsT (dmM rw cl gp its) N) (fun x y hx hy hk => ?_)) (fun x y hx hy => ?_)), fun x y d => ?_⟩
      · rw [jnT_f (dn x y d), hf2 x y hx hy (dn x y d)]; exact u1 x y hx hy d
      · rw [jnT_f (dn x y d)]; exact u2 x y d
      · have d := hKD its hits x y hk
        have b := u2 x y d
        rw [rsT_t d]
        exact ⟨b.2.2.2.2, b.2.2.2.1⟩
      · rcases bo (dmM rw cl gp its x y) with d | d
        · rw [rsT_t d, rsT_t d, jnT_f (dn x y d)]
        · rw [rsT_f d, rsT_f d]
      · have q := dmM_of d
        have c : ¬ (x = i0 ∧ y = j0) := fun z => e (by rw [← q.2.2, z.1])
        rw [hFm _ x y (by omega), hm.2 _ (by omega), u3 x y d]
        exact ⟨fun z => ⟨z, c⟩, fun z => z.1⟩
  · by_cases c : 12 * x + y = 12 * i0 + j0
    · rw [c]; exact hm.1
    · rw [hm.2 _ c]; exact hz x y hx hy hgx
end WR
/-- what witness does: of the reference -/
def wtM (g q : Int32) (r2 r3 r4 r5 r6 r7 r8 r9 r10 r11 r12 r13 r14 : Nat → Int32) (f27 f28 : Int32) (r24 r25 : Nat → Int32) (t i k : Nat) : Prop := ∃ rw cl bk, ∃ V : Nat → Nat → Nat, rw ≤ 12 ∧ cl ≤ 12 ∧ bk ≤ 12 ∧ r2 t = nI rw ∧ r3 t = nI cl ∧ r12 t = nI bk ∧ q = nI (V i k) ∧ f27 = nI rw ∧ f28 = nI cl ∧ (∀ x y, x < rw → y < cl → (sndN (r3 t) r11 r5 t x ∧ ¬ r25 x = -2 ∧ r24 (12 * x + y) = nI (V x y)) ∨ (¬ sndN (r3 t) r11 r5 t x ∧ r25 x = -2)) ∧ (∀ x, x < rw → sndN (r3 t) r11 r5 t x → LXW (KBm rw cl t bk r3 r4 r5 r6 r7 r8 r9 r10 r11 r13 r14 (clM r13 r14 t (nI x) bk).1) (LTm r5 r6 t cl) (HTm r5 r6 t cl) (rsT (DBm rw cl t bk r3 r5 r11 r13 r14 (clM r13 r14 t (nI x) bk).1) (NTm r6 t)) i k 144 (rsT (DBm rw cl t bk r3 r5 r11 r13 r14 (clM r13 r14 t (nI x) bk).1) V)) ∧ ((KBm rw cl t bk r3 r4 r5 r6 r7 r8 r9 r10 r11 r13 r14 (clM r13 r14 t (nI i) bk).1 i k = false ∧ V i k = NTm r6 t i k) ∨ (KBm rw cl t bk r3 r4 r5 r6 r7 r8 r9 r10 r11 r13 r14 (clM r13 r14 t (nI i) bk).1 i k = true ∧ (g = 0 → ∀ w, agN (KBm rw cl t bk r3 r4 r5 r6 r7 r8 r9 r10 r11 r13 r14 (clM r13 r14 t (nI i) bk).1) (LTm r5 r6 t cl) (HTm r5 r6 t cl) (rsT (DBm rw cl t bk r3 r5 r11 r13 r14 (clM r13 r14 t (nI i) bk).1) (NTm r6 t)) w → V i k ≤ w i k) ∧ (¬ g = 0 → ∀ w, agN (KBm rw cl t bk r3 r4 r5 r6 r7 r8 r9 r10 r11 r13 r14 (clM r13 r14 t (nI i) bk).1) (LTm r5 r6 t cl) (HTm r5 r6 t cl) (rsT (DBm rw cl t bk r3 r5 r11 r13 r14 (clM r13 r14 t (nI i) bk).1) (NTm r6 t)) w → w i k ≤ V i k)))
def seM9 (f27 f28 : Int32) (r24 r25 : Nat → Int32) (row col q : Int32) : Prop := (∃ i c, i < 12 ∧ c < 12 ∧ row = nI i ∧ col = nI c ∧ inR f27 row ∧ inR f28 col ∧ q = (if r25 i = -2 then -1 else r24 (12 * i + c))) ∨ (¬ (inR f27 row ∧ inR f28 col) ∧ q = -1)
/-! the witness of both sides in step -/
def JL (m0 m1 : Int32) (ms : Nat → Int32) (f27 f28 : Int32) (r24 r25 : Nat → Int32) : Prop := m0 = f27 ∧ m1 = f28 ∧ ∀ i c, i < 12 → c < 12 → inR m0 (nI i) → inR m1 (nI c) → ms (i * 12 + c) = (if r25 i = -2 then -1 else r24 (12 * i + c))
theorem JL_0 : JL 0 0 (fun _ => 0) 0 0 (fun _ => 0) (fun _ => 0) := ⟨rfl, rfl, fun i c hi hc h1 h2 => absurd ((nI_leI (a := 0) (b := i) (by omega) (by omega)).mpr (Nat.zero_le i)) h1.2⟩
theorem wt_step {o f1 f2 f3 tb row col g q1 q2 l0 l1 m0 m1 f27 f28 h27 h28 : Int32} {j : Nat} {pl kd nu td ps ru bf bl ls ms r24 r25 h24 h25 a1 a2 a3 a4 a5 a6 a7 a8 a9 a10 a11 a12 a13 a14 : Nat → Int32} (hj : j < 6) (hjt : tbJ tb j) (hr : nL 12 f1) (hc : nL 12 f2) (hT : TSr o f1 f2 pl a1 a2 a3 a11 j) (hD : TDr f1 f2 f3 pl kd nu td ps ru bf bl a4 a5 a6 a7 a8 a9 a12 a13 a14 j) (hJ : JKr f1 pl kd td a10 j) (hL : JL l0 l1 ls f27 f28 r24 r25)
    (h1 : atP (stX (tbO tb j o) f1 f2 pl row col) row col (fun i k => sv ((¬ kd (i * 12 + k) = 0 ∧ ¬ kd (i * 12 + k) = 5) ∧ sndP f2.toNatClampNeg pl kd i) (wtX g q1 f1 f2 f3 pl kd nu td ps ru bf bl m0 m1 ms i k) (q1 = -1 ∧ m0 = l0 ∧ m1 = l1 ∧ ms = ls)) (q1 = -1 ∧ m0 = l0 ∧ m1 = l1 ∧ ms = ls))
    (h2 : atM a1 a2 a3 a11 tb row col (fun t i k => sv ((¬ a5 (144 * t + 12 * i + k) = 0 ∧ ¬ a5 (144 * t + 12 * i + k) = 5) ∧ sndN (a3 t) a11 a5 t i) (wtM g q2 a2 a3 a4 a5 a6 a7 a8 a9 a10 a11 a12 a13 a14 h27 h28 h24 h25 t i k) (q2 = -1 ∧ h27 = f27 ∧ h28 = f28 ∧ h24 = r24 ∧ h25 = r25)) (q2 = -1 ∧ h27 = f27 ∧ h28 = f28 ∧ h24 = r24 ∧ h25 = r25)) : q1 = q2 ∧ JL m0 m1 ms h27 h28 h24 h25 := by
  have same : (q1 = -1 ∧ m0 = l0 ∧ m1 = l1 ∧ ms = ls) → (q2 = -1 ∧ h27 = f27 ∧ h28 = f28 ∧ h24 = r24 ∧ h25 = r25) → q1 = q2 ∧ JL m0 m1 ms h27 h28 h24 h25 := by
    rintro ⟨e1, u1, u2, u3⟩ ⟨e2, v1, v2, v3, v4⟩
    subst u1 u2 u3 v1 v2 v3 v4
    exact ⟨e1.trans e2.symm, hL⟩
  rcases at_both hj hjt hr hT h1 h2 with ⟨n1, n2⟩ | ⟨i, k, hi, hk, er', ec', hin, hlt, hB, hB2⟩
  · exact same n1 n2
  · have hcs := hD.2.2.2.2 i k hi hk hin hlt
    have hs := so_iff hc hT hD hi hin
    rcases hB with ⟨t1, rw, cl, bk, dn, up, r6, r7, r8, r9, r10, r11, r12, r13, r14, hrw, hcl, hbk, er, ec, eb, ed, eu, hdn, hup, hN, hLD, V, v1, w0, w1, w2, hLX, x1⟩ | ⟨t1, e1⟩
    · rcases hB2 with ⟨t2, rw2, cl2, bk2, V2, hrw2, hcl2, hbk2, er2, ec2, eb2, v2, z0, z1, z2, hLX2, x2⟩ | ⟨t2, e2⟩
      · have q1' := nI_u (by omega) (by omega) er (hT.2.1.trans er2)
        have q2' := nI_u (by omega) (by omega) ec (hT.2.2.1.trans ec2)
        have q3' := nI_u (by omega) (by omega) eb (hD.1.trans eb2)
        subst q1' q2' q3'
        have hso : ∀ x, x < rw → (¬ r6 x = 0 ↔ sndN (a3 j) a11 a5 j x) := fun x hx => W_so hrw hcl er ec hT hD hLD hx
        have hcs2 : ∀ x, x < rw → r7 x = (clM a13 a14 j (nI x) bk).1 := fun x hx => by
          rw [(hLD x hx).1, cl_eq hD.2.2.1 bk hbk]
        have hi2 : i < rw := in_lt hrw hi (by rw [← er]; exact hin)
        have hs6 : ¬ r6 i = 0 := (LD_so hLD hi2).mpr (by have h := t1.2; rw [ec, nI_clamp (by omega)] at h; exact h)
        have hk2 : k < cl := by
          have p := W_pl ec hT hi (hs.mp t1.2)
          rw [p] at hlt
          exact (nI_ltI (by omega) (by omega)).mp hlt
        obtain ⟨c1, c2, c3⟩ := W_ag hrw hcl hbk er ec hT hD hJ hN hLD hi2
        have hdm : dmR r6 r7 rw cl (r7 i) i k = true := dmR_mk hi2 hk2 hs6 rfl
        have hdb : DBm rw cl j bk a3 a5 a11 a13 a14 (clM a13 a14 j (nI i) bk).1 i k = true := pB_t ⟨hi2, hk2, (hso i hi2).mp hs6, rfl⟩
        have A1 := (hLX (r7 i)).1
        have A2 := (hLX2 i hi2 ((hso i hi2).mp hs6)).1
        have eq : V i k = V2 i k := by
          have f1' := agN_e A1 c1 c2 c3
          have f2' := agN_e A2 (fun x y hx hy => (c1 x y hx hy).symm) (fun x y hx hy => (c2 x y hx hy).symm) (bndE_s c1 c2 c3)
          have nt : NTm a6 j i k = NTc nu i k := by
            have h := c2 i k hi hk
            rw [rsT_t hdb, rsT_t hdm] at h
            exact h
          rcases x1 with ⟨k1, y1⟩ | ⟨k1, y1, u1⟩ <;> rcases x2 with ⟨k2, y2⟩ | ⟨k2, y2, u2⟩
          · rw [y1, y2, nt]
          · rw [c1 i k hi hk, k1] at k2; exact absurd k2 (by decide)
          · rw [c1 i k hi hk, k1] at k2; exact absurd k2 (by decide)
          · by_cases c : g = 0
            · have p1 := y1 c _ f2'
              have p2 := y2 c _ f1'
              rw [rsT_t hdb] at p1
              rw [rsT_t hdm] at p2
              omega
            · have p1 := u1 c _ f2'
              have p2 := u2 c _ f1'
              rw [rsT_t hdb] at p1
              rw [rsT_t hdm] at p2
              omega
        refine ⟨by rw [v1, v2, eq], w0.trans z0.symm, w1.trans z1.symm, fun a c ha hc' b1 b2 => ?_⟩
        rw [w0] at b1
        rw [w1] at b2
        have ha2 := in_lt hrw ha b1
        have hc2 := in_lt hcl hc' b2
        rw [w2 a c hc2 (by omega)]
        rcases z2 a c ha2 hc2 with ⟨s1, s2, s3⟩ | ⟨s1, s2⟩
        · have h6 := (hso a ha2).mpr s1
          obtain ⟨g1, g2, g3⟩ := W_ag hrw hcl hbk er ec hT hD hJ hN hLD ha2
          have d1 : dmR r6 r7 rw cl (r7 a) a c = true := dmR_mk ha2 hc2 h6 rfl
          have d2 : DBm rw cl j bk a3 a5 a11 a13 a14 (clM a13 a14 j (nI a) bk).1 a c = true := pB_t ⟨ha2, hc2, s1, rfl⟩
          have h0 : rsT (dmR r6 r7 rw cl (r7 a)) V i k = rsT (DBm rw cl j bk a3 a5 a11 a13 a14 (clM a13 a14 j (nI a) bk).1) V2 i k := by
            by_cases e : r7 i = r7 a
            · rw [rsT_t (show dmR r6 r7 rw cl (r7 a) i k = true from dmR_mk hi2 hk2 hs6 e), rsT_t (show DBm rw cl j bk a3 a5 a11 a13 a14 (clM a13 a14 j (nI a) bk).1 i k = true from pB_t ⟨hi2, hk2, (hso i hi2).mp hs6, by rw [← hcs2 i hi2, ← hcs2 a ha2]; exact e⟩), eq]
            · rw [rsT_f (by
                rcases bo (dmR r6 r7 rw cl (r7 a) i k) with d | d
                · exact absurd (dmR_of d).2.2.2 e
                · exact d), rsT_f (pB_f (fun z => e (by rw [hcs2 i hi2, hcs2 a ha2]; exact z.2.2.2)))]
          have hu := LX_u g1 g2 g3 (hLX (r7 a)) (hLX2 a ha2 s1) h0 a c ha hc'
          rw [rsT_t d1, rsT_t d2] at hu
          show (if r6 a = 0 then -1 else nI (V a c)) = _
          rw [if_neg h6, if_neg s2, s3, hu]
        · show (if r6 a = 0 then -1 else nI (V a c)) = _
          rw [if_pos s2, if_pos (Classical.byContradiction (fun z => s1 ((hso a ha2).mp z)))]
      · exact absurd ⟨⟨fun z => t1.1.1 (hcs.1.trans z), fun z => t1.1.2 (hcs.1.trans z)⟩, hs.mp t1.2⟩ t2
    · rcases hB2 with ⟨t2, _⟩ | ⟨t2, e2⟩
      · exact absurd ⟨⟨fun z => t2.1.1 (hcs.1.symm.trans z), fun z => t2.1.2 (hcs.1.symm.trans z)⟩, hs.mpr t2.2⟩ t1
      · exact same e1 e2
set_option maxHeartbeats 4000000 in
set_option maxRecDepth 100000 in
theorem n_settle0 (l : Launch) (G : GG) (y : Nat) (b : Nat → Nat) (f : Nat → Int32) (r : Nat → Nat → Int32) (i : Nat) (j : Nat) (up : Int32) (hi : i < 12) (hj : j < 12) (hz : (r 19) (12 * i + j) = 0) : WrV l yX7_settle cX7_settle 6 ({ frames := 3, cells := 0, slots := 0, locals := 80 }) G (mM G y b f r) [.ref y, .int (nI i), .int (nI j), .int up] (fun w => ∃ (n_r_15 : Nat → Int32) (n_r_19 : Nat → Int32) (n_r_22 : Nat → Int32) (n_r_23 : Nat → Int32), w = mM G y b f (up2 (up2 (up2 (up2 r 15 n_r_15) 19 n_r_19) 22 n_r_22) 23 n_r_23) ∧ (n_r_15 = (r 15)) ∧ (n_r_19 = (r 19))) := by
  refine wr_entryV (by decide +kernel) (Nat.le_of_ble_eq_true rfl) ?_
  intro p e s m below meth c A C0 hP hK hD hA ls hl
  have hS : va_S A s.heap s.heap [] := va_S.rf
  obtain ⟨hx, hb, hml, hown, hts, hr, hlocks, hin⟩ := C0
  have hown : s.vm.findClass RX7 = some m.cls := hown
  have hDD : ∀ f' r', va_D A (mM G y b f' r') := fun f' r' => D_same hD rfl
  have hl : lv_has ls 6 [(0, .ref y), (1, .int (nI i)), (2, .int (nI j)), (3, .int up)] := hl
  refine lv_bipush (v := 12) hx hb dX7_settle_0 (by decide) ?_
  refine lv_iload_n hx hb dX7_settle_2 rfl (lv_at hl 1 rfl) ?_
  refine lv_imul hx hb dX7_settle_3 ?_
  refine lv_topi (fun v1 ev1 => ?_)
  obtain rfl : v1 = nI (12 * i) := nI_times ev1 rfl rfl
  refine lv_iload_n hx hb dX7_settle_4 rfl (lv_at hl 2 rfl) ?_
  refine lv_iadd hx hb dX7_settle_5 ?_
  refine lv_topi (fun v2 ev2 => ?_)
  obtain rfl : v2 = nI ((12 * i) + j) := nI_plus ev2 rfl rfl
  refine lv_istore (lv' := [(4, .int (nI ((12 * i) + j))), (0, .ref y), (1, .int (nI i)), (2, .int (nI j)), (3, .int up)]) hx hb dX7_settle_6 hl (by decide) rfl (fun ls hl => ?_)
  refine lv_aload_n hx hb dX7_settle_8 rfl (lv_at hl 1 rfl) ?_
  refine va_get (D := G.1) (ci := 7) (v := .ref (b 19)) (C := RX7) (T := TX7) (N := 43) hx hb hts inX7 hown hK.1 hP 0 rfl rfl 19 (by decide) (hts _ mf_X7_65) (fun _ h9 => h9) rfl dX7_settle_9 ?_
  refine lv_iload hx hb dX7_settle_12 (lv_at hl 0 rfl) ?_
  refine xzald (f := (r 19)) hx hb hK hP 19 (((12 * i) + j)) (rfl) (by omega) (by decide) rfl dX7_settle_14 ?_
  refine lv_topi (fun v3 ev3 => ?_)
  refine lv_if_ne (tgt := 19) hx hb dX7_settle_15 (by decide) (fun c4 => ?_) (fun c4 => ?_)
  · exact absurd (ev3.trans hz) c4
  · exact wr_vret hx hb hr hlocks hS hP ⟨(r 15), (r 19), (r 22), (r 23), rfl, rfl, rfl⟩ dX7_settle_18
theorem cp_s {a b : Nat → Int32} {n : Nat} {v : Int32} (hn : n < 144) (h : ∀ p, p < n → a p = b p) (e : v = b n) : ∀ p, p < n + 1 → upd a n v p = b p := fun p hp => by
  by_cases c : p = n
  · subst c; rw [pk_us]; exact e
  · rw [pk_un c]; exact h p (by omega)
theorem W_in0 {rs cs pl op : Nat → Int32} {tb row col : Int32} {t i k rw cl : Nat} (h : plS op rs cs pl tb row col 0) (e0 : tb = nI t) (ht : t < 6) (e1 : row = nI i) (e2 : col = nI k) (hrw : rw ≤ 12) (hcl : cl ≤ 12) (g2 : rs t = nI rw) (g3 : cs t = nI cl) (hi : i < 12) (hk : k < 12) : i < rw ∧ k < cl := by
  rcases h with ⟨a, _⟩ | ⟨t2, ht2, et, _, hq⟩
  · exact absurd a (by decide)
  · have e := (nI_eq (by omega) (by omega)).mp (e0.symm.trans et)
    subst e
    rcases hq with ⟨a, _⟩ | ⟨h1, h2, _⟩
    · exact absurd a (by decide)
    · rw [g2, e1] at h1
      rw [g3, e2] at h2
      exact ⟨in_lt hrw hi h1, in_lt hcl hk h2⟩
set_option maxHeartbeats 4000000 in
set_option maxRecDepth 100000 in
theorem n_witness (l : Launch) (G : GG) (y : Nat) (b : Nat → Nat) (f : Nat → Int32) (r : Nat → Nat → Int32) (tb : Int32) (row : Int32) (col : Int32) (gr : Int32) (hM2 : nOK 6 12 (r 2)) (hM3 : nOK 6 12 (r 3)) (hM12 : nOK 6 12 (r 12)) (hG : nOK 864 6 (r 7)) (h27 : nL 12 (f 27)) (h28 : nL 12 (f 28)) (hNB : ∀ t rw cl, t < 6 → rw ≤ 12 → cl ≤ 12 → (r 2) t = nI rw → (r 3) t = nI cl → NRM rw cl t (r 3) (r 5) (r 6) (r 11)) : WrI l yX7_witness cX7_witness 11 (some .int) ({ frames := 4, cells := 0, slots := 0, locals := 105 }) G (mM G y b f r) [.ref y, .int tb, .int row, .int col, .int gr] (fun q w => ∃ (n_f_0 : Int32) (n_f_20 : Int32) (n_f_21 : Int32) (n_f_27 : Int32) (n_f_28 : Int32) (n_r_15 : Nat → Int32) (n_r_16 : Nat → Int32) (n_r_17 : Nat → Int32) (n_r_18 : Nat → Int32) (n_r_19 : Nat → Int32) (n_r_22 : Nat → Int32) (n_r_23 : Nat → Int32) (n_r_24 : Nat → Int32) (n_r_25 : Nat → Int32) (n_r_26 : Nat → Int32), w = mM G y b (upd (upd (upd (upd (upd f 0 n_f_0) 20 n_f_20) 21 n_f_21) 27 n_f_27) 28 n_f_28) (up2 (up2 (up2 (up2 (up2 (up2 (up2 (up2 (up2 (up2 r 15 n_r_15) 16 n_r_16) 17 n_r_17) 18 n_r_18) 19 n_r_19) 22 n_r_22) 23 n_r_23) 24 n_r_24) 25 n_r_25) 26 n_r_26) ∧ atM (r 1) (r 2) (r 3) (r 11) tb row col (fun t i k => sv ((¬ (r 5) (144 * t + 12 * i + k) = 0 ∧ ¬ (r 5) (144 * t + 12 * i + k) = 5) ∧ sndN ((r 3) t) (r 11) (r 5) t i) (wtM gr q (r 2) (r 3) (r 4) (r 5) (r 6) (r 7) (r 8) (r 9) (r 10) (r 11) (r 12) (r 13) (r 14) n_f_27 n_f_28 n_r_24 n_r_25 t i k) (q = -1 ∧ n_f_27 = (f 27) ∧ n_f_28 = (f 28) ∧ n_r_24 = (r 24) ∧ n_r_25 = (r 25))) (q = -1 ∧ n_f_27 = (f 27) ∧ n_f_28 = (f 28) ∧ n_r_24 = (r 24) ∧ n_r_25 = (r 25)) ∧ (nL 12 n_f_27) ∧ (nL 12 n_f_28)) := by
  refine wr_entryI (by decide +kernel) (Nat.le_of_ble_eq_true rfl) ?_
  intro p e s m below meth c A C0 hP hK hD hA ls hl
  have hS : va_S A s.heap s.heap [] := va_S.rf
  obtain ⟨hx, hb, hml, hown, hts, hr, hlocks, hin⟩ := C0
  have hown : s.vm.findClass RX7 = some m.cls := hown
  have hDD : ∀ f' r', va_D A (mM G y b f' r') := fun f' r' => D_same hD rfl
  have hl : lv_has ls 11 [(0, .ref y), (1, .int tb), (2, .int row), (3, .int col), (4, .int gr)] := hl
  refine lv_aload_n hx hb dX7_witness_0 rfl (lv_at hl 0 rfl) ?_
  refine lv_aload_n hx hb dX7_witness_1 rfl (lv_at hl 0 rfl) ?_
  refine lv_iload_n hx hb dX7_witness_2 rfl (lv_at hl 1 rfl) ?_
  refine lv_iload_n hx hb dX7_witness_3 rfl (lv_at hl 2 rfl) ?_
  refine lv_iload_n hx hb dX7_witness_4 rfl (lv_at hl 3 rfl) ?_
  refine rdV (rest := [.ref y]) (q0 := 0) ⟨hx, hb, hml, hown, hts⟩ (m_X7_wrongSound l G y b f r tb row col  hM2 hM3 hM12) mi_yX7_wrongSound mv_yX7_wrongSound ml_X7_178 ⟨rfl, rfl, Nat.le_of_ble_eq_true rfl, Nat.le_of_ble_eq_true rfl⟩ hK (hP) rfl rfl rfl hl.1 rfl (Nat.le_of_ble_eq_true rfl) dX7_witness_5 ⟨Nat.zero_le _, Nat.zero_le _⟩ hS hA hP (fun r1 H locs hr1 hP hS => ?_)
  have hr1 : stM (r 1) (r 2) (r 3) (r 11) tb row col (fun t i k => kfS ((r 5) (144 * t + 12 * i + k)) (sndN ((r 3) t) (r 11) (r 5) t i)) r1 := hr1
  refine va_put (D := G.1) (ci := 7) (v := .int r1) (C := RX7) (T := TX7) (N := 43) hx hb hts inX7 tyX7 tyX7_ok nmX7 hown hK.1 hP (hDD _ _) hS 0 rfl rfl 0 (by decide) (hts _ mf_X7_116) (fun _ h9 => h9) rfl (tyX7_ok 0 (by decide)) (rfl) (rfl) (Nat.le_of_ble_eq_true rfl) dX7_witness_8 (fun H locs hP _ hS => ?_)
  have hP : PP G (mM G y b (upd f 0 r1) r) H := hP
  refine lv_aload_n hx hb dX7_witness_11 rfl (lv_at hl 0 rfl) ?_
  refine va_get (D := G.1) (ci := 7) (v := .int r1) (C := RX7) (T := TX7) (N := 43) hx hb hts inX7 hown hK.1 hP 0 rfl rfl 0 (by decide) (hts _ mf_X7_116) (fun _ h9 => h9) rfl dX7_witness_12 ?_
  refine lv_if_le (tgt := 20) hx hb dX7_witness_15 (by decide) (fun c2 => ?_) (fun c2 => ?_)
  · have hp0 := (stM_0 hM2 hM3 (fun _ _ _ => kfS_p _ _) hr1 c2).1
    obtain ⟨t, i, k, rw, cl, ht, hi, hk, hrw, hcl, rfl, rfl, rfl, h2, h3⟩ := wS_ok (stM_w hM2 hM3 (fun _ _ _ => kfS_p _ _) hr1) (npos_of_le c2)
    obtain ⟨bk, hbk, h12⟩ := hM12 t ht
    have hkk := stM_k hM2 hM3 (fun _ _ _ => kfS_p _ _) hr1 c2 ht (show i < 12 by omega) (show k < 12 by omega) rfl rfl rfl
    have hNR := hNB t rw cl ht hrw hcl h2 h3
    have hsi := (kfS_i hkk).2
    have hin1 : i < rw := (W_in0 hp0 rfl ht rfl rfl hrw hcl h2 h3 (by omega) (by omega)).1
    have hin2 : k < cl := (W_in0 hp0 rfl ht rfl rfl hrw hcl h2 h3 (by omega) (by omega)).2
    refine lv_aload_n hx hb dX7_witness_20 rfl (lv_at hl 0 rfl) ?_
    refine lv_iload_n hx hb dX7_witness_21 rfl (lv_at hl 1 rfl) ?_
    refine wrVVa (rest := []) (q0 := 0) ⟨hx, hb, hml, hown, hts⟩ (n_lay l G y b (upd f 0 r1) r t rw cl bk (by omega) (by omega) (by omega) (by omega) h2 h3 h12 hG) mi_yX7_lay mv_yX7_lay ml_X7_216 ⟨rfl, rfl, Nat.le_of_ble_eq_true rfl, Nat.le_of_ble_eq_true rfl⟩ hK hP (hDD _ _) rfl rfl rfl hl.1 rfl (Nat.le_of_ble_eq_true rfl) dX7_witness_22 ⟨Nat.zero_le _, Nat.zero_le _⟩ hS hA (fun w4 H locs hw4 hP hS => ?_)
    obtain ⟨x5, x6, x7, x8, x9, x10, x11, rfl, h20, h21, hLY⟩ := hw4
    have hP : PP G (mM G y b (upd (upd (upd f 0 r1) 20 x5) 21 x6) (up2 (up2 (up2 (up2 (up2 r 15 x7) 16 x8) 17 x9) 18 x10) 19 x11)) H := hP
    have h20 : x5 = nI rw := h20
    have h21 : x6 = nI cl := h21
    have hLY : LYR t cl bk rw (r 3) (r 4) (r 5) (r 6) (r 7) (r 8) (r 9) (r 10) (r 11) (r 13) (r 14) x7 x8 x9 x10 x11 := hLY
    have e18 : ∀ x, x < rw → (sndN (r 3 t) (r 11) (r 5) t x ∧ x10 x = (clM (r 13) (r 14) t (nI x) bk).1) ∨ (¬ sndN (r 3 t) (r 11) (r 5) t x ∧ x10 x = -2) := fun x hx => (hLY x hx).imp (fun z9 => ⟨z9.1, z9.2.1⟩) (fun z9 => ⟨z9.1, z9.2.1⟩)
    have hg9 : ¬ x10 i = -2 := by rcases e18 i hin1 with z9 | z9; (rw [z9.2]; exact cl_n2 hbk); exact absurd hsi z9.1
    have hTB : ∀ its, ¬ its = -2 → rowM (dmM rw cl x10 its) (NTm (r 6) t) x7 ∧ BND (dmM rw cl x10 its) (LTm (r 5) (r 6) t cl) (HTm (r 5) (r 6) t cl) (NTm (r 6) t) ∧ ∀ x y, (dmM rw cl x10 its) x y = true → (¬ x11 (12 * x + y) = 0 ↔ (KBm rw cl t bk (r 3) (r 4) (r 5) (r 6) (r 7) (r 8) (r 9) (r 10) (r 11) (r 13) (r 14) its) x y = true) := fun its h9 => by obtain ⟨t1, t2, t3, t4, t5⟩ := LY_tab hLY h9 hrw hcl hNR; exact ⟨t1, t4, t5⟩
    have hLH : ∀ its, ¬ its = -2 → rowM (dmM rw cl x10 its) (LTm (r 5) (r 6) t cl) x8 ∧ rowM (dmM rw cl x10 its) (HTm (r 5) (r 6) t cl) x9 := fun its h9 => by obtain ⟨t1, t2, t3, t4, t5⟩ := LY_tab hLY h9 hrw hcl hNR; exact ⟨t2, t3⟩
    have hz9 : ∀ x y, x < rw → y < cl → x10 x = -2 → x11 (12 * x + y) = 0 := fun x y hx hy h9 => by rcases hLY x hx with z9 | z9; (exact absurd (z9.2.1.symm.trans h9) (cl_n2 hbk)); exact z9.2.2 y hy
    have hKD : ∀ its, ¬ its = -2 → ∀ x y, (KBm rw cl t bk (r 3) (r 4) (r 5) (r 6) (r 7) (r 8) (r 9) (r 10) (r 11) (r 13) (r 14) its) x y = true → (dmM rw cl x10 its) x y = true := fun its h9 x y h8 => by rw [LY_dm hLY h9]; have h7 := pB_i h8; exact pB_t ⟨h7.1, h7.2.1, h7.2.2.1, h7.2.2.2.1⟩
    have hDB : ∀ its, ¬ its = -2 → (dmM rw cl x10 its) = DBm rw cl t bk (r 3) (r 5) (r 11) (r 13) (r 14) its := fun its h9 => funext (fun x => funext (fun y => LY_dm hLY h9 x y))
    have hd0 : (dmM rw cl x10 (x10 i)) i k = true := dmM_mk hin1 hin2 rfl
    have eN : ∀ x y, (dmM rw cl x10 (x10 i)) x y = true → rsT (dmM rw cl x10 (x10 i)) (NTm (r 6) t) x y = NTm (r 6) t x y := fun x y h9 => rsT_t h9
    have hTI := hTB (x10 i) hg9
    have hAg : agN (KBm rw cl t bk (r 3) (r 4) (r 5) (r 6) (r 7) (r 8) (r 9) (r 10) (r 11) (r 13) (r 14) (x10 i)) (LTm (r 5) (r 6) t cl) (HTm (r 5) (r 6) t cl) (rsT (dmM rw cl x10 (x10 i)) (NTm (r 6) t)) (rsT (dmM rw cl x10 (x10 i)) (NTm (r 6) t)) := agN_r (fun x y h8 h9 h7 => by have h6 := hTI.2.1 x y (hKD _ hg9 x y h7); rw [eN x y (hKD _ hg9 x y h7)]; exact ⟨h6.2.2.2.2, h6.2.2.2.1⟩)
    refine lv_aload_n hx hb dX7_witness_25 rfl (lv_at hl 0 rfl) ?_
    refine va_get (D := G.1) (ci := 7) (v := .ref (b 19)) (C := RX7) (T := TX7) (N := 43) hx hb hts inX7 hown hK.1 hP 0 rfl rfl 19 (by decide) (hts _ mf_X7_65) (fun _ h9 => h9) rfl dX7_witness_26 ?_
    refine lv_bipush (v := 12) hx hb dX7_witness_29 (by decide) ?_
    refine lv_iload_n hx hb dX7_witness_31 rfl (lv_at hl 2 rfl) ?_
    refine lv_imul hx hb dX7_witness_32 ?_
    refine lv_topi (fun v12 ev12 => ?_)
    obtain rfl : v12 = nI (12 * i) := nI_times ev12 rfl rfl
    refine lv_iload_n hx hb dX7_witness_33 rfl (lv_at hl 3 rfl) ?_
    refine lv_iadd hx hb dX7_witness_34 ?_
    refine lv_topi (fun v13 ev13 => ?_)
    obtain rfl : v13 = nI ((12 * i) + k) := nI_plus ev13 rfl rfl
    refine xzald (f := x11) hx hb hK hP 19 (((12 * i) + k)) (rfl) (by omega) (by decide) rfl dX7_witness_35 ?_
    refine lv_topi (fun v14 ev14 => ?_)
    refine lv_istore (lv' := [(5, .int v14), (0, .ref y), (1, .int (nI t)), (2, .int (nI i)), (3, .int (nI k)), (4, .int gr)]) hx hb dX7_witness_36 hl (by decide) rfl (fun ls hl => ?_)
    refine lv_aload_n hx hb dX7_witness_38 rfl (lv_at hl 1 rfl) ?_
    refine lv_iload_n hx hb dX7_witness_39 rfl (lv_at hl 3 rfl) ?_
    refine lv_iload_n hx hb dX7_witness_40 rfl (lv_at hl 4 rfl) ?_
    refine lv_iload hx hb dX7_witness_41 (lv_at hl 5 rfl) ?_
    refine wrVVa (rest := []) (q0 := 0) ⟨hx, hb, hml, hown, hts⟩ (n_settle l G y b (upd (upd (upd f 0 r1) 20 x5) 21 x6) (up2 (up2 (up2 (up2 (up2 r 15 x7) 16 x8) 17 x9) 18 x10) 19 x11) i k gr rw cl (rsT (dmM rw cl x10 (x10 i)) (NTm (r 6) t)) (rsT (dmM rw cl x10 (x10 i)) (NTm (r 6) t)) (LTm (r 5) (r 6) t cl) (HTm (r 5) (r 6) t cl) (KBm rw cl t bk (r 3) (r 4) (r 5) (r 6) (r 7) (r 8) (r 9) (r 10) (r 11) (r 13) (r 14) (x10 i)) (by omega) (by omega) (by omega) (by omega) h20 h21 hd0 (hKD _ hg9) hTI.2.2 (fun x y h8 h9 h7 => by rw [eN x y h7]; exact hTI.1 x y h8 h9 h7) ((hLH _ hg9).1) ((hLH _ hg9).2) (fun x y h7 => by rw [eN x y h7]; exact hTI.2.1 x y h7) hAg) mi_yX7_settle mv_yX7_settle ml_X7_219 ⟨rfl, rfl, Nat.le_of_ble_eq_true rfl, Nat.le_of_ble_eq_true rfl⟩ hK hP (hDD _ _) rfl rfl rfl hl.1 rfl (Nat.le_of_ble_eq_true rfl) dX7_witness_43 ⟨Nat.zero_le _, Nat.zero_le _⟩ hS hA (fun w16 H locs hw16 hP hS => ?_)
    obtain ⟨x17, x18, x19, x20, V2, rfl, hv2, ha2, hb2_, hf2, hse, hm19⟩ := hw16
    have hP : PP G (mM G y b (upd (upd (upd f 0 r1) 20 x5) 21 x6) (up2 (up2 (up2 (up2 (up2 (up2 (up2 r 15 x17) 16 x8) 17 x9) 18 x10) 19 x18) 22 x19) 23 x20)) H := hP
    have hv2 : rowM (dmM rw cl x10 (x10 i)) V2 x17 := hv2
    have ha2 : agN (KBm rw cl t bk (r 3) (r 4) (r 5) (r 6) (r 7) (r 8) (r 9) (r 10) (r 11) (r 13) (r 14) (x10 i)) (LTm (r 5) (r 6) t cl) (HTm (r 5) (r 6) t cl) (rsT (dmM rw cl x10 (x10 i)) (NTm (r 6) t)) V2 := ha2
    have hb2_ : BND (dmM rw cl x10 (x10 i)) (LTm (r 5) (r 6) t cl) (HTm (r 5) (r 6) t cl) V2 := hb2_
    have hf2 : ∀ x y, x < 12 → y < 12 → dmM rw cl x10 (x10 i) x y = false → x17 (12 * x + y) = x7 (12 * x + y) := hf2
    have hse : ((KBm rw cl t bk (r 3) (r 4) (r 5) (r 6) (r 7) (r 8) (r 9) (r 10) (r 11) (r 13) (r 14) (x10 i)) i k = false ∧ V2 = (rsT (dmM rw cl x10 (x10 i)) (NTm (r 6) t))) ∨ ((KBm rw cl t bk (r 3) (r 4) (r 5) (r 6) (r 7) (r 8) (r 9) (r 10) (r 11) (r 13) (r 14) (x10 i)) i k = true ∧ ((gr : Int32) = 0 → ∀ w, agN (KBm rw cl t bk (r 3) (r 4) (r 5) (r 6) (r 7) (r 8) (r 9) (r 10) (r 11) (r 13) (r 14) (x10 i)) (LTm (r 5) (r 6) t cl) (HTm (r 5) (r 6) t cl) (rsT (dmM rw cl x10 (x10 i)) (NTm (r 6) t)) w → V2 i k ≤ w i k) ∧ (¬ (gr : Int32) = 0 → ∀ w, agN (KBm rw cl t bk (r 3) (r 4) (r 5) (r 6) (r 7) (r 8) (r 9) (r 10) (r 11) (r 13) (r 14) (x10 i)) (LTm (r 5) (r 6) t cl) (HTm (r 5) (r 6) t cl) (rsT (dmM rw cl x10 (x10 i)) (NTm (r 6) t)) w → w i k ≤ V2 i k)) := hse
    have hm19 : only (12 * i + k) 0 x11 x18 := hm19
    have hW0 := WR_1 hrw hcl hin1 hin2 hg9 hTB hz9 hKD hv2 ha2 hb2_ hf2 hm19
    have hse9 : ((KBm rw cl t bk (r 3) (r 4) (r 5) (r 6) (r 7) (r 8) (r 9) (r 10) (r 11) (r 13) (r 14) (x10 i)) i k = false ∧ jnT (dmM rw cl x10 (x10 i)) V2 (NTm (r 6) t) i k = NTm (r 6) t i k) ∨ ((KBm rw cl t bk (r 3) (r 4) (r 5) (r 6) (r 7) (r 8) (r 9) (r 10) (r 11) (r 13) (r 14) (x10 i)) i k = true ∧ ((gr : Int32) = 0 → ∀ w, agN (KBm rw cl t bk (r 3) (r 4) (r 5) (r 6) (r 7) (r 8) (r 9) (r 10) (r 11) (r 13) (r 14) (x10 i)) (LTm (r 5) (r 6) t cl) (HTm (r 5) (r 6) t cl) (rsT (dmM rw cl x10 (x10 i)) (NTm (r 6) t)) w → jnT (dmM rw cl x10 (x10 i)) V2 (NTm (r 6) t) i k ≤ w i k) ∧ (¬ (gr : Int32) = 0 → ∀ w, agN (KBm rw cl t bk (r 3) (r 4) (r 5) (r 6) (r 7) (r 8) (r 9) (r 10) (r 11) (r 13) (r 14) (x10 i)) (LTm (r 5) (r 6) t cl) (HTm (r 5) (r 6) t cl) (rsT (dmM rw cl x10 (x10 i)) (NTm (r 6) t)) w → w i k ≤ jnT (dmM rw cl x10 (x10 i)) V2 (NTm (r 6) t) i k)) := by rw [jnT_t hd0]; exact hse.imp (fun z9 => ⟨z9.1, by rw [z9.2]; exact rsT_t hd0⟩) id
    obtain ⟨U0, eU0⟩ : ∃ z9 : Nat → Nat → Nat, z9 = jnT (dmM rw cl x10 (x10 i)) V2 (NTm (r 6) t) := ⟨_, rfl⟩
    rw [← eU0] at hW0 hse9
    refine lv_iconst (v := 0) hx hb dX7_witness_46 (by decide) ?_
    refine lv_istore (lv' := [(6, .int 0), (5, .int v14), (0, .ref y), (1, .int (nI t)), (2, .int (nI i)), (3, .int (nI k)), (4, .int gr)]) hx hb dX7_witness_47 hl (by decide) rfl (fun ls hl => ?_)
    have loop49 : ∀ (k21 ii : Nat) (U : Nat → Nat → Nat) (x22 : Nat → Int32) (x23 : Nat → Int32) (x24 : Nat → Int32) (x25 : Nat → Int32), ii ≤ rw → rw < ii + k21 → (WRI rw cl x10 x23 x22 (KBm rw cl t bk (r 3) (r 4) (r 5) (r 6) (r 7) (r 8) (r 9) (r 10) (r 11) (r 13) (r 14)) (LTm (r 5) (r 6) t cl) (HTm (r 5) (r 6) t cl) (NTm (r 6) t) i k (12 * ii) U) → (U i k = U0 i k) → ∀ (H : Heap) (locs : List Loc) (ls : Array Slot), PP G (mM G y b (upd (upd (upd f 0 r1) 20 x5) 21 x6) (up2 (up2 (up2 (up2 (up2 (up2 (up2 r 15 x22) 16 x8) 17 x9) 18 x10) 19 x23) 22 x24) 23 x25)) H → va_S A s.heap H locs → lv_has ls 11 [(6, .int (nI ii)), (5, .int v14), (0, .ref y), (1, .int (nI t)), (2, .int (nI i)), (3, .int (nI k)), (4, .int gr)] → W p l e ({ frames := 4, cells := 0, slots := 0, locals := 105 }) s m ([.ref y, .int (nI t), .int (nI i), .int (nI k), .int gr] : List Value).toArray below meth c H locs 0 0 (MQ below (QwI G (fun q w => ∃ (n_f_0 : Int32) (n_f_20 : Int32) (n_f_21 : Int32) (n_f_27 : Int32) (n_f_28 : Int32) (n_r_15 : Nat → Int32) (n_r_16 : Nat → Int32) (n_r_17 : Nat → Int32) (n_r_18 : Nat → Int32) (n_r_19 : Nat → Int32) (n_r_22 : Nat → Int32) (n_r_23 : Nat → Int32) (n_r_24 : Nat → Int32) (n_r_25 : Nat → Int32) (n_r_26 : Nat → Int32), w = mM G y b (upd (upd (upd (upd (upd f 0 n_f_0) 20 n_f_20) 21 n_f_21) 27 n_f_27) 28 n_f_28) (up2 (up2 (up2 (up2 (up2 (up2 (up2 (up2 (up2 (up2 r 15 n_r_15) 16 n_r_16) 17 n_r_17) 18 n_r_18) 19 n_r_19) 22 n_r_22) 23 n_r_23) 24 n_r_24) 25 n_r_25) 26 n_r_26) ∧ atM (r 1) (r 2) (r 3) (r 11) (nI t) (nI i) (nI k) (fun t i k => sv ((¬ (r 5) (144 * t + 12 * i + k) = 0 ∧ ¬ (r 5) (144 * t + 12 * i + k) = 5) ∧ sndN ((r 3) t) (r 11) (r 5) t i) (wtM gr q (r 2) (r 3) (r 4) (r 5) (r 6) (r 7) (r 8) (r 9) (r 10) (r 11) (r 12) (r 13) (r 14) n_f_27 n_f_28 n_r_24 n_r_25 t i k) (q = -1 ∧ n_f_27 = (f 27) ∧ n_f_28 = (f 28) ∧ n_r_24 = (r 24) ∧ n_r_25 = (r 25))) (q = -1 ∧ n_f_27 = (f 27) ∧ n_f_28 = (f 28) ∧ n_r_24 = (r 24) ∧ n_r_25 = (r 25)) ∧ (nL 12 n_f_27) ∧ (nL 12 n_f_28)) A) ([.ref y, .int (nI t), .int (nI i), .int (nI k), .int gr] : List Value).toArray s 0 0 A) (F0 m 49 ls []) := by
      intro k21
      induction k21 with
      | zero => intro ii U x22 x23 x24 x25 h1 h2; exact absurd h1 (by omega)
      | succ k21 ih49k21 =>
        intro ii U x22 x23 x24 x25 hi_ii hk_ii hW hUe H locs ls hP hS hl
        refine lv_iload hx hb dX7_witness_49 (lv_at hl 0 rfl) ?_
        refine lv_aload_n hx hb dX7_witness_51 rfl (lv_at hl 2 rfl) ?_
        refine va_get (D := G.1) (ci := 7) (v := .int x5) (C := RX7) (T := TX7) (N := 43) hx hb hts inX7 hown hK.1 hP 0 rfl rfl 20 (by decide) (hts _ mf_X7_189) (fun _ h9 => h9) rfl dX7_witness_52 ?_
        rw [show x5 = nI (rw) from h20]
        refine lv_icmp_ge (tgt := 91) hx hb dX7_witness_55 (by decide) (fun c26 => ?_) (fun c26 => ?_)
        · have b55 := qge_t (a := ii) (b := (rw)) (by omega) (by omega) c26
          have hWf := hW
          refine lv_aload_n hx hb dX7_witness_91 rfl (lv_at hl 2 rfl) ?_
          refine lv_aload_n hx hb dX7_witness_92 rfl (lv_at hl 2 rfl) ?_
          refine va_get (D := G.1) (ci := 7) (v := .int x5) (C := RX7) (T := TX7) (N := 43) hx hb hts inX7 hown hK.1 hP 0 rfl rfl 20 (by decide) (hts _ mf_X7_189) (fun _ h9 => h9) rfl dX7_witness_93 ?_
          rw [show x5 = nI (rw) from h20]
          refine va_put (D := G.1) (ci := 7) (v := .int (nI (rw))) (C := RX7) (T := TX7) (N := 43) hx hb hts inX7 tyX7 tyX7_ok nmX7 hown hK.1 hP (hDD _ _) hS 0 rfl rfl 27 (by decide) (hts _ mf_X7_233) (fun _ h9 => h9) rfl (tyX7_ok 27 (by decide)) (rfl) (rfl) (Nat.le_of_ble_eq_true rfl) dX7_witness_96 (fun H locs hP _ hS => ?_)
          have hP : PP G (mM G y b (upd (upd (upd (upd f 0 r1) 20 x5) 21 x6) 27 (nI (rw))) (up2 (up2 (up2 (up2 (up2 (up2 (up2 r 15 x22) 16 x8) 17 x9) 18 x10) 19 x23) 22 x24) 23 x25)) H := hP
          have h27 : nL 12 (nI (rw)) := ⟨rw, hrw, rfl⟩
          refine lv_aload_n hx hb dX7_witness_99 rfl (lv_at hl 2 rfl) ?_
          refine lv_aload_n hx hb dX7_witness_100 rfl (lv_at hl 2 rfl) ?_
          refine va_get (D := G.1) (ci := 7) (v := .int x6) (C := RX7) (T := TX7) (N := 43) hx hb hts inX7 hown hK.1 hP 0 rfl rfl 21 (by decide) (hts _ mf_X7_192) (fun _ h9 => h9) rfl dX7_witness_101 ?_
          rw [show x6 = nI (cl) from h21]
          refine va_put (D := G.1) (ci := 7) (v := .int (nI (cl))) (C := RX7) (T := TX7) (N := 43) hx hb hts inX7 tyX7 tyX7_ok nmX7 hown hK.1 hP (hDD _ _) hS 0 rfl rfl 28 (by decide) (hts _ mf_X7_236) (fun _ h9 => h9) rfl (tyX7_ok 28 (by decide)) (rfl) (rfl) (Nat.le_of_ble_eq_true rfl) dX7_witness_104 (fun H locs hP _ hS => ?_)
          have hP : PP G (mM G y b (upd (upd (upd (upd (upd f 0 r1) 20 x5) 21 x6) 27 (nI (rw))) 28 (nI (cl))) (up2 (up2 (up2 (up2 (up2 (up2 (up2 r 15 x22) 16 x8) 17 x9) 18 x10) 19 x23) 22 x24) 23 x25)) H := hP
          have h28 : nL 12 (nI (cl)) := ⟨cl, hcl, rfl⟩
          have hUv : ∀ x y, x < rw → y < cl → ¬ x10 x = -2 → x22 (12 * x + y) = nI (U x y) := fun x y hx hy h9 => (hWf.1 _ h9).1 x y (by omega) (by omega) (dmM_mk hx hy rfl)
          have hXX : ∀ x, x < rw → sndN (r 3 t) (r 11) (r 5) t x → LXW (KBm rw cl t bk (r 3) (r 4) (r 5) (r 6) (r 7) (r 8) (r 9) (r 10) (r 11) (r 13) (r 14) (clM (r 13) (r 14) t (nI x) bk).1) (LTm (r 5) (r 6) t cl) (HTm (r 5) (r 6) t cl) (rsT (DBm rw cl t bk (r 3) (r 5) (r 11) (r 13) (r 14) (clM (r 13) (r 14) t (nI x) bk).1) (NTm (r 6) t)) i k 144 (rsT (DBm rw cl t bk (r 3) (r 5) (r 11) (r 13) (r 14) (clM (r 13) (r 14) t (nI x) bk).1) U) := fun x hx h9 => by have h8 := (hWf.1 _ (cl_n2 (row := nI x) (bf := r 13) (bl := r 14) (t := t) hbk)).2.2.1; rw [hDB _ (cl_n2 hbk)] at h8; exact LX_gap h8 (fun a b ha hb h7 h6 hk => by have h5 := (pB_i hk).1; omega)
          have e18i : x10 i = (clM (r 13) (r 14) t (nI i) bk).1 := by rcases e18 i hin1 with z9 | z9; exact z9.2; exact absurd hsi z9.1
          have hYY := hse9
          rw [hDB _ hg9, e18i, ← hUe] at hYY
          refine lv_iconst (v := 0) hx hb dX7_witness_107 (by decide) ?_
          refine lv_istore (lv' := [(6, .int 0), (5, .int v14), (0, .ref y), (1, .int (nI t)), (2, .int (nI i)), (3, .int (nI k)), (4, .int gr)]) hx hb dX7_witness_108 hl (by decide) rfl (fun ls hl => ?_)
          have loop110 : ∀ (k27 n1 : Nat) (x28 : Nat → Int32), n1 ≤ 144 → 144 < n1 + k27 → (∀ p, p < n1 → x28 p = x22 p) → ∀ (H : Heap) (locs : List Loc) (ls : Array Slot), PP G (mM G y b (upd (upd (upd (upd (upd f 0 r1) 20 x5) 21 x6) 27 (nI (rw))) 28 (nI (cl))) (up2 (up2 (up2 (up2 (up2 (up2 (up2 (up2 r 15 x22) 16 x8) 17 x9) 18 x10) 19 x23) 22 x24) 23 x25) 24 x28)) H → va_S A s.heap H locs → lv_has ls 11 [(6, .int (nI n1)), (5, .int v14), (0, .ref y), (1, .int (nI t)), (2, .int (nI i)), (3, .int (nI k)), (4, .int gr)] → W p l e ({ frames := 4, cells := 0, slots := 0, locals := 105 }) s m ([.ref y, .int (nI t), .int (nI i), .int (nI k), .int gr] : List Value).toArray below meth c H locs 0 0 (MQ below (QwI G (fun q w => ∃ (n_f_0 : Int32) (n_f_20 : Int32) (n_f_21 : Int32) (n_f_27 : Int32) (n_f_28 : Int32) (n_r_15 : Nat → Int32) (n_r_16 : Nat → Int32) (n_r_17 : Nat → Int32) (n_r_18 : Nat → Int32) (n_r_19 : Nat → Int32) (n_r_22 : Nat → Int32) (n_r_23 : Nat → Int32) (n_r_24 : Nat → Int32) (n_r_25 : Nat → Int32) (n_r_26 : Nat → Int32), w = mM G y b (upd (upd (upd (upd (upd f 0 n_f_0) 20 n_f_20) 21 n_f_21) 27 n_f_27) 28 n_f_28) (up2 (up2 (up2 (up2 (up2 (up2 (up2 (up2 (up2 (up2 r 15 n_r_15) 16 n_r_16) 17 n_r_17) 18 n_r_18) 19 n_r_19) 22 n_r_22) 23 n_r_23) 24 n_r_24) 25 n_r_25) 26 n_r_26) ∧ atM (r 1) (r 2) (r 3) (r 11) (nI t) (nI i) (nI k) (fun t i k => sv ((¬ (r 5) (144 * t + 12 * i + k) = 0 ∧ ¬ (r 5) (144 * t + 12 * i + k) = 5) ∧ sndN ((r 3) t) (r 11) (r 5) t i) (wtM gr q (r 2) (r 3) (r 4) (r 5) (r 6) (r 7) (r 8) (r 9) (r 10) (r 11) (r 12) (r 13) (r 14) n_f_27 n_f_28 n_r_24 n_r_25 t i k) (q = -1 ∧ n_f_27 = (f 27) ∧ n_f_28 = (f 28) ∧ n_r_24 = (r 24) ∧ n_r_25 = (r 25))) (q = -1 ∧ n_f_27 = (f 27) ∧ n_f_28 = (f 28) ∧ n_r_24 = (r 24) ∧ n_r_25 = (r 25)) ∧ (nL 12 n_f_27) ∧ (nL 12 n_f_28)) A) ([.ref y, .int (nI t), .int (nI i), .int (nI k), .int gr] : List Value).toArray s 0 0 A) (F0 m 110 ls []) := by
            intro k27
            induction k27 with
            | zero => intro n1 x28 h1 h2; exact absurd h1 (by omega)
            | succ k27 ih110k27 =>
              intro n1 x28 hi_n1 hk_n1 hc24 H locs ls hP hS hl
              refine lv_iload hx hb dX7_witness_110 (lv_at hl 0 rfl) ?_
              refine lv_sipush (v := 144) hx hb dX7_witness_112 (by decide) ?_
              refine lv_icmp_ge (tgt := 138) hx hb dX7_witness_115 (by decide) (fun c29 => ?_) (fun c29 => ?_)
              · have b115 := qge_t (a := n1) (b := 144) (by omega) (by omega) c29
                refine lv_iconst (v := 0) hx hb dX7_witness_138 (by decide) ?_
                refine lv_istore (lv' := [(6, .int 0), (5, .int v14), (0, .ref y), (1, .int (nI t)), (2, .int (nI i)), (3, .int (nI k)), (4, .int gr)]) hx hb dX7_witness_139 hl (by decide) rfl (fun ls hl => ?_)
                have loop141 : ∀ (k30 n2 : Nat) (x31 : Nat → Int32), n2 ≤ rw → rw < n2 + k30 → (∀ p, p < n2 → x31 p = x10 p) → ∀ (H : Heap) (locs : List Loc) (ls : Array Slot), PP G (mM G y b (upd (upd (upd (upd (upd f 0 r1) 20 x5) 21 x6) 27 (nI (rw))) 28 (nI (cl))) (up2 (up2 (up2 (up2 (up2 (up2 (up2 (up2 (up2 r 15 x22) 16 x8) 17 x9) 18 x10) 19 x23) 22 x24) 23 x25) 24 x28) 25 x31)) H → va_S A s.heap H locs → lv_has ls 11 [(6, .int (nI n2)), (5, .int v14), (0, .ref y), (1, .int (nI t)), (2, .int (nI i)), (3, .int (nI k)), (4, .int gr)] → W p l e ({ frames := 4, cells := 0, slots := 0, locals := 105 }) s m ([.ref y, .int (nI t), .int (nI i), .int (nI k), .int gr] : List Value).toArray below meth c H locs 0 0 (MQ below (QwI G (fun q w => ∃ (n_f_0 : Int32) (n_f_20 : Int32) (n_f_21 : Int32) (n_f_27 : Int32) (n_f_28 : Int32) (n_r_15 : Nat → Int32) (n_r_16 : Nat → Int32) (n_r_17 : Nat → Int32) (n_r_18 : Nat → Int32) (n_r_19 : Nat → Int32) (n_r_22 : Nat → Int32) (n_r_23 : Nat → Int32) (n_r_24 : Nat → Int32) (n_r_25 : Nat → Int32) (n_r_26 : Nat → Int32), w = mM G y b (upd (upd (upd (upd (upd f 0 n_f_0) 20 n_f_20) 21 n_f_21) 27 n_f_27) 28 n_f_28) (up2 (up2 (up2 (up2 (up2 (up2 (up2 (up2 (up2 (up2 r 15 n_r_15) 16 n_r_16) 17 n_r_17) 18 n_r_18) 19 n_r_19) 22 n_r_22) 23 n_r_23) 24 n_r_24) 25 n_r_25) 26 n_r_26) ∧ atM (r 1) (r 2) (r 3) (r 11) (nI t) (nI i) (nI k) (fun t i k => sv ((¬ (r 5) (144 * t + 12 * i + k) = 0 ∧ ¬ (r 5) (144 * t + 12 * i + k) = 5) ∧ sndN ((r 3) t) (r 11) (r 5) t i) (wtM gr q (r 2) (r 3) (r 4) (r 5) (r 6) (r 7) (r 8) (r 9) (r 10) (r 11) (r 12) (r 13) (r 14) n_f_27 n_f_28 n_r_24 n_r_25 t i k) (q = -1 ∧ n_f_27 = (f 27) ∧ n_f_28 = (f 28) ∧ n_r_24 = (r 24) ∧ n_r_25 = (r 25))) (q = -1 ∧ n_f_27 = (f 27) ∧ n_f_28 = (f 28) ∧ n_r_24 = (r 24) ∧ n_r_25 = (r 25)) ∧ (nL 12 n_f_27) ∧ (nL 12 n_f_28)) A) ([.ref y, .int (nI t), .int (nI i), .int (nI k), .int gr] : List Value).toArray s 0 0 A) (F0 m 141 ls []) := by
                  intro k30
                  induction k30 with
                  | zero => intro n2 x31 h1 h2; exact absurd h1 (by omega)
                  | succ k30 ih141k30 =>
                    intro n2 x31 hi_n2 hk_n2 hc25 H locs ls hP hS hl
                    refine lv_iload hx hb dX7_witness_141 (lv_at hl 0 rfl) ?_
                    refine lv_aload_n hx hb dX7_witness_143 rfl (lv_at hl 2 rfl) ?_
                    refine va_get (D := G.1) (ci := 7) (v := .int x5) (C := RX7) (T := TX7) (N := 43) hx hb hts inX7 hown hK.1 hP 0 rfl rfl 20 (by decide) (hts _ mf_X7_189) (fun _ h9 => h9) rfl dX7_witness_144 ?_
                    rw [show x5 = nI (rw) from h20]
                    refine lv_icmp_ge (tgt := 170) hx hb dX7_witness_147 (by decide) (fun c32 => ?_) (fun c32 => ?_)
                    · have b147 := qge_t (a := n2) (b := (rw)) (by omega) (by omega) c32
                      refine lv_iconst (v := 0) hx hb dX7_witness_170 (by decide) ?_
                      refine lv_istore (lv' := [(6, .int 0), (5, .int v14), (0, .ref y), (1, .int (nI t)), (2, .int (nI i)), (3, .int (nI k)), (4, .int gr)]) hx hb dX7_witness_171 hl (by decide) rfl (fun ls hl => ?_)
                      have loop173 : ∀ (k33 n3 : Nat) (x34 : Nat → Int32), n3 ≤ 24 → 24 < n3 + k33 → ∀ (H : Heap) (locs : List Loc) (ls : Array Slot), PP G (mM G y b (upd (upd (upd (upd (upd f 0 r1) 20 x5) 21 x6) 27 (nI (rw))) 28 (nI (cl))) (up2 (up2 (up2 (up2 (up2 (up2 (up2 (up2 (up2 (up2 r 15 x22) 16 x8) 17 x9) 18 x10) 19 x23) 22 x24) 23 x25) 24 x28) 25 x31) 26 x34)) H → va_S A s.heap H locs → lv_has ls 11 [(6, .int (nI n3)), (5, .int v14), (0, .ref y), (1, .int (nI t)), (2, .int (nI i)), (3, .int (nI k)), (4, .int gr)] → W p l e ({ frames := 4, cells := 0, slots := 0, locals := 105 }) s m ([.ref y, .int (nI t), .int (nI i), .int (nI k), .int gr] : List Value).toArray below meth c H locs 0 0 (MQ below (QwI G (fun q w => ∃ (n_f_0 : Int32) (n_f_20 : Int32) (n_f_21 : Int32) (n_f_27 : Int32) (n_f_28 : Int32) (n_r_15 : Nat → Int32) (n_r_16 : Nat → Int32) (n_r_17 : Nat → Int32) (n_r_18 : Nat → Int32) (n_r_19 : Nat → Int32) (n_r_22 : Nat → Int32) (n_r_23 : Nat → Int32) (n_r_24 : Nat → Int32) (n_r_25 : Nat → Int32) (n_r_26 : Nat → Int32), w = mM G y b (upd (upd (upd (upd (upd f 0 n_f_0) 20 n_f_20) 21 n_f_21) 27 n_f_27) 28 n_f_28) (up2 (up2 (up2 (up2 (up2 (up2 (up2 (up2 (up2 (up2 r 15 n_r_15) 16 n_r_16) 17 n_r_17) 18 n_r_18) 19 n_r_19) 22 n_r_22) 23 n_r_23) 24 n_r_24) 25 n_r_25) 26 n_r_26) ∧ atM (r 1) (r 2) (r 3) (r 11) (nI t) (nI i) (nI k) (fun t i k => sv ((¬ (r 5) (144 * t + 12 * i + k) = 0 ∧ ¬ (r 5) (144 * t + 12 * i + k) = 5) ∧ sndN ((r 3) t) (r 11) (r 5) t i) (wtM gr q (r 2) (r 3) (r 4) (r 5) (r 6) (r 7) (r 8) (r 9) (r 10) (r 11) (r 12) (r 13) (r 14) n_f_27 n_f_28 n_r_24 n_r_25 t i k) (q = -1 ∧ n_f_27 = (f 27) ∧ n_f_28 = (f 28) ∧ n_r_24 = (r 24) ∧ n_r_25 = (r 25))) (q = -1 ∧ n_f_27 = (f 27) ∧ n_f_28 = (f 28) ∧ n_r_24 = (r 24) ∧ n_r_25 = (r 25)) ∧ (nL 12 n_f_27) ∧ (nL 12 n_f_28)) A) ([.ref y, .int (nI t), .int (nI i), .int (nI k), .int gr] : List Value).toArray s 0 0 A) (F0 m 173 ls []) := by
                        intro k33
                        induction k33 with
                        | zero => intro n3 x34 h1 h2; exact absurd h1 (by omega)
                        | succ k33 ih173k33 =>
                          intro n3 x34 hi_n3 hk_n3  H locs ls hP hS hl
                          refine lv_iload hx hb dX7_witness_173 (lv_at hl 0 rfl) ?_
                          refine lv_bipush (v := 24) hx hb dX7_witness_175 (by decide) ?_
                          refine lv_icmp_ge (tgt := 194) hx hb dX7_witness_177 (by decide) (fun c35 => ?_) (fun c35 => ?_)
                          · have b177 := qge_t (a := n3) (b := 24) (by omega) (by omega) c35
                            refine lv_iload hx hb dX7_witness_194 (lv_at hl 6 rfl) ?_
                            have j207_36 : ∀ (z36 : Nat) (gz36 : z36 < 24) (H : Heap) (locs : List Loc) (ls : Array Slot), PP G (mM G y b (upd (upd (upd (upd (upd f 0 r1) 20 x5) 21 x6) 27 (nI (rw))) 28 (nI (cl))) (up2 (up2 (up2 (up2 (up2 (up2 (up2 (up2 (up2 (up2 r 15 x22) 16 x8) 17 x9) 18 x10) 19 x23) 22 x24) 23 x25) 24 x28) 25 x31) 26 x34)) H → va_S A s.heap H locs → lv_has ls 11 [(5, .int v14), (0, .ref y), (1, .int (nI t)), (2, .int (nI i)), (3, .int (nI k))] → W p l e ({ frames := 4, cells := 0, slots := 0, locals := 105 }) s m ([.ref y, .int (nI t), .int (nI i), .int (nI k), .int gr] : List Value).toArray below meth c H locs 0 0 (MQ below (QwI G (fun q w => ∃ (n_f_0 : Int32) (n_f_20 : Int32) (n_f_21 : Int32) (n_f_27 : Int32) (n_f_28 : Int32) (n_r_15 : Nat → Int32) (n_r_16 : Nat → Int32) (n_r_17 : Nat → Int32) (n_r_18 : Nat → Int32) (n_r_19 : Nat → Int32) (n_r_22 : Nat → Int32) (n_r_23 : Nat → Int32) (n_r_24 : Nat → Int32) (n_r_25 : Nat → Int32) (n_r_26 : Nat → Int32), w = mM G y b (upd (upd (upd (upd (upd f 0 n_f_0) 20 n_f_20) 21 n_f_21) 27 n_f_27) 28 n_f_28) (up2 (up2 (up2 (up2 (up2 (up2 (up2 (up2 (up2 (up2 r 15 n_r_15) 16 n_r_16) 17 n_r_17) 18 n_r_18) 19 n_r_19) 22 n_r_22) 23 n_r_23) 24 n_r_24) 25 n_r_25) 26 n_r_26) ∧ atM (r 1) (r 2) (r 3) (r 11) (nI t) (nI i) (nI k) (fun t i k => sv ((¬ (r 5) (144 * t + 12 * i + k) = 0 ∧ ¬ (r 5) (144 * t + 12 * i + k) = 5) ∧ sndN ((r 3) t) (r 11) (r 5) t i) (wtM gr q (r 2) (r 3) (r 4) (r 5) (r 6) (r 7) (r 8) (r 9) (r 10) (r 11) (r 12) (r 13) (r 14) n_f_27 n_f_28 n_r_24 n_r_25 t i k) (q = -1 ∧ n_f_27 = (f 27) ∧ n_f_28 = (f 28) ∧ n_r_24 = (r 24) ∧ n_r_25 = (r 25))) (q = -1 ∧ n_f_27 = (f 27) ∧ n_f_28 = (f 28) ∧ n_r_24 = (r 24) ∧ n_r_25 = (r 25)) ∧ (nL 12 n_f_27) ∧ (nL 12 n_f_28)) A) ([.ref y, .int (nI t), .int (nI i), .int (nI k), .int gr] : List Value).toArray s 0 0 A) (F0 m 207 ls [.int (nI z36)]) := by
                              intro z36 gz36 H locs ls hP hS hl
                              refine lv_istore (lv' := [(6, .int (nI z36)), (5, .int v14), (0, .ref y), (1, .int (nI t)), (2, .int (nI i)), (3, .int (nI k))]) hx hb dX7_witness_207 hl (by decide) rfl (fun ls hl => ?_)
                              refine lv_aload_n hx hb dX7_witness_209 rfl (lv_at hl 2 rfl) ?_
                              refine va_get (D := G.1) (ci := 7) (v := .ref (b 26)) (C := RX7) (T := TX7) (N := 43) hx hb hts inX7 hown hK.1 hP 0 rfl rfl 26 (by decide) (hts _ mf_X7_80) (fun _ h9 => h9) rfl dX7_witness_210 ?_
                              refine lv_iload hx hb dX7_witness_213 (lv_at hl 0 rfl) ?_
                              refine lv_iconst (v := 1) hx hb dX7_witness_215 (by decide) ?_
                              refine xzast (f := x34) (x := 1) hx hb hK hP (hDD _ _) hS 24 (z36) (rfl) (by omega) (by decide) (Or.inr rfl) rfl dX7_witness_216 (fun H locs hP _ hS => ?_)
                              have hP : PP G (mM G y b (upd (upd (upd (upd (upd f 0 r1) 20 x5) 21 x6) 27 (nI (rw))) 28 (nI (cl))) (up2 (up2 (up2 (up2 (up2 (up2 (up2 (up2 (up2 (up2 r 15 x22) 16 x8) 17 x9) 18 x10) 19 x23) 22 x24) 23 x25) 24 x28) 25 x31) 26 (upd x34 (z36) (1)))) H := hP
                              refine lv_iload hx hb dX7_witness_217 (lv_at hl 1 rfl) ?_
                              refine lv_if_ne (tgt := 234) hx hb dX7_witness_219 (by decide) (fun c37 => ?_) (fun c37 => ?_)
                              · refine lv_iconst (v := 0) hx hb dX7_witness_234 (by decide) ?_
                                refine lv_istore (lv' := [(7, .int 0), (6, .int (nI z36)), (5, .int v14), (0, .ref y), (1, .int (nI t)), (2, .int (nI i)), (3, .int (nI k))]) hx hb dX7_witness_235 hl (by decide) rfl (fun ls hl => ?_)
                                have loop237 : ∀ (k38 i4 : Nat) (x39 : Nat → Int32), i4 ≤ rw → rw < i4 + k38 → ∀ (H : Heap) (locs : List Loc) (ls : Array Slot), PP G (mM G y b (upd (upd (upd (upd (upd f 0 r1) 20 x5) 21 x6) 27 (nI (rw))) 28 (nI (cl))) (up2 (up2 (up2 (up2 (up2 (up2 (up2 (up2 (up2 (up2 r 15 x22) 16 x8) 17 x9) 18 x10) 19 x39) 22 x24) 23 x25) 24 x28) 25 x31) 26 (upd x34 (z36) (1)))) H → va_S A s.heap H locs → lv_has ls 11 [(7, .int (nI i4)), (0, .ref y), (1, .int (nI t)), (2, .int (nI i)), (3, .int (nI k))] → W p l e ({ frames := 4, cells := 0, slots := 0, locals := 105 }) s m ([.ref y, .int (nI t), .int (nI i), .int (nI k), .int gr] : List Value).toArray below meth c H locs 0 0 (MQ below (QwI G (fun q w => ∃ (n_f_0 : Int32) (n_f_20 : Int32) (n_f_21 : Int32) (n_f_27 : Int32) (n_f_28 : Int32) (n_r_15 : Nat → Int32) (n_r_16 : Nat → Int32) (n_r_17 : Nat → Int32) (n_r_18 : Nat → Int32) (n_r_19 : Nat → Int32) (n_r_22 : Nat → Int32) (n_r_23 : Nat → Int32) (n_r_24 : Nat → Int32) (n_r_25 : Nat → Int32) (n_r_26 : Nat → Int32), w = mM G y b (upd (upd (upd (upd (upd f 0 n_f_0) 20 n_f_20) 21 n_f_21) 27 n_f_27) 28 n_f_28) (up2 (up2 (up2 (up2 (up2 (up2 (up2 (up2 (up2 (up2 r 15 n_r_15) 16 n_r_16) 17 n_r_17) 18 n_r_18) 19 n_r_19) 22 n_r_22) 23 n_r_23) 24 n_r_24) 25 n_r_25) 26 n_r_26) ∧ atM (r 1) (r 2) (r 3) (r 11) (nI t) (nI i) (nI k) (fun t i k => sv ((¬ (r 5) (144 * t + 12 * i + k) = 0 ∧ ¬ (r 5) (144 * t + 12 * i + k) = 5) ∧ sndN ((r 3) t) (r 11) (r 5) t i) (wtM gr q (r 2) (r 3) (r 4) (r 5) (r 6) (r 7) (r 8) (r 9) (r 10) (r 11) (r 12) (r 13) (r 14) n_f_27 n_f_28 n_r_24 n_r_25 t i k) (q = -1 ∧ n_f_27 = (f 27) ∧ n_f_28 = (f 28) ∧ n_r_24 = (r 24) ∧ n_r_25 = (r 25))) (q = -1 ∧ n_f_27 = (f 27) ∧ n_f_28 = (f 28) ∧ n_r_24 = (r 24) ∧ n_r_25 = (r 25)) ∧ (nL 12 n_f_27) ∧ (nL 12 n_f_28)) A) ([.ref y, .int (nI t), .int (nI i), .int (nI k), .int gr] : List Value).toArray s 0 0 A) (F0 m 237 ls []) := by
                                  intro k38
                                  induction k38 with
                                  | zero => intro i4 x39 h1 h2; exact absurd h1 (by omega)
                                  | succ k38 ih237k38 =>
                                    intro i4 x39 hi_i4 hk_i4  H locs ls hP hS hl
                                    refine lv_iload hx hb dX7_witness_237 (lv_at hl 0 rfl) ?_
                                    refine lv_aload_n hx hb dX7_witness_239 rfl (lv_at hl 1 rfl) ?_
                                    refine va_get (D := G.1) (ci := 7) (v := .int x5) (C := RX7) (T := TX7) (N := 43) hx hb hts inX7 hown hK.1 hP 0 rfl rfl 20 (by decide) (hts _ mf_X7_189) (fun _ h9 => h9) rfl dX7_witness_240 ?_
                                    rw [show x5 = nI (rw) from h20]
                                    refine lv_icmp_ge (tgt := 316) hx hb dX7_witness_243 (by decide) (fun c40 => ?_) (fun c40 => ?_)
                                    · have b243 := qge_t (a := i4) (b := (rw)) (by omega) (by omega) c40
                                      refine lv_aload_n hx hb dX7_witness_316 rfl (lv_at hl 1 rfl) ?_
                                      refine va_get (D := G.1) (ci := 7) (v := .ref (b 19)) (C := RX7) (T := TX7) (N := 43) hx hb hts inX7 hown hK.1 hP 0 rfl rfl 19 (by decide) (hts _ mf_X7_65) (fun _ h9 => h9) rfl dX7_witness_317 ?_
                                      refine lv_bipush (v := 12) hx hb dX7_witness_320 (by decide) ?_
                                      refine lv_iload_n hx hb dX7_witness_322 rfl (lv_at hl 3 rfl) ?_
                                      refine lv_imul hx hb dX7_witness_323 ?_
                                      refine lv_topi (fun v41 ev41 => ?_)
                                      obtain rfl : v41 = nI (12 * i) := nI_times ev41 rfl rfl
                                      refine lv_iload_n hx hb dX7_witness_324 rfl (lv_at hl 4 rfl) ?_
                                      refine lv_iadd hx hb dX7_witness_325 ?_
                                      refine lv_topi (fun v42 ev42 => ?_)
                                      obtain rfl : v42 = nI ((12 * i) + k) := nI_plus ev42 rfl rfl
                                      refine lv_iconst (v := 0) hx hb dX7_witness_326 (by decide) ?_
                                      refine xzast (f := x39) (x := 0) hx hb hK hP (hDD _ _) hS 19 (((12 * i) + k)) (rfl) (by omega) (by decide) (Or.inl rfl) rfl dX7_witness_327 (fun H locs hP _ hS => ?_)
                                      have hP : PP G (mM G y b (upd (upd (upd (upd (upd f 0 r1) 20 x5) 21 x6) 27 (nI (rw))) 28 (nI (cl))) (up2 (up2 (up2 (up2 (up2 (up2 (up2 (up2 (up2 (up2 r 15 x22) 16 x8) 17 x9) 18 x10) 19 (upd x39 (((12 * i) + k)) (0))) 22 x24) 23 x25) 24 x28) 25 x31) 26 (upd x34 (z36) (1)))) H := hP
                                      refine lv_iconst (v := 1) hx hb dX7_witness_328 (by decide) ?_
                                      refine lv_istore (lv' := [(7, .int 1), (0, .ref y), (1, .int (nI t)), (2, .int (nI i)), (3, .int (nI k))]) hx hb dX7_witness_329 hl (by decide) rfl (fun ls hl => ?_)
                                      have loop331 : ∀ (k43 : Nat) (z45 : Int32) (x46 : Nat → Int32), 2 * cZ x46 24 + (if (z45 : Int32) = 0 then 0 else 1) < k43 → ∀ (H : Heap) (locs : List Loc) (ls : Array Slot), PP G (mM G y b (upd (upd (upd (upd (upd f 0 r1) 20 x5) 21 x6) 27 (nI (rw))) 28 (nI (cl))) (up2 (up2 (up2 (up2 (up2 (up2 (up2 (up2 (up2 (up2 r 15 x22) 16 x8) 17 x9) 18 x10) 19 (upd x39 (((12 * i) + k)) (0))) 22 x24) 23 x25) 24 x28) 25 x31) 26 x46)) H → va_S A s.heap H locs → lv_has ls 11 [(7, .int z45), (0, .ref y), (2, .int (nI i)), (3, .int (nI k))] → W p l e ({ frames := 4, cells := 0, slots := 0, locals := 105 }) s m ([.ref y, .int (nI t), .int (nI i), .int (nI k), .int gr] : List Value).toArray below meth c H locs 0 0 (MQ below (QwI G (fun q w => ∃ (n_f_0 : Int32) (n_f_20 : Int32) (n_f_21 : Int32) (n_f_27 : Int32) (n_f_28 : Int32) (n_r_15 : Nat → Int32) (n_r_16 : Nat → Int32) (n_r_17 : Nat → Int32) (n_r_18 : Nat → Int32) (n_r_19 : Nat → Int32) (n_r_22 : Nat → Int32) (n_r_23 : Nat → Int32) (n_r_24 : Nat → Int32) (n_r_25 : Nat → Int32) (n_r_26 : Nat → Int32), w = mM G y b (upd (upd (upd (upd (upd f 0 n_f_0) 20 n_f_20) 21 n_f_21) 27 n_f_27) 28 n_f_28) (up2 (up2 (up2 (up2 (up2 (up2 (up2 (up2 (up2 (up2 r 15 n_r_15) 16 n_r_16) 17 n_r_17) 18 n_r_18) 19 n_r_19) 22 n_r_22) 23 n_r_23) 24 n_r_24) 25 n_r_25) 26 n_r_26) ∧ atM (r 1) (r 2) (r 3) (r 11) (nI t) (nI i) (nI k) (fun t i k => sv ((¬ (r 5) (144 * t + 12 * i + k) = 0 ∧ ¬ (r 5) (144 * t + 12 * i + k) = 5) ∧ sndN ((r 3) t) (r 11) (r 5) t i) (wtM gr q (r 2) (r 3) (r 4) (r 5) (r 6) (r 7) (r 8) (r 9) (r 10) (r 11) (r 12) (r 13) (r 14) n_f_27 n_f_28 n_r_24 n_r_25 t i k) (q = -1 ∧ n_f_27 = (f 27) ∧ n_f_28 = (f 28) ∧ n_r_24 = (r 24) ∧ n_r_25 = (r 25))) (q = -1 ∧ n_f_27 = (f 27) ∧ n_f_28 = (f 28) ∧ n_r_24 = (r 24) ∧ n_r_25 = (r 25)) ∧ (nL 12 n_f_27) ∧ (nL 12 n_f_28)) A) ([.ref y, .int (nI t), .int (nI i), .int (nI k), .int gr] : List Value).toArray s 0 0 A) (F0 m 331 ls []) := by
                                        intro k43
                                        induction k43 with
                                        | zero => intro z45 x46 h1; exact absurd h1 (Nat.not_lt_zero _)
                                        | succ k43 ih331k43 =>
                                          intro  z45 x46 hm_k43  H locs ls hP hS hl
                                          refine lv_iload hx hb dX7_witness_331 (lv_at hl 0 rfl) ?_
                                          refine lv_if_eq (tgt := 456) hx hb dX7_witness_333 (by decide) (fun c47 => ?_) (fun c47 => ?_)
                                          · refine lv_aload_n hx hb dX7_witness_456 rfl (lv_at hl 1 rfl) ?_
                                            refine va_get (D := G.1) (ci := 7) (v := .ref (b 24)) (C := RX7) (T := TX7) (N := 43) hx hb hts inX7 hown hK.1 hP 0 rfl rfl 24 (by decide) (hts _ mf_X7_74) (fun _ h9 => h9) rfl dX7_witness_457 ?_
                                            refine lv_bipush (v := 12) hx hb dX7_witness_460 (by decide) ?_
                                            refine lv_iload_n hx hb dX7_witness_462 rfl (lv_at hl 2 rfl) ?_
                                            refine lv_imul hx hb dX7_witness_463 ?_
                                            refine lv_topi (fun v48 ev48 => ?_)
                                            obtain rfl : v48 = nI (12 * i) := nI_times ev48 rfl rfl
                                            refine lv_iload_n hx hb dX7_witness_464 rfl (lv_at hl 3 rfl) ?_
                                            refine lv_iadd hx hb dX7_witness_465 ?_
                                            refine lv_topi (fun v49 ev49 => ?_)
                                            obtain rfl : v49 = nI ((12 * i) + k) := nI_plus ev49 rfl rfl
                                            refine xiald (f := x28) hx hb hK hP 22 (((12 * i) + k)) (rfl) (by omega) (by decide) rfl dX7_witness_466 ?_
                                            refine lv_topi (fun v50 ev50 => ?_)
                                            exact wr_iret hx hb hr hlocks hS hP ⟨r1, x5, x6, (nI (rw)), (nI (cl)), x22, x8, x9, x10, (upd x39 (((12 * i) + k)) (0)), x24, x25, x28, x31, x46, rfl, Or.inr ⟨hp0, t, i, k, ht, by omega, by omega, rfl, rfl, rfl, Or.inl ⟨kfS_i hkk, rw, cl, bk, U, hrw, hcl, hbk, h2, h3, h12, ev50.trans ((hc24 _ (by omega)).trans (hUv i k hin1 hin2 hg9)), rfl, rfl, fun x y hx hy => (e18 x hx).imp (fun z9 => ⟨z9.1, by rw [hc25 x (by omega), z9.2]; exact cl_n2 hbk, by rw [hc24 _ (by omega)]; exact hUv x y hx hy (by rw [z9.2]; exact cl_n2 hbk)⟩) (fun z9 => ⟨z9.1, by rw [hc25 x (by omega)]; exact z9.2⟩), hXX, hYY⟩⟩, h27, h28⟩ dX7_witness_467
                                          · refine lv_iconst (v := 0) hx hb dX7_witness_336 (by decide) ?_
                                            refine lv_istore (lv' := [(7, .int 0), (0, .ref y), (2, .int (nI i)), (3, .int (nI k))]) hx hb dX7_witness_337 hl (by decide) rfl (fun ls hl => ?_)
                                            refine lv_iconst (v := 0) hx hb dX7_witness_339 (by decide) ?_
                                            refine lv_istore (lv' := [(8, .int 0), (7, .int 0), (0, .ref y), (2, .int (nI i)), (3, .int (nI k))]) hx hb dX7_witness_340 hl (by decide) rfl (fun ls hl => ?_)
                                            have loop342 : ∀ (k51 a2 : Nat) (z52 : Int32) (x53 : Nat → Int32), a2 ≤ 24 → 24 < a2 + k51 → (cZ x53 24 ≤ cZ x46 24 ∧ ((z52 : Int32) = 0 ∨ cZ x53 24 < cZ x46 24)) → ∀ (H : Heap) (locs : List Loc) (ls : Array Slot), PP G (mM G y b (upd (upd (upd (upd (upd f 0 r1) 20 x5) 21 x6) 27 (nI (rw))) 28 (nI (cl))) (up2 (up2 (up2 (up2 (up2 (up2 (up2 (up2 (up2 (up2 r 15 x22) 16 x8) 17 x9) 18 x10) 19 (upd x39 (((12 * i) + k)) (0))) 22 x24) 23 x25) 24 x28) 25 x31) 26 x53)) H → va_S A s.heap H locs → lv_has ls 11 [(8, .int (nI a2)), (7, .int z52), (0, .ref y), (2, .int (nI i)), (3, .int (nI k))] → W p l e ({ frames := 4, cells := 0, slots := 0, locals := 105 }) s m ([.ref y, .int (nI t), .int (nI i), .int (nI k), .int gr] : List Value).toArray below meth c H locs 0 0 (MQ below (QwI G (fun q w => ∃ (n_f_0 : Int32) (n_f_20 : Int32) (n_f_21 : Int32) (n_f_27 : Int32) (n_f_28 : Int32) (n_r_15 : Nat → Int32) (n_r_16 : Nat → Int32) (n_r_17 : Nat → Int32) (n_r_18 : Nat → Int32) (n_r_19 : Nat → Int32) (n_r_22 : Nat → Int32) (n_r_23 : Nat → Int32) (n_r_24 : Nat → Int32) (n_r_25 : Nat → Int32) (n_r_26 : Nat → Int32), w = mM G y b (upd (upd (upd (upd (upd f 0 n_f_0) 20 n_f_20) 21 n_f_21) 27 n_f_27) 28 n_f_28) (up2 (up2 (up2 (up2 (up2 (up2 (up2 (up2 (up2 (up2 r 15 n_r_15) 16 n_r_16) 17 n_r_17) 18 n_r_18) 19 n_r_19) 22 n_r_22) 23 n_r_23) 24 n_r_24) 25 n_r_25) 26 n_r_26) ∧ atM (r 1) (r 2) (r 3) (r 11) (nI t) (nI i) (nI k) (fun t i k => sv ((¬ (r 5) (144 * t + 12 * i + k) = 0 ∧ ¬ (r 5) (144 * t + 12 * i + k) = 5) ∧ sndN ((r 3) t) (r 11) (r 5) t i) (wtM gr q (r 2) (r 3) (r 4) (r 5) (r 6) (r 7) (r 8) (r 9) (r 10) (r 11) (r 12) (r 13) (r 14) n_f_27 n_f_28 n_r_24 n_r_25 t i k) (q = -1 ∧ n_f_27 = (f 27) ∧ n_f_28 = (f 28) ∧ n_r_24 = (r 24) ∧ n_r_25 = (r 25))) (q = -1 ∧ n_f_27 = (f 27) ∧ n_f_28 = (f 28) ∧ n_r_24 = (r 24) ∧ n_r_25 = (r 25)) ∧ (nL 12 n_f_27) ∧ (nL 12 n_f_28)) A) ([.ref y, .int (nI t), .int (nI i), .int (nI k), .int gr] : List Value).toArray s 0 0 A) (F0 m 342 ls []) := by
                                              intro k51
                                              induction k51 with
                                              | zero => intro a2 z52 x53 h1 h2; exact absurd h1 (by omega)
                                              | succ k51 ih342k51 =>
                                                intro a2 z52 x53 hi_a2 hk_a2 hc H locs ls hP hS hl
                                                refine lv_iload hx hb dX7_witness_342 (lv_at hl 0 rfl) ?_
                                                refine lv_bipush (v := 24) hx hb dX7_witness_344 (by decide) ?_
                                                refine lv_icmp_ge (tgt := 453) hx hb dX7_witness_346 (by decide) (fun c54 => ?_) (fun c54 => ?_)
                                                · have b346 := qge_t (a := a2) (b := 24) (by omega) (by omega) c54
                                                  refine lv_goto (tgt := 331) hx hb dX7_witness_453 (by decide) ?_
                                                  exact ih331k43 z52 x53 (by have h8 := hc.1; have hm := hm_k43; rw [if_neg c47] at hm; exact hc.2.elim (fun h9 => by rw [if_pos h9]; omega) (fun h9 => by split <;> omega)) _ _ _ hP hS (lv_sub hl [1, 2, 3, 4] rfl)
                                                · have b346 := qge_f (a := a2) (b := 24) (by omega) (by omega) c54
                                                  refine lv_aload_n hx hb dX7_witness_349 rfl (lv_at hl 2 rfl) ?_
                                                  refine va_get (D := G.1) (ci := 7) (v := .ref (b 26)) (C := RX7) (T := TX7) (N := 43) hx hb hts inX7 hown hK.1 hP 0 rfl rfl 26 (by decide) (hts _ mf_X7_80) (fun _ h9 => h9) rfl dX7_witness_350 ?_
                                                  refine lv_iload hx hb dX7_witness_353 (lv_at hl 0 rfl) ?_
                                                  refine xzald (f := x53) hx hb hK hP 24 (a2) (rfl) (by omega) (by decide) rfl dX7_witness_355 ?_
                                                  refine lv_topi (fun v55 ev55 => ?_)
                                                  refine lv_if_ne (tgt := 362) hx hb dX7_witness_356 (by decide) (fun c56 => ?_) (fun c56 => ?_)
                                                  · refine lv_iload hx hb dX7_witness_362 (lv_at hl 0 rfl) ?_
                                                    refine lv_bipush (v := 12) hx hb dX7_witness_364 (by decide) ?_
                                                    refine lv_icmp_ge (tgt := 374) hx hb dX7_witness_366 (by decide) (fun c57 => ?_) (fun c57 => ?_)
                                                    · have b366 := qge_t (a := a2) (b := 12) (by omega) (by omega) c57
                                                      refine lv_iconst (v := 0) hx hb dX7_witness_374 (by decide) ?_
                                                      refine lv_istore (lv' := [(9, .int 0), (8, .int (nI a2)), (7, .int z52), (0, .ref y), (2, .int (nI i)), (3, .int (nI k))]) hx hb dX7_witness_375 hl (by decide) rfl (fun ls hl => ?_)
                                                      refine lv_iload hx hb dX7_witness_377 (lv_at hl 0 rfl) ?_
                                                      refine lv_istore (lv' := [(10, .int 0), (9, .int 0), (8, .int (nI a2)), (7, .int z52), (0, .ref y), (2, .int (nI i)), (3, .int (nI k))]) hx hb dX7_witness_379 hl (by decide) rfl (fun ls hl => ?_)
                                                      have loop381 : ∀ (k58 j2 : Nat) (z59 : Int32) (x60 : Nat → Int32), j2 ≤ 12 → 12 < j2 + k58 → (cZ x60 24 ≤ cZ x46 24 ∧ ((z59 : Int32) = 0 ∨ cZ x60 24 < cZ x46 24)) → (0 ≤ j2) → ∀ (H : Heap) (locs : List Loc) (ls : Array Slot), PP G (mM G y b (upd (upd (upd (upd (upd f 0 r1) 20 x5) 21 x6) 27 (nI (rw))) 28 (nI (cl))) (up2 (up2 (up2 (up2 (up2 (up2 (up2 (up2 (up2 (up2 r 15 x22) 16 x8) 17 x9) 18 x10) 19 (upd x39 (((12 * i) + k)) (0))) 22 x24) 23 x25) 24 x28) 25 x31) 26 x60)) H → va_S A s.heap H locs → lv_has ls 11 [(10, .int (nI j2)), (9, .int 0), (8, .int (nI a2)), (7, .int z59), (0, .ref y), (2, .int (nI i)), (3, .int (nI k))] → W p l e ({ frames := 4, cells := 0, slots := 0, locals := 105 }) s m ([.ref y, .int (nI t), .int (nI i), .int (nI k), .int gr] : List Value).toArray below meth c H locs 0 0 (MQ below (QwI G (fun q w => ∃ (n_f_0 : Int32) (n_f_20 : Int32) (n_f_21 : Int32) (n_f_27 : Int32) (n_f_28 : Int32) (n_r_15 : Nat → Int32) (n_r_16 : Nat → Int32) (n_r_17 : Nat → Int32) (n_r_18 : Nat → Int32) (n_r_19 : Nat → Int32) (n_r_22 : Nat → Int32) (n_r_23 : Nat → Int32) (n_r_24 : Nat → Int32) (n_r_25 : Nat → Int32) (n_r_26 : Nat → Int32), w = mM G y b (upd (upd (upd (upd (upd f 0 n_f_0) 20 n_f_20) 21 n_f_21) 27 n_f_27) 28 n_f_28) (up2 (up2 (up2 (up2 (up2 (up2 (up2 (up2 (up2 (up2 r 15 n_r_15) 16 n_r_16) 17 n_r_17) 18 n_r_18) 19 n_r_19) 22 n_r_22) 23 n_r_23) 24 n_r_24) 25 n_r_25) 26 n_r_26) ∧ atM (r 1) (r 2) (r 3) (r 11) (nI t) (nI i) (nI k) (fun t i k => sv ((¬ (r 5) (144 * t + 12 * i + k) = 0 ∧ ¬ (r 5) (144 * t + 12 * i + k) = 5) ∧ sndN ((r 3) t) (r 11) (r 5) t i) (wtM gr q (r 2) (r 3) (r 4) (r 5) (r 6) (r 7) (r 8) (r 9) (r 10) (r 11) (r 12) (r 13) (r 14) n_f_27 n_f_28 n_r_24 n_r_25 t i k) (q = -1 ∧ n_f_27 = (f 27) ∧ n_f_28 = (f 28) ∧ n_r_24 = (r 24) ∧ n_r_25 = (r 25))) (q = -1 ∧ n_f_27 = (f 27) ∧ n_f_28 = (f 28) ∧ n_r_24 = (r 24) ∧ n_r_25 = (r 25)) ∧ (nL 12 n_f_27) ∧ (nL 12 n_f_28)) A) ([.ref y, .int (nI t), .int (nI i), .int (nI k), .int gr] : List Value).toArray s 0 0 A) (F0 m 381 ls []) := by
                                                        intro k58
                                                        induction k58 with
                                                        | zero => intro j2 z59 x60 h1 h2; exact absurd h1 (by omega)
                                                        | succ k58 ih381k58 =>
                                                          intro j2 z59 x60 hi_j2 hk_j2 hc hj0 H locs ls hP hS hl
                                                          refine lv_iload hx hb dX7_witness_381 (lv_at hl 0 rfl) ?_
                                                          refine lv_iload hx hb dX7_witness_383 (lv_at hl 1 rfl) ?_
                                                          refine lv_bipush (v := 12) hx hb dX7_witness_385 (by decide) ?_
                                                          refine lv_iadd hx hb dX7_witness_387 ?_
                                                          refine lv_topi (fun v61 ev61 => ?_)
                                                          obtain rfl : v61 = nI (0 + 12) := nI_plus ev61 rfl rfl
                                                          refine lv_icmp_ge (tgt := 447) hx hb dX7_witness_388 (by decide) (fun c62 => ?_) (fun c62 => ?_)
                                                          · have b388 := qge_t (a := j2) (b := (0 + 12)) (by omega) (by omega) c62
                                                            obtain ⟨v63, ev63⟩ : ∃ y9 : Int32, y9 = (nI a2) + Int32.ofInt (1) := ⟨_, rfl⟩
                                                            refine lv_iinc (v := v63) (lv' := [(8, .int v63), (10, .int (nI j2)), (9, .int 0), (7, .int z59), (0, .ref y), (2, .int (nI i)), (3, .int (nI k))]) hx hb dX7_witness_447 hl (k := 2) rfl ev63.symm (by decide) rfl (fun ls hl => ?_)
                                                            obtain rfl : v63 = nI (a2 + 1) := nI_plus (i := a2) (j := 1) ev63 rfl (by decide)
                                                            refine lv_goto (tgt := 342) hx hb dX7_witness_450 (by decide) ?_
                                                            exact ih342k51 (a2 + 1) z59 x60 (by omega) (by omega) (hc) _ _ _ hP hS (lv_sub hl [0, 3, 4, 5, 6] rfl)
                                                          · have b388 := qge_f (a := j2) (b := (0 + 12)) (by omega) (by omega) c62
                                                            refine lv_aload_n hx hb dX7_witness_391 rfl (lv_at hl 4 rfl) ?_
                                                            refine va_get (D := G.1) (ci := 7) (v := .ref (b 26)) (C := RX7) (T := TX7) (N := 43) hx hb hts inX7 hown hK.1 hP 0 rfl rfl 26 (by decide) (hts _ mf_X7_80) (fun _ h9 => h9) rfl dX7_witness_392 ?_
                                                            refine lv_iload hx hb dX7_witness_395 (lv_at hl 0 rfl) ?_
                                                            refine xzald (f := x60) hx hb hK hP 24 (j2) (rfl) (by omega) (by decide) rfl dX7_witness_397 ?_
                                                            refine lv_topi (fun v64 ev64 => ?_)
                                                            refine lv_if_ne (tgt := 441) hx hb dX7_witness_398 (by decide) (fun c65 => ?_) (fun c65 => ?_)
                                                            · obtain ⟨v66, ev66⟩ : ∃ y9 : Int32, y9 = (nI j2) + Int32.ofInt (1) := ⟨_, rfl⟩
                                                              refine lv_iinc (v := v66) (lv' := [(10, .int v66), (9, .int 0), (8, .int (nI a2)), (7, .int z59), (0, .ref y), (2, .int (nI i)), (3, .int (nI k))]) hx hb dX7_witness_441 hl (k := 0) rfl ev66.symm (by decide) rfl (fun ls hl => ?_)
                                                              obtain rfl : v66 = nI (j2 + 1) := nI_plus (i := j2) (j := 1) ev66 rfl (by decide)
                                                              refine lv_goto (tgt := 381) hx hb dX7_witness_444 (by decide) ?_
                                                              exact ih381k58 (j2 + 1) z59 x60 (by omega) (by omega) (hc) (by omega) _ _ _ hP hS (lv_sub hl [0, 1, 2, 3, 4, 5, 6] rfl)
                                                            · refine lv_aload_n hx hb dX7_witness_401 rfl (lv_at hl 4 rfl) ?_
                                                              refine lv_iload hx hb dX7_witness_402 (lv_at hl 0 rfl) ?_
                                                              refine lv_aload_n hx hb dX7_witness_404 rfl (lv_at hl 4 rfl) ?_
                                                              refine va_get (D := G.1) (ci := 7) (v := .ref (b 18)) (C := RX7) (T := TX7) (N := 43) hx hb hts inX7 hown hK.1 hP 0 rfl rfl 18 (by decide) (hts _ mf_X7_62) (fun _ h9 => h9) rfl dX7_witness_405 ?_
                                                              refine lv_iload_n hx hb dX7_witness_408 rfl (lv_at hl 5 rfl) ?_
                                                              refine xiald (f := x10) hx hb hK hP 18 (i) (rfl) (by omega) (by decide) rfl dX7_witness_409 ?_
                                                              refine lv_topi (fun v67 ev67 => ?_)
                                                              refine rdV (rest := []) (q0 := 0) ⟨hx, hb, hml, hown, hts⟩ (m_X7_isNode l G y b (upd (upd (upd (upd (upd f 0 r1) 20 x5) 21 x6) 27 (nI (rw))) 28 (nI (cl))) (up2 (up2 (up2 (up2 (up2 (up2 (up2 (up2 (up2 (up2 r 15 x22) 16 x8) 17 x9) 18 x10) 19 (upd x39 (((12 * i) + k)) (0))) 22 x24) 23 x25) 24 x28) 25 x31) 26 x60) j2 v67  (by omega)) mi_yX7_isNode mv_yX7_isNode ml_X7_198 ⟨rfl, rfl, Nat.le_of_ble_eq_true rfl, Nat.le_of_ble_eq_true rfl⟩ hK (hP) rfl rfl rfl hl.1 rfl (Nat.le_of_ble_eq_true rfl) dX7_witness_410 ⟨Nat.zero_le _, Nat.zero_le _⟩ hS hA hP (fun r68 H locs hr68 hP hS => ?_)
                                                              have hr68 : (r68 = 0 ∨ r68 = 1) := hr68
                                                              refine lv_if_eq (tgt := 441) hx hb dX7_witness_413 (by decide) (fun c69 => ?_) (fun c69 => ?_)
                                                              · obtain ⟨v70, ev70⟩ : ∃ y9 : Int32, y9 = (nI j2) + Int32.ofInt (1) := ⟨_, rfl⟩
                                                                refine lv_iinc (v := v70) (lv' := [(10, .int v70), (9, .int 0), (8, .int (nI a2)), (7, .int z59), (0, .ref y), (2, .int (nI i)), (3, .int (nI k))]) hx hb dX7_witness_441 hl (k := 0) rfl ev70.symm (by decide) rfl (fun ls hl => ?_)
                                                                obtain rfl : v70 = nI (j2 + 1) := nI_plus (i := j2) (j := 1) ev70 rfl (by decide)
                                                                refine lv_goto (tgt := 381) hx hb dX7_witness_444 (by decide) ?_
                                                                exact ih381k58 (j2 + 1) z59 x60 (by omega) (by omega) (hc) (by omega) _ _ _ hP hS (lv_sub hl [0, 1, 2, 3, 4, 5, 6] rfl)
                                                              · refine lv_aload_n hx hb dX7_witness_416 rfl (lv_at hl 4 rfl) ?_
                                                                refine lv_iload hx hb dX7_witness_417 (lv_at hl 2 rfl) ?_
                                                                refine lv_iload hx hb dX7_witness_419 (lv_at hl 0 rfl) ?_
                                                                refine rdV (rest := []) (q0 := 0) ⟨hx, hb, hml, hown, hts⟩ (m_X7_room l G y b (upd (upd (upd (upd (upd f 0 r1) 20 x5) 21 x6) 27 (nI (rw))) 28 (nI (cl))) (up2 (up2 (up2 (up2 (up2 (up2 (up2 (up2 (up2 (up2 r 15 x22) 16 x8) 17 x9) 18 x10) 19 (upd x39 (((12 * i) + k)) (0))) 22 x24) 23 x25) 24 x28) 25 x31) 26 x60) a2 j2  (by unfold bip; omega)) mi_yX7_room mv_yX7_room ml_X7_201 ⟨rfl, rfl, Nat.le_of_ble_eq_true rfl, Nat.le_of_ble_eq_true rfl⟩ hK (hP) rfl rfl rfl hl.1 rfl (Nat.le_of_ble_eq_true rfl) dX7_witness_421 ⟨Nat.zero_le _, Nat.zero_le _⟩ hS hA hP (fun r71 H locs hr71 hP hS => ?_)
                                                                obtain rfl := hr71
                                                                refine lv_if_gt (tgt := 430) hx hb dX7_witness_424 (by decide) (fun c72 => ?_) (fun c72 => ?_)
                                                                · refine lv_aload_n hx hb dX7_witness_430 rfl (lv_at hl 4 rfl) ?_
                                                                  refine va_get (D := G.1) (ci := 7) (v := .ref (b 26)) (C := RX7) (T := TX7) (N := 43) hx hb hts inX7 hown hK.1 hP 0 rfl rfl 26 (by decide) (hts _ mf_X7_80) (fun _ h9 => h9) rfl dX7_witness_431 ?_
                                                                  refine lv_iload hx hb dX7_witness_434 (lv_at hl 0 rfl) ?_
                                                                  refine lv_iconst (v := 1) hx hb dX7_witness_436 (by decide) ?_
                                                                  refine xzast (f := x60) (x := 1) hx hb hK hP (hDD _ _) hS 24 (j2) (rfl) (by omega) (by decide) (Or.inr rfl) rfl dX7_witness_437 (fun H locs hP _ hS => ?_)
                                                                  have hP : PP G (mM G y b (upd (upd (upd (upd (upd f 0 r1) 20 x5) 21 x6) 27 (nI (rw))) 28 (nI (cl))) (up2 (up2 (up2 (up2 (up2 (up2 (up2 (up2 (up2 (up2 r 15 x22) 16 x8) 17 x9) 18 x10) 19 (upd x39 (((12 * i) + k)) (0))) 22 x24) 23 x25) 24 x28) 25 x31) 26 (upd x60 (j2) (1)))) H := hP
                                                                  have hz8 := cZ_lt (x := x60) (y := j2) (ev64.symm.trans c65) 24 (by omega)
                                                                  refine lv_iconst (v := 1) hx hb dX7_witness_438 (by decide) ?_
                                                                  refine lv_istore (lv' := [(7, .int 1), (10, .int (nI j2)), (9, .int 0), (8, .int (nI a2)), (0, .ref y), (2, .int (nI i)), (3, .int (nI k))]) hx hb dX7_witness_439 hl (by decide) rfl (fun ls hl => ?_)
                                                                  obtain ⟨v73, ev73⟩ : ∃ y9 : Int32, y9 = (nI j2) + Int32.ofInt (1) := ⟨_, rfl⟩
                                                                  refine lv_iinc (v := v73) (lv' := [(10, .int v73), (7, .int 1), (9, .int 0), (8, .int (nI a2)), (0, .ref y), (2, .int (nI i)), (3, .int (nI k))]) hx hb dX7_witness_441 hl (k := 1) rfl ev73.symm (by decide) rfl (fun ls hl => ?_)
                                                                  obtain rfl : v73 = nI (j2 + 1) := nI_plus (i := j2) (j := 1) ev73 rfl (by decide)
                                                                  refine lv_goto (tgt := 381) hx hb dX7_witness_444 (by decide) ?_
                                                                  exact ih381k58 (j2 + 1) 1 (upd x60 (j2) (1)) (by omega) (by omega) (⟨Nat.le_trans (Nat.le_of_lt hz8) hc.1, Or.inr (Nat.lt_of_lt_of_le hz8 hc.1)⟩) (by omega) _ _ _ hP hS (lv_sub hl [0, 2, 3, 1, 4, 5, 6] rfl)
                                                                · refine lv_goto (tgt := 441) hx hb dX7_witness_427 (by decide) ?_
                                                                  obtain ⟨v74, ev74⟩ : ∃ y9 : Int32, y9 = (nI j2) + Int32.ofInt (1) := ⟨_, rfl⟩
                                                                  refine lv_iinc (v := v74) (lv' := [(10, .int v74), (9, .int 0), (8, .int (nI a2)), (7, .int z59), (0, .ref y), (2, .int (nI i)), (3, .int (nI k))]) hx hb dX7_witness_441 hl (k := 0) rfl ev74.symm (by decide) rfl (fun ls hl => ?_)
                                                                  obtain rfl : v74 = nI (j2 + 1) := nI_plus (i := j2) (j := 1) ev74 rfl (by decide)
                                                                  refine lv_goto (tgt := 381) hx hb dX7_witness_444 (by decide) ?_
                                                                  exact ih381k58 (j2 + 1) z59 x60 (by omega) (by omega) (hc) (by omega) _ _ _ hP hS (lv_sub hl [0, 1, 2, 3, 4, 5, 6] rfl)
                                                      exact loop381 (12 + 1) 0 z52 x53 (by omega) (by omega) (hc) (by omega) _ _ _ hP hS (lv_sub hl [0, 1, 2, 3, 4, 5, 6] rfl)
                                                    · have b366 := qge_f (a := a2) (b := 12) (by omega) (by omega) c57
                                                      refine lv_bipush (v := 12) hx hb dX7_witness_369 (by decide) ?_
                                                      refine lv_goto (tgt := 375) hx hb dX7_witness_371 (by decide) ?_
                                                      refine lv_istore (lv' := [(9, .int 12), (8, .int (nI a2)), (7, .int z52), (0, .ref y), (2, .int (nI i)), (3, .int (nI k))]) hx hb dX7_witness_375 hl (by decide) rfl (fun ls hl => ?_)
                                                      refine lv_iload hx hb dX7_witness_377 (lv_at hl 0 rfl) ?_
                                                      refine lv_istore (lv' := [(10, .int 12), (9, .int 12), (8, .int (nI a2)), (7, .int z52), (0, .ref y), (2, .int (nI i)), (3, .int (nI k))]) hx hb dX7_witness_379 hl (by decide) rfl (fun ls hl => ?_)
                                                      have loop381 : ∀ (k75 j2 : Nat) (z76 : Int32) (x77 : Nat → Int32), j2 ≤ 24 → 24 < j2 + k75 → (cZ x77 24 ≤ cZ x46 24 ∧ ((z76 : Int32) = 0 ∨ cZ x77 24 < cZ x46 24)) → (12 ≤ j2) → ∀ (H : Heap) (locs : List Loc) (ls : Array Slot), PP G (mM G y b (upd (upd (upd (upd (upd f 0 r1) 20 x5) 21 x6) 27 (nI (rw))) 28 (nI (cl))) (up2 (up2 (up2 (up2 (up2 (up2 (up2 (up2 (up2 (up2 r 15 x22) 16 x8) 17 x9) 18 x10) 19 (upd x39 (((12 * i) + k)) (0))) 22 x24) 23 x25) 24 x28) 25 x31) 26 x77)) H → va_S A s.heap H locs → lv_has ls 11 [(10, .int (nI j2)), (9, .int 12), (8, .int (nI a2)), (7, .int z76), (0, .ref y), (2, .int (nI i)), (3, .int (nI k))] → W p l e ({ frames := 4, cells := 0, slots := 0, locals := 105 }) s m ([.ref y, .int (nI t), .int (nI i), .int (nI k), .int gr] : List Value).toArray below meth c H locs 0 0 (MQ below (QwI G (fun q w => ∃ (n_f_0 : Int32) (n_f_20 : Int32) (n_f_21 : Int32) (n_f_27 : Int32) (n_f_28 : Int32) (n_r_15 : Nat → Int32) (n_r_16 : Nat → Int32) (n_r_17 : Nat → Int32) (n_r_18 : Nat → Int32) (n_r_19 : Nat → Int32) (n_r_22 : Nat → Int32) (n_r_23 : Nat → Int32) (n_r_24 : Nat → Int32) (n_r_25 : Nat → Int32) (n_r_26 : Nat → Int32), w = mM G y b (upd (upd (upd (upd (upd f 0 n_f_0) 20 n_f_20) 21 n_f_21) 27 n_f_27) 28 n_f_28) (up2 (up2 (up2 (up2 (up2 (up2 (up2 (up2 (up2 (up2 r 15 n_r_15) 16 n_r_16) 17 n_r_17) 18 n_r_18) 19 n_r_19) 22 n_r_22) 23 n_r_23) 24 n_r_24) 25 n_r_25) 26 n_r_26) ∧ atM (r 1) (r 2) (r 3) (r 11) (nI t) (nI i) (nI k) (fun t i k => sv ((¬ (r 5) (144 * t + 12 * i + k) = 0 ∧ ¬ (r 5) (144 * t + 12 * i + k) = 5) ∧ sndN ((r 3) t) (r 11) (r 5) t i) (wtM gr q (r 2) (r 3) (r 4) (r 5) (r 6) (r 7) (r 8) (r 9) (r 10) (r 11) (r 12) (r 13) (r 14) n_f_27 n_f_28 n_r_24 n_r_25 t i k) (q = -1 ∧ n_f_27 = (f 27) ∧ n_f_28 = (f 28) ∧ n_r_24 = (r 24) ∧ n_r_25 = (r 25))) (q = -1 ∧ n_f_27 = (f 27) ∧ n_f_28 = (f 28) ∧ n_r_24 = (r 24) ∧ n_r_25 = (r 25)) ∧ (nL 12 n_f_27) ∧ (nL 12 n_f_28)) A) ([.ref y, .int (nI t), .int (nI i), .int (nI k), .int gr] : List Value).toArray s 0 0 A) (F0 m 381 ls []) := by
                                                        intro k75
                                                        induction k75 with
                                                        | zero => intro j2 z76 x77 h1 h2; exact absurd h1 (by omega)
                                                        | succ k75 ih381k75 =>
                                                          intro j2 z76 x77 hi_j2 hk_j2 hc hj0 H locs ls hP hS hl
                                                          refine lv_iload hx hb dX7_witness_381 (lv_at hl 0 rfl) ?_
                                                          refine lv_iload hx hb dX7_witness_383 (lv_at hl 1 rfl) ?_
                                                          refine lv_bipush (v := 12) hx hb dX7_witness_385 (by decide) ?_
                                                          refine lv_iadd hx hb dX7_witness_387 ?_
                                                          refine lv_topi (fun v78 ev78 => ?_)
                                                          obtain rfl : v78 = nI (12 + 12) := nI_plus ev78 rfl rfl
                                                          refine lv_icmp_ge (tgt := 447) hx hb dX7_witness_388 (by decide) (fun c79 => ?_) (fun c79 => ?_)
                                                          · have b388 := qge_t (a := j2) (b := (12 + 12)) (by omega) (by omega) c79
                                                            obtain ⟨v80, ev80⟩ : ∃ y9 : Int32, y9 = (nI a2) + Int32.ofInt (1) := ⟨_, rfl⟩
                                                            refine lv_iinc (v := v80) (lv' := [(8, .int v80), (10, .int (nI j2)), (9, .int 12), (7, .int z76), (0, .ref y), (2, .int (nI i)), (3, .int (nI k))]) hx hb dX7_witness_447 hl (k := 2) rfl ev80.symm (by decide) rfl (fun ls hl => ?_)
                                                            obtain rfl : v80 = nI (a2 + 1) := nI_plus (i := a2) (j := 1) ev80 rfl (by decide)
                                                            refine lv_goto (tgt := 342) hx hb dX7_witness_450 (by decide) ?_
                                                            exact ih342k51 (a2 + 1) z76 x77 (by omega) (by omega) (hc) _ _ _ hP hS (lv_sub hl [0, 3, 4, 5, 6] rfl)
                                                          · have b388 := qge_f (a := j2) (b := (12 + 12)) (by omega) (by omega) c79
                                                            refine lv_aload_n hx hb dX7_witness_391 rfl (lv_at hl 4 rfl) ?_
                                                            refine va_get (D := G.1) (ci := 7) (v := .ref (b 26)) (C := RX7) (T := TX7) (N := 43) hx hb hts inX7 hown hK.1 hP 0 rfl rfl 26 (by decide) (hts _ mf_X7_80) (fun _ h9 => h9) rfl dX7_witness_392 ?_
                                                            refine lv_iload hx hb dX7_witness_395 (lv_at hl 0 rfl) ?_
                                                            refine xzald (f := x77) hx hb hK hP 24 (j2) (rfl) (by omega) (by decide) rfl dX7_witness_397 ?_
                                                            refine lv_topi (fun v81 ev81 => ?_)
                                                            refine lv_if_ne (tgt := 441) hx hb dX7_witness_398 (by decide) (fun c82 => ?_) (fun c82 => ?_)
                                                            · obtain ⟨v83, ev83⟩ : ∃ y9 : Int32, y9 = (nI j2) + Int32.ofInt (1) := ⟨_, rfl⟩
                                                              refine lv_iinc (v := v83) (lv' := [(10, .int v83), (9, .int 12), (8, .int (nI a2)), (7, .int z76), (0, .ref y), (2, .int (nI i)), (3, .int (nI k))]) hx hb dX7_witness_441 hl (k := 0) rfl ev83.symm (by decide) rfl (fun ls hl => ?_)
                                                              obtain rfl : v83 = nI (j2 + 1) := nI_plus (i := j2) (j := 1) ev83 rfl (by decide)
                                                              refine lv_goto (tgt := 381) hx hb dX7_witness_444 (by decide) ?_
                                                              exact ih381k75 (j2 + 1) z76 x77 (by omega) (by omega) (hc) (by omega) _ _ _ hP hS (lv_sub hl [0, 1, 2, 3, 4, 5, 6] rfl)
                                                            · refine lv_aload_n hx hb dX7_witness_401 rfl (lv_at hl 4 rfl) ?_
                                                              refine lv_iload hx hb dX7_witness_402 (lv_at hl 0 rfl) ?_
                                                              refine lv_aload_n hx hb dX7_witness_404 rfl (lv_at hl 4 rfl) ?_
                                                              refine va_get (D := G.1) (ci := 7) (v := .ref (b 18)) (C := RX7) (T := TX7) (N := 43) hx hb hts inX7 hown hK.1 hP 0 rfl rfl 18 (by decide) (hts _ mf_X7_62) (fun _ h9 => h9) rfl dX7_witness_405 ?_
                                                              refine lv_iload_n hx hb dX7_witness_408 rfl (lv_at hl 5 rfl) ?_
                                                              refine xiald (f := x10) hx hb hK hP 18 (i) (rfl) (by omega) (by decide) rfl dX7_witness_409 ?_
                                                              refine lv_topi (fun v84 ev84 => ?_)
                                                              refine rdV (rest := []) (q0 := 0) ⟨hx, hb, hml, hown, hts⟩ (m_X7_isNode l G y b (upd (upd (upd (upd (upd f 0 r1) 20 x5) 21 x6) 27 (nI (rw))) 28 (nI (cl))) (up2 (up2 (up2 (up2 (up2 (up2 (up2 (up2 (up2 (up2 r 15 x22) 16 x8) 17 x9) 18 x10) 19 (upd x39 (((12 * i) + k)) (0))) 22 x24) 23 x25) 24 x28) 25 x31) 26 x77) j2 v84  (by omega)) mi_yX7_isNode mv_yX7_isNode ml_X7_198 ⟨rfl, rfl, Nat.le_of_ble_eq_true rfl, Nat.le_of_ble_eq_true rfl⟩ hK (hP) rfl rfl rfl hl.1 rfl (Nat.le_of_ble_eq_true rfl) dX7_witness_410 ⟨Nat.zero_le _, Nat.zero_le _⟩ hS hA hP (fun r85 H locs hr85 hP hS => ?_)
                                                              have hr85 : (r85 = 0 ∨ r85 = 1) := hr85
                                                              refine lv_if_eq (tgt := 441) hx hb dX7_witness_413 (by decide) (fun c86 => ?_) (fun c86 => ?_)
                                                              · obtain ⟨v87, ev87⟩ : ∃ y9 : Int32, y9 = (nI j2) + Int32.ofInt (1) := ⟨_, rfl⟩
                                                                refine lv_iinc (v := v87) (lv' := [(10, .int v87), (9, .int 12), (8, .int (nI a2)), (7, .int z76), (0, .ref y), (2, .int (nI i)), (3, .int (nI k))]) hx hb dX7_witness_441 hl (k := 0) rfl ev87.symm (by decide) rfl (fun ls hl => ?_)
                                                                obtain rfl : v87 = nI (j2 + 1) := nI_plus (i := j2) (j := 1) ev87 rfl (by decide)
                                                                refine lv_goto (tgt := 381) hx hb dX7_witness_444 (by decide) ?_
                                                                exact ih381k75 (j2 + 1) z76 x77 (by omega) (by omega) (hc) (by omega) _ _ _ hP hS (lv_sub hl [0, 1, 2, 3, 4, 5, 6] rfl)
                                                              · refine lv_aload_n hx hb dX7_witness_416 rfl (lv_at hl 4 rfl) ?_
                                                                refine lv_iload hx hb dX7_witness_417 (lv_at hl 2 rfl) ?_
                                                                refine lv_iload hx hb dX7_witness_419 (lv_at hl 0 rfl) ?_
                                                                refine rdV (rest := []) (q0 := 0) ⟨hx, hb, hml, hown, hts⟩ (m_X7_room l G y b (upd (upd (upd (upd (upd f 0 r1) 20 x5) 21 x6) 27 (nI (rw))) 28 (nI (cl))) (up2 (up2 (up2 (up2 (up2 (up2 (up2 (up2 (up2 (up2 r 15 x22) 16 x8) 17 x9) 18 x10) 19 (upd x39 (((12 * i) + k)) (0))) 22 x24) 23 x25) 24 x28) 25 x31) 26 x77) a2 j2  (by unfold bip; omega)) mi_yX7_room mv_yX7_room ml_X7_201 ⟨rfl, rfl, Nat.le_of_ble_eq_true rfl, Nat.le_of_ble_eq_true rfl⟩ hK (hP) rfl rfl rfl hl.1 rfl (Nat.le_of_ble_eq_true rfl) dX7_witness_421 ⟨Nat.zero_le _, Nat.zero_le _⟩ hS hA hP (fun r88 H locs hr88 hP hS => ?_)
                                                                obtain rfl := hr88
                                                                refine lv_if_gt (tgt := 430) hx hb dX7_witness_424 (by decide) (fun c89 => ?_) (fun c89 => ?_)
                                                                · refine lv_aload_n hx hb dX7_witness_430 rfl (lv_at hl 4 rfl) ?_
                                                                  refine va_get (D := G.1) (ci := 7) (v := .ref (b 26)) (C := RX7) (T := TX7) (N := 43) hx hb hts inX7 hown hK.1 hP 0 rfl rfl 26 (by decide) (hts _ mf_X7_80) (fun _ h9 => h9) rfl dX7_witness_431 ?_
                                                                  refine lv_iload hx hb dX7_witness_434 (lv_at hl 0 rfl) ?_
                                                                  refine lv_iconst (v := 1) hx hb dX7_witness_436 (by decide) ?_
                                                                  refine xzast (f := x77) (x := 1) hx hb hK hP (hDD _ _) hS 24 (j2) (rfl) (by omega) (by decide) (Or.inr rfl) rfl dX7_witness_437 (fun H locs hP _ hS => ?_)
                                                                  have hP : PP G (mM G y b (upd (upd (upd (upd (upd f 0 r1) 20 x5) 21 x6) 27 (nI (rw))) 28 (nI (cl))) (up2 (up2 (up2 (up2 (up2 (up2 (up2 (up2 (up2 (up2 r 15 x22) 16 x8) 17 x9) 18 x10) 19 (upd x39 (((12 * i) + k)) (0))) 22 x24) 23 x25) 24 x28) 25 x31) 26 (upd x77 (j2) (1)))) H := hP
                                                                  have hz8 := cZ_lt (x := x77) (y := j2) (ev81.symm.trans c82) 24 (by omega)
                                                                  refine lv_iconst (v := 1) hx hb dX7_witness_438 (by decide) ?_
                                                                  refine lv_istore (lv' := [(7, .int 1), (10, .int (nI j2)), (9, .int 12), (8, .int (nI a2)), (0, .ref y), (2, .int (nI i)), (3, .int (nI k))]) hx hb dX7_witness_439 hl (by decide) rfl (fun ls hl => ?_)
                                                                  obtain ⟨v90, ev90⟩ : ∃ y9 : Int32, y9 = (nI j2) + Int32.ofInt (1) := ⟨_, rfl⟩
                                                                  refine lv_iinc (v := v90) (lv' := [(10, .int v90), (7, .int 1), (9, .int 12), (8, .int (nI a2)), (0, .ref y), (2, .int (nI i)), (3, .int (nI k))]) hx hb dX7_witness_441 hl (k := 1) rfl ev90.symm (by decide) rfl (fun ls hl => ?_)
                                                                  obtain rfl : v90 = nI (j2 + 1) := nI_plus (i := j2) (j := 1) ev90 rfl (by decide)
                                                                  refine lv_goto (tgt := 381) hx hb dX7_witness_444 (by decide) ?_
                                                                  exact ih381k75 (j2 + 1) 1 (upd x77 (j2) (1)) (by omega) (by omega) (⟨Nat.le_trans (Nat.le_of_lt hz8) hc.1, Or.inr (Nat.lt_of_lt_of_le hz8 hc.1)⟩) (by omega) _ _ _ hP hS (lv_sub hl [0, 2, 3, 1, 4, 5, 6] rfl)
                                                                · refine lv_goto (tgt := 441) hx hb dX7_witness_427 (by decide) ?_
                                                                  obtain ⟨v91, ev91⟩ : ∃ y9 : Int32, y9 = (nI j2) + Int32.ofInt (1) := ⟨_, rfl⟩
                                                                  refine lv_iinc (v := v91) (lv' := [(10, .int v91), (9, .int 12), (8, .int (nI a2)), (7, .int z76), (0, .ref y), (2, .int (nI i)), (3, .int (nI k))]) hx hb dX7_witness_441 hl (k := 0) rfl ev91.symm (by decide) rfl (fun ls hl => ?_)
                                                                  obtain rfl : v91 = nI (j2 + 1) := nI_plus (i := j2) (j := 1) ev91 rfl (by decide)
                                                                  refine lv_goto (tgt := 381) hx hb dX7_witness_444 (by decide) ?_
                                                                  exact ih381k75 (j2 + 1) z76 x77 (by omega) (by omega) (hc) (by omega) _ _ _ hP hS (lv_sub hl [0, 1, 2, 3, 4, 5, 6] rfl)
                                                      exact loop381 (24 + 1) 12 z52 x53 (by omega) (by omega) (hc) (by omega) _ _ _ hP hS (lv_sub hl [0, 1, 2, 3, 4, 5, 6] rfl)
                                                  · refine lv_goto (tgt := 447) hx hb dX7_witness_359 (by decide) ?_
                                                    obtain ⟨v92, ev92⟩ : ∃ y9 : Int32, y9 = (nI a2) + Int32.ofInt (1) := ⟨_, rfl⟩
                                                    refine lv_iinc (v := v92) (lv' := [(8, .int v92), (7, .int z52), (0, .ref y), (2, .int (nI i)), (3, .int (nI k))]) hx hb dX7_witness_447 hl (k := 0) rfl ev92.symm (by decide) rfl (fun ls hl => ?_)
                                                    obtain rfl : v92 = nI (a2 + 1) := nI_plus (i := a2) (j := 1) ev92 rfl (by decide)
                                                    refine lv_goto (tgt := 342) hx hb dX7_witness_450 (by decide) ?_
                                                    exact ih342k51 (a2 + 1) z52 x53 (by omega) (by omega) (hc) _ _ _ hP hS (lv_sub hl [0, 1, 2, 3, 4] rfl)
                                            exact loop342 (24 + 1) 0 0 x46 (by omega) (by omega) (⟨Nat.le_refl _, Or.inl rfl⟩) _ _ _ hP hS (lv_sub hl [0, 1, 2, 3, 4] rfl)
                                      exact loop331 50 1 (upd x34 (z36) (1)) (by have h9 := cZ_le (upd x34 (z36) (1)) 24; split <;> omega) _ _ _ hP hS (lv_sub hl [0, 1, 3, 4] rfl)
                                    · have b243 := qge_f (a := i4) (b := (rw)) (by omega) (by omega) c40
                                      refine lv_iconst (v := 0) hx hb dX7_witness_246 (by decide) ?_
                                      refine lv_istore (lv' := [(8, .int 0), (7, .int (nI i4)), (0, .ref y), (1, .int (nI t)), (2, .int (nI i)), (3, .int (nI k))]) hx hb dX7_witness_247 hl (by decide) rfl (fun ls hl => ?_)
                                      have loop249 : ∀ (k93 j4 : Nat) (x94 : Nat → Int32), j4 ≤ cl → cl < j4 + k93 → ∀ (H : Heap) (locs : List Loc) (ls : Array Slot), PP G (mM G y b (upd (upd (upd (upd (upd f 0 r1) 20 x5) 21 x6) 27 (nI (rw))) 28 (nI (cl))) (up2 (up2 (up2 (up2 (up2 (up2 (up2 (up2 (up2 (up2 r 15 x22) 16 x8) 17 x9) 18 x10) 19 x94) 22 x24) 23 x25) 24 x28) 25 x31) 26 (upd x34 (z36) (1)))) H → va_S A s.heap H locs → lv_has ls 11 [(8, .int (nI j4)), (7, .int (nI i4)), (0, .ref y), (1, .int (nI t)), (2, .int (nI i)), (3, .int (nI k))] → W p l e ({ frames := 4, cells := 0, slots := 0, locals := 105 }) s m ([.ref y, .int (nI t), .int (nI i), .int (nI k), .int gr] : List Value).toArray below meth c H locs 0 0 (MQ below (QwI G (fun q w => ∃ (n_f_0 : Int32) (n_f_20 : Int32) (n_f_21 : Int32) (n_f_27 : Int32) (n_f_28 : Int32) (n_r_15 : Nat → Int32) (n_r_16 : Nat → Int32) (n_r_17 : Nat → Int32) (n_r_18 : Nat → Int32) (n_r_19 : Nat → Int32) (n_r_22 : Nat → Int32) (n_r_23 : Nat → Int32) (n_r_24 : Nat → Int32) (n_r_25 : Nat → Int32) (n_r_26 : Nat → Int32), w = mM G y b (upd (upd (upd (upd (upd f 0 n_f_0) 20 n_f_20) 21 n_f_21) 27 n_f_27) 28 n_f_28) (up2 (up2 (up2 (up2 (up2 (up2 (up2 (up2 (up2 (up2 r 15 n_r_15) 16 n_r_16) 17 n_r_17) 18 n_r_18) 19 n_r_19) 22 n_r_22) 23 n_r_23) 24 n_r_24) 25 n_r_25) 26 n_r_26) ∧ atM (r 1) (r 2) (r 3) (r 11) (nI t) (nI i) (nI k) (fun t i k => sv ((¬ (r 5) (144 * t + 12 * i + k) = 0 ∧ ¬ (r 5) (144 * t + 12 * i + k) = 5) ∧ sndN ((r 3) t) (r 11) (r 5) t i) (wtM gr q (r 2) (r 3) (r 4) (r 5) (r 6) (r 7) (r 8) (r 9) (r 10) (r 11) (r 12) (r 13) (r 14) n_f_27 n_f_28 n_r_24 n_r_25 t i k) (q = -1 ∧ n_f_27 = (f 27) ∧ n_f_28 = (f 28) ∧ n_r_24 = (r 24) ∧ n_r_25 = (r 25))) (q = -1 ∧ n_f_27 = (f 27) ∧ n_f_28 = (f 28) ∧ n_r_24 = (r 24) ∧ n_r_25 = (r 25)) ∧ (nL 12 n_f_27) ∧ (nL 12 n_f_28)) A) ([.ref y, .int (nI t), .int (nI i), .int (nI k), .int gr] : List Value).toArray s 0 0 A) (F0 m 249 ls []) := by
                                        intro k93
                                        induction k93 with
                                        | zero => intro j4 x94 h1 h2; exact absurd h1 (by omega)
                                        | succ k93 ih249k93 =>
                                          intro j4 x94 hi_j4 hk_j4  H locs ls hP hS hl
                                          refine lv_iload hx hb dX7_witness_249 (lv_at hl 0 rfl) ?_
                                          refine lv_aload_n hx hb dX7_witness_251 rfl (lv_at hl 2 rfl) ?_
                                          refine va_get (D := G.1) (ci := 7) (v := .int x6) (C := RX7) (T := TX7) (N := 43) hx hb hts inX7 hown hK.1 hP 0 rfl rfl 21 (by decide) (hts _ mf_X7_192) (fun _ h9 => h9) rfl dX7_witness_252 ?_
                                          rw [show x6 = nI (cl) from h21]
                                          refine lv_icmp_ge (tgt := 310) hx hb dX7_witness_255 (by decide) (fun c95 => ?_) (fun c95 => ?_)
                                          · have b255 := qge_t (a := j4) (b := (cl)) (by omega) (by omega) c95
                                            obtain ⟨v96, ev96⟩ : ∃ y9 : Int32, y9 = (nI i4) + Int32.ofInt (1) := ⟨_, rfl⟩
                                            refine lv_iinc (v := v96) (lv' := [(7, .int v96), (8, .int (nI j4)), (0, .ref y), (1, .int (nI t)), (2, .int (nI i)), (3, .int (nI k))]) hx hb dX7_witness_310 hl (k := 1) rfl ev96.symm (by decide) rfl (fun ls hl => ?_)
                                            obtain rfl : v96 = nI (i4 + 1) := nI_plus (i := i4) (j := 1) ev96 rfl (by decide)
                                            refine lv_goto (tgt := 237) hx hb dX7_witness_313 (by decide) ?_
                                            exact ih237k38 (i4 + 1) x94 (by omega) (by omega) _ _ _ hP hS (lv_sub hl [0, 2, 3, 4, 5] rfl)
                                          · have b255 := qge_f (a := j4) (b := (cl)) (by omega) (by omega) c95
                                            refine lv_aload_n hx hb dX7_witness_258 rfl (lv_at hl 2 rfl) ?_
                                            refine va_get (D := G.1) (ci := 7) (v := .ref (b 19)) (C := RX7) (T := TX7) (N := 43) hx hb hts inX7 hown hK.1 hP 0 rfl rfl 19 (by decide) (hts _ mf_X7_65) (fun _ h9 => h9) rfl dX7_witness_259 ?_
                                            refine lv_bipush (v := 12) hx hb dX7_witness_262 (by decide) ?_
                                            refine lv_iload hx hb dX7_witness_264 (lv_at hl 1 rfl) ?_
                                            refine lv_imul hx hb dX7_witness_266 ?_
                                            refine lv_topi (fun v97 ev97 => ?_)
                                            obtain rfl : v97 = nI (12 * i4) := nI_times ev97 rfl rfl
                                            refine lv_iload hx hb dX7_witness_267 (lv_at hl 0 rfl) ?_
                                            refine lv_iadd hx hb dX7_witness_269 ?_
                                            refine lv_topi (fun v98 ev98 => ?_)
                                            obtain rfl : v98 = nI ((12 * i4) + j4) := nI_plus ev98 rfl rfl
                                            refine lv_aload_n hx hb dX7_witness_270 rfl (lv_at hl 2 rfl) ?_
                                            refine va_get (D := G.1) (ci := 7) (v := .ref (b 18)) (C := RX7) (T := TX7) (N := 43) hx hb hts inX7 hown hK.1 hP 0 rfl rfl 18 (by decide) (hts _ mf_X7_62) (fun _ h9 => h9) rfl dX7_witness_271 ?_
                                            refine lv_iload hx hb dX7_witness_274 (lv_at hl 1 rfl) ?_
                                            refine xiald (f := x10) hx hb hK hP 18 (i4) (rfl) (by omega) (by decide) rfl dX7_witness_276 ?_
                                            refine lv_topi (fun v99 ev99 => ?_)
                                            refine lv_bipush (v := -2) hx hb dX7_witness_277 (by decide) ?_
                                            have j303_100 : ∀ (z100 : Int32) (gz100 : z100 = 0 ∨ z100 = 1) (H : Heap) (locs : List Loc) (ls : Array Slot), PP G (mM G y b (upd (upd (upd (upd (upd f 0 r1) 20 x5) 21 x6) 27 (nI (rw))) 28 (nI (cl))) (up2 (up2 (up2 (up2 (up2 (up2 (up2 (up2 (up2 (up2 r 15 x22) 16 x8) 17 x9) 18 x10) 19 x94) 22 x24) 23 x25) 24 x28) 25 x31) 26 (upd x34 (z36) (1)))) H → va_S A s.heap H locs → lv_has ls 11 [(8, .int (nI j4)), (7, .int (nI i4)), (0, .ref y), (1, .int (nI t)), (2, .int (nI i)), (3, .int (nI k))] → W p l e ({ frames := 4, cells := 0, slots := 0, locals := 105 }) s m ([.ref y, .int (nI t), .int (nI i), .int (nI k), .int gr] : List Value).toArray below meth c H locs 0 0 (MQ below (QwI G (fun q w => ∃ (n_f_0 : Int32) (n_f_20 : Int32) (n_f_21 : Int32) (n_f_27 : Int32) (n_f_28 : Int32) (n_r_15 : Nat → Int32) (n_r_16 : Nat → Int32) (n_r_17 : Nat → Int32) (n_r_18 : Nat → Int32) (n_r_19 : Nat → Int32) (n_r_22 : Nat → Int32) (n_r_23 : Nat → Int32) (n_r_24 : Nat → Int32) (n_r_25 : Nat → Int32) (n_r_26 : Nat → Int32), w = mM G y b (upd (upd (upd (upd (upd f 0 n_f_0) 20 n_f_20) 21 n_f_21) 27 n_f_27) 28 n_f_28) (up2 (up2 (up2 (up2 (up2 (up2 (up2 (up2 (up2 (up2 r 15 n_r_15) 16 n_r_16) 17 n_r_17) 18 n_r_18) 19 n_r_19) 22 n_r_22) 23 n_r_23) 24 n_r_24) 25 n_r_25) 26 n_r_26) ∧ atM (r 1) (r 2) (r 3) (r 11) (nI t) (nI i) (nI k) (fun t i k => sv ((¬ (r 5) (144 * t + 12 * i + k) = 0 ∧ ¬ (r 5) (144 * t + 12 * i + k) = 5) ∧ sndN ((r 3) t) (r 11) (r 5) t i) (wtM gr q (r 2) (r 3) (r 4) (r 5) (r 6) (r 7) (r 8) (r 9) (r 10) (r 11) (r 12) (r 13) (r 14) n_f_27 n_f_28 n_r_24 n_r_25 t i k) (q = -1 ∧ n_f_27 = (f 27) ∧ n_f_28 = (f 28) ∧ n_r_24 = (r 24) ∧ n_r_25 = (r 25))) (q = -1 ∧ n_f_27 = (f 27) ∧ n_f_28 = (f 28) ∧ n_r_24 = (r 24) ∧ n_r_25 = (r 25)) ∧ (nL 12 n_f_27) ∧ (nL 12 n_f_28)) A) ([.ref y, .int (nI t), .int (nI i), .int (nI k), .int gr] : List Value).toArray s 0 0 A) (F0 m 303 ls [.int z100, .int (nI ((12 * i4) + j4)), .ref (b 19)]) := by
                                              intro z100 gz100 H locs ls hP hS hl
                                              refine xzast (f := x94) (x := z100) hx hb hK hP (hDD _ _) hS 19 (((12 * i4) + j4)) (rfl) (by omega) (by decide) (gz100) rfl dX7_witness_303 (fun H locs hP _ hS => ?_)
                                              have hP : PP G (mM G y b (upd (upd (upd (upd (upd f 0 r1) 20 x5) 21 x6) 27 (nI (rw))) 28 (nI (cl))) (up2 (up2 (up2 (up2 (up2 (up2 (up2 (up2 (up2 (up2 r 15 x22) 16 x8) 17 x9) 18 x10) 19 (upd x94 (((12 * i4) + j4)) (z100))) 22 x24) 23 x25) 24 x28) 25 x31) 26 (upd x34 (z36) (1)))) H := hP
                                              obtain ⟨v101, ev101⟩ : ∃ y9 : Int32, y9 = (nI j4) + Int32.ofInt (1) := ⟨_, rfl⟩
                                              refine lv_iinc (v := v101) (lv' := [(8, .int v101), (7, .int (nI i4)), (0, .ref y), (1, .int (nI t)), (2, .int (nI i)), (3, .int (nI k))]) hx hb dX7_witness_304 hl (k := 0) rfl ev101.symm (by decide) rfl (fun ls hl => ?_)
                                              obtain rfl : v101 = nI (j4 + 1) := nI_plus (i := j4) (j := 1) ev101 rfl (by decide)
                                              refine lv_goto (tgt := 249) hx hb dX7_witness_307 (by decide) ?_
                                              exact ih249k93 (j4 + 1) (upd x94 (((12 * i4) + j4)) (z100)) (by omega) (by omega) _ _ _ hP hS (lv_sub hl [0, 1, 2, 3, 4, 5] rfl)
                                            refine lv_icmp_eq (tgt := 302) hx hb dX7_witness_279 (by decide) (fun c102 => ?_) (fun c102 => ?_)
                                            · refine lv_iconst (v := 0) hx hb dX7_witness_302 (by decide) ?_
                                              exact j303_100 0 (Or.inl rfl) _ _ _ hP hS (lv_sub hl [0, 1, 2, 3, 4, 5] rfl)
                                            · refine lv_aload_n hx hb dX7_witness_282 rfl (lv_at hl 2 rfl) ?_
                                              refine lv_iload_n hx hb dX7_witness_283 rfl (lv_at hl 3 rfl) ?_
                                              refine lv_iload_n hx hb dX7_witness_284 rfl (lv_at hl 3 rfl) ?_
                                              refine lv_iload hx hb dX7_witness_285 (lv_at hl 1 rfl) ?_
                                              refine lv_iload hx hb dX7_witness_287 (lv_at hl 0 rfl) ?_
                                              refine rdS (rest := [.int (nI t), .ref y, .int (nI ((12 * i4) + j4)), .ref (b 19)]) ⟨hx, hb, hml, hown, hts⟩ (m_X7_at l G y b (upd (upd (upd (upd (upd f 0 r1) 20 x5) 21 x6) 27 (nI (rw))) 28 (nI (cl))) (up2 (up2 (up2 (up2 (up2 (up2 (up2 (up2 (up2 (up2 r 15 x22) 16 x8) 17 x9) 18 x10) 19 x94) 22 x24) 23 x25) 24 x28) 25 x31) 26 (upd x34 (z36) (1))) t i4 j4  ) mi_yX7_at mst_yX7_at ml_X7_147 ⟨rfl, rfl, Nat.le_of_ble_eq_true rfl, Nat.le_of_ble_eq_true rfl⟩ hK (hP) rfl hl.1 rfl (Nat.le_of_ble_eq_true rfl) dX7_witness_289 ⟨Nat.zero_le _, Nat.zero_le _⟩ hS hA hP (fun r103 H locs hr103 hP hS => ?_)
                                              obtain rfl := hr103
                                              refine rdV (rest := [.int (nI ((12 * i4) + j4)), .ref (b 19)]) (q0 := 0) ⟨hx, hb, hml, hown, hts⟩ (n_isKept l G y b (upd (upd (upd (upd (upd f 0 r1) 20 x5) 21 x6) 27 (nI (rw))) 28 (nI (cl))) (up2 (up2 (up2 (up2 (up2 (up2 (up2 (up2 (up2 (up2 r 15 x22) 16 x8) 17 x9) 18 x10) 19 x94) 22 x24) 23 x25) 24 x28) 25 x31) 26 (upd x34 (z36) (1))) t (144 * t + 12 * i4 + j4)  (by omega) (by omega) hG) mi_yX7_isKept mv_yX7_isKept ml_X7_181 ⟨rfl, rfl, Nat.le_of_ble_eq_true rfl, Nat.le_of_ble_eq_true rfl⟩ hK (hP) rfl rfl rfl hl.1 rfl (Nat.le_of_ble_eq_true rfl) dX7_witness_292 ⟨Nat.zero_le _, Nat.zero_le _⟩ hS hA hP (fun r104 H locs hr104 hP hS => ?_)
                                              have hr104 : ((r104 = 1 ∧ (kpM (r 4) (r 5) (r 6) (r 7) (r 8) (r 9) (r 10) t (144 * t + 12 * i4 + j4))) ∨ (r104 = 0 ∧ ¬ (kpM (r 4) (r 5) (r 6) (r 7) (r 8) (r 9) (r 10) t (144 * t + 12 * i4 + j4)))) := hr104
                                              refine lv_if_eq (tgt := 302) hx hb dX7_witness_295 (by decide) (fun c105 => ?_) (fun c105 => ?_)
                                              · have b295 := bF hr104 c105
                                                refine lv_iconst (v := 0) hx hb dX7_witness_302 (by decide) ?_
                                                exact j303_100 0 (Or.inl rfl) _ _ _ hP hS (lv_sub hl [0, 1, 2, 3, 4, 5] rfl)
                                              · have b295 := bT hr104 c105
                                                refine lv_iconst (v := 1) hx hb dX7_witness_298 (by decide) ?_
                                                refine lv_goto (tgt := 303) hx hb dX7_witness_299 (by decide) ?_
                                                exact j303_100 1 (Or.inr rfl) _ _ _ hP hS (lv_sub hl [0, 1, 2, 3, 4, 5] rfl)
                                      exact loop249 (cl + 1) 0 x39 (by omega) (by omega) _ _ _ hP hS (lv_sub hl [0, 1, 2, 3, 4, 5] rfl)
                                exact loop237 (rw + 1) 0 x23 (by omega) (by omega) _ _ _ hP hS (lv_sub hl [0, 3, 4, 5, 6] rfl)
                              · refine lv_aload_n hx hb dX7_witness_222 rfl (lv_at hl 2 rfl) ?_
                                refine va_get (D := G.1) (ci := 7) (v := .ref (b 15)) (C := RX7) (T := TX7) (N := 43) hx hb hts inX7 hown hK.1 hP 0 rfl rfl 15 (by decide) (hts _ mf_X7_53) (fun _ h9 => h9) rfl dX7_witness_223 ?_
                                refine lv_bipush (v := 12) hx hb dX7_witness_226 (by decide) ?_
                                refine lv_iload_n hx hb dX7_witness_228 rfl (lv_at hl 4 rfl) ?_
                                refine lv_imul hx hb dX7_witness_229 ?_
                                refine lv_topi (fun v106 ev106 => ?_)
                                obtain rfl : v106 = nI (12 * i) := nI_times ev106 rfl rfl
                                refine lv_iload_n hx hb dX7_witness_230 rfl (lv_at hl 5 rfl) ?_
                                refine lv_iadd hx hb dX7_witness_231 ?_
                                refine lv_topi (fun v107 ev107 => ?_)
                                obtain rfl : v107 = nI ((12 * i) + k) := nI_plus ev107 rfl rfl
                                refine xiald (f := x22) hx hb hK hP 15 (((12 * i) + k)) (rfl) (by omega) (by decide) rfl dX7_witness_232 ?_
                                refine lv_topi (fun v108 ev108 => ?_)
                                exact wr_iret hx hb hr hlocks hS hP ⟨r1, x5, x6, (nI (rw)), (nI (cl)), x22, x8, x9, x10, x23, x24, x25, x28, x31, (upd x34 (z36) (1)), rfl, Or.inr ⟨hp0, t, i, k, ht, by omega, by omega, rfl, rfl, rfl, Or.inl ⟨kfS_i hkk, rw, cl, bk, U, hrw, hcl, hbk, h2, h3, h12, ev108.trans (hUv i k hin1 hin2 hg9), rfl, rfl, fun x y hx hy => (e18 x hx).imp (fun z9 => ⟨z9.1, by rw [hc25 x (by omega), z9.2]; exact cl_n2 hbk, by rw [hc24 _ (by omega)]; exact hUv x y hx hy (by rw [z9.2]; exact cl_n2 hbk)⟩) (fun z9 => ⟨z9.1, by rw [hc25 x (by omega)]; exact z9.2⟩), hXX, hYY⟩⟩, h27, h28⟩ dX7_witness_233
                            refine lv_if_eq (tgt := 206) hx hb dX7_witness_196 (by decide) (fun c109 => ?_) (fun c109 => ?_)
                            · refine lv_iload_n hx hb dX7_witness_206 rfl (lv_at hl 4 rfl) ?_
                              exact j207_36 i (by omega) _ _ _ hP hS (lv_sub hl [1, 2, 3, 4, 5] rfl)
                            · refine lv_bipush (v := 12) hx hb dX7_witness_199 (by decide) ?_
                              refine lv_iload_n hx hb dX7_witness_201 rfl (lv_at hl 5 rfl) ?_
                              refine lv_iadd hx hb dX7_witness_202 ?_
                              refine lv_topi (fun v110 ev110 => ?_)
                              obtain rfl : v110 = nI (12 + k) := nI_plus ev110 rfl rfl
                              refine lv_goto (tgt := 207) hx hb dX7_witness_203 (by decide) ?_
                              exact j207_36 (12 + k) (by omega) _ _ _ hP hS (lv_sub hl [1, 2, 3, 4, 5] rfl)
                          · have b177 := qge_f (a := n3) (b := 24) (by omega) (by omega) c35
                            refine lv_aload_n hx hb dX7_witness_180 rfl (lv_at hl 2 rfl) ?_
                            refine va_get (D := G.1) (ci := 7) (v := .ref (b 26)) (C := RX7) (T := TX7) (N := 43) hx hb hts inX7 hown hK.1 hP 0 rfl rfl 26 (by decide) (hts _ mf_X7_80) (fun _ h9 => h9) rfl dX7_witness_181 ?_
                            refine lv_iload hx hb dX7_witness_184 (lv_at hl 0 rfl) ?_
                            refine lv_iconst (v := 0) hx hb dX7_witness_186 (by decide) ?_
                            refine xzast (f := x34) (x := 0) hx hb hK hP (hDD _ _) hS 24 (n3) (rfl) (by omega) (by decide) (Or.inl rfl) rfl dX7_witness_187 (fun H locs hP _ hS => ?_)
                            have hP : PP G (mM G y b (upd (upd (upd (upd (upd f 0 r1) 20 x5) 21 x6) 27 (nI (rw))) 28 (nI (cl))) (up2 (up2 (up2 (up2 (up2 (up2 (up2 (up2 (up2 (up2 r 15 x22) 16 x8) 17 x9) 18 x10) 19 x23) 22 x24) 23 x25) 24 x28) 25 x31) 26 (upd x34 (n3) (0)))) H := hP
                            obtain ⟨v111, ev111⟩ : ∃ y9 : Int32, y9 = (nI n3) + Int32.ofInt (1) := ⟨_, rfl⟩
                            refine lv_iinc (v := v111) (lv' := [(6, .int v111), (5, .int v14), (0, .ref y), (1, .int (nI t)), (2, .int (nI i)), (3, .int (nI k)), (4, .int gr)]) hx hb dX7_witness_188 hl (k := 0) rfl ev111.symm (by decide) rfl (fun ls hl => ?_)
                            obtain rfl : v111 = nI (n3 + 1) := nI_plus (i := n3) (j := 1) ev111 rfl (by decide)
                            refine lv_goto (tgt := 173) hx hb dX7_witness_191 (by decide) ?_
                            exact ih173k33 (n3 + 1) (upd x34 (n3) (0)) (by omega) (by omega) _ _ _ hP hS (lv_sub hl [0, 1, 2, 3, 4, 5, 6] rfl)
                      exact loop173 (24 + 1) 0 (r 26) (by omega) (by omega) _ _ _ hP hS (lv_sub hl [0, 1, 2, 3, 4, 5, 6] rfl)
                    · have b147 := qge_f (a := n2) (b := (rw)) (by omega) (by omega) c32
                      refine lv_aload_n hx hb dX7_witness_150 rfl (lv_at hl 2 rfl) ?_
                      refine va_get (D := G.1) (ci := 7) (v := .ref (b 25)) (C := RX7) (T := TX7) (N := 43) hx hb hts inX7 hown hK.1 hP 0 rfl rfl 25 (by decide) (hts _ mf_X7_77) (fun _ h9 => h9) rfl dX7_witness_151 ?_
                      refine lv_iload hx hb dX7_witness_154 (lv_at hl 0 rfl) ?_
                      refine lv_aload_n hx hb dX7_witness_156 rfl (lv_at hl 2 rfl) ?_
                      refine va_get (D := G.1) (ci := 7) (v := .ref (b 18)) (C := RX7) (T := TX7) (N := 43) hx hb hts inX7 hown hK.1 hP 0 rfl rfl 18 (by decide) (hts _ mf_X7_62) (fun _ h9 => h9) rfl dX7_witness_157 ?_
                      refine lv_iload hx hb dX7_witness_160 (lv_at hl 0 rfl) ?_
                      refine xiald (f := x10) hx hb hK hP 18 (n2) (rfl) (by omega) (by decide) rfl dX7_witness_162 ?_
                      refine lv_topi (fun v112 ev112 => ?_)
                      refine xiast (f := x31) (x := v112) hx hb hK hP (hDD _ _) hS 23 (n2) (rfl) (by omega) (by decide) rfl dX7_witness_163 (fun H locs hP _ hS => ?_)
                      have hP : PP G (mM G y b (upd (upd (upd (upd (upd f 0 r1) 20 x5) 21 x6) 27 (nI (rw))) 28 (nI (cl))) (up2 (up2 (up2 (up2 (up2 (up2 (up2 (up2 (up2 r 15 x22) 16 x8) 17 x9) 18 x10) 19 x23) 22 x24) 23 x25) 24 x28) 25 (upd x31 (n2) (v112)))) H := hP
                      obtain ⟨v113, ev113⟩ : ∃ y9 : Int32, y9 = (nI n2) + Int32.ofInt (1) := ⟨_, rfl⟩
                      refine lv_iinc (v := v113) (lv' := [(6, .int v113), (5, .int v14), (0, .ref y), (1, .int (nI t)), (2, .int (nI i)), (3, .int (nI k)), (4, .int gr)]) hx hb dX7_witness_164 hl (k := 0) rfl ev113.symm (by decide) rfl (fun ls hl => ?_)
                      obtain rfl : v113 = nI (n2 + 1) := nI_plus (i := n2) (j := 1) ev113 rfl (by decide)
                      refine lv_goto (tgt := 141) hx hb dX7_witness_167 (by decide) ?_
                      exact ih141k30 (n2 + 1) (upd x31 (n2) (v112)) (by omega) (by omega) (cp_s (by omega) hc25 ev112) _ _ _ hP hS (lv_sub hl [0, 1, 2, 3, 4, 5, 6] rfl)
                exact loop141 (rw + 1) 0 (r 25) (by omega) (by omega) (fun p h9 => absurd h9 (by omega)) _ _ _ hP hS (lv_sub hl [0, 1, 2, 3, 4, 5, 6] rfl)
              · have b115 := qge_f (a := n1) (b := 144) (by omega) (by omega) c29
                refine lv_aload_n hx hb dX7_witness_118 rfl (lv_at hl 2 rfl) ?_
                refine va_get (D := G.1) (ci := 7) (v := .ref (b 24)) (C := RX7) (T := TX7) (N := 43) hx hb hts inX7 hown hK.1 hP 0 rfl rfl 24 (by decide) (hts _ mf_X7_74) (fun _ h9 => h9) rfl dX7_witness_119 ?_
                refine lv_iload hx hb dX7_witness_122 (lv_at hl 0 rfl) ?_
                refine lv_aload_n hx hb dX7_witness_124 rfl (lv_at hl 2 rfl) ?_
                refine va_get (D := G.1) (ci := 7) (v := .ref (b 15)) (C := RX7) (T := TX7) (N := 43) hx hb hts inX7 hown hK.1 hP 0 rfl rfl 15 (by decide) (hts _ mf_X7_53) (fun _ h9 => h9) rfl dX7_witness_125 ?_
                refine lv_iload hx hb dX7_witness_128 (lv_at hl 0 rfl) ?_
                refine xiald (f := x22) hx hb hK hP 15 (n1) (rfl) (by omega) (by decide) rfl dX7_witness_130 ?_
                refine lv_topi (fun v114 ev114 => ?_)
                refine xiast (f := x28) (x := v114) hx hb hK hP (hDD _ _) hS 22 (n1) (rfl) (by omega) (by decide) rfl dX7_witness_131 (fun H locs hP _ hS => ?_)
                have hP : PP G (mM G y b (upd (upd (upd (upd (upd f 0 r1) 20 x5) 21 x6) 27 (nI (rw))) 28 (nI (cl))) (up2 (up2 (up2 (up2 (up2 (up2 (up2 (up2 r 15 x22) 16 x8) 17 x9) 18 x10) 19 x23) 22 x24) 23 x25) 24 (upd x28 (n1) (v114)))) H := hP
                obtain ⟨v115, ev115⟩ : ∃ y9 : Int32, y9 = (nI n1) + Int32.ofInt (1) := ⟨_, rfl⟩
                refine lv_iinc (v := v115) (lv' := [(6, .int v115), (5, .int v14), (0, .ref y), (1, .int (nI t)), (2, .int (nI i)), (3, .int (nI k)), (4, .int gr)]) hx hb dX7_witness_132 hl (k := 0) rfl ev115.symm (by decide) rfl (fun ls hl => ?_)
                obtain rfl : v115 = nI (n1 + 1) := nI_plus (i := n1) (j := 1) ev115 rfl (by decide)
                refine lv_goto (tgt := 110) hx hb dX7_witness_135 (by decide) ?_
                exact ih110k27 (n1 + 1) (upd x28 (n1) (v114)) (by omega) (by omega) (cp_s (by omega) hc24 ev114) _ _ _ hP hS (lv_sub hl [0, 1, 2, 3, 4, 5, 6] rfl)
          exact loop110 (144 + 1) 0 (r 24) (by omega) (by omega) (fun p h9 => absurd h9 (by omega)) _ _ _ hP hS (lv_sub hl [0, 1, 2, 3, 4, 5, 6] rfl)
        · have b55 := qge_f (a := ii) (b := (rw)) (by omega) (by omega) c26
          refine lv_iconst (v := 0) hx hb dX7_witness_58 (by decide) ?_
          refine lv_istore (lv' := [(7, .int 0), (6, .int (nI ii)), (5, .int v14), (0, .ref y), (1, .int (nI t)), (2, .int (nI i)), (3, .int (nI k)), (4, .int gr)]) hx hb dX7_witness_59 hl (by decide) rfl (fun ls hl => ?_)
          have loop61 : ∀ (k116 jj : Nat) (U : Nat → Nat → Nat) (x117 : Nat → Int32) (x118 : Nat → Int32) (x119 : Nat → Int32) (x120 : Nat → Int32), jj ≤ cl → cl < jj + k116 → (WRI rw cl x10 x118 x117 (KBm rw cl t bk (r 3) (r 4) (r 5) (r 6) (r 7) (r 8) (r 9) (r 10) (r 11) (r 13) (r 14)) (LTm (r 5) (r 6) t cl) (HTm (r 5) (r 6) t cl) (NTm (r 6) t) i k (12 * ii + jj) U) → (U i k = U0 i k) → ∀ (H : Heap) (locs : List Loc) (ls : Array Slot), PP G (mM G y b (upd (upd (upd f 0 r1) 20 x5) 21 x6) (up2 (up2 (up2 (up2 (up2 (up2 (up2 r 15 x117) 16 x8) 17 x9) 18 x10) 19 x118) 22 x119) 23 x120)) H → va_S A s.heap H locs → lv_has ls 11 [(7, .int (nI jj)), (6, .int (nI ii)), (5, .int v14), (0, .ref y), (1, .int (nI t)), (2, .int (nI i)), (3, .int (nI k)), (4, .int gr)] → W p l e ({ frames := 4, cells := 0, slots := 0, locals := 105 }) s m ([.ref y, .int (nI t), .int (nI i), .int (nI k), .int gr] : List Value).toArray below meth c H locs 0 0 (MQ below (QwI G (fun q w => ∃ (n_f_0 : Int32) (n_f_20 : Int32) (n_f_21 : Int32) (n_f_27 : Int32) (n_f_28 : Int32) (n_r_15 : Nat → Int32) (n_r_16 : Nat → Int32) (n_r_17 : Nat → Int32) (n_r_18 : Nat → Int32) (n_r_19 : Nat → Int32) (n_r_22 : Nat → Int32) (n_r_23 : Nat → Int32) (n_r_24 : Nat → Int32) (n_r_25 : Nat → Int32) (n_r_26 : Nat → Int32), w = mM G y b (upd (upd (upd (upd (upd f 0 n_f_0) 20 n_f_20) 21 n_f_21) 27 n_f_27) 28 n_f_28) (up2 (up2 (up2 (up2 (up2 (up2 (up2 (up2 (up2 (up2 r 15 n_r_15) 16 n_r_16) 17 n_r_17) 18 n_r_18) 19 n_r_19) 22 n_r_22) 23 n_r_23) 24 n_r_24) 25 n_r_25) 26 n_r_26) ∧ atM (r 1) (r 2) (r 3) (r 11) (nI t) (nI i) (nI k) (fun t i k => sv ((¬ (r 5) (144 * t + 12 * i + k) = 0 ∧ ¬ (r 5) (144 * t + 12 * i + k) = 5) ∧ sndN ((r 3) t) (r 11) (r 5) t i) (wtM gr q (r 2) (r 3) (r 4) (r 5) (r 6) (r 7) (r 8) (r 9) (r 10) (r 11) (r 12) (r 13) (r 14) n_f_27 n_f_28 n_r_24 n_r_25 t i k) (q = -1 ∧ n_f_27 = (f 27) ∧ n_f_28 = (f 28) ∧ n_r_24 = (r 24) ∧ n_r_25 = (r 25))) (q = -1 ∧ n_f_27 = (f 27) ∧ n_f_28 = (f 28) ∧ n_r_24 = (r 24) ∧ n_r_25 = (r 25)) ∧ (nL 12 n_f_27) ∧ (nL 12 n_f_28)) A) ([.ref y, .int (nI t), .int (nI i), .int (nI k), .int gr] : List Value).toArray s 0 0 A) (F0 m 61 ls []) := by
            intro k116
            induction k116 with
            | zero => intro jj U x117 x118 x119 x120 h1 h2; exact absurd h1 (by omega)
            | succ k116 ih61k116 =>
              intro jj U x117 x118 x119 x120 hi_jj hk_jj hW hUe H locs ls hP hS hl
              refine lv_iload hx hb dX7_witness_61 (lv_at hl 0 rfl) ?_
              refine lv_aload_n hx hb dX7_witness_63 rfl (lv_at hl 3 rfl) ?_
              refine va_get (D := G.1) (ci := 7) (v := .int x6) (C := RX7) (T := TX7) (N := 43) hx hb hts inX7 hown hK.1 hP 0 rfl rfl 21 (by decide) (hts _ mf_X7_192) (fun _ h9 => h9) rfl dX7_witness_64 ?_
              rw [show x6 = nI (cl) from h21]
              refine lv_icmp_ge (tgt := 85) hx hb dX7_witness_67 (by decide) (fun c121 => ?_) (fun c121 => ?_)
              · have b67 := qge_t (a := jj) (b := (cl)) (by omega) (by omega) c121
                obtain ⟨v122, ev122⟩ : ∃ y9 : Int32, y9 = (nI ii) + Int32.ofInt (1) := ⟨_, rfl⟩
                refine lv_iinc (v := v122) (lv' := [(6, .int v122), (7, .int (nI jj)), (5, .int v14), (0, .ref y), (1, .int (nI t)), (2, .int (nI i)), (3, .int (nI k)), (4, .int gr)]) hx hb dX7_witness_85 hl (k := 1) rfl ev122.symm (by decide) rfl (fun ls hl => ?_)
                obtain rfl : v122 = nI (ii + 1) := nI_plus (i := ii) (j := 1) ev122 rfl (by decide)
                refine lv_goto (tgt := 49) hx hb dX7_witness_88 (by decide) ?_
                exact ih49k21 (ii + 1) U x117 x118 x119 x120 (by omega) (by omega) (WR_r hW hcl (by omega) hKD) (hUe) _ _ _ hP hS (lv_sub hl [0, 2, 3, 4, 5, 6, 7] rfl)
              · have b67 := qge_f (a := jj) (b := (cl)) (by omega) (by omega) c121
                refine lv_aload_n hx hb dX7_witness_70 rfl (lv_at hl 3 rfl) ?_
                refine lv_iload hx hb dX7_witness_71 (lv_at hl 1 rfl) ?_
                refine lv_iload hx hb dX7_witness_73 (lv_at hl 0 rfl) ?_
                refine lv_iconst (v := 0) hx hb dX7_witness_75 (by decide) ?_
                by_cases hg8 : x10 ii = -2
                · have hz := hW.2 ii jj (by omega) (by omega) hg8
                  refine wrVVa (rest := []) (q0 := 0) ⟨hx, hb, hml, hown, hts⟩ (n_settle0 l G y b (upd (upd (upd f 0 r1) 20 x5) 21 x6) (up2 (up2 (up2 (up2 (up2 (up2 (up2 r 15 x117) 16 x8) 17 x9) 18 x10) 19 x118) 22 x119) 23 x120) ii jj 0  (by omega) (by omega) hz) mi_yX7_settle mv_yX7_settle ml_X7_219 ⟨rfl, rfl, Nat.le_of_ble_eq_true rfl, Nat.le_of_ble_eq_true rfl⟩ hK hP (hDD _ _) rfl rfl rfl hl.1 rfl (Nat.le_of_ble_eq_true rfl) dX7_witness_76 ⟨Nat.zero_le _, Nat.zero_le _⟩ hS hA (fun w124 H locs hw124 hP hS => ?_)
                  obtain ⟨x125, x126, x127, x128, rfl, hs15, hs19⟩ := hw124
                  have hP : PP G (mM G y b (upd (upd (upd f 0 r1) 20 x5) 21 x6) (up2 (up2 (up2 (up2 (up2 (up2 (up2 r 15 x125) 16 x8) 17 x9) 18 x10) 19 x126) 22 x127) 23 x128)) H := hP
                  have hs15 : x125 = x117 := hs15
                  have hs19 : x126 = x118 := hs19
                  have hWn := WR_0 hW hcl (by omega) hg8 hKD
                  rw [← hs15, ← hs19] at hWn
                  obtain ⟨v129, ev129⟩ : ∃ y9 : Int32, y9 = (nI jj) + Int32.ofInt (1) := ⟨_, rfl⟩
                  refine lv_iinc (v := v129) (lv' := [(7, .int v129), (6, .int (nI ii)), (5, .int v14), (0, .ref y), (1, .int (nI t)), (2, .int (nI i)), (3, .int (nI k)), (4, .int gr)]) hx hb dX7_witness_79 hl (k := 0) rfl ev129.symm (by decide) rfl (fun ls hl => ?_)
                  obtain rfl : v129 = nI (jj + 1) := nI_plus (i := jj) (j := 1) ev129 rfl (by decide)
                  refine lv_goto (tgt := 61) hx hb dX7_witness_82 (by decide) ?_
                  exact ih61k116 (jj + 1) U x125 x126 x127 x128 (by omega) (by omega) (hWn) (hUe) _ _ _ hP hS (lv_sub hl [0, 1, 2, 3, 4, 5, 6, 7] rfl)
                · obtain ⟨w1, w2, w3, w4⟩ := hW.1 (x10 ii) hg8
                  have hdj : (dmM rw cl x10 (x10 ii)) ii jj = true := dmM_mk (by omega) (by omega) rfl
                  refine wrVVa (rest := []) (q0 := 0) ⟨hx, hb, hml, hown, hts⟩ (n_settle l G y b (upd (upd (upd f 0 r1) 20 x5) 21 x6) (up2 (up2 (up2 (up2 (up2 (up2 (up2 r 15 x117) 16 x8) 17 x9) 18 x10) 19 x118) 22 x119) 23 x120) ii jj 0 rw cl (rsT (dmM rw cl x10 (x10 ii)) U) (rsT (dmM rw cl x10 (x10 ii)) U) (LTm (r 5) (r 6) t cl) (HTm (r 5) (r 6) t cl) (FR (KBm rw cl t bk (r 3) (r 4) (r 5) (r 6) (r 7) (r 8) (r 9) (r 10) (r 11) (r 13) (r 14) (x10 ii)) i k (12 * ii + jj)) (by omega) (by omega) (by omega) (by omega) h20 h21 hdj (fun x y h9 => hKD _ hg8 x y (FR_i h9).1) w4 (fun x y h8 h9 h7 => by have h7 : (dmM rw cl x10 (x10 ii)) x y = true := h7; rw [rsT_t h7]; exact w1 x y h8 h9 h7) ((hLH _ hg8).1) ((hLH _ hg8).2) (fun x y h7 => by have h7 : (dmM rw cl x10 (x10 ii)) x y = true := h7; rw [rsT_t h7]; exact w2 x y h7) (agN_r (fun x y _ _ h7 => by have h5 := hKD _ hg8 x y (FR_i h7).1; have h6 := w2 x y h5; rw [rsT_t h5]; exact ⟨h6.2.2.2.2, h6.2.2.2.1⟩))) mi_yX7_settle mv_yX7_settle ml_X7_219 ⟨rfl, rfl, Nat.le_of_ble_eq_true rfl, Nat.le_of_ble_eq_true rfl⟩ hK hP (hDD _ _) rfl rfl rfl hl.1 rfl (Nat.le_of_ble_eq_true rfl) dX7_witness_76 ⟨Nat.zero_le _, Nat.zero_le _⟩ hS hA (fun w131 H locs hw131 hP hS => ?_)
                  obtain ⟨x132, x133, x134, x135, V2, rfl, hv2, ha2, hb2_, hf2, hse, hm19⟩ := hw131
                  have hP : PP G (mM G y b (upd (upd (upd f 0 r1) 20 x5) 21 x6) (up2 (up2 (up2 (up2 (up2 (up2 (up2 r 15 x132) 16 x8) 17 x9) 18 x10) 19 x133) 22 x134) 23 x135)) H := hP
                  have hv2 : rowM (dmM rw cl x10 (x10 ii)) V2 x132 := hv2
                  have ha2 : agN (FR (KBm rw cl t bk (r 3) (r 4) (r 5) (r 6) (r 7) (r 8) (r 9) (r 10) (r 11) (r 13) (r 14) (x10 ii)) i k (12 * ii + jj)) (LTm (r 5) (r 6) t cl) (HTm (r 5) (r 6) t cl) (rsT (dmM rw cl x10 (x10 ii)) U) V2 := ha2
                  have hb2_ : BND (dmM rw cl x10 (x10 ii)) (LTm (r 5) (r 6) t cl) (HTm (r 5) (r 6) t cl) V2 := hb2_
                  have hf2 : ∀ x y, x < 12 → y < 12 → dmM rw cl x10 (x10 ii) x y = false → x132 (12 * x + y) = x117 (12 * x + y) := hf2
                  have hse : ((FR (KBm rw cl t bk (r 3) (r 4) (r 5) (r 6) (r 7) (r 8) (r 9) (r 10) (r 11) (r 13) (r 14) (x10 ii)) i k (12 * ii + jj)) ii jj = false ∧ V2 = (rsT (dmM rw cl x10 (x10 ii)) U)) ∨ ((FR (KBm rw cl t bk (r 3) (r 4) (r 5) (r 6) (r 7) (r 8) (r 9) (r 10) (r 11) (r 13) (r 14) (x10 ii)) i k (12 * ii + jj)) ii jj = true ∧ ((0 : Int32) = 0 → ∀ w, agN (FR (KBm rw cl t bk (r 3) (r 4) (r 5) (r 6) (r 7) (r 8) (r 9) (r 10) (r 11) (r 13) (r 14) (x10 ii)) i k (12 * ii + jj)) (LTm (r 5) (r 6) t cl) (HTm (r 5) (r 6) t cl) (rsT (dmM rw cl x10 (x10 ii)) U) w → V2 ii jj ≤ w ii jj) ∧ (¬ (0 : Int32) = 0 → ∀ w, agN (FR (KBm rw cl t bk (r 3) (r 4) (r 5) (r 6) (r 7) (r 8) (r 9) (r 10) (r 11) (r 13) (r 14) (x10 ii)) i k (12 * ii + jj)) (LTm (r 5) (r 6) t cl) (HTm (r 5) (r 6) t cl) (rsT (dmM rw cl x10 (x10 ii)) U) w → w ii jj ≤ V2 ii jj)) := hse
                  have hm19 : only (12 * ii + jj) 0 x118 x133 := hm19
                  have hWp := WR_s hW hrw hcl (by omega) (by omega) (by omega) (by omega) hg8 hKD hv2 ha2 hb2_ hf2 (fun h9 => hse.elim (fun z9 => absurd (z9.1.symm.trans h9) (by decide)) (fun z9 => z9.2.1 rfl)) hm19
                  obtain ⟨v136, ev136⟩ : ∃ y9 : Int32, y9 = (nI jj) + Int32.ofInt (1) := ⟨_, rfl⟩
                  refine lv_iinc (v := v136) (lv' := [(7, .int v136), (6, .int (nI ii)), (5, .int v14), (0, .ref y), (1, .int (nI t)), (2, .int (nI i)), (3, .int (nI k)), (4, .int gr)]) hx hb dX7_witness_79 hl (k := 0) rfl ev136.symm (by decide) rfl (fun ls hl => ?_)
                  obtain rfl : v136 = nI (jj + 1) := nI_plus (i := jj) (j := 1) ev136 rfl (by decide)
                  refine lv_goto (tgt := 61) hx hb dX7_witness_82 (by decide) ?_
                  exact ih61k116 (jj + 1) (jnT (dmM rw cl x10 (x10 ii)) V2 U) x132 x133 x134 x135 (by omega) (by omega) (hWp.1) (hWp.2.trans hUe) _ _ _ hP hS (lv_sub hl [0, 1, 2, 3, 4, 5, 6, 7] rfl)
          exact loop61 (cl + 1) 0 U x22 x23 x24 x25 (by omega) (by omega) (hW) (hUe) _ _ _ hP hS (lv_sub hl [0, 1, 2, 3, 4, 5, 6, 7] rfl)
    exact loop49 (rw + 1) 0 U0 x17 x18 x19 x20 (by omega) (by omega) (hW0) (rfl) _ _ _ hP hS (lv_sub hl [0, 1, 2, 3, 4, 5, 6] rfl)
  · refine lv_iconst (v := -1) hx hb dX7_witness_18 (by decide) ?_
    exact wr_iret hx hb hr hlocks hS hP ⟨r1, (f 20), (f 21), (f 27), (f 28), (r 15), (r 16), (r 17), (r 18), (r 19), (r 22), (r 23), (r 24), (r 25), (r 26), rfl, atM_n hr1 c2 ⟨rfl, rfl, rfl, rfl, rfl⟩ (fun t i k h => Or.inr ⟨fun z => h (kfS_g z.1.1 z.1.2 z.2), rfl, rfl, rfl, rfl, rfl⟩), h27, h28⟩ dX7_witness_19
set_option maxHeartbeats 4000000 in
set_option maxRecDepth 100000 in
theorem n_seen (l : Launch) (G : GG) (y : Nat) (b : Nat → Nat) (f : Nat → Int32) (r : Nat → Nat → Int32) (row : Int32) (col : Int32) (h27 : nL 12 (f 27)) (h28 : nL 12 (f 28)) : RdI l yX7_seen cX7_seen 3 (some .int) ({ frames := 0, cells := 0, slots := 0, locals := 0 }) G (mM G y b f r) [.ref y, .int row, .int col] (fun q => (seM9 (f 27) (f 28) (r 24) (r 25) row col q)) := by
  refine rd_entry (by decide +kernel) (Nat.le_of_ble_eq_true rfl) ?_
  intro p e s m below meth c C0 hP hK ls hl
  have hS : va_S (fun q => s.heap.size ≤ q) s.heap s.heap [] := va_S.rf
  have hA : ∀ q, s.heap.size ≤ q → (fun q => s.heap.size ≤ q) q := fun _ h => h
  obtain ⟨hx, hb, hml, hown, hts, hr, hlocks, hin⟩ := C0
  have hown : s.vm.findClass RX7 = some m.cls := hown
  have hl : lv_has ls 3 [(0, .ref y), (1, .int row), (2, .int col)] := hl
  obtain ⟨n1, hn1, e1⟩ := h27
  obtain ⟨n2, hn2, e2⟩ := h28
  refine lv_iload_n hx hb dX7_seen_0 rfl (lv_at hl 1 rfl) ?_
  refine lv_if_lt (tgt := 35) hx hb dX7_seen_1 (by decide) (fun c1 => ?_) (fun c1 => ?_)
  · refine lv_iconst (v := -1) hx hb dX7_seen_35 (by decide) ?_
    exact rd_iret hx hb hr hlocks hS ((Or.inr ⟨fun z9 => z9.1.1 c1, rfl⟩)) dX7_seen_36
  · refine lv_iload_n hx hb dX7_seen_4 rfl (lv_at hl 1 rfl) ?_
    refine lv_aload_n hx hb dX7_seen_5 rfl (lv_at hl 0 rfl) ?_
    refine va_get (D := G.1) (ci := 7) (v := .int (f 27)) (C := RX7) (T := TX7) (N := 43) hx hb hts inX7 hown hK.1 hP 0 rfl rfl 27 (by decide) (hts _ mf_X7_233) (fun _ h9 => h9) rfl dX7_seen_6 ?_
    rw [show (f 27) = nI (n1) from e1]
    refine lv_icmp_ge (tgt := 35) hx hb dX7_seen_9 (by decide) (fun c2 => ?_) (fun c2 => ?_)
    · refine lv_iconst (v := -1) hx hb dX7_seen_35 (by decide) ?_
      exact rd_iret hx hb hr hlocks hS ((Or.inr ⟨fun z9 => z9.1.2 (by first | exact c2 | (rw [e1]; exact c2)), rfl⟩)) dX7_seen_36
    · refine lv_iload_n hx hb dX7_seen_12 rfl (lv_at hl 2 rfl) ?_
      refine lv_if_lt (tgt := 35) hx hb dX7_seen_13 (by decide) (fun c3 => ?_) (fun c3 => ?_)
      · refine lv_iconst (v := -1) hx hb dX7_seen_35 (by decide) ?_
        exact rd_iret hx hb hr hlocks hS ((Or.inr ⟨fun z9 => z9.2.1 c3, rfl⟩)) dX7_seen_36
      · refine lv_iload_n hx hb dX7_seen_16 rfl (lv_at hl 2 rfl) ?_
        refine lv_aload_n hx hb dX7_seen_17 rfl (lv_at hl 0 rfl) ?_
        refine va_get (D := G.1) (ci := 7) (v := .int (f 28)) (C := RX7) (T := TX7) (N := 43) hx hb hts inX7 hown hK.1 hP 0 rfl rfl 28 (by decide) (hts _ mf_X7_236) (fun _ h9 => h9) rfl dX7_seen_18 ?_
        rw [show (f 28) = nI (n2) from e2]
        refine lv_icmp_ge (tgt := 35) hx hb dX7_seen_21 (by decide) (fun c4 => ?_) (fun c4 => ?_)
        · refine lv_iconst (v := -1) hx hb dX7_seen_35 (by decide) ?_
          exact rd_iret hx hb hr hlocks hS ((Or.inr ⟨fun z9 => z9.2.2 (by first | exact c4 | (rw [e2]; exact c4)), rfl⟩)) dX7_seen_36
        · obtain ⟨i, hi, rfl⟩ := lt_ix (x := row) (n := n1) (by omega) c1 c2
          obtain ⟨k, hk, rfl⟩ := lt_ix (x := col) (n := n2) (by omega) c3 c4
          refine lv_aload_n hx hb dX7_seen_24 rfl (lv_at hl 0 rfl) ?_
          refine va_get (D := G.1) (ci := 7) (v := .ref (b 25)) (C := RX7) (T := TX7) (N := 43) hx hb hts inX7 hown hK.1 hP 0 rfl rfl 25 (by decide) (hts _ mf_X7_77) (fun _ h9 => h9) rfl dX7_seen_25 ?_
          refine lv_iload_n hx hb dX7_seen_28 rfl (lv_at hl 1 rfl) ?_
          refine xiald (f := (r 25)) hx hb hK hP 23 (i) (rfl) (by omega) (by decide) rfl dX7_seen_29 ?_
          refine lv_topi (fun v5 ev5 => ?_)
          refine lv_bipush (v := -2) hx hb dX7_seen_30 (by decide) ?_
          refine lv_icmp_ne (tgt := 37) hx hb dX7_seen_32 (by decide) (fun c6 => ?_) (fun c6 => ?_)
          · refine lv_aload_n hx hb dX7_seen_37 rfl (lv_at hl 0 rfl) ?_
            refine va_get (D := G.1) (ci := 7) (v := .ref (b 24)) (C := RX7) (T := TX7) (N := 43) hx hb hts inX7 hown hK.1 hP 0 rfl rfl 24 (by decide) (hts _ mf_X7_74) (fun _ h9 => h9) rfl dX7_seen_38 ?_
            refine lv_bipush (v := 12) hx hb dX7_seen_41 (by decide) ?_
            refine lv_iload_n hx hb dX7_seen_43 rfl (lv_at hl 1 rfl) ?_
            refine lv_imul hx hb dX7_seen_44 ?_
            refine lv_topi (fun v7 ev7 => ?_)
            obtain rfl : v7 = nI (12 * i) := nI_times ev7 rfl rfl
            refine lv_iload_n hx hb dX7_seen_45 rfl (lv_at hl 2 rfl) ?_
            refine lv_iadd hx hb dX7_seen_46 ?_
            refine lv_topi (fun v8 ev8 => ?_)
            obtain rfl : v8 = nI ((12 * i) + k) := nI_plus ev8 rfl rfl
            refine xiald (f := (r 24)) hx hb hK hP 22 (((12 * i) + k)) (rfl) (by omega) (by decide) rfl dX7_seen_47 ?_
            refine lv_topi (fun v9 ev9 => ?_)
            exact rd_iret hx hb hr hlocks hS ((Or.inl ⟨i, k, by omega, by omega, rfl, rfl, by first | exact inR_mk (by omega) hi | (rw [e1]; exact inR_mk (by omega) hi), by first | exact inR_mk (by omega) hk | (rw [e2]; exact inR_mk (by omega) hk), ev9.trans (if_neg (fun h9 => c6 (ev5.trans h9))).symm⟩)) dX7_seen_48
          · refine lv_iconst (v := -1) hx hb dX7_seen_35 (by decide) ?_
            exact rd_iret hx hb hr hlocks hS ((Or.inl ⟨i, k, by omega, by omega, rfl, rfl, by first | exact inR_mk (by omega) hi | (rw [e1]; exact inR_mk (by omega) hi), by first | exact inR_mk (by omega) hk | (rw [e2]; exact inR_mk (by omega) hk), (if_pos (ev5.symm.trans c6)).symm⟩)) dX7_seen_36
