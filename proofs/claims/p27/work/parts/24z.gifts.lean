
/-! leaves -/
def shO (r6 r9 r11 : Nat → Int32) (x y : Nat) : Int32 := if r6 x = 0 then -3 else if r11 (x * 12 + y) = 0 then r9 (x * 12 + y) else -2
def shV (r6 r12 : Nat → Int32) (x y : Nat) : Int32 := if r6 x = 0 then -1 else r12 (x * 12 + y)
def SHD (S : Nat → Nat → Int32) (l : Nat → Int32) (cl n : Nat) : Prop := ∀ x y, y < cl → 12 * x + y < n → l (x * 12 + y) = S x y
def SHE (S : Nat → Nat → Int32) (l : Nat → Int32) (b cl n : Nat) : Prop := ∀ x y, y < cl → 12 * x + y < n → l (b + 12 * x + y) = S x y
theorem SHD_0 {S : Nat → Nat → Int32} {l : Nat → Int32} {cl : Nat} : SHD S l cl (12 * 0) := fun x y _ h => absurd h (by omega)
theorem SHD_s {S : Nat → Nat → Int32} {l : Nat → Int32} {cl i k : Nat} {v : Int32} (hcl : cl ≤ 12) (h : SHD S l cl (12 * i + k)) (hk : k < cl) (e : v = S i k) : SHD S (upd l (i * 12 + k) v) cl (12 * i + (k + 1)) := fun x y hy hn => by
  by_cases c : x = i ∧ y = k
  · obtain ⟨rfl, rfl⟩ := c
    rw [pk_us]; exact e
  · rw [pk_un (by omega)]; exact h x y hy (by omega)
theorem SHD_r {S : Nat → Nat → Int32} {l : Nat → Int32} {cl i k : Nat} (hcl : cl ≤ 12) (h : SHD S l cl (12 * i + k)) (hk : k = cl) : SHD S l cl (12 * (i + 1)) := fun x y hy hn => h x y hy (by omega)
theorem SHE_0 {S : Nat → Nat → Int32} {l : Nat → Int32} {b cl : Nat} : SHE S l b cl (12 * 0) := fun x y _ h => absurd h (by omega)
theorem SHE_s {S : Nat → Nat → Int32} {l : Nat → Int32} {b cl i k : Nat} {v : Int32} (hcl : cl ≤ 12) (h : SHE S l b cl (12 * i + k)) (hk : k < cl) (e : v = S i k) : SHE S (upd l (b + 12 * i + k) v) b cl (12 * i + (k + 1)) := fun x y hy hn => by
  by_cases c : x = i ∧ y = k
  · obtain ⟨rfl, rfl⟩ := c
    rw [pk_us]; exact e
  · rw [pk_un (by omega)]; exact h x y hy (by omega)
theorem SHE_r {S : Nat → Nat → Int32} {l : Nat → Int32} {b cl i k : Nat} (hcl : cl ≤ 12) (h : SHE S l b cl (12 * i + k)) (hk : k = cl) : SHE S l b cl (12 * (i + 1)) := fun x y hy hn => h x y hy (by omega)
theorem shO_0 {r6 r9 r11 : Nat → Int32} {x y : Nat} (h : r6 x = 0) : -3 = shO r6 r9 r11 x y := (if_pos h).symm
theorem shO_k {r6 r9 r11 : Nat → Int32} {x y : Nat} (h : ¬ r6 x = 0) (h2 : ¬ r11 (x * 12 + y) = 0) : -2 = shO r6 r9 r11 x y := by unfold shO; rw [if_neg h, if_neg h2]
theorem shO_n {r6 r9 r11 : Nat → Int32} {x y : Nat} (h : ¬ r6 x = 0) (h2 : r11 (x * 12 + y) = 0) : r9 (x * 12 + y) = shO r6 r9 r11 x y := by unfold shO; rw [if_neg h, if_pos h2]
theorem shV_0 {r6 r12 : Nat → Int32} {x y : Nat} (h : r6 x = 0) : -1 = shV r6 r12 x y := (if_pos h).symm
theorem shV_n {r6 r12 : Nat → Int32} {x y : Nat} (h : ¬ r6 x = 0) : r12 (x * 12 + y) = shV r6 r12 x y := (if_neg h).symm
/-- what a gift tells of a place: of the class, of the reference -/
noncomputable def gcX (cl : Nat) (pl kd nu td ps ru : Nat → Int32) (x y : Nat) : Int32 := if pB (sndP cl pl kd x) = true then (if pB (kpP kd nu td ps ru (x * 12 + y)) = true then -2 else nu (x * 12 + y)) else -3
noncomputable def gcM (t : Nat) (r3 r4 r5 r6 r7 r8 r9 r10 r11 : Nat → Int32) (x y : Nat) : Int32 := if pB (sndN (r3 t) r11 r5 t x) = true then (if pB (kpM r4 r5 r6 r7 r8 r9 r10 t (144 * t + 12 * x + y)) = true then -2 else r6 (144 * t + 12 * x + y)) else -3
section GM
variable {t x y : Nat} {r3 r4 r5 r6 r7 r8 r9 r10 r11 : Nat → Int32}
theorem gcM_0 (h : ¬ sndN (r3 t) r11 r5 t x) : -3 = gcM t r3 r4 r5 r6 r7 r8 r9 r10 r11 x y := (if_neg (by rw [pB_f h]; decide)).symm
theorem gcM_k (h : sndN (r3 t) r11 r5 t x) (h2 : kpM r4 r5 r6 r7 r8 r9 r10 t (144 * t + 12 * x + y)) : -2 = gcM t r3 r4 r5 r6 r7 r8 r9 r10 r11 x y := by
  unfold gcM; rw [if_pos (pB_t h), if_pos (pB_t h2)]
theorem gcM_n (h : sndN (r3 t) r11 r5 t x) (h2 : ¬ kpM r4 r5 r6 r7 r8 r9 r10 t (144 * t + 12 * x + y)) : r6 (144 * t + 12 * x + y) = gcM t r3 r4 r5 r6 r7 r8 r9 r10 r11 x y := by
  unfold gcM; rw [if_pos (pB_t h), if_neg (by rw [pB_f h2]; decide)]
end GM
theorem LD_gc {rw cl bk : Nat} {pl kd nu td ps ru bf bl r6 r7 r8 r9 r10 r11 r12 r13 r14 l : Nat → Int32} (h : LDR rw cl bk pl kd nu td ps ru bf bl r6 r7 r8 r9 r10 r11 r12 r13 r14) (hcl : cl ≤ 12) (hs : SHD (shO r6 r9 r11) l cl (12 * rw)) : SHD (gcX cl pl kd nu td ps ru) l cl (12 * rw) := fun x y hy hn => by
  have hx : x < rw := by omega
  rw [hs x y hy hn]
  unfold gcX
  rcases (h x hx).2 with ⟨a, b, c⟩ | ⟨a, b, c⟩
  · rw [if_pos (pB_t b)]
    have c9 := (c y hy).2.1
    have c11 := (c y hy).2.2.2.1
    unfold kpI at c11
    by_cases z : rsF kd nu td ps ru (x * 12 + y) = 0 ∧ td (x * 12 + y) &&& 2 = 0
    · rw [if_pos z] at c11
      rw [if_neg (by rw [pB_f (fun w => w.elim (fun q => q z.2) (fun q => q z.1))]; decide), ← c9]
      exact (shO_n (by rw [a]; decide) c11).symm
    · rw [if_neg z] at c11
      rw [if_pos (pB_t (show kpP kd nu td ps ru (x * 12 + y) from Classical.byContradiction (fun w => z ⟨Classical.byContradiction (fun q => w (Or.inr q)), Classical.byContradiction (fun q => w (Or.inl q))⟩)))]
      exact (shO_k (by rw [a]; decide) (by rw [c11]; decide)).symm
  · rw [if_neg (by rw [pB_f b]; decide)]
    exact (shO_0 a).symm
def gvX (o : Prop) (gk : Nat) (q f1 f2 f3 : Int32) (pl kd nu td ps ru bf bl : Nat → Int32) (x9 n0 n1 : Int32) (ns : Nat → Int32) (y9 m0 m1 : Int32) (ms : Nat → Int32) : Prop := (¬ (o ∧ gk < 16) ∧ q = -1 ∧ y9 = x9 ∧ m0 = n0 ∧ m1 = n1 ∧ ms = ns) ∨ (o ∧ gk < 16 ∧ LDX f1 f2 f3 pl kd nu td ps ru bf bl (fun rw cl dn up r6 r7 _ r10 r11 => ((∃ x y, UNX kd nu rw cl dn up r6 r7 r10 (KA r11) x y) ∧ q = -1 ∧ y9 = x9 ∧ m0 = n0 ∧ m1 = n1 ∧ ms = ns) ∨ ((∀ x y, ¬ UNX kd nu rw cl dn up r6 r7 r10 (KA r11) x y) ∧ q = nI gk ∧ y9 = nI (gk + 1) ∧ m0 = nI rw ∧ m1 = nI cl ∧ SHD (gcX cl pl kd nu td ps ru) ms cl (12 * rw))))
def gvR (tb q : Int32) (r1 r2 r3 r4 r5 r6 r7 r8 r9 r10 r11 r12 r13 r14 : Nat → Int32) (g42 : Int32) (g39 g40 g41 : Nat → Int32) (w42 : Int32) (h39 h40 h41 : Nat → Int32) : Prop := (¬ (opn r1 tb ∧ ¬ g42 = 16) ∧ q = -1 ∧ w42 = g42 ∧ h39 = g39 ∧ h40 = g40 ∧ h41 = g41) ∨ ∃ t rw cl bk dn uq gm, t < 6 ∧ tb = nI t ∧ ¬ r1 t = 0 ∧ rw ≤ 12 ∧ cl ≤ 12 ∧ bk ≤ 12 ∧ r2 t = nI rw ∧ r3 t = nI cl ∧ r12 t = nI bk ∧ r4 (6 * t + 3) = nI dn ∧ r4 (6 * t + 4) = nI uq ∧ dn ≤ 1000000 ∧ uq ≤ 1000000 ∧ gm < 16 ∧ g42 = nI gm ∧ (((∃ x y, x < rw ∧ y < cl ∧ UNm rw cl t bk r3 r4 r5 r6 r7 r8 r9 r10 r11 r13 r14 dn uq x y) ∧ q = -1 ∧ w42 = g42 ∧ h39 = g39 ∧ h40 = g40 ∧ h41 = g41) ∨ ((∀ x y, x < rw → y < cl → ¬ UNm rw cl t bk r3 r4 r5 r6 r7 r8 r9 r10 r11 r13 r14 dn uq x y) ∧ q = nI gm ∧ w42 = nI (gm + 1) ∧ h40 = upd g40 gm (nI rw) ∧ h41 = upd g41 gm (nI cl) ∧ SHE (gcM t r3 r4 r5 r6 r7 r8 r9 r10 r11) h39 (144 * gm) cl (12 * rw) ∧ ∀ p, (p < 144 * gm ∨ 144 * gm + 144 ≤ p) → h39 p = g39 p))
/-! gift -/
def giX (x9 kx n0 n1 : Int32) (ns : Nat → Int32) (row col q : Int32) : Prop := (inR x9 kx ∧ ∃ i c, i < 12 ∧ c < 12 ∧ row = nI i ∧ col = nI c ∧ inR n0 row ∧ inR n1 col ∧ q = ns (i * 12 + c)) ∨ (¬ (inR x9 kx ∧ inR n0 row ∧ inR n1 col) ∧ q = -1)
theorem gi_at {x9 kx n0 n1 row col q : Int32} {ns : Nat → Int32} {k0 k1 : Nat} (h0 : k0 ≤ 12) (h1 : k1 ≤ 12) (e0 : n0 = nI k0) (e1 : n1 = nI k1) (hin : inR x9 kx) (h : (∃ i c, i < k0 ∧ c < k1 ∧ row = nI i ∧ col = nI c ∧ q = ns (i * 12 + c)) ∨ (q = -1 ∧ ¬ ∃ i c, i < k0 ∧ c < k1 ∧ row = nI i ∧ col = nI c)) : giX x9 kx n0 n1 ns row col q := by
  have mk : ∀ {k i : Nat}, k ≤ 12 → i < k → inR (nI k) (nI i) := fun hk hi => ⟨nI_pos (by omega), fun z => absurd ((nI_leI (by omega) (by omega)).mp z) (by omega)⟩
  rcases h with ⟨i, c, hi, hc, er, ec, e⟩ | ⟨e, hn⟩
  · exact Or.inl ⟨hin, i, c, by omega, by omega, er, ec, by rw [e0, er]; exact mk h0 hi, by rw [e1, ec]; exact mk h1 hc, e⟩
  · refine Or.inr ⟨fun ⟨_, b1, b2⟩ => hn ?_, e⟩
    rw [e0] at b1
    rw [e1] at b2
    obtain ⟨i, hi, er⟩ := inR_n (by omega) b1
    obtain ⟨c, hc, ec⟩ := inR_n (by omega) b2
    exact ⟨i, c, hi, hc, er, ec⟩
def gmX (g42 : Int32) (g40 g41 g39 : Nat → Int32) (x row col q : Int32) : Prop := (∃ k i c, k < 16 ∧ i < 12 ∧ c < 12 ∧ x = nI k ∧ row = nI i ∧ col = nI c ∧ giP g42 g40 g41 x row col ∧ q = g39 (144 * k + 12 * i + c)) ∨ (¬ giP g42 g40 g41 x row col ∧ q = -1)
/-! agree -/
def fuS (P : Nat → Nat → Prop) (q : Int32) : Prop := (q = -2 ∧ ∀ i c, i < 12 → c < 12 → ¬ P i c) ∨ ∃ i c, i < 12 ∧ c < 12 ∧ P i c ∧ q = nI (100 * i + c) ∧ ∀ x y, y < 12 → 12 * x + y < 12 * i + c → ¬ P x y
def ULX (n0 n1 p0 p1 : Int32) (ns ps : Nat → Int32) (i c : Nat) : Prop := (inR n0 (nI i) ∧ inR n1 (nI c)) ∧ (inR p0 (nI i) ∧ inR p1 (nI c)) ∧ ¬ ns (i * 12 + c) < 0 ∧ ¬ ps (i * 12 + c) < 0 ∧ ¬ ns (i * 12 + c) = ps (i * 12 + c)
def ULM (g40 g41 g39 : Nat → Int32) (a b i c : Nat) : Prop := (inR (g40 a) (nI i) ∧ inR (g41 a) (nI c)) ∧ (inR (g40 b) (nI i) ∧ inR (g41 b) (nI c)) ∧ ¬ g39 (144 * a + 12 * i + c) < 0 ∧ ¬ g39 (144 * b + 12 * i + c) < 0 ∧ ¬ g39 (144 * a + 12 * i + c) = g39 (144 * b + 12 * i + c)
def agX (x9 xa xb n0 n1 p0 p1 : Int32) (ns ps : Nat → Int32) (q : Int32) : Prop := (inR x9 xa ∧ inR x9 xb ∧ fuS (ULX n0 n1 p0 p1 ns ps) q) ∨ (¬ (inR x9 xa ∧ inR x9 xb) ∧ q = -1)
def agM (g42 xa xb : Int32) (g40 g41 g39 : Nat → Int32) (q : Int32) : Prop := (∃ a b, a < 16 ∧ b < 16 ∧ xa = nI a ∧ xb = nI b ∧ inR g42 xa ∧ inR g42 xb ∧ fuS (ULM g40 g41 g39 a b) q) ∨ (¬ (inR g42 xa ∧ inR g42 xb) ∧ q = -1)
theorem inR_mk {k i : Nat} (hk : k ≤ 16) (hi : i < k) : inR (nI k) (nI i) := ⟨nI_pos (by omega), fun z => absurd ((nI_leI (by omega) (by omega)).mp z) (by omega)⟩
abbrev rdL (G : GG) (a b la : Nat → Nat) (f lf : Nat → Int32) (r lr : Nat → Nat → Int32) : va_W := [((a 15), .inr (2, [.int (f 0), .int (f 1), .int (f 2), .int (f 3), .int (f 4), .ref (b 3), .ref (a 6), .ref (a 7), .ref (a 8), .ref (a 9), .ref (a 10), .ref (a 11), .ref (a 12), .ref (a 13), .ref (a 14)])), ((a 6), .inl (G.2.2.1, 12, .inl (r 6))), ((a 7), .inl (G.2.1, 12, .inl (r 7))), ((a 8), .inl (G.2.1, 144, .inl (r 8))), ((a 9), .inl (G.2.1, 144, .inl (r 9))), ((a 10), .inl (G.2.1, 144, .inl (r 10))), ((a 11), .inl (G.2.2.1, 144, .inl (r 11))), ((a 12), .inl (G.2.1, 144, .inl (r 12))), ((a 13), .inl (G.2.1, 144, .inl (r 13))), ((a 14), .inl (G.2.1, 144, .inl (r 14))), ((la 0), .inr (1, [.int (lf 0), .int (lf 1), .ref (la 1)])), ((la 1), .inl (G.2.1, 144, .inl (lr 2)))]
set_option maxHeartbeats 4000000 in
set_option maxRecDepth 100000 in
theorem e_X2_showOpenly (l : Launch) (G : GG) (a b la : Nat → Nat) (f lf : Nat → Int32) (r lr : Nat → Nat → Int32) (rw : Nat) (cl : Nat) (hrw : rw ≤ 12) (hcl : cl ≤ 12) (h0 : (f 0) = nI rw) (h1 : (f 1) = nI cl) : WrV l yX2_showOpenly cX2_showOpenly 6 ({ frames := 1, cells := 0, slots := 0, locals := 21 }) G (rdL G a b la f lf r lr) [.ref (a 15), .ref (la 0)] (fun w => ∃ (n_lf_0 : Int32) (n_lf_1 : Int32) (n_lr_2 : Nat → Int32), w = rdL G a b la f (upd (upd lf 0 n_lf_0) 1 n_lf_1) r (up2 lr 2 n_lr_2) ∧ (n_lf_0 = nI rw) ∧ (n_lf_1 = nI cl) ∧ (SHD (shO (r 6) (r 9) (r 11)) n_lr_2 cl (12 * rw))) := by
  refine wr_entryV (by decide +kernel) (Nat.le_of_ble_eq_true rfl) ?_
  intro p e s m below meth c A C0 hP hK hD hA ls hl
  have hS : va_S A s.heap s.heap [] := va_S.rf
  obtain ⟨hx, hb, hml, hown, hts, hr, hlocks, hin⟩ := C0
  have hown : s.vm.findClass RX2 = some m.cls := hown
  have hDD : ∀ f' lf' r' lr', va_D A (rdL G a b la f' lf' r' lr') := fun f' lf' r' lr' => D_same hD rfl
  have hl : lv_has ls 6 [(0, .ref (a 15)), (1, .ref (la 0))] := hl
  refine lv_aload_n hx hb dX2_showOpenly_0 rfl (lv_at hl 1 rfl) ?_
  refine lv_aload_n hx hb dX2_showOpenly_1 rfl (lv_at hl 0 rfl) ?_
  refine va_get (D := G.1) (ci := 2) (v := .int (f 0)) (C := RX2) (T := TX2) (N := 15) hx hb hts inX2 hown hK.1 hP 0 rfl rfl 0 (by decide) (hts _ mf_X2_9) (fun _ h9 => h9) rfl dX2_showOpenly_2 ?_
  rw [show (f 0) = nI (rw) from h0]
  refine va_put (D := G.1) (ci := 1) (v := .int (nI (rw))) (C := RX1) (T := TX1) (N := 3) hx hb hts inX1 tyX1 tyX1_ok nmX1 hown hK.1 hP (hDD _ _ _ _) hS 10 rfl rfl 0 (by decide) (hts _ mf_X2_165) (fun _ h9 => h9) rfl (tyX1_ok 0 (by decide)) (rfl) (rfl) (Nat.le_of_ble_eq_true rfl) dX2_showOpenly_5 (fun H locs hP _ hS => ?_)
  have hP : PP G (rdL G a b la f (upd lf 0 (nI (rw))) r lr) H := hP
  refine lv_aload_n hx hb dX2_showOpenly_8 rfl (lv_at hl 1 rfl) ?_
  refine lv_aload_n hx hb dX2_showOpenly_9 rfl (lv_at hl 0 rfl) ?_
  refine va_get (D := G.1) (ci := 2) (v := .int (f 1)) (C := RX2) (T := TX2) (N := 15) hx hb hts inX2 hown hK.1 hP 0 rfl rfl 1 (by decide) (hts _ mf_X2_15) (fun _ h9 => h9) rfl dX2_showOpenly_10 ?_
  rw [show (f 1) = nI (cl) from h1]
  refine va_put (D := G.1) (ci := 1) (v := .int (nI (cl))) (C := RX1) (T := TX1) (N := 3) hx hb hts inX1 tyX1 tyX1_ok nmX1 hown hK.1 hP (hDD _ _ _ _) hS 10 rfl rfl 1 (by decide) (hts _ mf_X2_168) (fun _ h9 => h9) rfl (tyX1_ok 1 (by decide)) (rfl) (rfl) (Nat.le_of_ble_eq_true rfl) dX2_showOpenly_13 (fun H locs hP _ hS => ?_)
  have hP : PP G (rdL G a b la f (upd (upd lf 0 (nI (rw))) 1 (nI (cl))) r lr) H := hP
  refine lv_iconst (v := 0) hx hb dX2_showOpenly_16 (by decide) ?_
  refine lv_istore_n (lv' := [(2, .int 0), (0, .ref (a 15)), (1, .ref (la 0))]) hx hb dX2_showOpenly_17 rfl hl (by decide) rfl (fun ls hl => ?_)
  have loop18 : ∀ (k1 i : Nat) (x2 : Nat → Int32), i ≤ rw → rw < i + k1 → (SHD (shO (r 6) (r 9) (r 11)) x2 cl (12 * i)) → ∀ (H : Heap) (locs : List Loc) (ls : Array Slot), PP G (rdL G a b la f (upd (upd lf 0 (nI (rw))) 1 (nI (cl))) r (up2 lr 2 x2)) H → va_S A s.heap H locs → lv_has ls 6 [(2, .int (nI i)), (0, .ref (a 15)), (1, .ref (la 0))] → W p l e ({ frames := 1, cells := 0, slots := 0, locals := 21 }) s m ([.ref (a 15), .ref (la 0)] : List Value).toArray below meth c H locs 0 0 (MQ below (QwV G (fun w => ∃ (n_lf_0 : Int32) (n_lf_1 : Int32) (n_lr_2 : Nat → Int32), w = rdL G a b la f (upd (upd lf 0 n_lf_0) 1 n_lf_1) r (up2 lr 2 n_lr_2) ∧ (n_lf_0 = nI rw) ∧ (n_lf_1 = nI cl) ∧ (SHD (shO (r 6) (r 9) (r 11)) n_lr_2 cl (12 * rw))) A) ([.ref (a 15), .ref (la 0)] : List Value).toArray s 0 0 A) (F0 m 18 ls []) := by
    intro k1
    induction k1 with
    | zero => intro i x2 h1 h2; exact absurd h1 (by omega)
    | succ k1 ih18k1 =>
      intro i x2 hi_i hk_i hs9 H locs ls hP hS hl
      refine lv_iload_n hx hb dX2_showOpenly_18 rfl (lv_at hl 0 rfl) ?_
      refine lv_aload_n hx hb dX2_showOpenly_19 rfl (lv_at hl 1 rfl) ?_
      refine va_get (D := G.1) (ci := 2) (v := .int (f 0)) (C := RX2) (T := TX2) (N := 15) hx hb hts inX2 hown hK.1 hP 0 rfl rfl 0 (by decide) (hts _ mf_X2_9) (fun _ h9 => h9) rfl dX2_showOpenly_20 ?_
      rw [show (f 0) = nI (rw) from h0]
      refine lv_icmp_ge (tgt := 102) hx hb dX2_showOpenly_23 (by decide) (fun c3 => ?_) (fun c3 => ?_)
      · have b23 := qge_t (a := i) (b := (rw)) (by omega) (by omega) c3
        exact wr_vret hx hb hr hlocks hS hP ⟨(nI (rw)), (nI (cl)), x2, rfl, rfl, rfl, (by rw [show 12 * rw = 12 * i by omega]; exact hs9)⟩ dX2_showOpenly_102
      · have b23 := qge_f (a := i) (b := (rw)) (by omega) (by omega) c3
        refine lv_iconst (v := 0) hx hb dX2_showOpenly_26 (by decide) ?_
        refine lv_istore_n (lv' := [(3, .int 0), (2, .int (nI i)), (0, .ref (a 15)), (1, .ref (la 0))]) hx hb dX2_showOpenly_27 rfl hl (by decide) rfl (fun ls hl => ?_)
        have loop28 : ∀ (k4 k : Nat) (x5 : Nat → Int32), k ≤ cl → cl < k + k4 → (SHD (shO (r 6) (r 9) (r 11)) x5 cl (12 * i + k)) → ∀ (H : Heap) (locs : List Loc) (ls : Array Slot), PP G (rdL G a b la f (upd (upd lf 0 (nI (rw))) 1 (nI (cl))) r (up2 lr 2 x5)) H → va_S A s.heap H locs → lv_has ls 6 [(3, .int (nI k)), (2, .int (nI i)), (0, .ref (a 15)), (1, .ref (la 0))] → W p l e ({ frames := 1, cells := 0, slots := 0, locals := 21 }) s m ([.ref (a 15), .ref (la 0)] : List Value).toArray below meth c H locs 0 0 (MQ below (QwV G (fun w => ∃ (n_lf_0 : Int32) (n_lf_1 : Int32) (n_lr_2 : Nat → Int32), w = rdL G a b la f (upd (upd lf 0 n_lf_0) 1 n_lf_1) r (up2 lr 2 n_lr_2) ∧ (n_lf_0 = nI rw) ∧ (n_lf_1 = nI cl) ∧ (SHD (shO (r 6) (r 9) (r 11)) n_lr_2 cl (12 * rw))) A) ([.ref (a 15), .ref (la 0)] : List Value).toArray s 0 0 A) (F0 m 28 ls []) := by
          intro k4
          induction k4 with
          | zero => intro k x5 h1 h2; exact absurd h1 (by omega)
          | succ k4 ih28k4 =>
            intro k x5 hi_k hk_k hs9 H locs ls hP hS hl
            refine lv_iload_n hx hb dX2_showOpenly_28 rfl (lv_at hl 0 rfl) ?_
            refine lv_aload_n hx hb dX2_showOpenly_29 rfl (lv_at hl 2 rfl) ?_
            refine va_get (D := G.1) (ci := 2) (v := .int (f 1)) (C := RX2) (T := TX2) (N := 15) hx hb hts inX2 hown hK.1 hP 0 rfl rfl 1 (by decide) (hts _ mf_X2_15) (fun _ h9 => h9) rfl dX2_showOpenly_30 ?_
            rw [show (f 1) = nI (cl) from h1]
            refine lv_icmp_ge (tgt := 96) hx hb dX2_showOpenly_33 (by decide) (fun c6 => ?_) (fun c6 => ?_)
            · have b33 := qge_t (a := k) (b := (cl)) (by omega) (by omega) c6
              obtain ⟨v7, ev7⟩ : ∃ y9 : Int32, y9 = (nI i) + Int32.ofInt (1) := ⟨_, rfl⟩
              refine lv_iinc (v := v7) (lv' := [(2, .int v7), (3, .int (nI k)), (0, .ref (a 15)), (1, .ref (la 0))]) hx hb dX2_showOpenly_96 hl (k := 1) rfl ev7.symm (by decide) rfl (fun ls hl => ?_)
              obtain rfl : v7 = nI (i + 1) := nI_plus (i := i) (j := 1) ev7 rfl (by decide)
              refine lv_goto (tgt := 18) hx hb dX2_showOpenly_99 (by decide) ?_
              exact ih18k1 (i + 1) x5 (by omega) (by omega) (SHD_r hcl hs9 (by omega)) _ _ _ hP hS (lv_sub hl [0, 2, 3] rfl)
            · have b33 := qge_f (a := k) (b := (cl)) (by omega) (by omega) c6
              refine lv_iload_n hx hb dX2_showOpenly_36 rfl (lv_at hl 1 rfl) ?_
              refine lv_iload_n hx hb dX2_showOpenly_37 rfl (lv_at hl 0 rfl) ?_
              refine rdSN (rest := []) ⟨hx, hb, hml, hown, hts⟩ (c_X6_spotOf l G ((nI i)) ((nI k))) mi_yX6_spotOf mst_yX6_spotOf (by decide +kernel) ⟨rfl, rfl, Nat.le_of_ble_eq_true rfl, Nat.le_of_ble_eq_true rfl⟩ hK (fun k q h => by simp at h) rfl hl.1 rfl (Nat.le_of_ble_eq_true rfl) dX2_showOpenly_38 ⟨Nat.zero_le _, Nat.zero_le _⟩ hS hA hP (fun r8 H locs hr8 hP hS => ?_)
              obtain rfl : r8 = nI (i * 12 + k) := spot_eq hr8
              refine lv_istore (lv' := [(4, .int (nI (i * 12 + k))), (3, .int (nI k)), (2, .int (nI i)), (0, .ref (a 15)), (1, .ref (la 0))]) hx hb dX2_showOpenly_41 hl (by decide) rfl (fun ls hl => ?_)
              refine lv_aload_n hx hb dX2_showOpenly_43 rfl (lv_at hl 3 rfl) ?_
              refine va_get (D := G.1) (ci := 2) (v := .ref (a 11)) (C := RX2) (T := TX2) (N := 15) hx hb hts inX2 hown hK.1 hP 0 rfl rfl 11 (by decide) (hts _ mf_X2_51) (fun _ h9 => h9) rfl dX2_showOpenly_44 ?_
              refine lv_iload hx hb dX2_showOpenly_47 (lv_at hl 0 rfl) ?_
              refine xzald (f := (r 11)) hx hb hK hP 6 ((i * 12 + k)) (rfl) (by omega) (by decide) rfl dX2_showOpenly_49 ?_
              refine lv_topi (fun v9 ev9 => ?_)
              refine lv_if_eq (tgt := 58) hx hb dX2_showOpenly_50 (by decide) (fun c10 => ?_) (fun c10 => ?_)
              · refine lv_aload_n hx hb dX2_showOpenly_58 rfl (lv_at hl 3 rfl) ?_
                refine va_get (D := G.1) (ci := 2) (v := .ref (a 9)) (C := RX2) (T := TX2) (N := 15) hx hb hts inX2 hown hK.1 hP 0 rfl rfl 9 (by decide) (hts _ mf_X2_45) (fun _ h9 => h9) rfl dX2_showOpenly_59 ?_
                refine lv_iload hx hb dX2_showOpenly_62 (lv_at hl 0 rfl) ?_
                refine xiald (f := (r 9)) hx hb hK hP 4 ((i * 12 + k)) (rfl) (by omega) (by decide) rfl dX2_showOpenly_64 ?_
                refine lv_topi (fun v11 ev11 => ?_)
                refine lv_istore (lv' := [(5, .int v11), (4, .int (nI (i * 12 + k))), (3, .int (nI k)), (2, .int (nI i)), (0, .ref (a 15)), (1, .ref (la 0))]) hx hb dX2_showOpenly_65 hl (by decide) rfl (fun ls hl => ?_)
                refine lv_aload_n hx hb dX2_showOpenly_67 rfl (lv_at hl 5 rfl) ?_
                refine va_get (D := G.1) (ci := 1) (v := .ref (la 1)) (C := RX1) (T := TX1) (N := 3) hx hb hts inX1 hown hK.1 hP 10 rfl rfl 2 (by decide) (hts _ mf_X2_169) (fun _ h9 => h9) rfl dX2_showOpenly_68 ?_
                refine lv_iload hx hb dX2_showOpenly_71 (lv_at hl 1 rfl) ?_
                refine lv_aload_n hx hb dX2_showOpenly_73 rfl (lv_at hl 4 rfl) ?_
                refine va_get (D := G.1) (ci := 2) (v := .ref (a 6)) (C := RX2) (T := TX2) (N := 15) hx hb hts inX2 hown hK.1 hP 0 rfl rfl 6 (by decide) (hts _ mf_X2_34) (fun _ h9 => h9) rfl dX2_showOpenly_74 ?_
                refine lv_iload_n hx hb dX2_showOpenly_77 rfl (lv_at hl 3 rfl) ?_
                refine xzald (f := (r 6)) hx hb hK hP 1 (i) (rfl) (by omega) (by decide) rfl dX2_showOpenly_78 ?_
                refine lv_topi (fun v12 ev12 => ?_)
                refine lv_if_eq (tgt := 87) hx hb dX2_showOpenly_79 (by decide) (fun c13 => ?_) (fun c13 => ?_)
                · refine lv_bipush (v := -3) hx hb dX2_showOpenly_87 (by decide) ?_
                  refine xiast (f := x5) (x := (-3)) hx hb hK hP (hDD _ _ _ _) hS 11 ((i * 12 + k)) (rfl) (by omega) (by decide) rfl dX2_showOpenly_89 (fun H locs hP _ hS => ?_)
                  have hP : PP G (rdL G a b la f (upd (upd lf 0 (nI (rw))) 1 (nI (cl))) r (up2 lr 2 (upd x5 ((i * 12 + k)) ((-3))))) H := hP
                  obtain ⟨v14, ev14⟩ : ∃ y9 : Int32, y9 = (nI k) + Int32.ofInt (1) := ⟨_, rfl⟩
                  refine lv_iinc (v := v14) (lv' := [(3, .int v14), (5, .int v11), (4, .int (nI (i * 12 + k))), (2, .int (nI i)), (0, .ref (a 15)), (1, .ref (la 0))]) hx hb dX2_showOpenly_90 hl (k := 2) rfl ev14.symm (by decide) rfl (fun ls hl => ?_)
                  obtain rfl : v14 = nI (k + 1) := nI_plus (i := k) (j := 1) ev14 rfl (by decide)
                  refine lv_goto (tgt := 28) hx hb dX2_showOpenly_93 (by decide) ?_
                  exact ih28k4 (k + 1) (upd x5 ((i * 12 + k)) ((-3))) (by omega) (by omega) (SHD_s hcl hs9 (by omega) (shO_0 (ev12.symm.trans c13))) _ _ _ hP hS (lv_sub hl [0, 3, 4, 5] rfl)
                · refine lv_iload hx hb dX2_showOpenly_82 (lv_at hl 0 rfl) ?_
                  refine lv_goto (tgt := 89) hx hb dX2_showOpenly_84 (by decide) ?_
                  refine xiast (f := x5) (x := v11) hx hb hK hP (hDD _ _ _ _) hS 11 ((i * 12 + k)) (rfl) (by omega) (by decide) rfl dX2_showOpenly_89 (fun H locs hP _ hS => ?_)
                  have hP : PP G (rdL G a b la f (upd (upd lf 0 (nI (rw))) 1 (nI (cl))) r (up2 lr 2 (upd x5 ((i * 12 + k)) (v11)))) H := hP
                  obtain ⟨v15, ev15⟩ : ∃ y9 : Int32, y9 = (nI k) + Int32.ofInt (1) := ⟨_, rfl⟩
                  refine lv_iinc (v := v15) (lv' := [(3, .int v15), (5, .int v11), (4, .int (nI (i * 12 + k))), (2, .int (nI i)), (0, .ref (a 15)), (1, .ref (la 0))]) hx hb dX2_showOpenly_90 hl (k := 2) rfl ev15.symm (by decide) rfl (fun ls hl => ?_)
                  obtain rfl : v15 = nI (k + 1) := nI_plus (i := k) (j := 1) ev15 rfl (by decide)
                  refine lv_goto (tgt := 28) hx hb dX2_showOpenly_93 (by decide) ?_
                  exact ih28k4 (k + 1) (upd x5 ((i * 12 + k)) (v11)) (by omega) (by omega) (SHD_s hcl hs9 (by omega) (ev11.trans (shO_n (fun h9 => c13 (ev12.trans h9)) (ev9.symm.trans c10)))) _ _ _ hP hS (lv_sub hl [0, 3, 4, 5] rfl)
              · refine lv_bipush (v := -2) hx hb dX2_showOpenly_53 (by decide) ?_
                refine lv_goto (tgt := 65) hx hb dX2_showOpenly_55 (by decide) ?_
                refine lv_istore (lv' := [(5, .int (-2)), (4, .int (nI (i * 12 + k))), (3, .int (nI k)), (2, .int (nI i)), (0, .ref (a 15)), (1, .ref (la 0))]) hx hb dX2_showOpenly_65 hl (by decide) rfl (fun ls hl => ?_)
                refine lv_aload_n hx hb dX2_showOpenly_67 rfl (lv_at hl 5 rfl) ?_
                refine va_get (D := G.1) (ci := 1) (v := .ref (la 1)) (C := RX1) (T := TX1) (N := 3) hx hb hts inX1 hown hK.1 hP 10 rfl rfl 2 (by decide) (hts _ mf_X2_169) (fun _ h9 => h9) rfl dX2_showOpenly_68 ?_
                refine lv_iload hx hb dX2_showOpenly_71 (lv_at hl 1 rfl) ?_
                refine lv_aload_n hx hb dX2_showOpenly_73 rfl (lv_at hl 4 rfl) ?_
                refine va_get (D := G.1) (ci := 2) (v := .ref (a 6)) (C := RX2) (T := TX2) (N := 15) hx hb hts inX2 hown hK.1 hP 0 rfl rfl 6 (by decide) (hts _ mf_X2_34) (fun _ h9 => h9) rfl dX2_showOpenly_74 ?_
                refine lv_iload_n hx hb dX2_showOpenly_77 rfl (lv_at hl 3 rfl) ?_
                refine xzald (f := (r 6)) hx hb hK hP 1 (i) (rfl) (by omega) (by decide) rfl dX2_showOpenly_78 ?_
                refine lv_topi (fun v16 ev16 => ?_)
                refine lv_if_eq (tgt := 87) hx hb dX2_showOpenly_79 (by decide) (fun c17 => ?_) (fun c17 => ?_)
                · refine lv_bipush (v := -3) hx hb dX2_showOpenly_87 (by decide) ?_
                  refine xiast (f := x5) (x := (-3)) hx hb hK hP (hDD _ _ _ _) hS 11 ((i * 12 + k)) (rfl) (by omega) (by decide) rfl dX2_showOpenly_89 (fun H locs hP _ hS => ?_)
                  have hP : PP G (rdL G a b la f (upd (upd lf 0 (nI (rw))) 1 (nI (cl))) r (up2 lr 2 (upd x5 ((i * 12 + k)) ((-3))))) H := hP
                  obtain ⟨v18, ev18⟩ : ∃ y9 : Int32, y9 = (nI k) + Int32.ofInt (1) := ⟨_, rfl⟩
                  refine lv_iinc (v := v18) (lv' := [(3, .int v18), (5, .int (-2)), (4, .int (nI (i * 12 + k))), (2, .int (nI i)), (0, .ref (a 15)), (1, .ref (la 0))]) hx hb dX2_showOpenly_90 hl (k := 2) rfl ev18.symm (by decide) rfl (fun ls hl => ?_)
                  obtain rfl : v18 = nI (k + 1) := nI_plus (i := k) (j := 1) ev18 rfl (by decide)
                  refine lv_goto (tgt := 28) hx hb dX2_showOpenly_93 (by decide) ?_
                  exact ih28k4 (k + 1) (upd x5 ((i * 12 + k)) ((-3))) (by omega) (by omega) (SHD_s hcl hs9 (by omega) (shO_0 (ev16.symm.trans c17))) _ _ _ hP hS (lv_sub hl [0, 3, 4, 5] rfl)
                · refine lv_iload hx hb dX2_showOpenly_82 (lv_at hl 0 rfl) ?_
                  refine lv_goto (tgt := 89) hx hb dX2_showOpenly_84 (by decide) ?_
                  refine xiast (f := x5) (x := (-2)) hx hb hK hP (hDD _ _ _ _) hS 11 ((i * 12 + k)) (rfl) (by omega) (by decide) rfl dX2_showOpenly_89 (fun H locs hP _ hS => ?_)
                  have hP : PP G (rdL G a b la f (upd (upd lf 0 (nI (rw))) 1 (nI (cl))) r (up2 lr 2 (upd x5 ((i * 12 + k)) ((-2))))) H := hP
                  obtain ⟨v19, ev19⟩ : ∃ y9 : Int32, y9 = (nI k) + Int32.ofInt (1) := ⟨_, rfl⟩
                  refine lv_iinc (v := v19) (lv' := [(3, .int v19), (5, .int (-2)), (4, .int (nI (i * 12 + k))), (2, .int (nI i)), (0, .ref (a 15)), (1, .ref (la 0))]) hx hb dX2_showOpenly_90 hl (k := 2) rfl ev19.symm (by decide) rfl (fun ls hl => ?_)
                  obtain rfl : v19 = nI (k + 1) := nI_plus (i := k) (j := 1) ev19 rfl (by decide)
                  refine lv_goto (tgt := 28) hx hb dX2_showOpenly_93 (by decide) ?_
                  exact ih28k4 (k + 1) (upd x5 ((i * 12 + k)) ((-2))) (by omega) (by omega) (SHD_s hcl hs9 (by omega) (shO_k (fun h9 => c17 (ev16.trans h9)) (fun h9 => c10 (ev9.trans h9)))) _ _ _ hP hS (lv_sub hl [0, 3, 4, 5] rfl)
        exact loop28 (cl + 1) 0 x2 (by omega) (by omega) (hs9) _ _ _ hP hS (lv_sub hl [0, 1, 2, 3] rfl)
  exact loop18 (rw + 1) 0 (lr 2) (by omega) (by omega) (SHD_0) _ _ _ hP hS (lv_sub hl [0, 1, 2] rfl)
set_option maxHeartbeats 4000000 in
set_option maxRecDepth 100000 in
theorem e_X2_showValues (l : Launch) (G : GG) (a b la : Nat → Nat) (f lf : Nat → Int32) (r lr : Nat → Nat → Int32) (rw : Nat) (cl : Nat) (hrw : rw ≤ 12) (hcl : cl ≤ 12) (h0 : (f 0) = nI rw) (h1 : (f 1) = nI cl) : WrV l yX2_showValues cX2_showValues 5 ({ frames := 1, cells := 0, slots := 0, locals := 21 }) G (rdL G a b la f lf r lr) [.ref (a 15), .ref (la 0)] (fun w => ∃ (n_lf_0 : Int32) (n_lf_1 : Int32) (n_lr_2 : Nat → Int32), w = rdL G a b la f (upd (upd lf 0 n_lf_0) 1 n_lf_1) r (up2 lr 2 n_lr_2) ∧ (n_lf_0 = nI rw) ∧ (n_lf_1 = nI cl) ∧ (SHD (shV (r 6) (r 12)) n_lr_2 cl (12 * rw))) := by
  refine wr_entryV (by decide +kernel) (Nat.le_of_ble_eq_true rfl) ?_
  intro p e s m below meth c A C0 hP hK hD hA ls hl
  have hS : va_S A s.heap s.heap [] := va_S.rf
  obtain ⟨hx, hb, hml, hown, hts, hr, hlocks, hin⟩ := C0
  have hown : s.vm.findClass RX2 = some m.cls := hown
  have hDD : ∀ f' lf' r' lr', va_D A (rdL G a b la f' lf' r' lr') := fun f' lf' r' lr' => D_same hD rfl
  have hl : lv_has ls 5 [(0, .ref (a 15)), (1, .ref (la 0))] := hl
  refine lv_aload_n hx hb dX2_showValues_0 rfl (lv_at hl 1 rfl) ?_
  refine lv_aload_n hx hb dX2_showValues_1 rfl (lv_at hl 0 rfl) ?_
  refine va_get (D := G.1) (ci := 2) (v := .int (f 0)) (C := RX2) (T := TX2) (N := 15) hx hb hts inX2 hown hK.1 hP 0 rfl rfl 0 (by decide) (hts _ mf_X2_9) (fun _ h9 => h9) rfl dX2_showValues_2 ?_
  rw [show (f 0) = nI (rw) from h0]
  refine va_put (D := G.1) (ci := 1) (v := .int (nI (rw))) (C := RX1) (T := TX1) (N := 3) hx hb hts inX1 tyX1 tyX1_ok nmX1 hown hK.1 hP (hDD _ _ _ _) hS 10 rfl rfl 0 (by decide) (hts _ mf_X2_165) (fun _ h9 => h9) rfl (tyX1_ok 0 (by decide)) (rfl) (rfl) (Nat.le_of_ble_eq_true rfl) dX2_showValues_5 (fun H locs hP _ hS => ?_)
  have hP : PP G (rdL G a b la f (upd lf 0 (nI (rw))) r lr) H := hP
  refine lv_aload_n hx hb dX2_showValues_8 rfl (lv_at hl 1 rfl) ?_
  refine lv_aload_n hx hb dX2_showValues_9 rfl (lv_at hl 0 rfl) ?_
  refine va_get (D := G.1) (ci := 2) (v := .int (f 1)) (C := RX2) (T := TX2) (N := 15) hx hb hts inX2 hown hK.1 hP 0 rfl rfl 1 (by decide) (hts _ mf_X2_15) (fun _ h9 => h9) rfl dX2_showValues_10 ?_
  rw [show (f 1) = nI (cl) from h1]
  refine va_put (D := G.1) (ci := 1) (v := .int (nI (cl))) (C := RX1) (T := TX1) (N := 3) hx hb hts inX1 tyX1 tyX1_ok nmX1 hown hK.1 hP (hDD _ _ _ _) hS 10 rfl rfl 1 (by decide) (hts _ mf_X2_168) (fun _ h9 => h9) rfl (tyX1_ok 1 (by decide)) (rfl) (rfl) (Nat.le_of_ble_eq_true rfl) dX2_showValues_13 (fun H locs hP _ hS => ?_)
  have hP : PP G (rdL G a b la f (upd (upd lf 0 (nI (rw))) 1 (nI (cl))) r lr) H := hP
  refine lv_iconst (v := 0) hx hb dX2_showValues_16 (by decide) ?_
  refine lv_istore_n (lv' := [(2, .int 0), (0, .ref (a 15)), (1, .ref (la 0))]) hx hb dX2_showValues_17 rfl hl (by decide) rfl (fun ls hl => ?_)
  have loop18 : ∀ (k1 i : Nat) (x2 : Nat → Int32), i ≤ rw → rw < i + k1 → (SHD (shV (r 6) (r 12)) x2 cl (12 * i)) → ∀ (H : Heap) (locs : List Loc) (ls : Array Slot), PP G (rdL G a b la f (upd (upd lf 0 (nI (rw))) 1 (nI (cl))) r (up2 lr 2 x2)) H → va_S A s.heap H locs → lv_has ls 5 [(2, .int (nI i)), (0, .ref (a 15)), (1, .ref (la 0))] → W p l e ({ frames := 1, cells := 0, slots := 0, locals := 21 }) s m ([.ref (a 15), .ref (la 0)] : List Value).toArray below meth c H locs 0 0 (MQ below (QwV G (fun w => ∃ (n_lf_0 : Int32) (n_lf_1 : Int32) (n_lr_2 : Nat → Int32), w = rdL G a b la f (upd (upd lf 0 n_lf_0) 1 n_lf_1) r (up2 lr 2 n_lr_2) ∧ (n_lf_0 = nI rw) ∧ (n_lf_1 = nI cl) ∧ (SHD (shV (r 6) (r 12)) n_lr_2 cl (12 * rw))) A) ([.ref (a 15), .ref (la 0)] : List Value).toArray s 0 0 A) (F0 m 18 ls []) := by
    intro k1
    induction k1 with
    | zero => intro i x2 h1 h2; exact absurd h1 (by omega)
    | succ k1 ih18k1 =>
      intro i x2 hi_i hk_i hs9 H locs ls hP hS hl
      refine lv_iload_n hx hb dX2_showValues_18 rfl (lv_at hl 0 rfl) ?_
      refine lv_aload_n hx hb dX2_showValues_19 rfl (lv_at hl 1 rfl) ?_
      refine va_get (D := G.1) (ci := 2) (v := .int (f 0)) (C := RX2) (T := TX2) (N := 15) hx hb hts inX2 hown hK.1 hP 0 rfl rfl 0 (by decide) (hts _ mf_X2_9) (fun _ h9 => h9) rfl dX2_showValues_20 ?_
      rw [show (f 0) = nI (rw) from h0]
      refine lv_icmp_ge (tgt := 82) hx hb dX2_showValues_23 (by decide) (fun c3 => ?_) (fun c3 => ?_)
      · have b23 := qge_t (a := i) (b := (rw)) (by omega) (by omega) c3
        exact wr_vret hx hb hr hlocks hS hP ⟨(nI (rw)), (nI (cl)), x2, rfl, rfl, rfl, (by rw [show 12 * rw = 12 * i by omega]; exact hs9)⟩ dX2_showValues_82
      · have b23 := qge_f (a := i) (b := (rw)) (by omega) (by omega) c3
        refine lv_iconst (v := 0) hx hb dX2_showValues_26 (by decide) ?_
        refine lv_istore_n (lv' := [(3, .int 0), (2, .int (nI i)), (0, .ref (a 15)), (1, .ref (la 0))]) hx hb dX2_showValues_27 rfl hl (by decide) rfl (fun ls hl => ?_)
        have loop28 : ∀ (k4 k : Nat) (x5 : Nat → Int32), k ≤ cl → cl < k + k4 → (SHD (shV (r 6) (r 12)) x5 cl (12 * i + k)) → ∀ (H : Heap) (locs : List Loc) (ls : Array Slot), PP G (rdL G a b la f (upd (upd lf 0 (nI (rw))) 1 (nI (cl))) r (up2 lr 2 x5)) H → va_S A s.heap H locs → lv_has ls 5 [(3, .int (nI k)), (2, .int (nI i)), (0, .ref (a 15)), (1, .ref (la 0))] → W p l e ({ frames := 1, cells := 0, slots := 0, locals := 21 }) s m ([.ref (a 15), .ref (la 0)] : List Value).toArray below meth c H locs 0 0 (MQ below (QwV G (fun w => ∃ (n_lf_0 : Int32) (n_lf_1 : Int32) (n_lr_2 : Nat → Int32), w = rdL G a b la f (upd (upd lf 0 n_lf_0) 1 n_lf_1) r (up2 lr 2 n_lr_2) ∧ (n_lf_0 = nI rw) ∧ (n_lf_1 = nI cl) ∧ (SHD (shV (r 6) (r 12)) n_lr_2 cl (12 * rw))) A) ([.ref (a 15), .ref (la 0)] : List Value).toArray s 0 0 A) (F0 m 28 ls []) := by
          intro k4
          induction k4 with
          | zero => intro k x5 h1 h2; exact absurd h1 (by omega)
          | succ k4 ih28k4 =>
            intro k x5 hi_k hk_k hs9 H locs ls hP hS hl
            refine lv_iload_n hx hb dX2_showValues_28 rfl (lv_at hl 0 rfl) ?_
            refine lv_aload_n hx hb dX2_showValues_29 rfl (lv_at hl 2 rfl) ?_
            refine va_get (D := G.1) (ci := 2) (v := .int (f 1)) (C := RX2) (T := TX2) (N := 15) hx hb hts inX2 hown hK.1 hP 0 rfl rfl 1 (by decide) (hts _ mf_X2_15) (fun _ h9 => h9) rfl dX2_showValues_30 ?_
            rw [show (f 1) = nI (cl) from h1]
            refine lv_icmp_ge (tgt := 76) hx hb dX2_showValues_33 (by decide) (fun c6 => ?_) (fun c6 => ?_)
            · have b33 := qge_t (a := k) (b := (cl)) (by omega) (by omega) c6
              obtain ⟨v7, ev7⟩ : ∃ y9 : Int32, y9 = (nI i) + Int32.ofInt (1) := ⟨_, rfl⟩
              refine lv_iinc (v := v7) (lv' := [(2, .int v7), (3, .int (nI k)), (0, .ref (a 15)), (1, .ref (la 0))]) hx hb dX2_showValues_76 hl (k := 1) rfl ev7.symm (by decide) rfl (fun ls hl => ?_)
              obtain rfl : v7 = nI (i + 1) := nI_plus (i := i) (j := 1) ev7 rfl (by decide)
              refine lv_goto (tgt := 18) hx hb dX2_showValues_79 (by decide) ?_
              exact ih18k1 (i + 1) x5 (by omega) (by omega) (SHD_r hcl hs9 (by omega)) _ _ _ hP hS (lv_sub hl [0, 2, 3] rfl)
            · have b33 := qge_f (a := k) (b := (cl)) (by omega) (by omega) c6
              refine lv_iload_n hx hb dX2_showValues_36 rfl (lv_at hl 1 rfl) ?_
              refine lv_iload_n hx hb dX2_showValues_37 rfl (lv_at hl 0 rfl) ?_
              refine rdSN (rest := []) ⟨hx, hb, hml, hown, hts⟩ (c_X6_spotOf l G ((nI i)) ((nI k))) mi_yX6_spotOf mst_yX6_spotOf (by decide +kernel) ⟨rfl, rfl, Nat.le_of_ble_eq_true rfl, Nat.le_of_ble_eq_true rfl⟩ hK (fun k q h => by simp at h) rfl hl.1 rfl (Nat.le_of_ble_eq_true rfl) dX2_showValues_38 ⟨Nat.zero_le _, Nat.zero_le _⟩ hS hA hP (fun r8 H locs hr8 hP hS => ?_)
              obtain rfl : r8 = nI (i * 12 + k) := spot_eq hr8
              refine lv_istore (lv' := [(4, .int (nI (i * 12 + k))), (3, .int (nI k)), (2, .int (nI i)), (0, .ref (a 15)), (1, .ref (la 0))]) hx hb dX2_showValues_41 hl (by decide) rfl (fun ls hl => ?_)
              refine lv_aload_n hx hb dX2_showValues_43 rfl (lv_at hl 4 rfl) ?_
              refine va_get (D := G.1) (ci := 1) (v := .ref (la 1)) (C := RX1) (T := TX1) (N := 3) hx hb hts inX1 hown hK.1 hP 10 rfl rfl 2 (by decide) (hts _ mf_X2_169) (fun _ h9 => h9) rfl dX2_showValues_44 ?_
              refine lv_iload hx hb dX2_showValues_47 (lv_at hl 0 rfl) ?_
              refine lv_aload_n hx hb dX2_showValues_49 rfl (lv_at hl 3 rfl) ?_
              refine va_get (D := G.1) (ci := 2) (v := .ref (a 6)) (C := RX2) (T := TX2) (N := 15) hx hb hts inX2 hown hK.1 hP 0 rfl rfl 6 (by decide) (hts _ mf_X2_34) (fun _ h9 => h9) rfl dX2_showValues_50 ?_
              refine lv_iload_n hx hb dX2_showValues_53 rfl (lv_at hl 2 rfl) ?_
              refine xzald (f := (r 6)) hx hb hK hP 1 (i) (rfl) (by omega) (by decide) rfl dX2_showValues_54 ?_
              refine lv_topi (fun v9 ev9 => ?_)
              refine lv_if_eq (tgt := 68) hx hb dX2_showValues_55 (by decide) (fun c10 => ?_) (fun c10 => ?_)
              · refine lv_iconst (v := -1) hx hb dX2_showValues_68 (by decide) ?_
                refine xiast (f := x5) (x := (-1)) hx hb hK hP (hDD _ _ _ _) hS 11 ((i * 12 + k)) (rfl) (by omega) (by decide) rfl dX2_showValues_69 (fun H locs hP _ hS => ?_)
                have hP : PP G (rdL G a b la f (upd (upd lf 0 (nI (rw))) 1 (nI (cl))) r (up2 lr 2 (upd x5 ((i * 12 + k)) ((-1))))) H := hP
                obtain ⟨v11, ev11⟩ : ∃ y9 : Int32, y9 = (nI k) + Int32.ofInt (1) := ⟨_, rfl⟩
                refine lv_iinc (v := v11) (lv' := [(3, .int v11), (4, .int (nI (i * 12 + k))), (2, .int (nI i)), (0, .ref (a 15)), (1, .ref (la 0))]) hx hb dX2_showValues_70 hl (k := 1) rfl ev11.symm (by decide) rfl (fun ls hl => ?_)
                obtain rfl : v11 = nI (k + 1) := nI_plus (i := k) (j := 1) ev11 rfl (by decide)
                refine lv_goto (tgt := 28) hx hb dX2_showValues_73 (by decide) ?_
                exact ih28k4 (k + 1) (upd x5 ((i * 12 + k)) ((-1))) (by omega) (by omega) (SHD_s hcl hs9 (by omega) (shV_0 (ev9.symm.trans c10))) _ _ _ hP hS (lv_sub hl [0, 2, 3, 4] rfl)
              · refine lv_aload_n hx hb dX2_showValues_58 rfl (lv_at hl 3 rfl) ?_
                refine va_get (D := G.1) (ci := 2) (v := .ref (a 12)) (C := RX2) (T := TX2) (N := 15) hx hb hts inX2 hown hK.1 hP 0 rfl rfl 12 (by decide) (hts _ mf_X2_54) (fun _ h9 => h9) rfl dX2_showValues_59 ?_
                refine lv_iload hx hb dX2_showValues_62 (lv_at hl 0 rfl) ?_
                refine xiald (f := (r 12)) hx hb hK hP 7 ((i * 12 + k)) (rfl) (by omega) (by decide) rfl dX2_showValues_64 ?_
                refine lv_topi (fun v12 ev12 => ?_)
                refine lv_goto (tgt := 69) hx hb dX2_showValues_65 (by decide) ?_
                refine xiast (f := x5) (x := v12) hx hb hK hP (hDD _ _ _ _) hS 11 ((i * 12 + k)) (rfl) (by omega) (by decide) rfl dX2_showValues_69 (fun H locs hP _ hS => ?_)
                have hP : PP G (rdL G a b la f (upd (upd lf 0 (nI (rw))) 1 (nI (cl))) r (up2 lr 2 (upd x5 ((i * 12 + k)) (v12)))) H := hP
                obtain ⟨v13, ev13⟩ : ∃ y9 : Int32, y9 = (nI k) + Int32.ofInt (1) := ⟨_, rfl⟩
                refine lv_iinc (v := v13) (lv' := [(3, .int v13), (4, .int (nI (i * 12 + k))), (2, .int (nI i)), (0, .ref (a 15)), (1, .ref (la 0))]) hx hb dX2_showValues_70 hl (k := 1) rfl ev13.symm (by decide) rfl (fun ls hl => ?_)
                obtain rfl : v13 = nI (k + 1) := nI_plus (i := k) (j := 1) ev13 rfl (by decide)
                refine lv_goto (tgt := 28) hx hb dX2_showValues_73 (by decide) ?_
                exact ih28k4 (k + 1) (upd x5 ((i * 12 + k)) (v12)) (by omega) (by omega) (SHD_s hcl hs9 (by omega) (ev12.trans (shV_n (fun h9 => c10 (ev9.trans h9))))) _ _ _ hP hS (lv_sub hl [0, 2, 3, 4] rfl)
        exact loop28 (cl + 1) 0 x2 (by omega) (by omega) (hs9) _ _ _ hP hS (lv_sub hl [0, 1, 2, 3] rfl)
  exact loop18 (rw + 1) 0 (lr 2) (by omega) (by omega) (SHD_0) _ _ _ hP hS (lv_sub hl [0, 1, 2] rfl)
set_option maxHeartbeats 4000000 in
set_option maxRecDepth 100000 in
theorem e_X1_firstUnlike (l : Launch) (G : GG) (la lb : Nat → Nat) (lf mf : Nat → Int32) (lr mr : Nat → Nat → Int32) (hl0 : nL 12 (lf 0)) (hl1 : nL 12 (lf 1)) (hm0 : nL 12 (mf 0)) (hm1 : nL 12 (mf 1)) : RdI l yX1_firstUnlike cX1_firstUnlike 8 (some .int) ({ frames := 1, cells := 0, slots := 0, locals := 21 }) G (l2M G la lb lf mf lr mr) [.ref (la 0), .ref (lb 0)] (fun q => (fuS (ULX (lf 0) (lf 1) (mf 0) (mf 1) (lr 2) (mr 2)) q)) := by
  refine rd_entry (by decide +kernel) (Nat.le_of_ble_eq_true rfl) ?_
  intro p e s m below meth c C0 hP hK ls hl
  have hS : va_S (fun q => s.heap.size ≤ q) s.heap s.heap [] := va_S.rf
  have hA : ∀ q, s.heap.size ≤ q → (fun q => s.heap.size ≤ q) q := fun _ h => h
  obtain ⟨hx, hb, hml, hown, hts, hr, hlocks, hin⟩ := C0
  have hown : s.vm.findClass RX1 = some m.cls := hown
  have hl : lv_has ls 8 [(0, .ref (la 0)), (1, .ref (lb 0))] := hl
  obtain ⟨n0, hn0, en0⟩ := hl0
  obtain ⟨n1, hn1, en1⟩ := hl1
  obtain ⟨p0, hp0, ep0⟩ := hm0
  obtain ⟨p1, hp1, ep1⟩ := hm1
  have hlt : ∀ x y, x < 12 → y < 12 → ULX (lf 0) (lf 1) (mf 0) (mf 1) (lr 2) (mr 2) x y → x < min n0 p0 ∧ y < min n1 p1 := fun x y hx hy h => by have h1 := h.1; have h2 := h.2.1; rw [en0, en1] at h1; rw [ep0, ep1] at h2; have g1 := in_lt hn0 hx h1.1; have g2 := in_lt hn1 hy h1.2; have g3 := in_lt hp0 hx h2.1; have g4 := in_lt hp1 hy h2.2; omega
  refine lv_aload_n hx hb dX1_firstUnlike_0 rfl (lv_at hl 0 rfl) ?_
  refine va_get (D := G.1) (ci := 1) (v := .int (lf 0)) (C := RX1) (T := TX1) (N := 3) hx hb hts inX1 hown hK.1 hP 0 rfl rfl 0 (by decide) (hts _ mf_X1_9) (fun _ h9 => h9) rfl dX1_firstUnlike_1 ?_
  rw [show (lf 0) = nI (n0) from en0]
  refine lv_aload_n hx hb dX1_firstUnlike_4 rfl (lv_at hl 1 rfl) ?_
  refine va_get (D := G.1) (ci := 1) (v := .int (mf 0)) (C := RX1) (T := TX1) (N := 3) hx hb hts inX1 hown hK.1 hP 2 rfl rfl 0 (by decide) (hts _ mf_X1_9) (fun _ h9 => h9) rfl dX1_firstUnlike_5 ?_
  rw [show (mf 0) = nI (p0) from ep0]
  refine va_mmin hx hb (hml.trans hl.1.symm) hown (hts _ ml_X1_26) (hts _ mst_yJ9_min_7cf53) (hts _ mz_RJ9) (hts _ mcode_yJ9_min_7cf53) (Nat.le_of_ble_eq_true rfl) (Nat.le_of_ble_eq_true rfl) (Nat.zero_le _) (Nat.zero_le _) dX1_firstUnlike_8 ?_
  refine lv_topi (fun v1 ev1 => ?_)
  obtain rfl : v1 = nI (min n0 p0) := min_nat ev1 (by omega) (by omega)
  refine lv_istore_n (lv' := [(2, .int (nI (min n0 p0))), (0, .ref (la 0)), (1, .ref (lb 0))]) hx hb dX1_firstUnlike_11 rfl hl (by decide) rfl (fun ls hl => ?_)
  refine lv_aload_n hx hb dX1_firstUnlike_12 rfl (lv_at hl 1 rfl) ?_
  refine va_get (D := G.1) (ci := 1) (v := .int (lf 1)) (C := RX1) (T := TX1) (N := 3) hx hb hts inX1 hown hK.1 hP 0 rfl rfl 1 (by decide) (hts _ mf_X1_15) (fun _ h9 => h9) rfl dX1_firstUnlike_13 ?_
  rw [show (lf 1) = nI (n1) from en1]
  refine lv_aload_n hx hb dX1_firstUnlike_16 rfl (lv_at hl 2 rfl) ?_
  refine va_get (D := G.1) (ci := 1) (v := .int (mf 1)) (C := RX1) (T := TX1) (N := 3) hx hb hts inX1 hown hK.1 hP 2 rfl rfl 1 (by decide) (hts _ mf_X1_15) (fun _ h9 => h9) rfl dX1_firstUnlike_17 ?_
  rw [show (mf 1) = nI (p1) from ep1]
  refine va_mmin hx hb (hml.trans hl.1.symm) hown (hts _ ml_X1_26) (hts _ mst_yJ9_min_7cf53) (hts _ mz_RJ9) (hts _ mcode_yJ9_min_7cf53) (Nat.le_of_ble_eq_true rfl) (Nat.le_of_ble_eq_true rfl) (Nat.zero_le _) (Nat.zero_le _) dX1_firstUnlike_20 ?_
  refine lv_topi (fun v2 ev2 => ?_)
  obtain rfl : v2 = nI (min n1 p1) := min_nat ev2 (by omega) (by omega)
  refine lv_istore_n (lv' := [(3, .int (nI (min n1 p1))), (2, .int (nI (min n0 p0))), (0, .ref (la 0)), (1, .ref (lb 0))]) hx hb dX1_firstUnlike_23 rfl hl (by decide) rfl (fun ls hl => ?_)
  try rw [← en0, ← en1, ← ep0, ← ep1]
  refine lv_iconst (v := 0) hx hb dX1_firstUnlike_24 (by decide) ?_
  refine lv_istore (lv' := [(4, .int 0), (3, .int (nI (min n1 p1))), (2, .int (nI (min n0 p0))), (0, .ref (la 0)), (1, .ref (lb 0))]) hx hb dX1_firstUnlike_25 hl (by decide) rfl (fun ls hl => ?_)
  have loop27 : ∀ (k3 i : Nat) , i ≤ (min n0 p0) → (min n0 p0) < i + k3 → (∀ x y, y < 12 → 12 * x + y < 12 * i → ¬ ULX (lf 0) (lf 1) (mf 0) (mf 1) (lr 2) (mr 2) x y) → ∀ (H : Heap) (locs : List Loc) (ls : Array Slot), PP G (l2M G la lb lf mf lr mr) H → va_S (fun q => s.heap.size ≤ q) s.heap H locs → lv_has ls 8 [(4, .int (nI i)), (3, .int (nI (min n1 p1))), (2, .int (nI (min n0 p0))), (0, .ref (la 0)), (1, .ref (lb 0))] → W p l e ({ frames := 1, cells := 0, slots := 0, locals := 21 }) s m ([.ref (la 0), .ref (lb 0)] : List Value).toArray below meth c H locs 0 0 (MQ below (QrI (fun q => (fuS (ULX (lf 0) (lf 1) (mf 0) (mf 1) (lr 2) (mr 2)) q)) (fun q => s.heap.size ≤ q)) ([.ref (la 0), .ref (lb 0)] : List Value).toArray s 0 0 (fun q => s.heap.size ≤ q)) (F0 m 27 ls []) := by
    intro k3
    induction k3 with
    | zero => intro i  h1 h2; exact absurd h1 (by omega)
    | succ k3 ih27k3 =>
      intro i  hi_i hk_i hno H locs ls hP hS hl
      refine lv_iload hx hb dX1_firstUnlike_27 (lv_at hl 0 rfl) ?_
      refine lv_iload_n hx hb dX1_firstUnlike_29 rfl (lv_at hl 2 rfl) ?_
      refine lv_icmp_ge (tgt := 108) hx hb dX1_firstUnlike_30 (by decide) (fun c4 => ?_) (fun c4 => ?_)
      · have b30 := qge_t (a := i) (b := (min n0 p0)) (by omega) (by omega) c4
        refine lv_bipush (v := -2) hx hb dX1_firstUnlike_108 (by decide) ?_
        exact rd_iret hx hb hr hlocks hS ((Or.inl ⟨rfl, fun x y hx hy h => (by have h8 := hlt x y hx hy h; exact hno x y hy (by omega) h)⟩)) dX1_firstUnlike_110
      · have b30 := qge_f (a := i) (b := (min n0 p0)) (by omega) (by omega) c4
        refine lv_iconst (v := 0) hx hb dX1_firstUnlike_33 (by decide) ?_
        refine lv_istore (lv' := [(5, .int 0), (4, .int (nI i)), (3, .int (nI (min n1 p1))), (2, .int (nI (min n0 p0))), (0, .ref (la 0)), (1, .ref (lb 0))]) hx hb dX1_firstUnlike_34 hl (by decide) rfl (fun ls hl => ?_)
        have loop36 : ∀ (k5 j : Nat) , j ≤ (min n1 p1) → (min n1 p1) < j + k5 → (∀ x y, y < 12 → 12 * x + y < 12 * i + j → ¬ ULX (lf 0) (lf 1) (mf 0) (mf 1) (lr 2) (mr 2) x y) → ∀ (H : Heap) (locs : List Loc) (ls : Array Slot), PP G (l2M G la lb lf mf lr mr) H → va_S (fun q => s.heap.size ≤ q) s.heap H locs → lv_has ls 8 [(5, .int (nI j)), (4, .int (nI i)), (3, .int (nI (min n1 p1))), (2, .int (nI (min n0 p0))), (0, .ref (la 0)), (1, .ref (lb 0))] → W p l e ({ frames := 1, cells := 0, slots := 0, locals := 21 }) s m ([.ref (la 0), .ref (lb 0)] : List Value).toArray below meth c H locs 0 0 (MQ below (QrI (fun q => (fuS (ULX (lf 0) (lf 1) (mf 0) (mf 1) (lr 2) (mr 2)) q)) (fun q => s.heap.size ≤ q)) ([.ref (la 0), .ref (lb 0)] : List Value).toArray s 0 0 (fun q => s.heap.size ≤ q)) (F0 m 36 ls []) := by
          intro k5
          induction k5 with
          | zero => intro j  h1 h2; exact absurd h1 (by omega)
          | succ k5 ih36k5 =>
            intro j  hi_j hk_j hno H locs ls hP hS hl
            refine lv_iload hx hb dX1_firstUnlike_36 (lv_at hl 0 rfl) ?_
            refine lv_iload_n hx hb dX1_firstUnlike_38 rfl (lv_at hl 2 rfl) ?_
            refine lv_icmp_ge (tgt := 102) hx hb dX1_firstUnlike_39 (by decide) (fun c6 => ?_) (fun c6 => ?_)
            · have b39 := qge_t (a := j) (b := (min n1 p1)) (by omega) (by omega) c6
              obtain ⟨v7, ev7⟩ : ∃ y9 : Int32, y9 = (nI i) + Int32.ofInt (1) := ⟨_, rfl⟩
              refine lv_iinc (v := v7) (lv' := [(4, .int v7), (5, .int (nI j)), (3, .int (nI (min n1 p1))), (2, .int (nI (min n0 p0))), (0, .ref (la 0)), (1, .ref (lb 0))]) hx hb dX1_firstUnlike_102 hl (k := 1) rfl ev7.symm (by decide) rfl (fun ls hl => ?_)
              obtain rfl : v7 = nI (i + 1) := nI_plus (i := i) (j := 1) ev7 rfl (by decide)
              refine lv_goto (tgt := 27) hx hb dX1_firstUnlike_105 (by decide) ?_
              exact ih27k3 (i + 1) (by omega) (by omega) (fun x y hy h9 h => (by have h8 := hlt x y (by omega) hy h; exact hno x y hy (by omega) h)) _ _ _ hP hS (lv_sub hl [0, 2, 3, 4, 5] rfl)
            · have b39 := qge_f (a := j) (b := (min n1 p1)) (by omega) (by omega) c6
              refine lv_aload_n hx hb dX1_firstUnlike_42 rfl (lv_at hl 4 rfl) ?_
              refine va_get (D := G.1) (ci := 1) (v := .ref (la 1)) (C := RX1) (T := TX1) (N := 3) hx hb hts inX1 hown hK.1 hP 0 rfl rfl 2 (by decide) (hts _ mf_X1_18) (fun _ h9 => h9) rfl dX1_firstUnlike_43 ?_
              refine lv_iload hx hb dX1_firstUnlike_46 (lv_at hl 1 rfl) ?_
              refine lv_iload hx hb dX1_firstUnlike_48 (lv_at hl 0 rfl) ?_
              refine rdSN (rest := [.ref (la 1)]) ⟨hx, hb, hml, hown, hts⟩ (c_X6_spotOf l G ((nI i)) ((nI j))) mi_yX6_spotOf mst_yX6_spotOf (by decide +kernel) ⟨rfl, rfl, Nat.le_of_ble_eq_true rfl, Nat.le_of_ble_eq_true rfl⟩ hK (fun k q h => by simp at h) rfl hl.1 rfl (Nat.le_of_ble_eq_true rfl) dX1_firstUnlike_50 ⟨Nat.zero_le _, Nat.zero_le _⟩ hS hA hP (fun r8 H locs hr8 hP hS => ?_)
              obtain rfl : r8 = nI (i * 12 + j) := spot_eq hr8
              refine xiald (f := (lr 2)) hx hb hK hP 1 ((i * 12 + j)) (rfl) (by omega) (by decide) rfl dX1_firstUnlike_53 ?_
              refine lv_topi (fun v9 ev9 => ?_)
              refine lv_istore (lv' := [(6, .int v9), (5, .int (nI j)), (4, .int (nI i)), (3, .int (nI (min n1 p1))), (2, .int (nI (min n0 p0))), (0, .ref (la 0)), (1, .ref (lb 0))]) hx hb dX1_firstUnlike_54 hl (by decide) rfl (fun ls hl => ?_)
              refine lv_aload_n hx hb dX1_firstUnlike_56 rfl (lv_at hl 6 rfl) ?_
              refine va_get (D := G.1) (ci := 1) (v := .ref (lb 1)) (C := RX1) (T := TX1) (N := 3) hx hb hts inX1 hown hK.1 hP 2 rfl rfl 2 (by decide) (hts _ mf_X1_18) (fun _ h9 => h9) rfl dX1_firstUnlike_57 ?_
              refine lv_iload hx hb dX1_firstUnlike_60 (lv_at hl 2 rfl) ?_
              refine lv_iload hx hb dX1_firstUnlike_62 (lv_at hl 1 rfl) ?_
              refine rdSN (rest := [.ref (lb 1)]) ⟨hx, hb, hml, hown, hts⟩ (c_X6_spotOf l G ((nI i)) ((nI j))) mi_yX6_spotOf mst_yX6_spotOf (by decide +kernel) ⟨rfl, rfl, Nat.le_of_ble_eq_true rfl, Nat.le_of_ble_eq_true rfl⟩ hK (fun k q h => by simp at h) rfl hl.1 rfl (Nat.le_of_ble_eq_true rfl) dX1_firstUnlike_64 ⟨Nat.zero_le _, Nat.zero_le _⟩ hS hA hP (fun r10 H locs hr10 hP hS => ?_)
              obtain rfl : r10 = nI (i * 12 + j) := spot_eq hr10
              refine xiald (f := (mr 2)) hx hb hK hP 3 ((i * 12 + j)) (rfl) (by omega) (by decide) rfl dX1_firstUnlike_67 ?_
              refine lv_topi (fun v11 ev11 => ?_)
              refine lv_istore (lv' := [(7, .int v11), (6, .int v9), (5, .int (nI j)), (4, .int (nI i)), (3, .int (nI (min n1 p1))), (2, .int (nI (min n0 p0))), (0, .ref (la 0)), (1, .ref (lb 0))]) hx hb dX1_firstUnlike_68 hl (by decide) rfl (fun ls hl => ?_)
              refine lv_iload hx hb dX1_firstUnlike_70 (lv_at hl 1 rfl) ?_
              refine lv_if_lt (tgt := 96) hx hb dX1_firstUnlike_72 (by decide) (fun c12 => ?_) (fun c12 => ?_)
              · obtain ⟨v13, ev13⟩ : ∃ y9 : Int32, y9 = (nI j) + Int32.ofInt (1) := ⟨_, rfl⟩
                refine lv_iinc (v := v13) (lv' := [(5, .int v13), (7, .int v11), (6, .int v9), (4, .int (nI i)), (3, .int (nI (min n1 p1))), (2, .int (nI (min n0 p0))), (0, .ref (la 0)), (1, .ref (lb 0))]) hx hb dX1_firstUnlike_96 hl (k := 2) rfl ev13.symm (by decide) rfl (fun ls hl => ?_)
                obtain rfl : v13 = nI (j + 1) := nI_plus (i := j) (j := 1) ev13 rfl (by decide)
                refine lv_goto (tgt := 36) hx hb dX1_firstUnlike_99 (by decide) ?_
                exact ih36k5 (j + 1) (by omega) (by omega) (fun x y hy h9 => if c9 : x = i ∧ y = j then (by obtain ⟨rfl, rfl⟩ := c9; exact fun h => h.2.2.1 (by rw [← ev9]; exact c12)) else hno x y hy (by omega)) _ _ _ hP hS (lv_sub hl [0, 3, 4, 5, 6, 7] rfl)
              · refine lv_iload hx hb dX1_firstUnlike_75 (lv_at hl 0 rfl) ?_
                refine lv_if_lt (tgt := 96) hx hb dX1_firstUnlike_77 (by decide) (fun c14 => ?_) (fun c14 => ?_)
                · obtain ⟨v15, ev15⟩ : ∃ y9 : Int32, y9 = (nI j) + Int32.ofInt (1) := ⟨_, rfl⟩
                  refine lv_iinc (v := v15) (lv' := [(5, .int v15), (7, .int v11), (6, .int v9), (4, .int (nI i)), (3, .int (nI (min n1 p1))), (2, .int (nI (min n0 p0))), (0, .ref (la 0)), (1, .ref (lb 0))]) hx hb dX1_firstUnlike_96 hl (k := 2) rfl ev15.symm (by decide) rfl (fun ls hl => ?_)
                  obtain rfl : v15 = nI (j + 1) := nI_plus (i := j) (j := 1) ev15 rfl (by decide)
                  refine lv_goto (tgt := 36) hx hb dX1_firstUnlike_99 (by decide) ?_
                  exact ih36k5 (j + 1) (by omega) (by omega) (fun x y hy h9 => if c9 : x = i ∧ y = j then (by obtain ⟨rfl, rfl⟩ := c9; exact fun h => h.2.2.2.1 (by rw [← ev11]; exact c14)) else hno x y hy (by omega)) _ _ _ hP hS (lv_sub hl [0, 3, 4, 5, 6, 7] rfl)
                · refine lv_iload hx hb dX1_firstUnlike_80 (lv_at hl 1 rfl) ?_
                  refine lv_iload hx hb dX1_firstUnlike_82 (lv_at hl 0 rfl) ?_
                  refine lv_icmp_eq (tgt := 96) hx hb dX1_firstUnlike_84 (by decide) (fun c16 => ?_) (fun c16 => ?_)
                  · obtain ⟨v17, ev17⟩ : ∃ y9 : Int32, y9 = (nI j) + Int32.ofInt (1) := ⟨_, rfl⟩
                    refine lv_iinc (v := v17) (lv' := [(5, .int v17), (7, .int v11), (6, .int v9), (4, .int (nI i)), (3, .int (nI (min n1 p1))), (2, .int (nI (min n0 p0))), (0, .ref (la 0)), (1, .ref (lb 0))]) hx hb dX1_firstUnlike_96 hl (k := 2) rfl ev17.symm (by decide) rfl (fun ls hl => ?_)
                    obtain rfl : v17 = nI (j + 1) := nI_plus (i := j) (j := 1) ev17 rfl (by decide)
                    refine lv_goto (tgt := 36) hx hb dX1_firstUnlike_99 (by decide) ?_
                    exact ih36k5 (j + 1) (by omega) (by omega) (fun x y hy h9 => if c9 : x = i ∧ y = j then (by obtain ⟨rfl, rfl⟩ := c9; exact fun h => h.2.2.2.2 (by rw [← ev9, ← ev11]; exact c16)) else hno x y hy (by omega)) _ _ _ hP hS (lv_sub hl [0, 3, 4, 5, 6, 7] rfl)
                  · refine lv_bipush (v := 100) hx hb dX1_firstUnlike_87 (by decide) ?_
                    refine lv_iload hx hb dX1_firstUnlike_89 (lv_at hl 3 rfl) ?_
                    refine lv_imul hx hb dX1_firstUnlike_91 ?_
                    refine lv_topi (fun v18 ev18 => ?_)
                    obtain rfl : v18 = nI (100 * i) := nI_times ev18 rfl rfl
                    refine lv_iload hx hb dX1_firstUnlike_92 (lv_at hl 2 rfl) ?_
                    refine lv_iadd hx hb dX1_firstUnlike_94 ?_
                    refine lv_topi (fun v19 ev19 => ?_)
                    obtain rfl : v19 = nI ((100 * i) + j) := nI_plus ev19 rfl rfl
                    exact rd_iret hx hb hr hlocks hS ((Or.inr ⟨i, j, by omega, by omega, ⟨⟨by rw [en0]; exact inR_mk (by omega) (by omega), by rw [en1]; exact inR_mk (by omega) (by omega)⟩, ⟨by rw [ep0]; exact inR_mk (by omega) (by omega), by rw [ep1]; exact inR_mk (by omega) (by omega)⟩, by rw [← ev9]; exact c12, by rw [← ev11]; exact c14, by rw [← ev9, ← ev11]; exact c16⟩, rfl, hno⟩)) dX1_firstUnlike_95
        exact loop36 ((min n1 p1) + 1) 0 (by omega) (by omega) (hno) _ _ _ hP hS (lv_sub hl [0, 1, 2, 3, 4, 5] rfl)
  exact loop27 ((min n0 p0) + 1) 0 (by omega) (by omega) (fun x y hy h9 => absurd h9 (by omega)) _ _ _ hP hS (lv_sub hl [0, 1, 2, 3, 4] rfl)
set_option maxHeartbeats 4000000 in
set_option maxRecDepth 100000 in
theorem y_give (l : Launch) (G : GG) (x : Nat) (xa ta a b ga ua la lb lc : Nat → Nat) (tg gg : Nat → Option Nat) (xf tf f qf gf uf lf mf nf : Nat → Int32) (tr r q gr ur lr mr nr : Nat → Nat → Int32) (tb : Int32) (j : Nat) (gk : Nat) (hj : j < 6) (hjt : tbJ tb j) (htg : tg j = some (ta 0)) (hT1 : nL 12 (tf 1)) (hT2 : nL 12 (tf 2)) (hT3 : nL 12 (tf 3)) (hT4 : nOK 12 12 (tr 4)) (hNC : ¬ (tf 0) = 0 → (∀ rw cl, rw ≤ 12 → cl ≤ 12 → (tf 1) = nI rw → (tf 2) = nI cl → NRC rw cl (tr 4) (tr 5) (tr 6)) ∧ ∃ dn up, dn ≤ 1000000 ∧ up ≤ 1000000 ∧ (tr 9) 3 = nI dn ∧ (tr 9) 4 = nI up) (hRB : RB adjR (q 0)) (hgk16 : gk ≤ 16) (hgk : gk < 16 → gg gk = some (lc 0)) (h9v : (xf 9) = nI gk) (hN0 : nL 12 (nf 0)) (hN1 : nL 12 (nf 1)) : WrI l yX6_give cX6_give 2 (some .int) ({ frames := 6, cells := 0, slots := 0, locals := 157 }) G (xM G x xa ta a b ga ua la lb lc tg gg xf tf f qf gf uf lf mf nf tr r q gr ur lr mr nr) [.ref x, .int tb] (fun qz w => ∃ (n_f_0 : Int32) (n_f_1 : Int32) (n_f_2 : Int32) (n_f_3 : Int32) (n_f_4 : Int32) (n_nf_0 : Int32) (n_nf_1 : Int32) (n_nr_2 : Nat → Int32) (n_q_0 : Nat → Int32) (n_q_1 : Nat → Int32) (n_q_2 : Nat → Int32) (n_qf_3 : Int32) (n_r_6 : Nat → Int32) (n_r_7 : Nat → Int32) (n_r_8 : Nat → Int32) (n_r_9 : Nat → Int32) (n_r_10 : Nat → Int32) (n_r_11 : Nat → Int32) (n_r_12 : Nat → Int32) (n_r_13 : Nat → Int32) (n_r_14 : Nat → Int32) (n_xf_0 : Int32) (n_xf_9 : Int32), w = xM G x xa ta a b ga ua la lb lc tg gg (upd (upd xf 0 n_xf_0) 9 n_xf_9) tf (upd (upd (upd (upd (upd f 0 n_f_0) 1 n_f_1) 2 n_f_2) 3 n_f_3) 4 n_f_4) (upd qf 3 n_qf_3) gf uf lf mf (upd (upd nf 0 n_nf_0) 1 n_nf_1) tr (up2 (up2 (up2 (up2 (up2 (up2 (up2 (up2 (up2 r 6 n_r_6) 7 n_r_7) 8 n_r_8) 9 n_r_9) 10 n_r_10) 11 n_r_11) 12 n_r_12) 13 n_r_13) 14 n_r_14) (up2 (up2 (up2 q 0 n_q_0) 1 n_q_1) 2 n_q_2) gr ur lr mr (up2 nr 2 n_nr_2) ∧ gvX (tbO tb j (tf 0)) gk qz (tf 1) (tf 2) (tf 3) (tr 4) (tr 5) (tr 6) (tr 7) (tr 8) (tr 9) (tr 10) (tr 11) (xf 9) (nf 0) (nf 1) (nr 2) n_xf_9 n_nf_0 n_nf_1 n_nr_2 ∧ (RB adjR n_q_0) ∧ (nL 12 n_nf_0) ∧ (nL 12 n_nf_1) ∧ (nL 16 n_xf_9)) := by
  refine wr_entryI (by decide +kernel) (Nat.le_of_ble_eq_true rfl) ?_
  intro p e s m below meth c A C0 hP hK hD hA ls hl
  have hS : va_S A s.heap s.heap [] := va_S.rf
  obtain ⟨hx, hb, hml, hown, hts, hr, hlocks, hin⟩ := C0
  have hown : s.vm.findClass RX6 = some m.cls := hown
  have hDD : ∀ xf' tf' f' qf' gf' uf' lf' mf' nf' tr' r' q' gr' ur' lr' mr' nr', va_D A (xM G x xa ta a b ga ua la lb lc tg gg xf' tf' f' qf' gf' uf' lf' mf' nf' tr' r' q' gr' ur' lr' mr' nr') := fun xf' tf' f' qf' gf' uf' lf' mf' nf' tr' r' q' gr' ur' lr' mr' nr' => D_same hD rfl
  have hl : lv_has ls 2 [(0, .ref x), (1, .int tb)] := hl
  have hg9 : nL 16 (xf 9) := ⟨gk, hgk16, h9v⟩
  refine lv_aload_n hx hb dX6_give_0 rfl (lv_at hl 0 rfl) ?_
  refine lv_aload_n hx hb dX6_give_1 rfl (lv_at hl 0 rfl) ?_
  refine lv_iload_n hx hb dX6_give_2 rfl (lv_at hl 1 rfl) ?_
  refine rdV (rest := [.ref x]) (q0 := 0) ⟨hx, hb, hml, hown, hts⟩ (x_tableStatus l G x xa ta a b ga ua la lb lc tg gg xf tf f qf gf uf lf mf nf tr r q gr ur lr mr nr tb j (by omega) hjt htg) mi_yX6_tableStatus mv_yX6_tableStatus ml_X6_73 ⟨rfl, rfl, Nat.le_of_ble_eq_true rfl, Nat.le_of_ble_eq_true rfl⟩ hK (hP) rfl rfl rfl hl.1 rfl (Nat.le_of_ble_eq_true rfl) dX6_give_3 ⟨Nat.zero_le _, Nat.zero_le _⟩ hS hA hP (fun r1 H locs hr1 hP hS => ?_)
  have hr1 : ((r1 = 0 ∧ tbO tb j (tf 0)) ∨ (r1 = 1 ∧ ¬ tbO tb j (tf 0))) := hr1
  refine wrVIa (rest := []) (q0 := 0) ⟨hx, hb, hml, hown, hts⟩ (x_settled l G x xa ta a b ga ua la lb lc tg gg xf tf f qf gf uf lf mf nf tr r q gr ur lr mr nr r1  ) mi_yX6_settled mv_yX6_settled ml_X6_65 ⟨rfl, rfl, Nat.le_of_ble_eq_true rfl, Nat.le_of_ble_eq_true rfl⟩ hK hP (hDD _ _ _ _ _ _ _ _ _ _ _ _ _ _ _ _ _) rfl rfl rfl hl.1 rfl (Nat.le_of_ble_eq_true rfl) dX6_give_6 ⟨Nat.zero_le _, Nat.zero_le _⟩ hS hA (fun r2 w3 H locs hw3 hP hS => ?_)
  obtain ⟨x4, rfl, hw3r⟩ := hw3
  have hP : PP G (xM G x xa ta a b ga ua la lb lc tg gg (upd xf 0 x4) tf f qf gf uf lf mf nf tr r q gr ur lr mr nr) H := hP
  have hw3r : ((r2 = 1 ∧ ((r1 : Int32) = 0)) ∨ (r2 = 0 ∧ ¬ ((r1 : Int32) = 0))) := hw3r
  refine lv_if_ne (tgt := 14) hx hb dX6_give_9 (by decide) (fun c5 => ?_) (fun c5 => ?_)
  · have b9 := bT hw3r c5
    obtain ⟨ej, ho⟩ := st0 hr1 b9
    subst ej
    obtain ⟨rw, hrw, t1⟩ := hT1
    obtain ⟨cl, hcl, t2⟩ := hT2
    obtain ⟨bk, hbk, t3⟩ := hT3
    have hT1 : nL 12 (tf 1) := ⟨rw, hrw, t1⟩
    have hT2 : nL 12 (tf 2) := ⟨cl, hcl, t2⟩
    have hT3 : nL 12 (tf 3) := ⟨bk, hbk, t3⟩
    refine lv_aload_n hx hb dX6_give_14 rfl (lv_at hl 0 rfl) ?_
    refine va_get (D := G.1) (ci := 6) (v := .int (xf 9)) (C := RX6) (T := TX6) (N := 10) hx hb hts inX6 hown hK.1 hP 0 rfl rfl 9 (by decide) (hts _ mf_X6_57) (fun _ h9 => h9) rfl dX6_give_15 ?_
    rw [show (xf 9) = nI (gk) from h9v]
    refine lv_bipush (v := 16) hx hb dX6_give_18 (by decide) ?_
    refine lv_icmp_lt (tgt := 30) hx hb dX6_give_20 (by decide) (fun c6 => ?_) (fun c6 => ?_)
    · have b20 := qlt_t (a := (gk)) (b := 16) (by omega) (by omega) c6
      refine lv_aload_n hx hb dX6_give_30 rfl (lv_at hl 0 rfl) ?_
      refine va_get (D := G.1) (ci := 6) (v := .ref (a 15)) (C := RX6) (T := TX6) (N := 10) hx hb hts inX6 hown hK.1 hP 0 rfl rfl 2 (by decide) (hts _ mf_X6_22) (fun _ h9 => h9) rfl dX6_give_31 ?_
      refine lv_aload_n hx hb dX6_give_34 rfl (lv_at hl 0 rfl) ?_
      refine va_get (D := G.1) (ci := 6) (v := .ref (xa 1)) (C := RX6) (T := TX6) (N := 10) hx hb hts inX6 hown hK.1 hP 0 rfl rfl 1 (by decide) (hts _ mf_X6_15) (fun _ h9 => h9) rfl dX6_give_35 ?_
      refine lv_iload_n hx hb dX6_give_38 rfl (lv_at hl 1 rfl) ?_
      refine xaldT hx hb hK hP 1 (j) (b := (ta 0)) rfl (by omega) (by decide) rfl (htg) dX6_give_39 ?_
      refine lawV (rest := []) (q0 := 0) ⟨hx, hb, hml, hown, hts⟩ (e_X2_load l G a b ta f tf r tr rw cl bk hrw hcl hbk t1 t2 t3) mi_yX2_load mv_yX2_load ml_X6_184 ⟨rfl, rfl, Nat.le_of_ble_eq_true rfl, Nat.le_of_ble_eq_true rfl⟩ hK hP (hDD _ _ _ _ _ _ _ _ _ _ _ _ _ _ _ _ _) (pl_perm (xBlk G x xa ta a b ga ua la lb lc tg gg (upd xf 0 x4) tf f qf gf uf lf mf nf tr r q gr ur lr mr nr) (sel := [2, 1]) (oth := [0, 3, 4, 5, 6, 7, 8, 9]) (by decide)) rfl rfl rfl hl.1 rfl (Nat.le_of_ble_eq_true rfl) dX6_give_40 ⟨Nat.zero_le _, Nat.zero_le _⟩ hS hA (fun w22 H locs hw22 hP hS => ?_)
      obtain ⟨x7, x8, x9, x10, x11, x12, x13, x14, x15, x16, x17, x18, x19, x20, rfl, h0, h1, h2, h3, h4, hLD⟩ := hw22
      have hP : PP G (xM G x xa ta a b ga ua la lb lc tg gg (upd xf 0 x4) tf (upd (upd (upd (upd (upd f 0 x7) 1 x8) 2 x9) 3 x10) 4 x11) qf gf uf lf mf nf tr (up2 (up2 (up2 (up2 (up2 (up2 (up2 (up2 (up2 r 6 x12) 7 x13) 8 x14) 9 x15) 10 x16) 11 x17) 12 x18) 13 x19) 14 x20) q gr ur lr mr nr) H := (hP rfl (xM G x xa ta a b ga ua la lb lc tg gg (upd xf 0 x4) tf (upd (upd (upd (upd (upd f 0 x7) 1 x8) 2 x9) 3 x10) 4 x11) qf gf uf lf mf nf tr (up2 (up2 (up2 (up2 (up2 (up2 (up2 (up2 (up2 r 6 x12) 7 x13) 8 x14) 9 x15) 10 x16) 11 x17) 12 x18) 13 x19) 14 x20) q gr ur lr mr nr) (pl_perm (xBlk G x xa ta a b ga ua la lb lc tg gg (upd xf 0 x4) tf (upd (upd (upd (upd (upd f 0 x7) 1 x8) 2 x9) 3 x10) 4 x11) qf gf uf lf mf nf tr (up2 (up2 (up2 (up2 (up2 (up2 (up2 (up2 (up2 r 6 x12) 7 x13) 8 x14) 9 x15) 10 x16) 11 x17) 12 x18) 13 x19) 14 x20) q gr ur lr mr nr) (sel := [2, 1]) (oth := [0, 3, 4, 5, 6, 7, 8, 9]) (by decide))).1
      obtain ⟨hNC1, dn, up, hdn, hup, e3, e4⟩ := hNC ho
      have hNR := hNC1 rw cl hrw hcl t1 t2
      have hLD : LDR rw cl bk (tr 4) (tr 5) (tr 6) (tr 7) (tr 8) (tr 9) (tr 10) (tr 11) x12 x13 x14 x15 x16 x17 x18 x19 x20 := hLD
      have h0 : x7 = nI rw := h0
      have h1 : x8 = nI cl := h1
      have h2 : x9 = nI dn := h2.trans e3
      have h3 : x10 = nI up := h3.trans e4
      have hRN := (LD_rv hLD hcl hNR).1
      have hRD := LD_rd hLD hrw hcl hbk hNR
      have hSC := LD_sc hLD
      have hSS : ∀ x y, x < rw → y < cl → ¬ x16 (x * 12 + y) = 0 → ¬ x12 x = 0 := fun x y h7 h8 h9 => (hSC x y h7 h8 h9).1
      have hcs := LD_cs hLD hbk
      have hRS : RSY x12 x13 x17 rw cl (NTc (tr 6)) (LTc (tr 5) (tr 6) cl) (HTc (tr 5) (tr 6) cl) x11 (q 0) := Or.inl h4
      have hNN : ∀ x y, x < rw → y < cl → ¬ x12 x = 0 → ∃ m, m ≤ 1000000 ∧ tr 6 (x * 12 + y) = nI m := fun x y h7 h8 h9 => hNR x y h7 h8 ((LD_so hLD h7).mp h9)
      refine lv_aload_n hx hb dX6_give_43 rfl (lv_at hl 0 rfl) ?_
      refine va_get (D := G.1) (ci := 6) (v := .ref (a 15)) (C := RX6) (T := TX6) (N := 10) hx hb hts inX6 hown hK.1 hP 0 rfl rfl 2 (by decide) (hts _ mf_X6_22) (fun _ h9 => h9) rfl dX6_give_44 ?_
      refine lawI (rest := []) (q0 := 0) ⟨hx, hb, hml, hown, hts⟩ (e_X2_countUnsafe l G a b (upd (upd (upd (upd (upd f 0 x7) 1 x8) 2 x9) 3 x10) 4 x11) qf (up2 (up2 (up2 (up2 (up2 (up2 (up2 (up2 (up2 r 6 x12) 7 x13) 8 x14) 9 x15) 10 x16) 11 x17) 12 x18) 13 x19) 14 x20) q rw cl dn up (NTc (tr 6)) (NTc (tr 6)) (LTc (tr 5) (tr 6) cl) (HTc (tr 5) (tr 6) cl) hrw hcl h0 h1 h2 h3 hdn hup hRN hSS hRD hRS hRB) mi_yX2_countUnsafe mv_yX2_countUnsafe ml_X6_191 ⟨rfl, rfl, Nat.le_of_ble_eq_true rfl, Nat.le_of_ble_eq_true rfl⟩ hK hP (hDD _ _ _ _ _ _ _ _ _ _ _ _ _ _ _ _ _) (pl_perm (xBlk G x xa ta a b ga ua la lb lc tg gg (upd xf 0 x4) tf (upd (upd (upd (upd (upd f 0 x7) 1 x8) 2 x9) 3 x10) 4 x11) qf gf uf lf mf nf tr (up2 (up2 (up2 (up2 (up2 (up2 (up2 (up2 (up2 r 6 x12) 7 x13) 8 x14) 9 x15) 10 x16) 11 x17) 12 x18) 13 x19) 14 x20) q gr ur lr mr nr) (sel := [2, 3]) (oth := [0, 1, 4, 5, 6, 7, 8, 9]) (by decide)) rfl rfl rfl hl.1 rfl (Nat.le_of_ble_eq_true rfl) dX6_give_47 ⟨Nat.zero_le _, Nat.zero_le _⟩ hS hA (fun r29 w30 H locs hw30 hP hS => ?_)
      obtain ⟨x23, x24, x25, x26, x27, x28, rfl, hcn, hRB⟩ := hw30
      have hP : PP G (xM G x xa ta a b ga ua la lb lc tg gg (upd xf 0 x4) tf (upd (upd (upd (upd (upd f 0 x7) 1 x8) 2 x9) 3 x10) 4 x23) (upd qf 3 x27) gf uf lf mf nf tr (up2 (up2 (up2 (up2 (up2 (up2 (up2 (up2 (up2 r 6 x12) 7 x13) 8 x14) 9 x15) 10 x16) 11 x17) 12 x28) 13 x19) 14 x20) (up2 (up2 (up2 q 0 x24) 1 x25) 2 x26) gr ur lr mr nr) H := (hP rfl (xM G x xa ta a b ga ua la lb lc tg gg (upd xf 0 x4) tf (upd (upd (upd (upd (upd f 0 x7) 1 x8) 2 x9) 3 x10) 4 x23) (upd qf 3 x27) gf uf lf mf nf tr (up2 (up2 (up2 (up2 (up2 (up2 (up2 (up2 (up2 r 6 x12) 7 x13) 8 x14) 9 x15) 10 x16) 11 x17) 12 x28) 13 x19) 14 x20) (up2 (up2 (up2 q 0 x24) 1 x25) 2 x26) gr ur lr mr nr) (pl_perm (xBlk G x xa ta a b ga ua la lb lc tg gg (upd xf 0 x4) tf (upd (upd (upd (upd (upd f 0 x7) 1 x8) 2 x9) 3 x10) 4 x23) (upd qf 3 x27) gf uf lf mf nf tr (up2 (up2 (up2 (up2 (up2 (up2 (up2 (up2 (up2 r 6 x12) 7 x13) 8 x14) 9 x15) 10 x16) 11 x17) 12 x28) 13 x19) 14 x20) (up2 (up2 (up2 q 0 x24) 1 x25) 2 x26) gr ur lr mr nr) (sel := [2, 3]) (oth := [0, 1, 4, 5, 6, 7, 8, 9]) (by decide))).1
      subst hcn
      have hrk := rk_b (M := (UNX (tr 5) (tr 6) rw cl dn up x12 x13 x16 (KA x17))) (12 * rw)
      refine lv_if_le (tgt := 60) hx hb dX6_give_50 (by decide) (fun c31 => ?_) (fun c31 => ?_)
      · have b50 := qle_t (a := (rkG (UNX (tr 5) (tr 6) rw cl dn up x12 x13 x16 (KA x17)) (12 * rw))) (b := 0) (by omega) (by omega) c31
        have hno9 : ∀ x y, ¬ (UNX (tr 5) (tr 6) rw cl dn up x12 x13 x16 (KA x17)) x y := fun x y h9 => by have h8 := rk_lt (M := (UNX (tr 5) (tr 6) rw cl dn up x12 x13 x16 (KA x17))) (x := x) (y := y) (n := 12 * rw) (by have := h9.2.1; omega) h9 (by have := h9.1; have := h9.2.1; omega); omega
        refine lv_aload_n hx hb dX6_give_60 rfl (lv_at hl 0 rfl) ?_
        refine va_get (D := G.1) (ci := 6) (v := .ref (a 15)) (C := RX6) (T := TX6) (N := 10) hx hb hts inX6 hown hK.1 hP 0 rfl rfl 2 (by decide) (hts _ mf_X6_22) (fun _ h9 => h9) rfl dX6_give_61 ?_
        refine lv_aload_n hx hb dX6_give_64 rfl (lv_at hl 0 rfl) ?_
        refine va_get (D := G.1) (ci := 6) (v := .ref (xa 8)) (C := RX6) (T := TX6) (N := 10) hx hb hts inX6 hown hK.1 hP 0 rfl rfl 8 (by decide) (hts _ mf_X6_53) (fun _ h9 => h9) rfl dX6_give_65 ?_
        refine lv_aload_n hx hb dX6_give_68 rfl (lv_at hl 0 rfl) ?_
        refine va_get (D := G.1) (ci := 6) (v := .int (xf 9)) (C := RX6) (T := TX6) (N := 10) hx hb hts inX6 hown hK.1 hP 0 rfl rfl 9 (by decide) (hts _ mf_X6_57) (fun _ h9 => h9) rfl dX6_give_69 ?_
        rw [show (xf 9) = nI (gk) from h9v]
        refine xaldL hx hb hK hP 46 ((gk)) (b := (lc 0)) rfl (by omega) (by decide) rfl (hgk (by omega)) dX6_give_72 ?_
        refine lawV (rest := []) (q0 := 0) ⟨hx, hb, hml, hown, hts⟩ (e_X2_showOpenly l G a b lc (upd (upd (upd (upd (upd f 0 x7) 1 x8) 2 x9) 3 x10) 4 x23) nf (up2 (up2 (up2 (up2 (up2 (up2 (up2 (up2 (up2 r 6 x12) 7 x13) 8 x14) 9 x15) 10 x16) 11 x17) 12 x28) 13 x19) 14 x20) nr rw cl hrw hcl h0 h1) mi_yX2_showOpenly mv_yX2_showOpenly ml_X6_239 ⟨rfl, rfl, Nat.le_of_ble_eq_true rfl, Nat.le_of_ble_eq_true rfl⟩ hK hP (hDD _ _ _ _ _ _ _ _ _ _ _ _ _ _ _ _ _) (pl_perm (xBlk G x xa ta a b ga ua la lb lc tg gg (upd xf 0 x4) tf (upd (upd (upd (upd (upd f 0 x7) 1 x8) 2 x9) 3 x10) 4 x23) (upd qf 3 x27) gf uf lf mf nf tr (up2 (up2 (up2 (up2 (up2 (up2 (up2 (up2 (up2 r 6 x12) 7 x13) 8 x14) 9 x15) 10 x16) 11 x17) 12 x28) 13 x19) 14 x20) (up2 (up2 (up2 q 0 x24) 1 x25) 2 x26) gr ur lr mr nr) (sel := [2, 9]) (oth := [0, 1, 3, 4, 5, 6, 7, 8]) (by decide)) rfl rfl rfl hl.1 rfl (Nat.le_of_ble_eq_true rfl) dX6_give_73 ⟨Nat.zero_le _, Nat.zero_le _⟩ hS hA (fun w36 H locs hw36 hP hS => ?_)
        obtain ⟨x32, x33, x34, rfl, hl0_, hl1_, hsh⟩ := hw36
        have hP : PP G (xM G x xa ta a b ga ua la lb lc tg gg (upd xf 0 x4) tf (upd (upd (upd (upd (upd f 0 x7) 1 x8) 2 x9) 3 x10) 4 x23) (upd qf 3 x27) gf uf lf mf (upd (upd nf 0 x32) 1 x33) tr (up2 (up2 (up2 (up2 (up2 (up2 (up2 (up2 (up2 r 6 x12) 7 x13) 8 x14) 9 x15) 10 x16) 11 x17) 12 x28) 13 x19) 14 x20) (up2 (up2 (up2 q 0 x24) 1 x25) 2 x26) gr ur lr mr (up2 nr 2 x34)) H := (hP rfl (xM G x xa ta a b ga ua la lb lc tg gg (upd xf 0 x4) tf (upd (upd (upd (upd (upd f 0 x7) 1 x8) 2 x9) 3 x10) 4 x23) (upd qf 3 x27) gf uf lf mf (upd (upd nf 0 x32) 1 x33) tr (up2 (up2 (up2 (up2 (up2 (up2 (up2 (up2 (up2 r 6 x12) 7 x13) 8 x14) 9 x15) 10 x16) 11 x17) 12 x28) 13 x19) 14 x20) (up2 (up2 (up2 q 0 x24) 1 x25) 2 x26) gr ur lr mr (up2 nr 2 x34)) (pl_perm (xBlk G x xa ta a b ga ua la lb lc tg gg (upd xf 0 x4) tf (upd (upd (upd (upd (upd f 0 x7) 1 x8) 2 x9) 3 x10) 4 x23) (upd qf 3 x27) gf uf lf mf (upd (upd nf 0 x32) 1 x33) tr (up2 (up2 (up2 (up2 (up2 (up2 (up2 (up2 (up2 r 6 x12) 7 x13) 8 x14) 9 x15) 10 x16) 11 x17) 12 x28) 13 x19) 14 x20) (up2 (up2 (up2 q 0 x24) 1 x25) 2 x26) gr ur lr mr (up2 nr 2 x34)) (sel := [2, 9]) (oth := [0, 1, 3, 4, 5, 6, 7, 8]) (by decide))).1
        have hN0 : nL 12 x32 := ⟨rw, hrw, hl0_⟩
        have hN1 : nL 12 x33 := ⟨cl, hcl, hl1_⟩
        refine lv_aload_n hx hb dX6_give_76 rfl (lv_at hl 0 rfl) ?_
        refine lv_dup hx hb dX6_give_77 rfl ?_
        refine va_get (D := G.1) (ci := 6) (v := .int (xf 9)) (C := RX6) (T := TX6) (N := 10) hx hb hts inX6 hown hK.1 hP 0 rfl rfl 9 (by decide) (hts _ mf_X6_57) (fun _ h9 => h9) rfl dX6_give_78 ?_
        rw [show (xf 9) = nI (gk) from h9v]
        refine lv_iconst (v := 1) hx hb dX6_give_81 (by decide) ?_
        refine lv_iadd hx hb dX6_give_82 ?_
        refine lv_topi (fun v37 ev37 => ?_)
        obtain rfl : v37 = nI ((gk) + 1) := nI_plus ev37 rfl rfl
        refine va_put (D := G.1) (ci := 6) (v := .int (nI ((gk) + 1))) (C := RX6) (T := TX6) (N := 10) hx hb hts inX6 tyX6 tyX6_ok nmX6 hown hK.1 hP (hDD _ _ _ _ _ _ _ _ _ _ _ _ _ _ _ _ _) hS 0 rfl rfl 9 (by decide) (hts _ mf_X6_57) (fun _ h9 => h9) rfl (tyX6_ok 9 (by decide)) (rfl) (rfl) (Nat.le_of_ble_eq_true rfl) dX6_give_83 (fun H locs hP _ hS => ?_)
        have hP : PP G (xM G x xa ta a b ga ua la lb lc tg gg (upd (upd xf 0 x4) 9 (nI ((gk) + 1))) tf (upd (upd (upd (upd (upd f 0 x7) 1 x8) 2 x9) 3 x10) 4 x23) (upd qf 3 x27) gf uf lf mf (upd (upd nf 0 x32) 1 x33) tr (up2 (up2 (up2 (up2 (up2 (up2 (up2 (up2 (up2 r 6 x12) 7 x13) 8 x14) 9 x15) 10 x16) 11 x17) 12 x28) 13 x19) 14 x20) (up2 (up2 (up2 q 0 x24) 1 x25) 2 x26) gr ur lr mr (up2 nr 2 x34)) H := hP
        have hg9 : nL 16 (nI ((gk) + 1)) := ⟨gk + 1, by omega, rfl⟩
        refine lv_aload_n hx hb dX6_give_86 rfl (lv_at hl 0 rfl) ?_
        refine va_get (D := G.1) (ci := 6) (v := .int (nI ((gk) + 1))) (C := RX6) (T := TX6) (N := 10) hx hb hts inX6 hown hK.1 hP 0 rfl rfl 9 (by decide) (hts _ mf_X6_57) (fun _ h9 => h9) rfl dX6_give_87 ?_
        refine lv_iconst (v := 1) hx hb dX6_give_90 (by decide) ?_
        refine lv_isub hx hb dX6_give_91 ?_
        refine lv_topi (fun v38 ev38 => ?_)
        obtain rfl : v38 = nI (((gk) + 1) - 1) := nI_minus ev38 rfl rfl (by omega)
        exact wr_iret hx hb hr hlocks hS hP ⟨x7, x8, x9, x10, x23, x32, x33, x34, x24, x25, x26, x27, x12, x13, x14, x15, x16, x17, x28, x19, x20, x4, (nI ((gk) + 1)), rfl, (Or.inr ⟨⟨rfl, ho⟩, by omega, ⟨rw, cl, bk, dn, up, x12, x13, x14, x15, x16, x17, x18, x19, x20, hrw, hcl, hbk, t1, t2, t3, e3, e4, hdn, hup, hNR, hLD, Or.inr ⟨hno9, rfl, rfl, hl0_, hl1_, LD_gc hLD hcl hsh⟩⟩⟩), hRB, hN0, hN1, hg9⟩ dX6_give_92
      · have b50 := qle_f (a := (rkG (UNX (tr 5) (tr 6) rw cl dn up x12 x13 x16 (KA x17)) (12 * rw))) (b := 0) (by omega) (by omega) c31
        obtain ⟨ux_, uy_, _, _, hu9, _⟩ := rk_ex (M := (UNX (tr 5) (tr 6) rw cl dn up x12 x13 x16 (KA x17))) (12 * rw) (show 0 < rkG (UNX (tr 5) (tr 6) rw cl dn up x12 x13 x16 (KA x17)) (12 * rw) by omega)
        refine lv_aload_n hx hb dX6_give_53 rfl (lv_at hl 0 rfl) ?_
        refine lv_bipush (v := 10) hx hb dX6_give_54 (by decide) ?_
        refine wrVIa (rest := []) (q0 := 0) ⟨hx, hb, hml, hown, hts⟩ (x_refused l G x xa ta a b ga ua la lb lc tg gg (upd xf 0 x4) tf (upd (upd (upd (upd (upd f 0 x7) 1 x8) 2 x9) 3 x10) 4 x23) (upd qf 3 x27) gf uf lf mf nf tr (up2 (up2 (up2 (up2 (up2 (up2 (up2 (up2 (up2 r 6 x12) 7 x13) 8 x14) 9 x15) 10 x16) 11 x17) 12 x28) 13 x19) 14 x20) (up2 (up2 (up2 q 0 x24) 1 x25) 2 x26) gr ur lr mr nr 10  ) mi_yX6_refused mv_yX6_refused ml_X6_122 ⟨rfl, rfl, Nat.le_of_ble_eq_true rfl, Nat.le_of_ble_eq_true rfl⟩ hK hP (hDD _ _ _ _ _ _ _ _ _ _ _ _ _ _ _ _ _) rfl rfl rfl hl.1 rfl (Nat.le_of_ble_eq_true rfl) dX6_give_56 ⟨Nat.zero_le _, Nat.zero_le _⟩ hS hA (fun r39 w40 H locs hw40 hP hS => ?_)
        obtain ⟨x41, rfl, hw40r⟩ := hw40
        have hP : PP G (xM G x xa ta a b ga ua la lb lc tg gg (upd xf 0 x41) tf (upd (upd (upd (upd (upd f 0 x7) 1 x8) 2 x9) 3 x10) 4 x23) (upd qf 3 x27) gf uf lf mf nf tr (up2 (up2 (up2 (up2 (up2 (up2 (up2 (up2 (up2 r 6 x12) 7 x13) 8 x14) 9 x15) 10 x16) 11 x17) 12 x28) 13 x19) 14 x20) (up2 (up2 (up2 q 0 x24) 1 x25) 2 x26) gr ur lr mr nr) H := hP
        obtain rfl := hw40r
        exact wr_iret hx hb hr hlocks hS hP ⟨x7, x8, x9, x10, x23, (nf 0), (nf 1), (nr 2), x24, x25, x26, x27, x12, x13, x14, x15, x16, x17, x28, x19, x20, x41, (xf 9), rfl, (Or.inr ⟨⟨rfl, ho⟩, by omega, ⟨rw, cl, bk, dn, up, x12, x13, x14, x15, x16, x17, x18, x19, x20, hrw, hcl, hbk, t1, t2, t3, e3, e4, hdn, hup, hNR, hLD, Or.inl ⟨⟨ux_, uy_, hu9⟩, rfl, (by first | rfl | exact h9v), rfl, rfl, rfl⟩⟩⟩), hRB, hN0, hN1, hg9⟩ dX6_give_59
    · have b20 := qlt_f (a := (gk)) (b := 16) (by omega) (by omega) c6
      refine lv_aload_n hx hb dX6_give_23 rfl (lv_at hl 0 rfl) ?_
      refine lv_bipush (v := 8) hx hb dX6_give_24 (by decide) ?_
      refine wrVIa (rest := []) (q0 := 0) ⟨hx, hb, hml, hown, hts⟩ (x_refused l G x xa ta a b ga ua la lb lc tg gg (upd xf 0 x4) tf f qf gf uf lf mf nf tr r q gr ur lr mr nr 8  ) mi_yX6_refused mv_yX6_refused ml_X6_122 ⟨rfl, rfl, Nat.le_of_ble_eq_true rfl, Nat.le_of_ble_eq_true rfl⟩ hK hP (hDD _ _ _ _ _ _ _ _ _ _ _ _ _ _ _ _ _) rfl rfl rfl hl.1 rfl (Nat.le_of_ble_eq_true rfl) dX6_give_26 ⟨Nat.zero_le _, Nat.zero_le _⟩ hS hA (fun r42 w43 H locs hw43 hP hS => ?_)
      obtain ⟨x44, rfl, hw43r⟩ := hw43
      have hP : PP G (xM G x xa ta a b ga ua la lb lc tg gg (upd xf 0 x44) tf f qf gf uf lf mf nf tr r q gr ur lr mr nr) H := hP
      obtain rfl := hw43r
      exact wr_iret hx hb hr hlocks hS hP ⟨(f 0), (f 1), (f 2), (f 3), (f 4), (nf 0), (nf 1), (nr 2), (q 0), (q 1), (q 2), (qf 3), (r 6), (r 7), (r 8), (r 9), (r 10), (r 11), (r 12), (r 13), (r 14), x44, (xf 9), rfl, (Or.inl ⟨fun z9 => absurd z9.2 (by omega), rfl, (by first | rfl | exact h9v), rfl, rfl, rfl⟩), hRB, hN0, hN1, hg9⟩ dX6_give_29
  · have b9 := bF hw3r c5
    refine lv_iconst (v := -1) hx hb dX6_give_12 (by decide) ?_
    exact wr_iret hx hb hr hlocks hS hP ⟨(f 0), (f 1), (f 2), (f 3), (f 4), (nf 0), (nf 1), (nr 2), (q 0), (q 1), (q 2), (qf 3), (r 6), (r 7), (r 8), (r 9), (r 10), (r 11), (r 12), (r 13), (r 14), x4, (xf 9), rfl, (Or.inl ⟨fun z9 => st1 hr1 b9 z9.1, rfl, (by first | rfl | exact h9v), rfl, rfl, rfl⟩), hRB, hN0, hN1, hg9⟩ dX6_give_13
set_option maxHeartbeats 4000000 in
set_option maxRecDepth 100000 in
theorem y_gift (l : Launch) (G : GG) (x : Nat) (xa ta a b ga ua la lb lc : Nat → Nat) (tg gg : Nat → Option Nat) (xf tf f qf gf uf lf mf nf : Nat → Int32) (tr r q gr ur lr mr nr : Nat → Nat → Int32) (kx : Int32) (row : Int32) (col : Int32) (gk : Nat) (hg9 : nL 16 (xf 9)) (hgJ : gfJ kx gk) (hgk : gk < 16 → gg gk = some (lc 0)) (hN0 : nL 12 (nf 0)) (hN1 : nL 12 (nf 1)) : RdI l yX6_gift cX6_gift 4 (some .int) ({ frames := 2, cells := 0, slots := 0, locals := 44 }) G (xM G x xa ta a b ga ua la lb lc tg gg xf tf f qf gf uf lf mf nf tr r q gr ur lr mr nr) [.ref x, .int kx, .int row, .int col] (fun qz => (giX (xf 9) kx (nf 0) (nf 1) (nr 2) row col qz)) := by
  refine rd_entry (by decide +kernel) (Nat.le_of_ble_eq_true rfl) ?_
  intro p e s m below meth c C0 hP hK ls hl
  have hS : va_S (fun q => s.heap.size ≤ q) s.heap s.heap [] := va_S.rf
  have hA : ∀ q, s.heap.size ≤ q → (fun q => s.heap.size ≤ q) q := fun _ h => h
  obtain ⟨hx, hb, hml, hown, hts, hr, hlocks, hin⟩ := C0
  have hown : s.vm.findClass RX6 = some m.cls := hown
  have hl : lv_has ls 4 [(0, .ref x), (1, .int kx), (2, .int row), (3, .int col)] := hl
  refine lv_aload_n hx hb dX6_gift_0 rfl (lv_at hl 0 rfl) ?_
  refine lv_iload_n hx hb dX6_gift_1 rfl (lv_at hl 1 rfl) ?_
  refine rdV (rest := []) (q0 := 0) ⟨hx, hb, hml, hown, hts⟩ (x_isGift l G x xa ta a b ga ua la lb lc tg gg xf tf f qf gf uf lf mf nf tr r q gr ur lr mr nr kx  ) mi_yX6_isGift mv_yX6_isGift ml_X6_242 ⟨rfl, rfl, Nat.le_of_ble_eq_true rfl, Nat.le_of_ble_eq_true rfl⟩ hK (hP) rfl rfl rfl hl.1 rfl (Nat.le_of_ble_eq_true rfl) dX6_gift_2 ⟨Nat.zero_le _, Nat.zero_le _⟩ hS hA hP (fun r1 H locs hr1 hP hS => ?_)
  have hr1 : ((r1 = 1 ∧ (inR (xf 9) kx)) ∨ (r1 = 0 ∧ ¬ (inR (xf 9) kx))) := hr1
  refine lv_if_eq (tgt := 22) hx hb dX6_gift_5 (by decide) (fun c2 => ?_) (fun c2 => ?_)
  · have b5 := bF hr1 c2
    refine lv_iconst (v := -1) hx hb dX6_gift_22 (by decide) ?_
    exact rd_iret hx hb hr hlocks hS ((Or.inr ⟨fun z9 => b5 z9.1, rfl⟩)) dX6_gift_23
  · have b5 := bT hr1 c2
    obtain ⟨hk16, ekx⟩ := gf_j hg9 hgJ b5
    subst ekx
    refine lv_aload_n hx hb dX6_gift_8 rfl (lv_at hl 0 rfl) ?_
    refine va_get (D := G.1) (ci := 6) (v := .ref (xa 8)) (C := RX6) (T := TX6) (N := 10) hx hb hts inX6 hown hK.1 hP 0 rfl rfl 8 (by decide) (hts _ mf_X6_53) (fun _ h9 => h9) rfl dX6_gift_9 ?_
    refine lv_iload_n hx hb dX6_gift_12 rfl (lv_at hl 1 rfl) ?_
    refine xaldL hx hb hK hP 46 (gk) (b := (lc 0)) rfl (by omega) (by decide) rfl (hgk (by omega)) dX6_gift_13 ?_
    refine lv_iload_n hx hb dX6_gift_14 rfl (lv_at hl 2 rfl) ?_
    refine lv_iload_n hx hb dX6_gift_15 rfl (lv_at hl 3 rfl) ?_
    obtain ⟨k0, hk0, ek0⟩ := hN0
    obtain ⟨k1, hk1, ek1⟩ := hN1
    have hN0 : nL 12 (nf 0) := ⟨k0, hk0, ek0⟩
    have hN1 : nL 12 (nf 1) := ⟨k1, hk1, ek1⟩
    refine rdV (rest := []) (q0 := 0) ⟨hx, hb, hml, hown, hts⟩ (c_X1_at l G lc (nr 2) k0 k1 hk0 hk1 row col) mi_yX1_at mv_yX1_at ml_X6_206 ⟨rfl, rfl, Nat.le_of_ble_eq_true rfl, Nat.le_of_ble_eq_true rfl⟩ hK (leaf_w (blk_sub (ws' := lW G lc (nf 0) (nf 1) (nr 2)) (xBlk G x xa ta a b ga ua la lb lc tg gg xf tf f qf gf uf lf mf nf tr r q gr ur lr mr nr) (i := 9) hP rfl (by decide)) ek0 ek1) rfl rfl rfl hl.1 rfl (Nat.le_of_ble_eq_true rfl) dX6_gift_16 ⟨Nat.zero_le _, Nat.zero_le _⟩ hS hA hP (fun r3 H locs hr3 hP hS => ?_)
    refine lv_goto (tgt := 23) hx hb dX6_gift_19 (by decide) ?_
    exact rd_iret hx hb hr hlocks hS ((gi_at hk0 hk1 ek0 ek1 b5 hr3)) dX6_gift_23
set_option maxHeartbeats 4000000 in
set_option maxRecDepth 100000 in
theorem y_agree (l : Launch) (G : GG) (x : Nat) (xa a ga ua la lb lc ld : Nat → Nat) (gg : Nat → Option Nat) (xf nf wf : Nat → Int32) (nr wr : Nat → Nat → Int32) (xa_ : Int32) (xb_ : Int32) (ka : Nat) (kb : Nat) (hg9 : nL 16 (xf 9)) (hJa : gfJ xa_ ka) (hJb : gfJ xb_ kb) (hka : ka < 16 → gg ka = some (lc 0)) (hkb : kb < 16 → gg kb = some (ld 0)) (hN0 : nL 12 (nf 0)) (hN1 : nL 12 (nf 1)) (hO0 : nL 12 (wf 0)) (hO1 : nL 12 (wf 1)) : RdI l yX6_agree cX6_agree 3 (some .int) ({ frames := 2, cells := 0, slots := 0, locals := 48 }) G (aM G x xa a ga ua la lb lc ld gg xf nf wf nr wr) [.ref x, .int xa_, .int xb_] (fun q => (agX (xf 9) xa_ xb_ (nf 0) (nf 1) (wf 0) (wf 1) (nr 2) (wr 2) q)) := by
  refine rd_entry (by decide +kernel) (Nat.le_of_ble_eq_true rfl) ?_
  intro p e s m below meth c C0 hP hK ls hl
  have hS : va_S (fun q => s.heap.size ≤ q) s.heap s.heap [] := va_S.rf
  have hA : ∀ q, s.heap.size ≤ q → (fun q => s.heap.size ≤ q) q := fun _ h => h
  obtain ⟨hx, hb, hml, hown, hts, hr, hlocks, hin⟩ := C0
  have hown : s.vm.findClass RX6 = some m.cls := hown
  have hl : lv_has ls 3 [(0, .ref x), (1, .int xa_), (2, .int xb_)] := hl
  refine lv_aload_n hx hb dX6_agree_0 rfl (lv_at hl 0 rfl) ?_
  refine lv_iload_n hx hb dX6_agree_1 rfl (lv_at hl 1 rfl) ?_
  refine rdV (rest := []) (q0 := 0) ⟨hx, hb, hml, hown, hts⟩ (x_isGiftA l G x xa a ga ua la lb lc ld gg xf nf wf nr wr xa_  ) mi_yX6_isGift mv_yX6_isGift ml_X6_242 ⟨rfl, rfl, Nat.le_of_ble_eq_true rfl, Nat.le_of_ble_eq_true rfl⟩ hK (hP) rfl rfl rfl hl.1 rfl (Nat.le_of_ble_eq_true rfl) dX6_agree_2 ⟨Nat.zero_le _, Nat.zero_le _⟩ hS hA hP (fun r1 H locs hr1 hP hS => ?_)
  have hr1 : ((r1 = 1 ∧ (inR (xf 9) xa_)) ∨ (r1 = 0 ∧ ¬ (inR (xf 9) xa_))) := hr1
  refine lv_if_eq (tgt := 34) hx hb dX6_agree_5 (by decide) (fun c2 => ?_) (fun c2 => ?_)
  · have b5 := bF hr1 c2
    refine lv_iconst (v := -1) hx hb dX6_agree_34 (by decide) ?_
    exact rd_iret hx hb hr hlocks hS ((Or.inr ⟨fun z9 => b5 z9.1, rfl⟩)) dX6_agree_35
  · have b5 := bT hr1 c2
    obtain ⟨hka16, eka⟩ := gf_j hg9 hJa b5
    subst eka
    refine lv_aload_n hx hb dX6_agree_8 rfl (lv_at hl 0 rfl) ?_
    refine lv_iload_n hx hb dX6_agree_9 rfl (lv_at hl 2 rfl) ?_
    refine rdV (rest := []) (q0 := 0) ⟨hx, hb, hml, hown, hts⟩ (x_isGiftA l G x xa a ga ua la lb lc ld gg xf nf wf nr wr xb_  ) mi_yX6_isGift mv_yX6_isGift ml_X6_242 ⟨rfl, rfl, Nat.le_of_ble_eq_true rfl, Nat.le_of_ble_eq_true rfl⟩ hK (hP) rfl rfl rfl hl.1 rfl (Nat.le_of_ble_eq_true rfl) dX6_agree_10 ⟨Nat.zero_le _, Nat.zero_le _⟩ hS hA hP (fun r3 H locs hr3 hP hS => ?_)
    have hr3 : ((r3 = 1 ∧ (inR (xf 9) xb_)) ∨ (r3 = 0 ∧ ¬ (inR (xf 9) xb_))) := hr3
    refine lv_if_eq (tgt := 34) hx hb dX6_agree_13 (by decide) (fun c4 => ?_) (fun c4 => ?_)
    · have b13 := bF hr3 c4
      refine lv_iconst (v := -1) hx hb dX6_agree_34 (by decide) ?_
      exact rd_iret hx hb hr hlocks hS ((Or.inr ⟨fun z9 => b13 z9.2, rfl⟩)) dX6_agree_35
    · have b13 := bT hr3 c4
      obtain ⟨hkb16, ekb⟩ := gf_j hg9 hJb b13
      subst ekb
      refine lv_aload_n hx hb dX6_agree_16 rfl (lv_at hl 0 rfl) ?_
      refine va_get (D := G.1) (ci := 6) (v := .ref (xa 8)) (C := RX6) (T := TX6) (N := 10) hx hb hts inX6 hown hK.1 hP 0 rfl rfl 8 (by decide) (hts _ mf_X6_53) (fun _ h9 => h9) rfl dX6_agree_17 ?_
      refine lv_iload_n hx hb dX6_agree_20 rfl (lv_at hl 1 rfl) ?_
      refine xaldL hx hb hK hP 1 (ka) (b := (lc 0)) rfl (by omega) (by decide) rfl (hka hka16) dX6_agree_21 ?_
      refine lv_aload_n hx hb dX6_agree_22 rfl (lv_at hl 0 rfl) ?_
      refine va_get (D := G.1) (ci := 6) (v := .ref (xa 8)) (C := RX6) (T := TX6) (N := 10) hx hb hts inX6 hown hK.1 hP 0 rfl rfl 8 (by decide) (hts _ mf_X6_53) (fun _ h9 => h9) rfl dX6_agree_23 ?_
      refine lv_iload_n hx hb dX6_agree_26 rfl (lv_at hl 2 rfl) ?_
      refine xaldL hx hb hK hP 1 (kb) (b := (ld 0)) rfl (by omega) (by decide) rfl (hkb hkb16) dX6_agree_27 ?_
      refine rdV (rest := []) (q0 := 0) ⟨hx, hb, hml, hown, hts⟩ (e_X1_firstUnlike l G lc ld nf wf nr wr hN0 hN1 hO0 hO1) mi_yX1_firstUnlike mv_yX1_firstUnlike ml_X6_245 ⟨rfl, rfl, Nat.le_of_ble_eq_true rfl, Nat.le_of_ble_eq_true rfl⟩ hK (hP.sub (ws' := l2M G lc ld nf wf nr wr) [2, 3, 4, 5] rfl) rfl rfl rfl hl.1 rfl (Nat.le_of_ble_eq_true rfl) dX6_agree_28 ⟨Nat.zero_le _, Nat.zero_le _⟩ hS hA hP (fun r5 H locs hr5 hP hS => ?_)
      refine lv_goto (tgt := 35) hx hb dX6_agree_31 (by decide) ?_
      exact rd_iret hx hb hr hlocks hS ((Or.inl ⟨b5, b13, hr5⟩)) dX6_agree_35
set_option maxHeartbeats 4000000 in
set_option maxRecDepth 100000 in
theorem n_give (l : Launch) (G : GG) (y : Nat) (b : Nat → Nat) (f : Nat → Int32) (r : Nat → Nat → Int32) (tb : Int32) (hM2 : nOK 6 12 (r 2)) (hM3 : nOK 6 12 (r 3)) (hM12 : nOK 6 12 (r 12)) (hG : nOK 864 6 (r 7)) (h42 : nL 16 (f 42)) (hgr : nOK 16 12 (r 40)) (hgc : nOK 16 12 (r 41)) (hNA : ∀ t rw cl, t < 6 → rw ≤ 12 → cl ≤ 12 → ¬ (r 1) t = 0 → (r 2) t = nI rw → (r 3) t = nI cl → NRM rw cl t (r 3) (r 5) (r 6) (r 11)) (hRA : ∀ t, t < 6 → ¬ (r 1) t = 0 → ∃ dn uq, dn ≤ 1000000 ∧ uq ≤ 1000000 ∧ (r 4) (6 * t + 3) = nI dn ∧ (r 4) (6 * t + 4) = nI uq) : WrI l yX7_give cX7_give 6 (some .int) ({ frames := 7, cells := 0, slots := 0, locals := 179 }) G (mM G y b f r) [.ref y, .int tb] (fun q w => ∃ (n_f_0 : Int32) (n_f_20 : Int32) (n_f_21 : Int32) (n_f_42 : Int32) (n_r_15 : Nat → Int32) (n_r_16 : Nat → Int32) (n_r_17 : Nat → Int32) (n_r_18 : Nat → Int32) (n_r_19 : Nat → Int32) (n_r_22 : Nat → Int32) (n_r_23 : Nat → Int32) (n_r_39 : Nat → Int32) (n_r_40 : Nat → Int32) (n_r_41 : Nat → Int32), w = mM G y b (upd (upd (upd (upd f 0 n_f_0) 20 n_f_20) 21 n_f_21) 42 n_f_42) (up2 (up2 (up2 (up2 (up2 (up2 (up2 (up2 (up2 (up2 r 15 n_r_15) 16 n_r_16) 17 n_r_17) 18 n_r_18) 19 n_r_19) 22 n_r_22) 23 n_r_23) 39 n_r_39) 40 n_r_40) 41 n_r_41) ∧ gvR tb q (r 1) (r 2) (r 3) (r 4) (r 5) (r 6) (r 7) (r 8) (r 9) (r 10) (r 11) (r 12) (r 13) (r 14) (f 42) (r 39) (r 40) (r 41) n_f_42 n_r_39 n_r_40 n_r_41 ∧ (nL 16 n_f_42) ∧ (nOK 16 12 n_r_40) ∧ (nOK 16 12 n_r_41)) := by
  refine wr_entryI (by decide +kernel) (Nat.le_of_ble_eq_true rfl) ?_
  intro p e s m below meth c A C0 hP hK hD hA ls hl
  have hS : va_S A s.heap s.heap [] := va_S.rf
  obtain ⟨hx, hb, hml, hown, hts, hr, hlocks, hin⟩ := C0
  have hown : s.vm.findClass RX7 = some m.cls := hown
  have hDD : ∀ f' r', va_D A (mM G y b f' r') := fun f' r' => D_same hD rfl
  have hl : lv_has ls 6 [(0, .ref y), (1, .int tb)] := hl
  obtain ⟨gm, hgm, eg⟩ := h42
  have h42 : nL 16 (f 42) := ⟨gm, hgm, eg⟩
  refine lv_aload_n hx hb dX7_give_0 rfl (lv_at hl 0 rfl) ?_
  refine lv_aload_n hx hb dX7_give_1 rfl (lv_at hl 0 rfl) ?_
  refine lv_iload_n hx hb dX7_give_2 rfl (lv_at hl 1 rfl) ?_
  refine rdV (rest := [.ref y]) (q0 := 0) ⟨hx, hb, hml, hown, hts⟩ (m_X7_isTable l G y b f r tb  ) mi_yX7_isTable mv_yX7_isTable ml_X7_120 ⟨rfl, rfl, Nat.le_of_ble_eq_true rfl, Nat.le_of_ble_eq_true rfl⟩ hK (hP) rfl rfl rfl hl.1 rfl (Nat.le_of_ble_eq_true rfl) dX7_give_3 ⟨Nat.zero_le _, Nat.zero_le _⟩ hS hA hP (fun r1 H locs hr1 hP hS => ?_)
  have hr1 : ((r1 = 1 ∧ (opn (r 1) tb)) ∨ (r1 = 0 ∧ ¬ (opn (r 1) tb))) := hr1
  refine lv_if_ne (tgt := 13) hx hb dX7_give_6 (by decide) (fun c2 => ?_) (fun c2 => ?_)
  · have b6 := bT hr1 c2
    obtain ⟨t, ht, rfl, hop⟩ := b6
    obtain ⟨rw, hrw, h2⟩ := hM2 t ht
    obtain ⟨cl, hcl, h3⟩ := hM3 t ht
    obtain ⟨bk, hbk, h12⟩ := hM12 t ht
    have hNR := hNA t rw cl ht hrw hcl hop h2 h3
    obtain ⟨dn, uq, hdn, huq, hr3, hr4⟩ := hRA t ht hop
    refine lv_aload_n hx hb dX7_give_13 rfl (lv_at hl 0 rfl) ?_
    refine va_get (D := G.1) (ci := 7) (v := .int (f 42)) (C := RX7) (T := TX7) (N := 43) hx hb hts inX7 hown hK.1 hP 0 rfl rfl 42 (by decide) (hts _ mf_X7_274) (fun _ h9 => h9) rfl dX7_give_14 ?_
    rw [show (f 42) = nI (gm) from eg]
    refine lv_bipush (v := 16) hx hb dX7_give_17 (by decide) ?_
    refine lv_icmp_ne (tgt := 27) hx hb dX7_give_19 (by decide) (fun c3 => ?_) (fun c3 => ?_)
    · have b19 := qeq_f (a := (gm)) (b := 16) (by omega) (by omega) c3
      refine lv_aload_n hx hb dX7_give_27 rfl (lv_at hl 0 rfl) ?_
      refine lv_iload_n hx hb dX7_give_28 rfl (lv_at hl 1 rfl) ?_
      refine lv_iconst (v := 0) hx hb dX7_give_29 (by decide) ?_
      refine wrVIa (rest := [.ref y]) (q0 := 0) ⟨hx, hb, hml, hown, hts⟩ (n_unsafeFrom l G y b f r t 0 rw cl bk dn uq (by omega) (by omega) (by omega) (by omega) h2 h3 h12 hG hNR (by omega) (by omega) hr3 hr4 (by omega)) mi_yX7_unsafeFrom mv_yX7_unsafeFrom ml_X7_230 ⟨rfl, rfl, Nat.le_of_ble_eq_true rfl, Nat.le_of_ble_eq_true rfl⟩ hK hP (hDD _ _) rfl rfl rfl hl.1 rfl (Nat.le_of_ble_eq_true rfl) dX7_give_30 ⟨Nat.zero_le _, Nat.zero_le _⟩ hS hA (fun r4 w5 H locs hw5 hP hS => ?_)
      obtain ⟨x6, x7, x8, x9, x10, x11, x12, x13, x14, rfl, hw5r⟩ := hw5
      have hP : PP G (mM G y b (upd (upd f 20 x6) 21 x7) (up2 (up2 (up2 (up2 (up2 (up2 (up2 r 15 x8) 16 x9) 17 x10) 18 x11) 19 x12) 22 x13) 23 x14)) H := hP
      have hw5r : firstU rw cl (UNm rw cl t bk (r 3) (r 4) (r 5) (r 6) (r 7) (r 8) (r 9) (r 10) (r 11) (r 13) (r 14) dn uq) 0 r4 := hw5r
      refine lv_iconst (v := -1) hx hb dX7_give_33 (by decide) ?_
      refine lv_icmp_eq (tgt := 42) hx hb dX7_give_34 (by decide) (fun c15 => ?_) (fun c15 => ?_)
      · have hno9 := (hw5r.resolve_right (fun ⟨i9, j9, _, _, _, e9, _⟩ => absurd (e9.symm.trans c15) (nI_nm1 (by omega)))).2
        refine lv_iconst (v := 0) hx hb dX7_give_42 (by decide) ?_
        refine va_put (D := G.1) (ci := 7) (v := .int 0) (C := RX7) (T := TX7) (N := 43) hx hb hts inX7 tyX7 tyX7_ok nmX7 hown hK.1 hP (hDD _ _) hS 0 rfl rfl 0 (by decide) (hts _ mf_X7_116) (fun _ h9 => h9) rfl (tyX7_ok 0 (by decide)) (rfl) (rfl) (Nat.le_of_ble_eq_true rfl) dX7_give_43 (fun H locs hP _ hS => ?_)
        have hP : PP G (mM G y b (upd (upd (upd f 0 0) 20 x6) 21 x7) (up2 (up2 (up2 (up2 (up2 (up2 (up2 r 15 x8) 16 x9) 17 x10) 18 x11) 19 x12) 22 x13) 23 x14)) H := hP
        refine lv_aload_n hx hb dX7_give_46 rfl (lv_at hl 0 rfl) ?_
        refine va_get (D := G.1) (ci := 7) (v := .int 0) (C := RX7) (T := TX7) (N := 43) hx hb hts inX7 hown hK.1 hP 0 rfl rfl 0 (by decide) (hts _ mf_X7_116) (fun _ h9 => h9) rfl dX7_give_47 ?_
        refine lv_if_le (tgt := 55) hx hb dX7_give_50 (by decide) (fun c16 => ?_) (fun c16 => absurd (by decide) c16)
        refine lv_aload_n hx hb dX7_give_55 rfl (lv_at hl 0 rfl) ?_
        refine va_get (D := G.1) (ci := 7) (v := .ref (b 40)) (C := RX7) (T := TX7) (N := 43) hx hb hts inX7 hown hK.1 hP 0 rfl rfl 40 (by decide) (hts _ mf_X7_110) (fun _ h9 => h9) rfl dX7_give_56 ?_
        refine lv_aload_n hx hb dX7_give_59 rfl (lv_at hl 0 rfl) ?_
        refine va_get (D := G.1) (ci := 7) (v := .int (f 42)) (C := RX7) (T := TX7) (N := 43) hx hb hts inX7 hown hK.1 hP 0 rfl rfl 42 (by decide) (hts _ mf_X7_274) (fun _ h9 => h9) rfl dX7_give_60 ?_
        rw [show (f 42) = nI (gm) from eg]
        refine lv_aload_n hx hb dX7_give_63 rfl (lv_at hl 0 rfl) ?_
        refine va_get (D := G.1) (ci := 7) (v := .ref (b 2)) (C := RX7) (T := TX7) (N := 43) hx hb hts inX7 hown hK.1 hP 0 rfl rfl 2 (by decide) (hts _ mf_X7_13) (fun _ h9 => h9) rfl dX7_give_64 ?_
        refine lv_iload_n hx hb dX7_give_67 rfl (lv_at hl 1 rfl) ?_
        refine xiald (f := (r 2)) hx hb hK hP 2 (t) (rfl) (by omega) (by decide) rfl dX7_give_68 ?_
        refine lv_topi (fun v17 ev17 => ?_)
        obtain rfl : v17 = nI (rw) := ev17.trans (h2)
        refine xiast (f := (r 40)) (x := (nI (rw))) hx hb hK hP (hDD _ _) hS 34 ((gm)) (rfl) (by omega) (by decide) rfl dX7_give_69 (fun H locs hP _ hS => ?_)
        have hP : PP G (mM G y b (upd (upd (upd f 0 0) 20 x6) 21 x7) (up2 (up2 (up2 (up2 (up2 (up2 (up2 (up2 r 15 x8) 16 x9) 17 x10) 18 x11) 19 x12) 22 x13) 23 x14) 40 (upd (r 40) ((gm)) ((nI (rw)))))) H := hP
        have hgr : nOK 16 12 (upd (r 40) ((gm)) ((nI (rw)))) := nOK_u hgr hrw
        refine lv_aload_n hx hb dX7_give_70 rfl (lv_at hl 0 rfl) ?_
        refine va_get (D := G.1) (ci := 7) (v := .ref (b 41)) (C := RX7) (T := TX7) (N := 43) hx hb hts inX7 hown hK.1 hP 0 rfl rfl 41 (by decide) (hts _ mf_X7_113) (fun _ h9 => h9) rfl dX7_give_71 ?_
        refine lv_aload_n hx hb dX7_give_74 rfl (lv_at hl 0 rfl) ?_
        refine va_get (D := G.1) (ci := 7) (v := .int (f 42)) (C := RX7) (T := TX7) (N := 43) hx hb hts inX7 hown hK.1 hP 0 rfl rfl 42 (by decide) (hts _ mf_X7_274) (fun _ h9 => h9) rfl dX7_give_75 ?_
        rw [show (f 42) = nI (gm) from eg]
        refine lv_aload_n hx hb dX7_give_78 rfl (lv_at hl 0 rfl) ?_
        refine va_get (D := G.1) (ci := 7) (v := .ref (b 3)) (C := RX7) (T := TX7) (N := 43) hx hb hts inX7 hown hK.1 hP 0 rfl rfl 3 (by decide) (hts _ mf_X7_17) (fun _ h9 => h9) rfl dX7_give_79 ?_
        refine lv_iload_n hx hb dX7_give_82 rfl (lv_at hl 1 rfl) ?_
        refine xiald (f := (r 3)) hx hb hK hP 3 (t) (rfl) (by omega) (by decide) rfl dX7_give_83 ?_
        refine lv_topi (fun v18 ev18 => ?_)
        obtain rfl : v18 = nI (cl) := ev18.trans (h3)
        refine xiast (f := (r 41)) (x := (nI (cl))) hx hb hK hP (hDD _ _) hS 35 ((gm)) (rfl) (by omega) (by decide) rfl dX7_give_84 (fun H locs hP _ hS => ?_)
        have hP : PP G (mM G y b (upd (upd (upd f 0 0) 20 x6) 21 x7) (up2 (up2 (up2 (up2 (up2 (up2 (up2 (up2 (up2 r 15 x8) 16 x9) 17 x10) 18 x11) 19 x12) 22 x13) 23 x14) 40 (upd (r 40) ((gm)) ((nI (rw))))) 41 (upd (r 41) ((gm)) ((nI (cl)))))) H := hP
        have hgc : nOK 16 12 (upd (r 41) ((gm)) ((nI (cl)))) := nOK_u hgc hcl
        try rw [← eg]
        refine lv_iconst (v := 0) hx hb dX7_give_85 (by decide) ?_
        refine lv_istore_n (lv' := [(2, .int 0), (0, .ref y), (1, .int (nI t))]) hx hb dX7_give_86 rfl hl (by decide) rfl (fun ls hl => ?_)
        have loop87 : ∀ (k19 i : Nat) (x20 : Nat → Int32), i ≤ rw → rw < i + k19 → (SHE (gcM t (r 3) (r 4) (r 5) (r 6) (r 7) (r 8) (r 9) (r 10) (r 11)) x20 (144 * gm) cl (12 * i)) → (∀ p, (p < 144 * gm ∨ 144 * gm + 144 ≤ p) → x20 p = r 39 p) → ∀ (H : Heap) (locs : List Loc) (ls : Array Slot), PP G (mM G y b (upd (upd (upd f 0 0) 20 x6) 21 x7) (up2 (up2 (up2 (up2 (up2 (up2 (up2 (up2 (up2 (up2 r 15 x8) 16 x9) 17 x10) 18 x11) 19 x12) 22 x13) 23 x14) 39 x20) 40 (upd (r 40) ((gm)) ((nI (rw))))) 41 (upd (r 41) ((gm)) ((nI (cl)))))) H → va_S A s.heap H locs → lv_has ls 6 [(2, .int (nI i)), (0, .ref y), (1, .int (nI t))] → W p l e ({ frames := 7, cells := 0, slots := 0, locals := 179 }) s m ([.ref y, .int (nI t)] : List Value).toArray below meth c H locs 0 0 (MQ below (QwI G (fun q w => ∃ (n_f_0 : Int32) (n_f_20 : Int32) (n_f_21 : Int32) (n_f_42 : Int32) (n_r_15 : Nat → Int32) (n_r_16 : Nat → Int32) (n_r_17 : Nat → Int32) (n_r_18 : Nat → Int32) (n_r_19 : Nat → Int32) (n_r_22 : Nat → Int32) (n_r_23 : Nat → Int32) (n_r_39 : Nat → Int32) (n_r_40 : Nat → Int32) (n_r_41 : Nat → Int32), w = mM G y b (upd (upd (upd (upd f 0 n_f_0) 20 n_f_20) 21 n_f_21) 42 n_f_42) (up2 (up2 (up2 (up2 (up2 (up2 (up2 (up2 (up2 (up2 r 15 n_r_15) 16 n_r_16) 17 n_r_17) 18 n_r_18) 19 n_r_19) 22 n_r_22) 23 n_r_23) 39 n_r_39) 40 n_r_40) 41 n_r_41) ∧ gvR (nI t) q (r 1) (r 2) (r 3) (r 4) (r 5) (r 6) (r 7) (r 8) (r 9) (r 10) (r 11) (r 12) (r 13) (r 14) (f 42) (r 39) (r 40) (r 41) n_f_42 n_r_39 n_r_40 n_r_41 ∧ (nL 16 n_f_42) ∧ (nOK 16 12 n_r_40) ∧ (nOK 16 12 n_r_41)) A) ([.ref y, .int (nI t)] : List Value).toArray s 0 0 A) (F0 m 87 ls []) := by
          intro k19
          induction k19 with
          | zero => intro i x20 h1 h2; exact absurd h1 (by omega)
          | succ k19 ih87k19 =>
            intro i x20 hi_i hk_i hgs hgo H locs ls hP hS hl
            refine lv_iload_n hx hb dX7_give_87 rfl (lv_at hl 0 rfl) ?_
            refine lv_aload_n hx hb dX7_give_88 rfl (lv_at hl 1 rfl) ?_
            refine va_get (D := G.1) (ci := 7) (v := .ref (b 2)) (C := RX7) (T := TX7) (N := 43) hx hb hts inX7 hown hK.1 hP 0 rfl rfl 2 (by decide) (hts _ mf_X7_13) (fun _ h9 => h9) rfl dX7_give_89 ?_
            refine lv_iload_n hx hb dX7_give_92 rfl (lv_at hl 2 rfl) ?_
            refine xiald (f := (r 2)) hx hb hK hP 2 (t) (rfl) (by omega) (by decide) rfl dX7_give_93 ?_
            refine lv_topi (fun v21 ev21 => ?_)
            obtain rfl : v21 = nI (rw) := ev21.trans (h2)
            refine lv_icmp_ge (tgt := 191) hx hb dX7_give_94 (by decide) (fun c22 => ?_) (fun c22 => ?_)
            · have b94 := qge_t (a := i) (b := (rw)) (by omega) (by omega) c22
              refine lv_aload_n hx hb dX7_give_191 rfl (lv_at hl 1 rfl) ?_
              refine lv_dup hx hb dX7_give_192 rfl ?_
              refine va_get (D := G.1) (ci := 7) (v := .int (f 42)) (C := RX7) (T := TX7) (N := 43) hx hb hts inX7 hown hK.1 hP 0 rfl rfl 42 (by decide) (hts _ mf_X7_274) (fun _ h9 => h9) rfl dX7_give_193 ?_
              rw [show (f 42) = nI (gm) from eg]
              refine lv_iconst (v := 1) hx hb dX7_give_196 (by decide) ?_
              refine lv_iadd hx hb dX7_give_197 ?_
              refine lv_topi (fun v23 ev23 => ?_)
              obtain rfl : v23 = nI ((gm) + 1) := nI_plus ev23 rfl rfl
              refine va_put (D := G.1) (ci := 7) (v := .int (nI ((gm) + 1))) (C := RX7) (T := TX7) (N := 43) hx hb hts inX7 tyX7 tyX7_ok nmX7 hown hK.1 hP (hDD _ _) hS 0 rfl rfl 42 (by decide) (hts _ mf_X7_274) (fun _ h9 => h9) rfl (tyX7_ok 42 (by decide)) (rfl) (rfl) (Nat.le_of_ble_eq_true rfl) dX7_give_198 (fun H locs hP _ hS => ?_)
              have hP : PP G (mM G y b (upd (upd (upd (upd f 0 0) 20 x6) 21 x7) 42 (nI ((gm) + 1))) (up2 (up2 (up2 (up2 (up2 (up2 (up2 (up2 (up2 (up2 r 15 x8) 16 x9) 17 x10) 18 x11) 19 x12) 22 x13) 23 x14) 39 x20) 40 (upd (r 40) ((gm)) ((nI (rw))))) 41 (upd (r 41) ((gm)) ((nI (cl)))))) H := hP
              have h42 : nL 16 (nI ((gm) + 1)) := ⟨gm + 1, by omega, rfl⟩
              refine lv_aload_n hx hb dX7_give_201 rfl (lv_at hl 1 rfl) ?_
              refine va_get (D := G.1) (ci := 7) (v := .int (nI ((gm) + 1))) (C := RX7) (T := TX7) (N := 43) hx hb hts inX7 hown hK.1 hP 0 rfl rfl 42 (by decide) (hts _ mf_X7_274) (fun _ h9 => h9) rfl dX7_give_202 ?_
              refine lv_iconst (v := 1) hx hb dX7_give_205 (by decide) ?_
              refine lv_isub hx hb dX7_give_206 ?_
              refine lv_topi (fun v24 ev24 => ?_)
              obtain rfl : v24 = nI (((gm) + 1) - 1) := nI_minus ev24 rfl rfl (by omega)
              exact wr_iret hx hb hr hlocks hS hP ⟨0, x6, x7, (nI ((gm) + 1)), x8, x9, x10, x11, x12, x13, x14, x20, (upd (r 40) ((gm)) ((nI (rw)))), (upd (r 41) ((gm)) ((nI (cl)))), rfl, (Or.inr ⟨t, rw, cl, bk, dn, uq, gm, ht, rfl, hop, hrw, hcl, hbk, h2, h3, h12, hr3, hr4, hdn, huq, by omega, (by first | exact eg | rfl), Or.inr ⟨fun x y h7 h8 => hno9 x y h7 h8 (Nat.zero_le _), rfl, rfl, rfl, rfl, by rw [show 12 * rw = 12 * i by omega]; exact hgs, hgo⟩⟩), h42, hgr, hgc⟩ dX7_give_207
            · have b94 := qge_f (a := i) (b := (rw)) (by omega) (by omega) c22
              refine lv_aload_n hx hb dX7_give_97 rfl (lv_at hl 1 rfl) ?_
              refine lv_iload_n hx hb dX7_give_98 rfl (lv_at hl 2 rfl) ?_
              refine lv_iload_n hx hb dX7_give_99 rfl (lv_at hl 0 rfl) ?_
              refine rdV (rest := []) (q0 := 0) ⟨hx, hb, hml, hown, hts⟩ (m_X7_isSound l G y b (upd (upd (upd f 0 0) 20 x6) 21 x7) (up2 (up2 (up2 (up2 (up2 (up2 (up2 (up2 (up2 (up2 r 15 x8) 16 x9) 17 x10) 18 x11) 19 x12) 22 x13) 23 x14) 39 x20) 40 (upd (r 40) ((gm)) ((nI (rw))))) 41 (upd (r 41) ((gm)) ((nI (cl))))) t i rw cl bk (by omega) (by omega) (by omega) (by omega) h2 h3 h12 (by omega)) mi_yX7_isSound mv_yX7_isSound ml_X7_161 ⟨rfl, rfl, Nat.le_of_ble_eq_true rfl, Nat.le_of_ble_eq_true rfl⟩ hK (hP) rfl rfl rfl hl.1 rfl (Nat.le_of_ble_eq_true rfl) dX7_give_100 ⟨Nat.zero_le _, Nat.zero_le _⟩ hS hA hP (fun r25 H locs hr25 hP hS => ?_)
              have hr25 : ((r25 = 1 ∧ (sndN ((r 3) t) (r 11) (r 5) t i)) ∨ (r25 = 0 ∧ ¬ (sndN ((r 3) t) (r 11) (r 5) t i))) := hr25
              refine lv_istore_n (lv' := [(3, .int r25), (2, .int (nI i)), (0, .ref y), (1, .int (nI t))]) hx hb dX7_give_103 rfl hl (by decide) rfl (fun ls hl => ?_)
              refine lv_iconst (v := 0) hx hb dX7_give_104 (by decide) ?_
              refine lv_istore (lv' := [(4, .int 0), (3, .int r25), (2, .int (nI i)), (0, .ref y), (1, .int (nI t))]) hx hb dX7_give_105 hl (by decide) rfl (fun ls hl => ?_)
              have loop107 : ∀ (k26 k : Nat) (x27 : Nat → Int32), k ≤ cl → cl < k + k26 → (SHE (gcM t (r 3) (r 4) (r 5) (r 6) (r 7) (r 8) (r 9) (r 10) (r 11)) x27 (144 * gm) cl (12 * i + k)) → (∀ p, (p < 144 * gm ∨ 144 * gm + 144 ≤ p) → x27 p = r 39 p) → ∀ (H : Heap) (locs : List Loc) (ls : Array Slot), PP G (mM G y b (upd (upd (upd f 0 0) 20 x6) 21 x7) (up2 (up2 (up2 (up2 (up2 (up2 (up2 (up2 (up2 (up2 r 15 x8) 16 x9) 17 x10) 18 x11) 19 x12) 22 x13) 23 x14) 39 x27) 40 (upd (r 40) ((gm)) ((nI (rw))))) 41 (upd (r 41) ((gm)) ((nI (cl)))))) H → va_S A s.heap H locs → lv_has ls 6 [(4, .int (nI k)), (3, .int r25), (2, .int (nI i)), (0, .ref y), (1, .int (nI t))] → W p l e ({ frames := 7, cells := 0, slots := 0, locals := 179 }) s m ([.ref y, .int (nI t)] : List Value).toArray below meth c H locs 0 0 (MQ below (QwI G (fun q w => ∃ (n_f_0 : Int32) (n_f_20 : Int32) (n_f_21 : Int32) (n_f_42 : Int32) (n_r_15 : Nat → Int32) (n_r_16 : Nat → Int32) (n_r_17 : Nat → Int32) (n_r_18 : Nat → Int32) (n_r_19 : Nat → Int32) (n_r_22 : Nat → Int32) (n_r_23 : Nat → Int32) (n_r_39 : Nat → Int32) (n_r_40 : Nat → Int32) (n_r_41 : Nat → Int32), w = mM G y b (upd (upd (upd (upd f 0 n_f_0) 20 n_f_20) 21 n_f_21) 42 n_f_42) (up2 (up2 (up2 (up2 (up2 (up2 (up2 (up2 (up2 (up2 r 15 n_r_15) 16 n_r_16) 17 n_r_17) 18 n_r_18) 19 n_r_19) 22 n_r_22) 23 n_r_23) 39 n_r_39) 40 n_r_40) 41 n_r_41) ∧ gvR (nI t) q (r 1) (r 2) (r 3) (r 4) (r 5) (r 6) (r 7) (r 8) (r 9) (r 10) (r 11) (r 12) (r 13) (r 14) (f 42) (r 39) (r 40) (r 41) n_f_42 n_r_39 n_r_40 n_r_41 ∧ (nL 16 n_f_42) ∧ (nOK 16 12 n_r_40) ∧ (nOK 16 12 n_r_41)) A) ([.ref y, .int (nI t)] : List Value).toArray s 0 0 A) (F0 m 107 ls []) := by
                intro k26
                induction k26 with
                | zero => intro k x27 h1 h2; exact absurd h1 (by omega)
                | succ k26 ih107k26 =>
                  intro k x27 hi_k hk_k hgs hgo H locs ls hP hS hl
                  refine lv_iload hx hb dX7_give_107 (lv_at hl 0 rfl) ?_
                  refine lv_aload_n hx hb dX7_give_109 rfl (lv_at hl 3 rfl) ?_
                  refine va_get (D := G.1) (ci := 7) (v := .ref (b 3)) (C := RX7) (T := TX7) (N := 43) hx hb hts inX7 hown hK.1 hP 0 rfl rfl 3 (by decide) (hts _ mf_X7_17) (fun _ h9 => h9) rfl dX7_give_110 ?_
                  refine lv_iload_n hx hb dX7_give_113 rfl (lv_at hl 4 rfl) ?_
                  refine xiald (f := (r 3)) hx hb hK hP 3 (t) (rfl) (by omega) (by decide) rfl dX7_give_114 ?_
                  refine lv_topi (fun v28 ev28 => ?_)
                  obtain rfl : v28 = nI (cl) := ev28.trans (h3)
                  refine lv_icmp_ge (tgt := 185) hx hb dX7_give_115 (by decide) (fun c29 => ?_) (fun c29 => ?_)
                  · have b115 := qge_t (a := k) (b := (cl)) (by omega) (by omega) c29
                    obtain ⟨v30, ev30⟩ : ∃ y9 : Int32, y9 = (nI i) + Int32.ofInt (1) := ⟨_, rfl⟩
                    refine lv_iinc (v := v30) (lv' := [(2, .int v30), (4, .int (nI k)), (3, .int r25), (0, .ref y), (1, .int (nI t))]) hx hb dX7_give_185 hl (k := 2) rfl ev30.symm (by decide) rfl (fun ls hl => ?_)
                    obtain rfl : v30 = nI (i + 1) := nI_plus (i := i) (j := 1) ev30 rfl (by decide)
                    refine lv_goto (tgt := 87) hx hb dX7_give_188 (by decide) ?_
                    exact ih87k19 (i + 1) x27 (by omega) (by omega) (SHE_r hcl hgs (by omega)) (hgo) _ _ _ hP hS (lv_sub hl [0, 3, 4] rfl)
                  · have b115 := qge_f (a := k) (b := (cl)) (by omega) (by omega) c29
                    refine lv_iload_n hx hb dX7_give_118 rfl (lv_at hl 4 rfl) ?_
                    refine lv_iload_n hx hb dX7_give_119 rfl (lv_at hl 2 rfl) ?_
                    refine lv_iload hx hb dX7_give_120 (lv_at hl 0 rfl) ?_
                    refine rdS (rest := []) ⟨hx, hb, hml, hown, hts⟩ (m_X7_at l G y b (upd (upd (upd f 0 0) 20 x6) 21 x7) (up2 (up2 (up2 (up2 (up2 (up2 (up2 (up2 (up2 (up2 r 15 x8) 16 x9) 17 x10) 18 x11) 19 x12) 22 x13) 23 x14) 39 x27) 40 (upd (r 40) ((gm)) ((nI (rw))))) 41 (upd (r 41) ((gm)) ((nI (cl))))) t i k  ) mi_yX7_at mst_yX7_at ml_X7_147 ⟨rfl, rfl, Nat.le_of_ble_eq_true rfl, Nat.le_of_ble_eq_true rfl⟩ hK (hP) rfl hl.1 rfl (Nat.le_of_ble_eq_true rfl) dX7_give_122 ⟨Nat.zero_le _, Nat.zero_le _⟩ hS hA hP (fun r31 H locs hr31 hP hS => ?_)
                    obtain rfl := hr31
                    refine lv_istore (lv' := [(5, .int (nI (144 * t + 12 * i + k))), (4, .int (nI k)), (3, .int r25), (2, .int (nI i)), (0, .ref y), (1, .int (nI t))]) hx hb dX7_give_125 hl (by decide) rfl (fun ls hl => ?_)
                    refine lv_aload_n hx hb dX7_give_127 rfl (lv_at hl 4 rfl) ?_
                    refine va_get (D := G.1) (ci := 7) (v := .ref (b 39)) (C := RX7) (T := TX7) (N := 43) hx hb hts inX7 hown hK.1 hP 0 rfl rfl 39 (by decide) (hts _ mf_X7_107) (fun _ h9 => h9) rfl dX7_give_128 ?_
                    refine lv_sipush (v := 144) hx hb dX7_give_131 (by decide) ?_
                    refine lv_aload_n hx hb dX7_give_134 rfl (lv_at hl 4 rfl) ?_
                    refine va_get (D := G.1) (ci := 7) (v := .int (f 42)) (C := RX7) (T := TX7) (N := 43) hx hb hts inX7 hown hK.1 hP 0 rfl rfl 42 (by decide) (hts _ mf_X7_274) (fun _ h9 => h9) rfl dX7_give_135 ?_
                    rw [show (f 42) = nI (gm) from eg]
                    refine lv_imul hx hb dX7_give_138 ?_
                    refine lv_topi (fun v32 ev32 => ?_)
                    obtain rfl : v32 = nI (144 * (gm)) := nI_times ev32 rfl rfl
                    refine lv_bipush (v := 12) hx hb dX7_give_139 (by decide) ?_
                    refine lv_iload_n hx hb dX7_give_141 rfl (lv_at hl 3 rfl) ?_
                    refine lv_imul hx hb dX7_give_142 ?_
                    refine lv_topi (fun v33 ev33 => ?_)
                    obtain rfl : v33 = nI (12 * i) := nI_times ev33 rfl rfl
                    refine lv_iadd hx hb dX7_give_143 ?_
                    refine lv_topi (fun v34 ev34 => ?_)
                    obtain rfl : v34 = nI ((144 * (gm)) + (12 * i)) := nI_plus ev34 rfl rfl
                    refine lv_iload hx hb dX7_give_144 (lv_at hl 1 rfl) ?_
                    refine lv_iadd hx hb dX7_give_146 ?_
                    refine lv_topi (fun v35 ev35 => ?_)
                    obtain rfl : v35 = nI (((144 * (gm)) + (12 * i)) + k) := nI_plus ev35 rfl rfl
                    refine lv_iload_n hx hb dX7_give_147 rfl (lv_at hl 2 rfl) ?_
                    refine lv_if_ne (tgt := 156) hx hb dX7_give_148 (by decide) (fun c36 => ?_) (fun c36 => ?_)
                    · have b148 := bT hr25 c36
                      refine lv_aload_n hx hb dX7_give_156 rfl (lv_at hl 4 rfl) ?_
                      refine lv_iload_n hx hb dX7_give_157 rfl (lv_at hl 5 rfl) ?_
                      refine lv_iload hx hb dX7_give_158 (lv_at hl 0 rfl) ?_
                      refine rdV (rest := [.int (nI (((144 * (gm)) + (12 * i)) + k)), .ref (b 39)]) (q0 := 0) ⟨hx, hb, hml, hown, hts⟩ (n_isKept l G y b (upd (upd (upd f 0 0) 20 x6) 21 x7) (up2 (up2 (up2 (up2 (up2 (up2 (up2 (up2 (up2 (up2 r 15 x8) 16 x9) 17 x10) 18 x11) 19 x12) 22 x13) 23 x14) 39 x27) 40 (upd (r 40) ((gm)) ((nI (rw))))) 41 (upd (r 41) ((gm)) ((nI (cl))))) t (144 * t + 12 * i + k)  (by omega) (by omega) hG) mi_yX7_isKept mv_yX7_isKept ml_X7_181 ⟨rfl, rfl, Nat.le_of_ble_eq_true rfl, Nat.le_of_ble_eq_true rfl⟩ hK (hP) rfl rfl rfl hl.1 rfl (Nat.le_of_ble_eq_true rfl) dX7_give_160 ⟨Nat.zero_le _, Nat.zero_le _⟩ hS hA hP (fun r37 H locs hr37 hP hS => ?_)
                      have hr37 : ((r37 = 1 ∧ (kpM (r 4) (r 5) (r 6) (r 7) (r 8) (r 9) (r 10) t (144 * t + 12 * i + k))) ∨ (r37 = 0 ∧ ¬ (kpM (r 4) (r 5) (r 6) (r 7) (r 8) (r 9) (r 10) t (144 * t + 12 * i + k)))) := hr37
                      refine lv_if_eq (tgt := 171) hx hb dX7_give_163 (by decide) (fun c38 => ?_) (fun c38 => ?_)
                      · have b163 := bF hr37 c38
                        refine lv_aload_n hx hb dX7_give_171 rfl (lv_at hl 4 rfl) ?_
                        refine va_get (D := G.1) (ci := 7) (v := .ref (b 6)) (C := RX7) (T := TX7) (N := 43) hx hb hts inX7 hown hK.1 hP 0 rfl rfl 6 (by decide) (hts _ mf_X7_26) (fun _ h9 => h9) rfl dX7_give_172 ?_
                        refine lv_iload hx hb dX7_give_175 (lv_at hl 0 rfl) ?_
                        refine xiald (f := (r 6)) hx hb hK hP 6 ((144 * t + 12 * i + k)) (rfl) (by omega) (by decide) rfl dX7_give_177 ?_
                        refine lv_topi (fun v39 ev39 => ?_)
                        refine xiast (f := x27) (x := v39) hx hb hK hP (hDD _ _) hS 33 ((((144 * (gm)) + (12 * i)) + k)) (rfl) (by omega) (by decide) rfl dX7_give_178 (fun H locs hP _ hS => ?_)
                        have hP : PP G (mM G y b (upd (upd (upd f 0 0) 20 x6) 21 x7) (up2 (up2 (up2 (up2 (up2 (up2 (up2 (up2 (up2 (up2 r 15 x8) 16 x9) 17 x10) 18 x11) 19 x12) 22 x13) 23 x14) 39 (upd x27 ((((144 * (gm)) + (12 * i)) + k)) (v39))) 40 (upd (r 40) ((gm)) ((nI (rw))))) 41 (upd (r 41) ((gm)) ((nI (cl)))))) H := hP
                        try rw [← eg]
                        obtain ⟨v40, ev40⟩ : ∃ y9 : Int32, y9 = (nI k) + Int32.ofInt (1) := ⟨_, rfl⟩
                        refine lv_iinc (v := v40) (lv' := [(4, .int v40), (5, .int (nI (144 * t + 12 * i + k))), (3, .int r25), (2, .int (nI i)), (0, .ref y), (1, .int (nI t))]) hx hb dX7_give_179 hl (k := 1) rfl ev40.symm (by decide) rfl (fun ls hl => ?_)
                        obtain rfl : v40 = nI (k + 1) := nI_plus (i := k) (j := 1) ev40 rfl (by decide)
                        refine lv_goto (tgt := 107) hx hb dX7_give_182 (by decide) ?_
                        exact ih107k26 (k + 1) (upd x27 ((((144 * (gm)) + (12 * i)) + k)) (v39)) (by omega) (by omega) (SHE_s hcl hgs (by omega) (ev39.trans (gcM_n b148 b163))) (fun p h9 => by rw [pk_un (by omega)]; exact hgo p h9) _ _ _ hP hS (lv_sub hl [0, 2, 3, 4, 5] rfl)
                      · have b163 := bT hr37 c38
                        refine lv_bipush (v := -2) hx hb dX7_give_166 (by decide) ?_
                        refine lv_goto (tgt := 178) hx hb dX7_give_168 (by decide) ?_
                        refine xiast (f := x27) (x := (-2)) hx hb hK hP (hDD _ _) hS 33 ((((144 * (gm)) + (12 * i)) + k)) (rfl) (by omega) (by decide) rfl dX7_give_178 (fun H locs hP _ hS => ?_)
                        have hP : PP G (mM G y b (upd (upd (upd f 0 0) 20 x6) 21 x7) (up2 (up2 (up2 (up2 (up2 (up2 (up2 (up2 (up2 (up2 r 15 x8) 16 x9) 17 x10) 18 x11) 19 x12) 22 x13) 23 x14) 39 (upd x27 ((((144 * (gm)) + (12 * i)) + k)) ((-2)))) 40 (upd (r 40) ((gm)) ((nI (rw))))) 41 (upd (r 41) ((gm)) ((nI (cl)))))) H := hP
                        try rw [← eg]
                        obtain ⟨v41, ev41⟩ : ∃ y9 : Int32, y9 = (nI k) + Int32.ofInt (1) := ⟨_, rfl⟩
                        refine lv_iinc (v := v41) (lv' := [(4, .int v41), (5, .int (nI (144 * t + 12 * i + k))), (3, .int r25), (2, .int (nI i)), (0, .ref y), (1, .int (nI t))]) hx hb dX7_give_179 hl (k := 1) rfl ev41.symm (by decide) rfl (fun ls hl => ?_)
                        obtain rfl : v41 = nI (k + 1) := nI_plus (i := k) (j := 1) ev41 rfl (by decide)
                        refine lv_goto (tgt := 107) hx hb dX7_give_182 (by decide) ?_
                        exact ih107k26 (k + 1) (upd x27 ((((144 * (gm)) + (12 * i)) + k)) ((-2))) (by omega) (by omega) (SHE_s hcl hgs (by omega) (gcM_k b148 b163)) (fun p h9 => by rw [pk_un (by omega)]; exact hgo p h9) _ _ _ hP hS (lv_sub hl [0, 2, 3, 4, 5] rfl)
                    · have b148 := bF hr25 c36
                      refine lv_bipush (v := -3) hx hb dX7_give_151 (by decide) ?_
                      refine lv_goto (tgt := 178) hx hb dX7_give_153 (by decide) ?_
                      refine xiast (f := x27) (x := (-3)) hx hb hK hP (hDD _ _) hS 33 ((((144 * (gm)) + (12 * i)) + k)) (rfl) (by omega) (by decide) rfl dX7_give_178 (fun H locs hP _ hS => ?_)
                      have hP : PP G (mM G y b (upd (upd (upd f 0 0) 20 x6) 21 x7) (up2 (up2 (up2 (up2 (up2 (up2 (up2 (up2 (up2 (up2 r 15 x8) 16 x9) 17 x10) 18 x11) 19 x12) 22 x13) 23 x14) 39 (upd x27 ((((144 * (gm)) + (12 * i)) + k)) ((-3)))) 40 (upd (r 40) ((gm)) ((nI (rw))))) 41 (upd (r 41) ((gm)) ((nI (cl)))))) H := hP
                      try rw [← eg]
                      obtain ⟨v42, ev42⟩ : ∃ y9 : Int32, y9 = (nI k) + Int32.ofInt (1) := ⟨_, rfl⟩
                      refine lv_iinc (v := v42) (lv' := [(4, .int v42), (5, .int (nI (144 * t + 12 * i + k))), (3, .int r25), (2, .int (nI i)), (0, .ref y), (1, .int (nI t))]) hx hb dX7_give_179 hl (k := 1) rfl ev42.symm (by decide) rfl (fun ls hl => ?_)
                      obtain rfl : v42 = nI (k + 1) := nI_plus (i := k) (j := 1) ev42 rfl (by decide)
                      refine lv_goto (tgt := 107) hx hb dX7_give_182 (by decide) ?_
                      exact ih107k26 (k + 1) (upd x27 ((((144 * (gm)) + (12 * i)) + k)) ((-3))) (by omega) (by omega) (SHE_s hcl hgs (by omega) (gcM_0 b148)) (fun p h9 => by rw [pk_un (by omega)]; exact hgo p h9) _ _ _ hP hS (lv_sub hl [0, 2, 3, 4, 5] rfl)
              exact loop107 (cl + 1) 0 x20 (by omega) (by omega) (hgs) (hgo) _ _ _ hP hS (lv_sub hl [0, 1, 2, 3, 4] rfl)
        exact loop87 (rw + 1) 0 (r 39) (by omega) (by omega) (SHE_0) (fun _ _ => rfl) _ _ _ hP hS (lv_sub hl [0, 1, 2] rfl)
      · obtain ⟨i9, j9, hi9, hj9, _, _, hu9, _⟩ := hw5r.resolve_left (fun z9 => c15 z9.1)
        refine lv_bipush (v := 10) hx hb dX7_give_37 (by decide) ?_
        refine lv_goto (tgt := 43) hx hb dX7_give_39 (by decide) ?_
        refine va_put (D := G.1) (ci := 7) (v := .int 10) (C := RX7) (T := TX7) (N := 43) hx hb hts inX7 tyX7 tyX7_ok nmX7 hown hK.1 hP (hDD _ _) hS 0 rfl rfl 0 (by decide) (hts _ mf_X7_116) (fun _ h9 => h9) rfl (tyX7_ok 0 (by decide)) (rfl) (rfl) (Nat.le_of_ble_eq_true rfl) dX7_give_43 (fun H locs hP _ hS => ?_)
        have hP : PP G (mM G y b (upd (upd (upd f 0 10) 20 x6) 21 x7) (up2 (up2 (up2 (up2 (up2 (up2 (up2 r 15 x8) 16 x9) 17 x10) 18 x11) 19 x12) 22 x13) 23 x14)) H := hP
        refine lv_aload_n hx hb dX7_give_46 rfl (lv_at hl 0 rfl) ?_
        refine va_get (D := G.1) (ci := 7) (v := .int 10) (C := RX7) (T := TX7) (N := 43) hx hb hts inX7 hown hK.1 hP 0 rfl rfl 0 (by decide) (hts _ mf_X7_116) (fun _ h9 => h9) rfl dX7_give_47 ?_
        refine lv_if_le (tgt := 55) hx hb dX7_give_50 (by decide) (fun c43 => absurd c43 (by decide)) (fun c43 => ?_)
        refine lv_iconst (v := -1) hx hb dX7_give_53 (by decide) ?_
        exact wr_iret hx hb hr hlocks hS hP ⟨10, x6, x7, (f 42), x8, x9, x10, x11, x12, x13, x14, (r 39), (r 40), (r 41), rfl, (Or.inr ⟨t, rw, cl, bk, dn, uq, gm, ht, rfl, hop, hrw, hcl, hbk, h2, h3, h12, hr3, hr4, hdn, huq, by omega, (by first | exact eg | rfl), Or.inl ⟨⟨i9, j9, hi9, hj9, hu9⟩, rfl, (by first | rfl | exact eg), rfl, rfl, rfl⟩⟩), h42, hgr, hgc⟩ dX7_give_54
    · have b19 := qeq_t (a := (gm)) (b := 16) (by omega) (by omega) c3
      refine lv_bipush (v := 8) hx hb dX7_give_22 (by decide) ?_
      refine lv_goto (tgt := 43) hx hb dX7_give_24 (by decide) ?_
      refine va_put (D := G.1) (ci := 7) (v := .int 8) (C := RX7) (T := TX7) (N := 43) hx hb hts inX7 tyX7 tyX7_ok nmX7 hown hK.1 hP (hDD _ _) hS 0 rfl rfl 0 (by decide) (hts _ mf_X7_116) (fun _ h9 => h9) rfl (tyX7_ok 0 (by decide)) (rfl) (rfl) (Nat.le_of_ble_eq_true rfl) dX7_give_43 (fun H locs hP _ hS => ?_)
      have hP : PP G (mM G y b (upd f 0 8) r) H := hP
      refine lv_aload_n hx hb dX7_give_46 rfl (lv_at hl 0 rfl) ?_
      refine va_get (D := G.1) (ci := 7) (v := .int 8) (C := RX7) (T := TX7) (N := 43) hx hb hts inX7 hown hK.1 hP 0 rfl rfl 0 (by decide) (hts _ mf_X7_116) (fun _ h9 => h9) rfl dX7_give_47 ?_
      refine lv_if_le (tgt := 55) hx hb dX7_give_50 (by decide) (fun c44 => absurd c44 (by decide)) (fun c44 => ?_)
      refine lv_iconst (v := -1) hx hb dX7_give_53 (by decide) ?_
      exact wr_iret hx hb hr hlocks hS hP ⟨8, (f 20), (f 21), (f 42), (r 15), (r 16), (r 17), (r 18), (r 19), (r 22), (r 23), (r 39), (r 40), (r 41), rfl, (Or.inl ⟨fun z9 => z9.2 (by first | exact congrArg nI (show gm = 16 by omega) | (rw [eg]; exact congrArg nI (show gm = 16 by omega))), rfl, (by first | rfl | exact eg), rfl, rfl, rfl⟩), h42, hgr, hgc⟩ dX7_give_54
  · have b6 := bF hr1 c2
    refine lv_iconst (v := 1) hx hb dX7_give_9 (by decide) ?_
    refine lv_goto (tgt := 43) hx hb dX7_give_10 (by decide) ?_
    refine va_put (D := G.1) (ci := 7) (v := .int 1) (C := RX7) (T := TX7) (N := 43) hx hb hts inX7 tyX7 tyX7_ok nmX7 hown hK.1 hP (hDD _ _) hS 0 rfl rfl 0 (by decide) (hts _ mf_X7_116) (fun _ h9 => h9) rfl (tyX7_ok 0 (by decide)) (rfl) (rfl) (Nat.le_of_ble_eq_true rfl) dX7_give_43 (fun H locs hP _ hS => ?_)
    have hP : PP G (mM G y b (upd f 0 1) r) H := hP
    refine lv_aload_n hx hb dX7_give_46 rfl (lv_at hl 0 rfl) ?_
    refine va_get (D := G.1) (ci := 7) (v := .int 1) (C := RX7) (T := TX7) (N := 43) hx hb hts inX7 hown hK.1 hP 0 rfl rfl 0 (by decide) (hts _ mf_X7_116) (fun _ h9 => h9) rfl dX7_give_47 ?_
    refine lv_if_le (tgt := 55) hx hb dX7_give_50 (by decide) (fun c45 => absurd c45 (by decide)) (fun c45 => ?_)
    refine lv_iconst (v := -1) hx hb dX7_give_53 (by decide) ?_
    exact wr_iret hx hb hr hlocks hS hP ⟨1, (f 20), (f 21), (f 42), (r 15), (r 16), (r 17), (r 18), (r 19), (r 22), (r 23), (r 39), (r 40), (r 41), rfl, (Or.inl ⟨fun z9 => b6 z9.1, rfl, (by first | rfl | exact eg), rfl, rfl, rfl⟩), h42, hgr, hgc⟩ dX7_give_54
set_option maxHeartbeats 4000000 in
set_option maxRecDepth 100000 in
theorem n_gift (l : Launch) (G : GG) (y : Nat) (b : Nat → Nat) (f : Nat → Int32) (r : Nat → Nat → Int32) (x : Int32) (row : Int32) (col : Int32) (h42 : nL 16 (f 42)) (hgr : nOK 16 12 (r 40)) (hgc : nOK 16 12 (r 41)) : RdI l yX7_gift cX7_gift 4 (some .int) ({ frames := 1, cells := 0, slots := 0, locals := 23 }) G (mM G y b f r) [.ref y, .int x, .int row, .int col] (fun q => (gmX (f 42) (r 40) (r 41) (r 39) x row col q)) := by
  refine rd_entry (by decide +kernel) (Nat.le_of_ble_eq_true rfl) ?_
  intro p e s m below meth c C0 hP hK ls hl
  have hS : va_S (fun q => s.heap.size ≤ q) s.heap s.heap [] := va_S.rf
  have hA : ∀ q, s.heap.size ≤ q → (fun q => s.heap.size ≤ q) q := fun _ h => h
  obtain ⟨hx, hb, hml, hown, hts, hr, hlocks, hin⟩ := C0
  have hown : s.vm.findClass RX7 = some m.cls := hown
  have hl : lv_has ls 4 [(0, .ref y), (1, .int x), (2, .int row), (3, .int col)] := hl
  refine lv_aload_n hx hb dX7_gift_0 rfl (lv_at hl 0 rfl) ?_
  refine lv_iload_n hx hb dX7_gift_1 rfl (lv_at hl 1 rfl) ?_
  refine lv_iload_n hx hb dX7_gift_2 rfl (lv_at hl 2 rfl) ?_
  refine lv_iload_n hx hb dX7_gift_3 rfl (lv_at hl 3 rfl) ?_
  refine rdV (rest := []) (q0 := 0) ⟨hx, hb, hml, hown, hts⟩ (m_X7_isIn l G y b f r x row col  h42 hgr hgc) mi_yX7_isIn mv_yX7_isIn ml_X7_277 ⟨rfl, rfl, Nat.le_of_ble_eq_true rfl, Nat.le_of_ble_eq_true rfl⟩ hK (hP) rfl rfl rfl hl.1 rfl (Nat.le_of_ble_eq_true rfl) dX7_gift_4 ⟨Nat.zero_le _, Nat.zero_le _⟩ hS hA hP (fun r1 H locs hr1 hP hS => ?_)
  have hr1 : ((r1 = 1 ∧ (giP (f 42) (r 40) (r 41) x row col)) ∨ (r1 = 0 ∧ ¬ (giP (f 42) (r 40) (r 41) x row col))) := hr1
  refine lv_if_eq (tgt := 30) hx hb dX7_gift_7 (by decide) (fun c2 => ?_) (fun c2 => ?_)
  · have b7 := bF hr1 c2
    refine lv_iconst (v := -1) hx hb dX7_gift_30 (by decide) ?_
    exact rd_iret hx hb hr hlocks hS ((Or.inr ⟨b7, rfl⟩)) dX7_gift_31
  · have b7 := bT hr1 c2
    have hgp := b7
    obtain ⟨n, i, j, hn, hi, hj, rfl, rfl, rfl⟩ := giP_n h42 hgr hgc b7
    refine lv_aload_n hx hb dX7_gift_10 rfl (lv_at hl 0 rfl) ?_
    refine va_get (D := G.1) (ci := 7) (v := .ref (b 39)) (C := RX7) (T := TX7) (N := 43) hx hb hts inX7 hown hK.1 hP 0 rfl rfl 39 (by decide) (hts _ mf_X7_107) (fun _ h9 => h9) rfl dX7_gift_11 ?_
    refine lv_sipush (v := 144) hx hb dX7_gift_14 (by decide) ?_
    refine lv_iload_n hx hb dX7_gift_17 rfl (lv_at hl 1 rfl) ?_
    refine lv_imul hx hb dX7_gift_18 ?_
    refine lv_topi (fun v3 ev3 => ?_)
    obtain rfl : v3 = nI (144 * n) := nI_times ev3 rfl rfl
    refine lv_bipush (v := 12) hx hb dX7_gift_19 (by decide) ?_
    refine lv_iload_n hx hb dX7_gift_21 rfl (lv_at hl 2 rfl) ?_
    refine lv_imul hx hb dX7_gift_22 ?_
    refine lv_topi (fun v4 ev4 => ?_)
    obtain rfl : v4 = nI (12 * i) := nI_times ev4 rfl rfl
    refine lv_iadd hx hb dX7_gift_23 ?_
    refine lv_topi (fun v5 ev5 => ?_)
    obtain rfl : v5 = nI ((144 * n) + (12 * i)) := nI_plus ev5 rfl rfl
    refine lv_iload_n hx hb dX7_gift_24 rfl (lv_at hl 3 rfl) ?_
    refine lv_iadd hx hb dX7_gift_25 ?_
    refine lv_topi (fun v6 ev6 => ?_)
    obtain rfl : v6 = nI (((144 * n) + (12 * i)) + j) := nI_plus ev6 rfl rfl
    refine xiald (f := (r 39)) hx hb hK hP 33 ((((144 * n) + (12 * i)) + j)) (rfl) (by omega) (by decide) rfl dX7_gift_26 ?_
    refine lv_topi (fun v7 ev7 => ?_)
    refine lv_goto (tgt := 31) hx hb dX7_gift_27 (by decide) ?_
    exact rd_iret hx hb hr hlocks hS ((Or.inl ⟨n, i, j, hn, hi, hj, rfl, rfl, rfl, hgp, ev7⟩)) dX7_gift_31
set_option maxHeartbeats 4000000 in
set_option maxRecDepth 100000 in
theorem n_agree (l : Launch) (G : GG) (y : Nat) (b : Nat → Nat) (f : Nat → Int32) (r : Nat → Nat → Int32) (xa : Int32) (xb : Int32) (h42 : nL 16 (f 42)) (hgr : nOK 16 12 (r 40)) (hgc : nOK 16 12 (r 41)) : RdI l yX7_agree cX7_agree 7 (some .int) ({ frames := 1, cells := 0, slots := 0, locals := 23 }) G (mM G y b f r) [.ref y, .int xa, .int xb] (fun q => (agM (f 42) xa xb (r 40) (r 41) (r 39) q)) := by
  refine rd_entry (by decide +kernel) (Nat.le_of_ble_eq_true rfl) ?_
  intro p e s m below meth c C0 hP hK ls hl
  have hS : va_S (fun q => s.heap.size ≤ q) s.heap s.heap [] := va_S.rf
  have hA : ∀ q, s.heap.size ≤ q → (fun q => s.heap.size ≤ q) q := fun _ h => h
  obtain ⟨hx, hb, hml, hown, hts, hr, hlocks, hin⟩ := C0
  have hown : s.vm.findClass RX7 = some m.cls := hown
  have hl : lv_has ls 7 [(0, .ref y), (1, .int xa), (2, .int xb)] := hl
  obtain ⟨gm, hgm, eg⟩ := h42
  have h42 : nL 16 (f 42) := ⟨gm, hgm, eg⟩
  refine lv_iload_n hx hb dX7_agree_0 rfl (lv_at hl 1 rfl) ?_
  refine lv_if_lt (tgt := 24) hx hb dX7_agree_1 (by decide) (fun c1 => ?_) (fun c1 => ?_)
  · refine lv_iconst (v := -1) hx hb dX7_agree_24 (by decide) ?_
    exact rd_iret hx hb hr hlocks hS ((Or.inr ⟨fun z9 => z9.1.1 c1, rfl⟩)) dX7_agree_25
  · refine lv_iload_n hx hb dX7_agree_4 rfl (lv_at hl 2 rfl) ?_
    refine lv_if_lt (tgt := 24) hx hb dX7_agree_5 (by decide) (fun c2 => ?_) (fun c2 => ?_)
    · refine lv_iconst (v := -1) hx hb dX7_agree_24 (by decide) ?_
      exact rd_iret hx hb hr hlocks hS ((Or.inr ⟨fun z9 => z9.2.1 c2, rfl⟩)) dX7_agree_25
    · refine lv_iload_n hx hb dX7_agree_8 rfl (lv_at hl 1 rfl) ?_
      refine lv_aload_n hx hb dX7_agree_9 rfl (lv_at hl 0 rfl) ?_
      refine va_get (D := G.1) (ci := 7) (v := .int (f 42)) (C := RX7) (T := TX7) (N := 43) hx hb hts inX7 hown hK.1 hP 0 rfl rfl 42 (by decide) (hts _ mf_X7_274) (fun _ h9 => h9) rfl dX7_agree_10 ?_
      rw [show (f 42) = nI (gm) from eg]
      refine lv_icmp_ge (tgt := 24) hx hb dX7_agree_13 (by decide) (fun c3 => ?_) (fun c3 => ?_)
      · refine lv_iconst (v := -1) hx hb dX7_agree_24 (by decide) ?_
        exact rd_iret hx hb hr hlocks hS ((Or.inr ⟨fun z9 => z9.1.2 (by first | exact c3 | (rw [eg]; exact c3)), rfl⟩)) dX7_agree_25
      · refine lv_iload_n hx hb dX7_agree_16 rfl (lv_at hl 2 rfl) ?_
        refine lv_aload_n hx hb dX7_agree_17 rfl (lv_at hl 0 rfl) ?_
        refine va_get (D := G.1) (ci := 7) (v := .int (f 42)) (C := RX7) (T := TX7) (N := 43) hx hb hts inX7 hown hK.1 hP 0 rfl rfl 42 (by decide) (hts _ mf_X7_274) (fun _ h9 => h9) rfl dX7_agree_18 ?_
        rw [show (f 42) = nI (gm) from eg]
        refine lv_icmp_lt (tgt := 26) hx hb dX7_agree_21 (by decide) (fun c4 => ?_) (fun c4 => ?_)
        · have hia : inR (f 42) xa := ⟨c1, by rw [eg]; exact c3⟩
          have hib : inR (f 42) xb := ⟨c2, by rw [eg]; exact Int32.not_le.mpr c4⟩
          obtain ⟨na, hna, rfl⟩ := lt_ix (x := xa) (n := gm) (by omega) c1 c3
          obtain ⟨nb, hnb, rfl⟩ := lt_ix (x := xb) (n := gm) (by omega) c2 (Int32.not_le.mpr c4)
          have hgi : ∀ n x y, n < gm → (inR (r 40 n) (nI x) ∧ inR (r 41 n) (nI y)) → giP (f 42) (r 40) (r 41) (nI n) (nI x) (nI y) := fun n x y h1 h2 => ⟨n, by rw [eg, nI_clamp (by omega)]; exact h1, rfl, h2.1, h2.2⟩
          have hgj : ∀ n x y, n < gm → giP (f 42) (r 40) (r 41) (nI n) (nI x) (nI y) → inR (r 40 n) (nI x) ∧ inR (r 41 n) (nI y) := fun n x y h1 ⟨n2, h2, h3, h4, h5⟩ => by rw [eg, nI_clamp (by omega)] at h2; have h6 := (nI_eq (by omega) (by omega)).mp h3; subst h6; exact ⟨h4, h5⟩
          try rw [← eg]
          refine lv_iconst (v := 0) hx hb dX7_agree_26 (by decide) ?_
          refine lv_istore_n (lv' := [(3, .int 0), (0, .ref y), (1, .int (nI na)), (2, .int (nI nb))]) hx hb dX7_agree_27 rfl hl (by decide) rfl (fun ls hl => ?_)
          have loop28 : ∀ (k5 i : Nat) , i ≤ 12 → 12 < i + k5 → (∀ x y, y < 12 → 12 * x + y < 12 * i → ¬ (ULM (r 40) (r 41) (r 39) na nb) x y) → ∀ (H : Heap) (locs : List Loc) (ls : Array Slot), PP G (mM G y b f r) H → va_S (fun q => s.heap.size ≤ q) s.heap H locs → lv_has ls 7 [(3, .int (nI i)), (0, .ref y), (1, .int (nI na)), (2, .int (nI nb))] → W p l e ({ frames := 1, cells := 0, slots := 0, locals := 23 }) s m ([.ref y, .int (nI na), .int (nI nb)] : List Value).toArray below meth c H locs 0 0 (MQ below (QrI (fun q => (agM (f 42) (nI na) (nI nb) (r 40) (r 41) (r 39) q)) (fun q => s.heap.size ≤ q)) ([.ref y, .int (nI na), .int (nI nb)] : List Value).toArray s 0 0 (fun q => s.heap.size ≤ q)) (F0 m 28 ls []) := by
            intro k5
            induction k5 with
            | zero => intro i  h1 h2; exact absurd h1 (by omega)
            | succ k5 ih28k5 =>
              intro i  hi_i hk_i hno H locs ls hP hS hl
              refine lv_iload_n hx hb dX7_agree_28 rfl (lv_at hl 0 rfl) ?_
              refine lv_bipush (v := 12) hx hb dX7_agree_29 (by decide) ?_
              refine lv_icmp_ge (tgt := 146) hx hb dX7_agree_31 (by decide) (fun c6 => ?_) (fun c6 => ?_)
              · have b31 := qge_t (a := i) (b := 12) (by omega) (by omega) c6
                refine lv_bipush (v := -2) hx hb dX7_agree_146 (by decide) ?_
                exact rd_iret hx hb hr hlocks hS ((Or.inl ⟨na, nb, by omega, by omega, rfl, rfl, hia, hib, Or.inl ⟨rfl, fun x y hx hy => hno x y hy (by omega)⟩⟩)) dX7_agree_148
              · have b31 := qge_f (a := i) (b := 12) (by omega) (by omega) c6
                refine lv_iconst (v := 0) hx hb dX7_agree_34 (by decide) ?_
                refine lv_istore (lv' := [(4, .int 0), (3, .int (nI i)), (0, .ref y), (1, .int (nI na)), (2, .int (nI nb))]) hx hb dX7_agree_35 hl (by decide) rfl (fun ls hl => ?_)
                have loop37 : ∀ (k7 k : Nat) , k ≤ 12 → 12 < k + k7 → (∀ x y, y < 12 → 12 * x + y < 12 * i + k → ¬ (ULM (r 40) (r 41) (r 39) na nb) x y) → ∀ (H : Heap) (locs : List Loc) (ls : Array Slot), PP G (mM G y b f r) H → va_S (fun q => s.heap.size ≤ q) s.heap H locs → lv_has ls 7 [(4, .int (nI k)), (3, .int (nI i)), (0, .ref y), (1, .int (nI na)), (2, .int (nI nb))] → W p l e ({ frames := 1, cells := 0, slots := 0, locals := 23 }) s m ([.ref y, .int (nI na), .int (nI nb)] : List Value).toArray below meth c H locs 0 0 (MQ below (QrI (fun q => (agM (f 42) (nI na) (nI nb) (r 40) (r 41) (r 39) q)) (fun q => s.heap.size ≤ q)) ([.ref y, .int (nI na), .int (nI nb)] : List Value).toArray s 0 0 (fun q => s.heap.size ≤ q)) (F0 m 37 ls []) := by
                  intro k7
                  induction k7 with
                  | zero => intro k  h1 h2; exact absurd h1 (by omega)
                  | succ k7 ih37k7 =>
                    intro k  hi_k hk_k hno H locs ls hP hS hl
                    refine lv_iload hx hb dX7_agree_37 (lv_at hl 0 rfl) ?_
                    refine lv_bipush (v := 12) hx hb dX7_agree_39 (by decide) ?_
                    refine lv_icmp_ge (tgt := 140) hx hb dX7_agree_41 (by decide) (fun c8 => ?_) (fun c8 => ?_)
                    · have b41 := qge_t (a := k) (b := 12) (by omega) (by omega) c8
                      obtain ⟨v9, ev9⟩ : ∃ y9 : Int32, y9 = (nI i) + Int32.ofInt (1) := ⟨_, rfl⟩
                      refine lv_iinc (v := v9) (lv' := [(3, .int v9), (4, .int (nI k)), (0, .ref y), (1, .int (nI na)), (2, .int (nI nb))]) hx hb dX7_agree_140 hl (k := 1) rfl ev9.symm (by decide) rfl (fun ls hl => ?_)
                      obtain rfl : v9 = nI (i + 1) := nI_plus (i := i) (j := 1) ev9 rfl (by decide)
                      refine lv_goto (tgt := 28) hx hb dX7_agree_143 (by decide) ?_
                      exact ih28k5 (i + 1) (by omega) (by omega) (fun x y hy h9 => hno x y hy (by omega)) _ _ _ hP hS (lv_sub hl [0, 2, 3, 4] rfl)
                    · have b41 := qge_f (a := k) (b := 12) (by omega) (by omega) c8
                      refine lv_aload_n hx hb dX7_agree_44 rfl (lv_at hl 2 rfl) ?_
                      refine lv_iload_n hx hb dX7_agree_45 rfl (lv_at hl 3 rfl) ?_
                      refine lv_iload_n hx hb dX7_agree_46 rfl (lv_at hl 1 rfl) ?_
                      refine lv_iload hx hb dX7_agree_47 (lv_at hl 0 rfl) ?_
                      refine rdV (rest := []) (q0 := 0) ⟨hx, hb, hml, hown, hts⟩ (m_X7_isIn l G y b f r (nI na) (nI i) (nI k)  h42 hgr hgc) mi_yX7_isIn mv_yX7_isIn ml_X7_277 ⟨rfl, rfl, Nat.le_of_ble_eq_true rfl, Nat.le_of_ble_eq_true rfl⟩ hK (hP) rfl rfl rfl hl.1 rfl (Nat.le_of_ble_eq_true rfl) dX7_agree_49 ⟨Nat.zero_le _, Nat.zero_le _⟩ hS hA hP (fun r10 H locs hr10 hP hS => ?_)
                      have hr10 : ((r10 = 1 ∧ (giP (f 42) (r 40) (r 41) (nI na) (nI i) (nI k))) ∨ (r10 = 0 ∧ ¬ (giP (f 42) (r 40) (r 41) (nI na) (nI i) (nI k)))) := hr10
                      refine lv_if_eq (tgt := 134) hx hb dX7_agree_52 (by decide) (fun c11 => ?_) (fun c11 => ?_)
                      · have b52 := bF hr10 c11
                        obtain ⟨v12, ev12⟩ : ∃ y9 : Int32, y9 = (nI k) + Int32.ofInt (1) := ⟨_, rfl⟩
                        refine lv_iinc (v := v12) (lv' := [(4, .int v12), (3, .int (nI i)), (0, .ref y), (1, .int (nI na)), (2, .int (nI nb))]) hx hb dX7_agree_134 hl (k := 0) rfl ev12.symm (by decide) rfl (fun ls hl => ?_)
                        obtain rfl : v12 = nI (k + 1) := nI_plus (i := k) (j := 1) ev12 rfl (by decide)
                        refine lv_goto (tgt := 37) hx hb dX7_agree_137 (by decide) ?_
                        exact ih37k7 (k + 1) (by omega) (by omega) (fun x y hy h9 => if c9 : x = i ∧ y = k then (by obtain ⟨rfl, rfl⟩ := c9; exact fun h => b52 (hgi na x y hna h.1)) else hno x y hy (by omega)) _ _ _ hP hS (lv_sub hl [0, 1, 2, 3, 4] rfl)
                      · have b52 := bT hr10 c11
                        refine lv_aload_n hx hb dX7_agree_55 rfl (lv_at hl 2 rfl) ?_
                        refine lv_iload_n hx hb dX7_agree_56 rfl (lv_at hl 4 rfl) ?_
                        refine lv_iload_n hx hb dX7_agree_57 rfl (lv_at hl 1 rfl) ?_
                        refine lv_iload hx hb dX7_agree_58 (lv_at hl 0 rfl) ?_
                        refine rdV (rest := []) (q0 := 0) ⟨hx, hb, hml, hown, hts⟩ (m_X7_isIn l G y b f r (nI nb) (nI i) (nI k)  h42 hgr hgc) mi_yX7_isIn mv_yX7_isIn ml_X7_277 ⟨rfl, rfl, Nat.le_of_ble_eq_true rfl, Nat.le_of_ble_eq_true rfl⟩ hK (hP) rfl rfl rfl hl.1 rfl (Nat.le_of_ble_eq_true rfl) dX7_agree_60 ⟨Nat.zero_le _, Nat.zero_le _⟩ hS hA hP (fun r13 H locs hr13 hP hS => ?_)
                        have hr13 : ((r13 = 1 ∧ (giP (f 42) (r 40) (r 41) (nI nb) (nI i) (nI k))) ∨ (r13 = 0 ∧ ¬ (giP (f 42) (r 40) (r 41) (nI nb) (nI i) (nI k)))) := hr13
                        refine lv_if_ne (tgt := 69) hx hb dX7_agree_63 (by decide) (fun c14 => ?_) (fun c14 => ?_)
                        · have b63 := bT hr13 c14
                          refine lv_aload_n hx hb dX7_agree_69 rfl (lv_at hl 2 rfl) ?_
                          refine va_get (D := G.1) (ci := 7) (v := .ref (b 39)) (C := RX7) (T := TX7) (N := 43) hx hb hts inX7 hown hK.1 hP 0 rfl rfl 39 (by decide) (hts _ mf_X7_107) (fun _ h9 => h9) rfl dX7_agree_70 ?_
                          refine lv_sipush (v := 144) hx hb dX7_agree_73 (by decide) ?_
                          refine lv_iload_n hx hb dX7_agree_76 rfl (lv_at hl 3 rfl) ?_
                          refine lv_imul hx hb dX7_agree_77 ?_
                          refine lv_topi (fun v15 ev15 => ?_)
                          obtain rfl : v15 = nI (144 * na) := nI_times ev15 rfl rfl
                          refine lv_bipush (v := 12) hx hb dX7_agree_78 (by decide) ?_
                          refine lv_iload_n hx hb dX7_agree_80 rfl (lv_at hl 1 rfl) ?_
                          refine lv_imul hx hb dX7_agree_81 ?_
                          refine lv_topi (fun v16 ev16 => ?_)
                          obtain rfl : v16 = nI (12 * i) := nI_times ev16 rfl rfl
                          refine lv_iadd hx hb dX7_agree_82 ?_
                          refine lv_topi (fun v17 ev17 => ?_)
                          obtain rfl : v17 = nI ((144 * na) + (12 * i)) := nI_plus ev17 rfl rfl
                          refine lv_iload hx hb dX7_agree_83 (lv_at hl 0 rfl) ?_
                          refine lv_iadd hx hb dX7_agree_85 ?_
                          refine lv_topi (fun v18 ev18 => ?_)
                          obtain rfl : v18 = nI (((144 * na) + (12 * i)) + k) := nI_plus ev18 rfl rfl
                          refine xiald (f := (r 39)) hx hb hK hP 33 ((((144 * na) + (12 * i)) + k)) (rfl) (by omega) (by decide) rfl dX7_agree_86 ?_
                          refine lv_topi (fun v19 ev19 => ?_)
                          refine lv_istore (lv' := [(5, .int v19), (4, .int (nI k)), (3, .int (nI i)), (0, .ref y), (1, .int (nI na)), (2, .int (nI nb))]) hx hb dX7_agree_87 hl (by decide) rfl (fun ls hl => ?_)
                          refine lv_aload_n hx hb dX7_agree_89 rfl (lv_at hl 3 rfl) ?_
                          refine va_get (D := G.1) (ci := 7) (v := .ref (b 39)) (C := RX7) (T := TX7) (N := 43) hx hb hts inX7 hown hK.1 hP 0 rfl rfl 39 (by decide) (hts _ mf_X7_107) (fun _ h9 => h9) rfl dX7_agree_90 ?_
                          refine lv_sipush (v := 144) hx hb dX7_agree_93 (by decide) ?_
                          refine lv_iload_n hx hb dX7_agree_96 rfl (lv_at hl 5 rfl) ?_
                          refine lv_imul hx hb dX7_agree_97 ?_
                          refine lv_topi (fun v20 ev20 => ?_)
                          obtain rfl : v20 = nI (144 * nb) := nI_times ev20 rfl rfl
                          refine lv_bipush (v := 12) hx hb dX7_agree_98 (by decide) ?_
                          refine lv_iload_n hx hb dX7_agree_100 rfl (lv_at hl 2 rfl) ?_
                          refine lv_imul hx hb dX7_agree_101 ?_
                          refine lv_topi (fun v21 ev21 => ?_)
                          obtain rfl : v21 = nI (12 * i) := nI_times ev21 rfl rfl
                          refine lv_iadd hx hb dX7_agree_102 ?_
                          refine lv_topi (fun v22 ev22 => ?_)
                          obtain rfl : v22 = nI ((144 * nb) + (12 * i)) := nI_plus ev22 rfl rfl
                          refine lv_iload hx hb dX7_agree_103 (lv_at hl 1 rfl) ?_
                          refine lv_iadd hx hb dX7_agree_105 ?_
                          refine lv_topi (fun v23 ev23 => ?_)
                          obtain rfl : v23 = nI (((144 * nb) + (12 * i)) + k) := nI_plus ev23 rfl rfl
                          refine xiald (f := (r 39)) hx hb hK hP 33 ((((144 * nb) + (12 * i)) + k)) (rfl) (by omega) (by decide) rfl dX7_agree_106 ?_
                          refine lv_topi (fun v24 ev24 => ?_)
                          refine lv_istore (lv' := [(6, .int v24), (5, .int v19), (4, .int (nI k)), (3, .int (nI i)), (0, .ref y), (1, .int (nI na)), (2, .int (nI nb))]) hx hb dX7_agree_107 hl (by decide) rfl (fun ls hl => ?_)
                          refine lv_iload hx hb dX7_agree_109 (lv_at hl 1 rfl) ?_
                          refine lv_if_lt (tgt := 134) hx hb dX7_agree_111 (by decide) (fun c25 => ?_) (fun c25 => ?_)
                          · obtain ⟨v26, ev26⟩ : ∃ y9 : Int32, y9 = (nI k) + Int32.ofInt (1) := ⟨_, rfl⟩
                            refine lv_iinc (v := v26) (lv' := [(4, .int v26), (6, .int v24), (5, .int v19), (3, .int (nI i)), (0, .ref y), (1, .int (nI na)), (2, .int (nI nb))]) hx hb dX7_agree_134 hl (k := 2) rfl ev26.symm (by decide) rfl (fun ls hl => ?_)
                            obtain rfl : v26 = nI (k + 1) := nI_plus (i := k) (j := 1) ev26 rfl (by decide)
                            refine lv_goto (tgt := 37) hx hb dX7_agree_137 (by decide) ?_
                            exact ih37k7 (k + 1) (by omega) (by omega) (fun x y hy h9 => if c9 : x = i ∧ y = k then (by obtain ⟨rfl, rfl⟩ := c9; exact fun h => h.2.2.1 (by rw [← ev19]; exact c25)) else hno x y hy (by omega)) _ _ _ hP hS (lv_sub hl [0, 3, 4, 5, 6] rfl)
                          · refine lv_iload hx hb dX7_agree_114 (lv_at hl 0 rfl) ?_
                            refine lv_if_lt (tgt := 134) hx hb dX7_agree_116 (by decide) (fun c27 => ?_) (fun c27 => ?_)
                            · obtain ⟨v28, ev28⟩ : ∃ y9 : Int32, y9 = (nI k) + Int32.ofInt (1) := ⟨_, rfl⟩
                              refine lv_iinc (v := v28) (lv' := [(4, .int v28), (6, .int v24), (5, .int v19), (3, .int (nI i)), (0, .ref y), (1, .int (nI na)), (2, .int (nI nb))]) hx hb dX7_agree_134 hl (k := 2) rfl ev28.symm (by decide) rfl (fun ls hl => ?_)
                              obtain rfl : v28 = nI (k + 1) := nI_plus (i := k) (j := 1) ev28 rfl (by decide)
                              refine lv_goto (tgt := 37) hx hb dX7_agree_137 (by decide) ?_
                              exact ih37k7 (k + 1) (by omega) (by omega) (fun x y hy h9 => if c9 : x = i ∧ y = k then (by obtain ⟨rfl, rfl⟩ := c9; exact fun h => h.2.2.2.1 (by rw [← ev24]; exact c27)) else hno x y hy (by omega)) _ _ _ hP hS (lv_sub hl [0, 3, 4, 5, 6] rfl)
                            · refine lv_iload hx hb dX7_agree_119 (lv_at hl 1 rfl) ?_
                              refine lv_iload hx hb dX7_agree_121 (lv_at hl 0 rfl) ?_
                              refine lv_icmp_eq (tgt := 134) hx hb dX7_agree_123 (by decide) (fun c29 => ?_) (fun c29 => ?_)
                              · obtain ⟨v30, ev30⟩ : ∃ y9 : Int32, y9 = (nI k) + Int32.ofInt (1) := ⟨_, rfl⟩
                                refine lv_iinc (v := v30) (lv' := [(4, .int v30), (6, .int v24), (5, .int v19), (3, .int (nI i)), (0, .ref y), (1, .int (nI na)), (2, .int (nI nb))]) hx hb dX7_agree_134 hl (k := 2) rfl ev30.symm (by decide) rfl (fun ls hl => ?_)
                                obtain rfl : v30 = nI (k + 1) := nI_plus (i := k) (j := 1) ev30 rfl (by decide)
                                refine lv_goto (tgt := 37) hx hb dX7_agree_137 (by decide) ?_
                                exact ih37k7 (k + 1) (by omega) (by omega) (fun x y hy h9 => if c9 : x = i ∧ y = k then (by obtain ⟨rfl, rfl⟩ := c9; exact fun h => h.2.2.2.2 (by rw [← ev19, ← ev24]; exact c29)) else hno x y hy (by omega)) _ _ _ hP hS (lv_sub hl [0, 3, 4, 5, 6] rfl)
                              · refine lv_bipush (v := 100) hx hb dX7_agree_126 (by decide) ?_
                                refine lv_iload_n hx hb dX7_agree_128 rfl (lv_at hl 3 rfl) ?_
                                refine lv_imul hx hb dX7_agree_129 ?_
                                refine lv_topi (fun v31 ev31 => ?_)
                                obtain rfl : v31 = nI (100 * i) := nI_times ev31 rfl rfl
                                refine lv_iload hx hb dX7_agree_130 (lv_at hl 2 rfl) ?_
                                refine lv_iadd hx hb dX7_agree_132 ?_
                                refine lv_topi (fun v32 ev32 => ?_)
                                obtain rfl : v32 = nI ((100 * i) + k) := nI_plus ev32 rfl rfl
                                exact rd_iret hx hb hr hlocks hS ((Or.inl ⟨na, nb, by omega, by omega, rfl, rfl, hia, hib, Or.inr ⟨i, k, by omega, by omega, ⟨hgj na i k hna b52, hgj nb i k hnb b63, by rw [← ev19]; exact c25, by rw [← ev24]; exact c27, by rw [← ev19, ← ev24]; exact c29⟩, rfl, hno⟩⟩)) dX7_agree_133
                        · have b63 := bF hr13 c14
                          refine lv_goto (tgt := 134) hx hb dX7_agree_66 (by decide) ?_
                          obtain ⟨v33, ev33⟩ : ∃ y9 : Int32, y9 = (nI k) + Int32.ofInt (1) := ⟨_, rfl⟩
                          refine lv_iinc (v := v33) (lv' := [(4, .int v33), (3, .int (nI i)), (0, .ref y), (1, .int (nI na)), (2, .int (nI nb))]) hx hb dX7_agree_134 hl (k := 0) rfl ev33.symm (by decide) rfl (fun ls hl => ?_)
                          obtain rfl : v33 = nI (k + 1) := nI_plus (i := k) (j := 1) ev33 rfl (by decide)
                          refine lv_goto (tgt := 37) hx hb dX7_agree_137 (by decide) ?_
                          exact ih37k7 (k + 1) (by omega) (by omega) (fun x y hy h9 => if c9 : x = i ∧ y = k then (by obtain ⟨rfl, rfl⟩ := c9; exact fun h => b63 (hgi nb x y hnb h.2.1)) else hno x y hy (by omega)) _ _ _ hP hS (lv_sub hl [0, 1, 2, 3, 4] rfl)
                exact loop37 (12 + 1) 0 (by omega) (by omega) (hno) _ _ _ hP hS (lv_sub hl [0, 1, 2, 3, 4] rfl)
          exact loop28 (12 + 1) 0 (by omega) (by omega) (fun x y hy h9 => absurd h9 (by omega)) _ _ _ hP hS (lv_sub hl [0, 1, 2, 3] rfl)
        · refine lv_iconst (v := -1) hx hb dX7_agree_24 (by decide) ?_
          exact rd_iret hx hb hr hlocks hS ((Or.inr ⟨fun z9 => z9.2.2 (by first | exact Int32.not_lt.mp c4 | (rw [eg]; exact Int32.not_lt.mp c4)), rfl⟩)) dX7_agree_25
