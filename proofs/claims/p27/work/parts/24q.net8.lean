def eqK (rw cl : Nat) (sn : Nat → Prop) (K K2 : Nat → Nat → Bool) : Prop := ∀ x y, x < rw → y < cl → sn x → K x y = K2 x y
/-- the words of two sides mean one thing on the sound rows -/
def SAMW (rw cl : Nat) (sn : Nat → Prop) (UN UN2 : (Nat → Nat → Bool) → Nat → Nat → Prop) (mt mt2 zz zz2 : Nat → Nat → Prop) (pr pr2 : Nat → Nat → Nat) : Prop := (∀ K K2, eqK rw cl sn K K2 → ∀ x y, x < rw → y < cl → (UN K x y ↔ UN2 K2 x y)) ∧ (∀ K x y, UN K x y → sn x) ∧ (∀ i q, i < rw → q < rw → (mt i q ↔ mt2 i q)) ∧ (∀ i q, mt i q → sn q) ∧ (∀ x y, x < rw → y < cl → sn x → (zz x y ↔ zz2 x y)) ∧ ∀ x y, x < rw → y < cl → sn x → pr x y = pr2 x y
section PX
variable {rw cl : Nat} {sn : Nat → Prop} {UN UN2 : (Nat → Nat → Bool) → Nat → Nat → Prop} {mt mt2 zz zz2 : Nat → Nat → Prop} {pr pr2 : Nat → Nat → Nat} {K K2 K0 K02 Pl : Nat → Nat → Bool} {i j q d n : Nat}
theorem CAND_x (h : SAMW rw cl sn UN UN2 mt mt2 zz zz2 pr pr2) (hK : eqK rw cl sn K K2) (hi : i < rw) (hj : j < cl) (hs : sn i) : CAND rw cl mt zz K i j q d ↔ CAND rw cl mt2 zz2 K2 i j q d := by
  obtain ⟨_, _, h3, h4, h5, _⟩ := h
  unfold CAND
  constructor
  · rintro ⟨a1, a2, a3, a4, a5, a6, a7, a8, a9⟩
    have sq := h4 i q a5
    refine ⟨a1, a2, a3, a4, (h3 i q hi a1).mp a5, fun z => a6 ((h5 i d hi a2 hs).mpr z), fun z => a7 ((h5 q j a1 hj sq).mpr z), fun z => a8 ((h5 q d a1 a2 sq).mpr z), ?_⟩
    rw [← hK i d hi a2 hs, ← hK q j a1 hj sq, ← hK q d a1 a2 sq]; exact a9
  · rintro ⟨a1, a2, a3, a4, a5, a6, a7, a8, a9⟩
    have b5 := (h3 i q hi a1).mpr a5
    have sq := h4 i q b5
    refine ⟨a1, a2, a3, a4, b5, fun z => a6 ((h5 i d hi a2 hs).mp z), fun z => a7 ((h5 q j a1 hj sq).mp z), fun z => a8 ((h5 q d a1 a2 sq).mp z), ?_⟩
    rw [hK i d hi a2 hs, hK q j a1 hj sq, hK q d a1 a2 sq]; exact a9
theorem pc3_x (h : SAMW rw cl sn UN UN2 mt mt2 zz zz2 pr pr2) (hK : eqK rw cl sn K K2) (hi : i < rw) (hj : j < cl) (hs : sn i) (hq : q < rw) (hd : d < cl) (sq : sn q) : pc3 pr K i j q d = pc3 pr2 K2 i j q d := by
  unfold pc3 pcT
  rw [hK q j hq hj sq, hK i d hi hd hs, hK q d hq hd sq, h.2.2.2.2.2 q j hq hj sq, h.2.2.2.2.2 i d hi hd hs, h.2.2.2.2.2 q d hq hd sq]
theorem BSN_x (h : SAMW rw cl sn UN UN2 mt mt2 zz zz2 pr pr2) (hK : eqK rw cl sn K K2) (hi : i < rw) (hj : j < cl) (hs : sn i) (hb : BSN rw cl mt zz pr K i j n q d) : BSN rw cl mt2 zz2 pr2 K2 i j n q d := by
  obtain ⟨c1, c2, c3⟩ := hb
  have sq := h.2.2.2.1 i q c1.2.2.2.2.1
  refine ⟨(CAND_x h hK hi hj hs).mp c1, c2, fun q2 d2 hc hn => ?_⟩
  have e1 := (CAND_x h hK hi hj hs).mpr hc
  have s2 := h.2.2.2.1 i q2 e1.2.2.2.2.1
  rw [← pc3_x h hK hi hj hs c1.1 c1.2.1 sq, ← pc3_x h hK hi hj hs e1.1 e1.2.1 s2]
  exact c3 q2 d2 e1 hn
theorem NON_x (h : SAMW rw cl sn UN UN2 mt mt2 zz zz2 pr pr2) (hK : eqK rw cl sn K K2) (hi : i < rw) (hj : j < cl) (hs : sn i) (hb : NON rw cl mt zz K i j n) : NON rw cl mt2 zz2 K2 i j n := fun q d hc => hb q d ((CAND_x h hK hi hj hs).mpr hc)
theorem FST_x (h : SAMW rw cl sn UN UN2 mt mt2 zz zz2 pr pr2) (hK : eqK rw cl sn K K2) (hb : FST rw cl UN K i j) : FST rw cl UN2 K2 i j := ⟨hb.1, hb.2.1, (h.1 K K2 hK i j hb.1 hb.2.1).mp hb.2.2.1, fun x y hx hy hl z => hb.2.2.2 x y hx hy hl ((h.1 K K2 hK x y hx hy).mpr z)⟩
theorem kOf_x (hK : eqK rw cl sn K0 K02) : eqK rw cl sn (kOf K0 Pl) (kOf K02 Pl) := fun x y hx hy hs => by unfold kOf; rw [hK x y hx hy hs]
theorem PLS_x (h : SAMW rw cl sn UN UN2 mt mt2 zz zz2 pr pr2) (hK : eqK rw cl sn K0 K02) : ∀ n {Pl : Nat → Nat → Bool} {c : Nat}, PLS rw cl UN mt zz pr K0 n Pl c → PLS rw cl UN2 mt2 zz2 pr2 K02 n Pl c
  | 0, _, _, z => z
  | n + 1, Pl, c, ⟨P1, c1, i, j, q, d, h1, h2, h3, h4, h5⟩ => by
    have hi := h2.1
    have hj := h2.2.1
    have hs := h.2.1 _ i j h2.2.2.1
    have hk := kOf_x (Pl := P1) hK
    have sq := h.2.2.2.1 i q h3.1.2.2.2.2.1
    refine ⟨P1, c1, i, j, q, d, PLS_x h hK n h1, FST_x h hk h2, BSN_x h hk hi hj hs h3, h4, ?_⟩
    rw [h5]
    unfold nw3 nw1
    rw [hk i d hi h3.1.2.1 hs, hk q j h3.1.1 hj sq, hk q d h3.1.1 h3.1.2.1 sq]
theorem PDN_x (h : SAMW rw cl sn UN UN2 mt mt2 zz zz2 pr pr2) (hK : eqK rw cl sn K0 K02) (hp : PDN rw cl UN K0 Pl) : PDN rw cl UN2 K02 Pl := fun x y hx hy z => hp x y hx hy ((h.1 _ _ (kOf_x hK) x y hx hy).mpr z)
theorem PFL_x (h : SAMW rw cl sn UN UN2 mt mt2 zz zz2 pr pr2) (hK : eqK rw cl sn K0 K02) (hp : PFL rw cl UN mt zz K0 Pl) : PFL rw cl UN2 mt2 zz2 K02 Pl := by
  obtain ⟨i, j, h1, h2⟩ := hp
  exact ⟨i, j, FST_x h (kOf_x hK) h1, NON_x h (kOf_x hK) h1.1 h1.2.1 (h.2.1 _ i j h1.2.2.1) h2⟩
theorem PX_no (h1 : PDN rw cl UN K0 Pl) (h2 : PFL rw cl UN mt zz K0 Pl) : False := by
  obtain ⟨i, j, h3, _⟩ := h2
  exact h1 i j h3.1 h3.2.1 h3.2.2.1
theorem GRD_x {sec sec2 M : Nat → Nat → Prop} {m s : Nat} (h : SAMW rw cl sn UN UN2 mt mt2 zz zz2 pr pr2) (hs : ∀ x y, x < rw → y < cl → sn x → (sec x y ↔ sec2 x y)) : GRD rw cl UN sec M m s ↔ GRD rw cl UN2 sec2 M m s := by
  have e : eqK rw cl sn (KS sec M m s) (KS sec2 M m s) := fun x y hx hy hn => pB_c ⟨fun z => z.imp (hs x y hx hy hn).mp id, fun z => z.imp (hs x y hx hy hn).mpr id⟩
  exact ⟨fun z x y hx hy w => z x y hx hy ((h.1 _ _ e x y hx hy).mpr w), fun z x y hx hy w => z x y hx hy ((h.1 _ _ e x y hx hy).mp w)⟩
theorem UNG_k {cs : Nat → Int32} {sec : Nat → Nat → Prop} {Lo Hi N : Nat → Nat → Nat} {dn up : Nat} (hK : eqK rw cl sn K K2) : UNG rw cl sn cs sec Lo Hi N dn up K i j ↔ UNG rw cl sn cs sec Lo Hi N dn up K2 i j := by
  have e : ∀ its, kG rw cl sn cs its K = kG rw cl sn cs its K2 := fun its => funext (fun x => funext (fun y => by
    unfold kG
    cases c : dG rw cl sn cs its x y with
    | false => rfl
    | true =>
      have q := pB_i c
      rw [hK x y q.1 q.2.1 q.2.2.1]))
  unfold UNG SFG
  rw [e]
end PX
theorem sumI_ub {f : Nat → Int} {B : Int} : ∀ n : Nat, (∀ k, k < n → f k ≤ B) → sumI n f ≤ B * n
  | 0, _ => by show (0 : Int) ≤ _; simp
  | n + 1, h => by
    have h1 := sumI_ub n (fun k hk => h k (by omega))
    have h2 := h n (by omega)
    show sumI n f + f n ≤ _
    have e : B * ((n + 1 : Nat) : Int) = B * (n : Int) + B := by rw [Int.natCast_add, Int.mul_add]; simp
    omega
theorem wh_n (k n h u0 u1 u2 gm tw : Int32) : ∃ m, m ≤ 15 ∧ whM k n h u0 u1 u2 gm tw = nI m := by
  have hB : ∃ m, m ≤ 8 ∧ whB h = nI m := by
    unfold whB
    by_cases c : h = 0
    · exact ⟨0, by omega, if_pos c⟩
    · exact ⟨8, by omega, if_neg c⟩
  have h1 : ∃ m, m ≤ 9 ∧ wh1 k n h u0 = nI m := by
    obtain ⟨m, hm, em⟩ := hB
    unfold wh1
    by_cases c : k = 1 ∧ ¬ n < 1 ∧ ¬ u0 < n
    · exact ⟨m + 1, by omega, by rw [if_pos c, em]; exact nI_add m 1⟩
    · exact ⟨m, by omega, by rw [if_neg c, em]⟩
  have h2 : ∃ m, m ≤ 11 ∧ wh2 k n h u0 u1 gm = nI m := by
    obtain ⟨m, hm, em⟩ := h1
    unfold wh2
    by_cases c : k = 2 ∧ ¬ n ≤ 0 ∧ ¬ u1 ≤ gm
    · exact ⟨m + 2, by omega, by rw [if_pos c, em]; exact nI_add m 2⟩
    · exact ⟨m, by omega, by rw [if_neg c, em]⟩
  have h4 : ∃ m, m ≤ 15 ∧ wh4 k n h u0 u1 u2 gm tw = nI m := by
    obtain ⟨m, hm, em⟩ := h2
    unfold wh4
    by_cases c : k = 2 ∧ ¬ n ≤ 0 ∧ ¬ u2 * n ≤ 100 * (n - tw)
    · exact ⟨m + 4, by omega, by rw [if_pos c, em]; exact nI_add m 4⟩
    · exact ⟨m, by omega, by rw [if_neg c, em]⟩
  unfold whM
  by_cases c : k = 4 ∨ k = 5 ∨ k = 0
  · exact ⟨0, by omega, if_pos c⟩
  · rw [if_neg c]; exact h4
theorem wh_pos {r4 r5 r6 r7 r8 r9 : Nat → Int32} {t p : Nat} : ¬ whR r4 r5 r6 r7 r8 r9 t p = 0 ↔ 0 < whR r4 r5 r6 r7 r8 r9 t p := by
  unfold whR
  obtain ⟨m, hm, em⟩ := wh_n (r5 p) (r6 p) (r9 p) (r4 (6 * t)) (r4 (6 * t + 1)) (r4 (6 * t + 2)) (r7 p) ((twM (fun m => r8 (6 * p + m)) (r7 p).toNatClampNeg).1 + (twM (fun m => r8 (6 * p + m)) (r7 p).toNatClampNeg).2)
  rw [em]
  constructor
  · intro z
    have : 0 < m := Nat.pos_of_ne_zero (fun e => z (by rw [e]; rfl))
    exact (pos_nI (by omega)).mpr this
  · intro z e
    rw [e] at z; exact absurd z (by decide)
/-- the keep bits of both sides in step -/
def KKr (kd td k10 : Int32) : Prop := (td &&& 2 = 0 ↔ k10 = 0) ∧ (¬ gdK kd → td &&& 2 = 0)
def JKr (rw : Int32) (pl kd td a10 : Nat → Int32) (j : Nat) : Prop := ∀ i c, i < 12 → c < 12 → inR rw (nI i) → nI c < pl i → KKr (kd (i * 12 + c)) (td (i * 12 + c)) (a10 (144 * j + 12 * i + c))
section TW
variable {o f1 f2 f3 : Int32} {rw cl bk dn up j : Nat} {pl kd nu td ps ru bf bl a1 a2 a3 a4 a5 a6 a7 a8 a9 a10 a11 a12 a13 a14 r6 r7 r8 r9 r10 r11 r12 r13 r14 : Nat → Int32}
theorem W_in (er : f1 = nI rw) (hrw : rw ≤ 12) {x : Nat} (hx : x < rw) : inR f1 (nI x) := by rw [er]; exact ⟨nI_pos (by omega), nI_ge hx (by omega)⟩
theorem W_so (hrw : rw ≤ 12) (hcl : cl ≤ 12) (er : f1 = nI rw) (ec : f2 = nI cl) (hT : TSr o f1 f2 pl a1 a2 a3 a11 j) (hD : TDr f1 f2 f3 pl kd nu td ps ru bf bl a4 a5 a6 a7 a8 a9 a12 a13 a14 j) (hLD : LDR rw cl bk pl kd nu td ps ru bf bl r6 r7 r8 r9 r10 r11 r12 r13 r14) {x : Nat} (hx : x < rw) : ¬ r6 x = 0 ↔ sndN (a3 j) a11 a5 j x := by
  have h := so_iff ⟨cl, hcl, ec⟩ hT hD (show x < 12 by omega) (W_in er hrw hx)
  rw [ec, nI_clamp (by omega)] at h
  exact (LD_so hLD hx).trans h
theorem W_pl (ec : f2 = nI cl) (hT : TSr o f1 f2 pl a1 a2 a3 a11 j) {x : Nat} (hx : x < 12) (hs : sndN (a3 j) a11 a5 j x) : pl x = nI cl := by
  rw [hT.2.2.2 x hx, hs.1, ← hT.2.2.1, ec]
theorem W_c (hrw : rw ≤ 12) (hcl : cl ≤ 12) (er : f1 = nI rw) (ec : f2 = nI cl) (hT : TSr o f1 f2 pl a1 a2 a3 a11 j) (hD : TDr f1 f2 f3 pl kd nu td ps ru bf bl a4 a5 a6 a7 a8 a9 a12 a13 a14 j) (hJ : JKr f1 pl kd td a10 j) {x y : Nat} (hx : x < rw) (hy : y < cl) (hs : sndP cl pl kd x) : kd (x * 12 + y) = a5 (144 * j + 12 * x + y) ∧ nu (x * 12 + y) = a6 (144 * j + 12 * x + y) ∧ rsF kd nu td ps ru (x * 12 + y) = whR a4 a5 a6 a7 a8 a9 j (144 * j + 12 * x + y) ∧ KKr (kd (x * 12 + y)) (td (x * 12 + y)) (a10 (144 * j + 12 * x + y)) ∧ ¬ kd (x * 12 + y) = 0 ∧ ¬ kd (x * 12 + y) = 5 := by
  have hin := W_in er hrw hx
  have h := so_iff ⟨cl, hcl, ec⟩ hT hD (show x < 12 by omega) hin
  rw [ec, nI_clamp (by omega)] at h
  have hlt : nI y < pl x := by rw [W_pl ec hT (by omega) (h.mp hs)]; exact nI_lt hy (by omega)
  have hcs := hD.2.2.2.2 x y (by omega) (by omega) hin hlt
  obtain ⟨g0, g5⟩ := hs.2 y hy
  refine ⟨hcs.1, hcs.2.1, ?_, hJ x y (by omega) (by omega) hin hlt, g0, g5⟩
  obtain ⟨m, hm, em⟩ := hcs.2.2.2.2.1
  have m0 : m ≠ 0 := fun z => g0 (by rw [em, z]; rfl)
  have m5 : m ≠ 5 := fun z => g5 (by rw [em, z]; rfl)
  have e45 : kd (x * 12 + y) = a5 (144 * j + 12 * x + y) := hcs.1
  have ek : a5 (144 * j + 12 * x + y) = 1 ∨ a5 (144 * j + 12 * x + y) = 2 ∨ a5 (144 * j + 12 * x + y) = 3 ∨ a5 (144 * j + 12 * x + y) = 4 := by
    rw [← e45, em]
    rcases (show m = 1 ∨ m = 2 ∨ m = 3 ∨ m = 4 by omega) with rfl | rfl | rfl | rfl
    · exact Or.inl rfl
    · exact Or.inr (Or.inl rfl)
    · exact Or.inr (Or.inr (Or.inl rfl))
    · exact Or.inr (Or.inr (Or.inr rfl))
  exact rs_eq e45 hcs.2.1 ek hcs.2.2.1 (fun z => hcs.2.2.2.2.2.1 (fun g => g.2.2 (e45.trans z))) hD.2.1 hcs.2.2.2.1
theorem W_bd {x y S : Nat} {D : Nat → Nat → Bool} (hk : kd (x * 12 + y) = a5 (144 * j + 12 * x + y)) (hN : NTc nu x y = NTm a6 j x y) (hS : STc nu cl x = STm a6 j cl x) (hb : ∀ y, D x y = true → NTc nu x y ≤ 1000000 ∧ NTc nu x y ≤ STc nu cl x) : LTc kd nu cl x y = LTm a5 a6 j cl x y ∧ (HTc kd nu cl x y = HTm a5 a6 j cl x y ∨ (rsum (rsT D (NTc nu)) x ≤ (HTc kd nu cl x y : Int) ∧ rsum (rsT D (NTc nu)) x ≤ (HTm a5 a6 j cl x y : Int))) := by
  have b1 : rsum (rsT D (NTc nu)) x ≤ 12000000 := by
    have := sumI_ub (f := fun y => ((rsT D (NTc nu) x y : Nat) : Int)) (B := 1000000) 12 (fun y _ => by
      rcases bo (D x y) with d | d
      · have := (hb y d).1
        show ((rsT D (NTc nu) x y : Nat) : Int) ≤ _
        rw [rsT_t d]; omega
      · show ((rsT D (NTc nu) x y : Nat) : Int) ≤ _
        rw [rsT_f d]; decide)
    unfold rsum; omega
  have b0 : STc nu cl x = 0 → rsum (rsT D (NTc nu)) x ≤ 0 := fun e => by
    have := sumI_ub (f := fun y => ((rsT D (NTc nu) x y : Nat) : Int)) (B := 0) 12 (fun y _ => by
      rcases bo (D x y) with d | d
      · have := (hb y d).2
        show ((rsT D (NTc nu) x y : Nat) : Int) ≤ _
        rw [rsT_t d]; omega
      · show ((rsT D (NTc nu) x y : Nat) : Int) ≤ _
        rw [rsT_f d]; decide)
    unfold rsum; omega
  unfold LTc LTm HTc HTm
  rw [← hk, ← hN, ← hS]
  by_cases c : kd (x * 12 + y) = 3
  · by_cases s : STc nu cl x = 0
    · refine ⟨?_, Or.inr ⟨?_, ?_⟩⟩
      · rw [if_neg (fun z => by have := z.2; omega), if_pos c, s]
        unfold loN; rw [Nat.mul_zero]
      · have := b0 s
        rw [if_neg (fun z => by have := z.2; omega)]; omega
      · have := b0 s
        rw [if_pos c, if_pos s]; omega
    · refine ⟨?_, Or.inl ?_⟩
      · rw [if_pos ⟨c, by omega⟩, if_pos c]
      · rw [if_pos ⟨c, by omega⟩, if_pos c, if_neg s]
  · refine ⟨?_, Or.inr ⟨?_, ?_⟩⟩
    · rw [if_neg (fun z => c z.1), if_neg c]
    · rw [if_neg (fun z => c z.1)]; omega
    · rw [if_neg c]; omega
theorem W_all (hrw : rw ≤ 12) (hcl : cl ≤ 12) (hbk : bk ≤ 12) (er : f1 = nI rw) (ec : f2 = nI cl) (hT : TSr o f1 f2 pl a1 a2 a3 a11 j) (hD : TDr f1 f2 f3 pl kd nu td ps ru bf bl a4 a5 a6 a7 a8 a9 a12 a13 a14 j) (hJ : JKr f1 pl kd td a10 j) (hN : NRC rw cl pl kd nu) (hLD : LDR rw cl bk pl kd nu td ps ru bf bl r6 r7 r8 r9 r10 r11 r12 r13 r14) : SAMW rw cl (fun x => ¬ r6 x = 0) (UNG rw cl (fun x => ¬ r6 x = 0) r7 (secA r10) (LTc kd nu cl) (HTc kd nu cl) (NTc nu) dn up) (UGm rw cl j bk a3 a4 a5 a6 a7 a8 a9 a11 a13 a14 dn up) (mtA r6 r7) (mtM a3 a5 a11 a13 a14 j bk) (zzA r8) (zzM a5 j) (prA ru nu) (prM a4 a6 j) ∧ eqK rw cl (fun x => ¬ r6 x = 0) (KA r11) (KM a4 a5 a6 a7 a8 a9 a10 j) ∧ (∀ x y, x < rw → y < cl → ¬ r6 x = 0 → (secA r10 x y ↔ seM a4 a5 a6 a7 a8 a9 j x y)) ∧ mayA r8 r10 rw cl = mayM a3 a4 a5 a6 a7 a8 a9 a11 j rw cl := by
  have hso : ∀ x, x < rw → (¬ r6 x = 0 ↔ sndN (a3 j) a11 a5 j x) := fun x hx => W_so hrw hcl er ec hT hD hLD hx
  have hsp : ∀ x, x < rw → ¬ r6 x = 0 → sndP cl pl kd x := fun x hx hs => (LD_so hLD hx).mp hs
  have hc : ∀ x y, x < rw → y < cl → ¬ r6 x = 0 → _ := fun x y hx hy hs => W_c hrw hcl er ec hT hD hJ hx hy (hsp x hx hs)
  have hcs : ∀ x, x < rw → r7 x = csMm a13 a14 j bk x := fun x hx => by
    rw [(hLD x hx).1, cl_eq hD.2.2.1 bk hbk]; rfl
  have hse : ∀ x y, x < rw → y < cl → ¬ r6 x = 0 → (secA r10 x y ↔ seM a4 a5 a6 a7 a8 a9 j x y) := fun x y hx hy hs => by
    unfold secA seM
    rw [(LD_y hLD hx hs y hy).2.2.1, (hc x y hx hy hs).2.2.1]
    exact wh_pos
  have hnt : ∀ x y, x < rw → y < cl → ¬ r6 x = 0 → NTc nu x y = NTm a6 j x y := fun x y hx hy hs => by
    unfold NTc NTm; rw [(hc x y hx hy hs).2.1]
  have hst : ∀ x, x < rw → ¬ r6 x = 0 → STc nu cl x = STm a6 j cl x := fun x hx hs => by
    unfold STc STm; rw [sm_eq cl (fun c hc' => (hc x c hx hc' hs).2.1)]
  refine ⟨⟨fun K K2 hK x y hx hy => (UNG_k hK).trans ?_, fun K x y h => h.2.2.1, fun i q hi hq => ?_, fun i q h => h.1, fun x y hx hy hs => ?_, fun x y hx hy hs => ?_⟩, fun x y hx hy hs => ?_, hse, ?_⟩
  · unfold UGm
    refine UNG_c hrw hcl hso hcs hse (fun x y hx hy hs => (hnt x y hx hy hs).symm) (fun x y its hk => ?_)
    obtain ⟨a, _⟩ := kG_t hk
    have hs := a.2.2.1
    refine W_bd (S := 0) (hc x y a.1 a.2.1 hs).1 (hnt x y a.1 a.2.1 hs) (hst x a.1 hs) (fun y2 d => ?_)
    have q := pB_i d
    obtain ⟨m, hm, em⟩ := hN x y2 a.1 q.2.1 (hsp x a.1 hs)
    obtain ⟨S, s1, s2, s3⟩ := sm_c (nu := nu) (x := x) cl hcl (fun y hy => hN x y a.1 hy (hsp x a.1 hs))
    have eS : STc nu cl x = S := by unfold STc; rw [s2, nI_clamp (by omega)]
    have := s3 y2 q.2.1
    rw [eS]
    rw [NT_c em hm] at this ⊢
    omega
  · unfold mtA mtM
    rw [hcs q hq, hcs i hi]
    exact ⟨fun z => ⟨(hso q hq).mp z.1, z.2⟩, fun z => ⟨(hso q hq).mpr z.1, z.2⟩⟩
  · unfold zzA zzM
    rw [(LD_y hLD hx hs y hy).1, (hc x y hx hy hs).1]
  · unfold prA prM
    rw [hD.2.1 5 (by omega), (hc x y hx hy hs).2.1]
  · obtain ⟨c1, c2, c3, c4, c5, c6⟩ := hc x y hx hy hs
    have e11 := (LD_y hLD hx hs y hy).2.2.2.1
    refine eq_pB ⟨fun z => ?_, fun z => ?_⟩
    · have z1 := KA_i z
      rw [e11] at z1
      unfold kpI at z1
      unfold kpM
      have n4 : ¬ a5 (144 * j + 12 * x + y) = 4 := fun e4 => by
        have t2 := c4.2 (fun g => g.2.2 (c1.trans e4))
        have r0 : rsF kd nu td ps ru (x * 12 + y) = 0 := by
          rw [c3]; unfold whR; exact (whM_0 (Or.inl e4)).symm
        rw [if_pos ⟨r0, t2⟩] at z1
        exact z1 rfl
      refine ⟨n4, ?_⟩
      by_cases r0 : rsF kd nu td ps ru (x * 12 + y) = 0
      · refine Or.inl (fun e => z1 ?_)
        rw [if_pos ⟨r0, c4.1.mpr e⟩]
      · exact Or.inr (wh_pos.mp (by rw [← c3]; exact r0))
    · refine KA_t ?_
      rw [e11]
      unfold kpI
      rw [if_neg (fun w => z.2.elim (fun a => a (c4.1.mp w.2)) (fun b => wh_pos.mpr b (by rw [← c3]; exact w.1)))]
      decide
  · funext x y
    refine propext ⟨fun z => ?_, fun z => ?_⟩
    · have hs := LD_m hLD z
      obtain ⟨c1, c2, c3, c4, c5, c6⟩ := hc x y z.1 z.2.1 hs
      obtain ⟨l8, l9, l10, _⟩ := LD_y hLD z.1 hs y z.2.1
      refine ⟨z.1, z.2.1, (hso x z.1).mp hs, fun e => z.2.2.2.1 (by rw [l8, c1, e]), fun e => ?_⟩
      exact wh_pos.mpr e (by rw [← c3, ← l10]; exact z.2.2.2.2)
    · have hs := (hso x z.1).mpr z.2.2.1
      obtain ⟨c1, c2, c3, c4, c5, c6⟩ := hc x y z.1 z.2.1 hs
      obtain ⟨l8, l9, l10, _⟩ := LD_y hLD z.1 hs y z.2.1
      refine ⟨z.1, z.2.1, by rw [l8]; exact c5, fun e => z.2.2.2.1 (by rw [← c1, ← l8, e]), ?_⟩
      rw [l10, c3]
      exact Classical.byContradiction (fun e => z.2.2.2.2 (wh_pos.mp e))
end TW
