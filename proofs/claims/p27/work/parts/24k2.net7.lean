def NTc (nu : Nat → Int32) (x y : Nat) : Nat := (nu (x * 12 + y)).toNatClampNeg
def STc (nu : Nat → Int32) (cl x : Nat) : Nat := (smF nu (x * 12) cl).toNatClampNeg
def LTc (kd nu : Nat → Int32) (cl x y : Nat) : Nat := if kd (x * 12 + y) = 3 ∧ 0 < STc nu cl x then loN (NTc nu x y) (STc nu cl x) else 0
def HTc (kd nu : Nat → Int32) (cl x y : Nat) : Nat := if kd (x * 12 + y) = 3 ∧ 0 < STc nu cl x then hiN (NTc nu x y) (STc nu cl x) else 1073741824
def NRC (rw cl : Nat) (pl kd nu : Nat → Int32) : Prop := ∀ x y, x < rw → y < cl → sndP cl pl kd x → ∃ m, m ≤ 1000000 ∧ nu (x * 12 + y) = nI m
theorem NT_c {nu : Nat → Int32} {x y m : Nat} (h : nu (x * 12 + y) = nI m) (hm : m ≤ 1000000) : NTc nu x y = m := by unfold NTc; rw [h, nI_clamp (by omega)]
theorem sm_c {nu : Nat → Int32} {x : Nat} : ∀ n, n ≤ 12 → (∀ y, y < n → ∃ m, m ≤ 1000000 ∧ nu (x * 12 + y) = nI m) → ∃ S, S ≤ 1000000 * n ∧ smF nu (x * 12) n = nI S ∧ ∀ y, y < n → NTc nu x y ≤ S
  | 0, _, _ => ⟨0, by omega, rfl, fun y hy => absurd hy (by omega)⟩
  | n + 1, hn, h => by
    obtain ⟨S, h1, h2, h3⟩ := sm_c n (by omega) (fun y hy => h y (by omega))
    obtain ⟨m, hm, em⟩ := h n (by omega)
    refine ⟨S + m, by omega, ?_, fun y hy => ?_⟩
    · show smF nu (x * 12) n + nu (x * 12 + n) = _
      rw [h2, em]; exact nI_add S m
    · by_cases e : y = n
      · subst e; rw [NT_c em hm]; omega
      · have := h3 y (by omega); omega
theorem le0_n {s : Nat} (hs : s < 2147483648) : ¬ nI s ≤ (0 : Int32) ↔ 0 < s := by
  rw [Int32.not_le]; exact pos_nI hs
theorem thF_N {n s : Nat} (h : n ≤ s) (h0 : 0 < s) (hs : s ≤ 12000000) : thF (nI n) (nI s) = nI (thN n s) := by
  unfold thF
  rw [if_pos ((pos_nI (by omega)).mpr h0)]
  exact th_F h h0 hs
theorem clS_or (bf bl : Nat → Int32) (row : Int32) : ∀ n, (clS bf bl row n).1 = -1 ∨ ∃ k, k < n ∧ (clS bf bl row n).1 = nI k
  | 0 => Or.inl rfl
  | n + 1 => by
    have ih := clS_or bf bl row n
    simp only [clS]
    split
    · exact Or.inr ⟨n, by omega, rfl⟩
    · exact ih.imp id (fun ⟨k, h1, h2⟩ => ⟨k, by omega, h2⟩)
theorem clS_n2 {bf bl : Nat → Int32} {row : Int32} {bk : Nat} (hbk : bk ≤ 12) : ¬ (clS bf bl row bk).1 = -2 := fun z => by
  rcases clS_or bf bl row bk with h | ⟨k, hk, h⟩
  · rw [h] at z; exact absurd z (by decide)
  · rw [h] at z
    have h2 := congrArg Int32.toInt z
    rw [nI_toInt (by omega)] at h2
    exact absurd h2 (by rw [show (-2 : Int32).toInt = -2 by decide]; omega)
section LD
variable {rw cl bk : Nat} {pl kd nu td ps ru bf bl r6 r7 r8 r9 r10 r11 r12 r13 r14 : Nat → Int32}
theorem LD_so (h : LDR rw cl bk pl kd nu td ps ru bf bl r6 r7 r8 r9 r10 r11 r12 r13 r14) {x : Nat} (hx : x < rw) : ¬ r6 x = 0 ↔ sndP cl pl kd x := by
  rcases (h x hx).2 with ⟨a, b, _⟩ | ⟨a, b, _⟩
  · exact ⟨fun _ => b, fun _ => by rw [a]; decide⟩
  · exact ⟨fun z => absurd a z, fun z => absurd z b⟩
theorem LD_y (h : LDR rw cl bk pl kd nu td ps ru bf bl r6 r7 r8 r9 r10 r11 r12 r13 r14) {x : Nat} (hx : x < rw) (hs : ¬ r6 x = 0) : LDY cl kd nu td ps ru r8 r9 r10 r11 r12 r13 r14 x := by
  rcases (h x hx).2 with ⟨_, _, c⟩ | ⟨a, _, _⟩
  · exact c
  · exact absurd a hs
theorem LD_rv (h : LDR rw cl bk pl kd nu td ps ru bf bl r6 r7 r8 r9 r10 r11 r12 r13 r14) (hcl : cl ≤ 12) (hN : NRC rw cl pl kd nu) : RVL r6 r9 r13 r14 rw cl (NTc nu) (LTc kd nu cl) (HTc kd nu cl) ∧ ∀ x y, x < rw → y < cl → ¬ r6 x = 0 → r12 (x * 12 + y) = r9 (x * 12 + y) := by
  refine ⟨fun x y hx hy hs => ?_, fun x y hx hy hs => ?_⟩
  · have sn := (LD_so h hx).mp hs
    obtain ⟨c8, c9, c10, c11, c12, c13, c14⟩ := LD_y h hx hs y hy
    obtain ⟨n, hn, en⟩ := hN x y hx hy sn
    obtain ⟨S, h1, h2, h3⟩ := sm_c (nu := nu) (x := x) cl hcl (fun y hy => hN x y hx hy sn)
    have hnS := h3 y hy
    have eS : STc nu cl x = S := by unfold STc; rw [h2, nI_clamp (by omega)]
    rw [NT_c en hn] at hnS ⊢
    have i0 := le0_n (s := S) (by omega)
    refine ⟨by rw [c9, en], ?_, ?_, ?_⟩
    · rw [c13, en, h2]
      unfold loF LTc
      rw [eS, NT_c en hn]
      by_cases c : kd (x * 12 + y) = 3 ∧ 0 < S
      · rw [if_pos ⟨c.1, i0.mpr c.2⟩, if_pos c, thF_N hnS c.2 (by omega)]
        exact lo_F hnS c.2 (by omega)
      · rw [if_neg (fun z => c ⟨z.1, i0.mp z.2⟩), if_neg c]; rfl
    · rw [c14, en, h2]
      unfold hiF HTc
      rw [eS, NT_c en hn]
      by_cases c : kd (x * 12 + y) = 3 ∧ 0 < S
      · rw [if_pos ⟨c.1, i0.mpr c.2⟩, if_pos c, thF_N hnS c.2 (by omega)]
        exact hi_F hnS c.2 (by omega)
      · rw [if_neg (fun z => c ⟨z.1, i0.mp z.2⟩), if_neg c]; rfl
    · unfold HTc LTc
      rw [eS, NT_c en hn]
      by_cases c : kd (x * 12 + y) = 3 ∧ 0 < S
      · rw [if_pos c, if_pos c]
        exact ⟨hi_le hnS c.2 (by omega), hi_ge c.2, lo_le⟩
      · rw [if_neg c, if_neg c]; omega
  · obtain ⟨c8, c9, c10, c11, c12, _⟩ := LD_y h hx hs y hy
    rw [c12, c9]
theorem LD_cs (h : LDR rw cl bk pl kd nu td ps ru bf bl r6 r7 r8 r9 r10 r11 r12 r13 r14) (hbk : bk ≤ 12) : ∀ x, x < rw → ¬ r7 x = -2 := fun x hx => by
  rw [(h x hx).1]; exact clS_n2 hbk
theorem LD_rd (h : LDR rw cl bk pl kd nu td ps ru bf bl r6 r7 r8 r9 r10 r11 r12 r13 r14) (hrw : rw ≤ 12) (hcl : cl ≤ 12) (hbk : bk ≤ 12) (hN : NRC rw cl pl kd nu) : RDI r6 r7 r11 r12 r13 r14 rw cl (NTc nu) (NTc nu) (LTc kd nu cl) (HTc kd nu cl) := by
  obtain ⟨h1, h2⟩ := LD_rv h hcl hN
  refine ⟨hrw, hcl, LD_cs h hbk, fun x y hx hy hs => by rw [h2 x y hx hy hs]; exact h1 x y hx hy hs, fun cc => agN_r (fun x y _ _ e => ?_)⟩
  obtain ⟨e1, _⟩ := kpR_of e
  have q := dmR_of e1
  rw [rsT_t e1]
  have b := h1 x y q.1 q.2.1 q.2.2.1
  exact ⟨b.2.2.2.2.2, b.2.2.2.2.1⟩
theorem LD_sc (h : LDR rw cl bk pl kd nu td ps ru bf bl r6 r7 r8 r9 r10 r11 r12 r13 r14) : ∀ x y, x < rw → y < cl → ¬ r10 (x * 12 + y) = 0 → ¬ r6 x = 0 ∧ ¬ r11 (x * 12 + y) = 0 := fun x y hx hy hs => by
  rcases (h x hx).2 with ⟨a, b, c⟩ | ⟨a, b, c⟩
  · refine ⟨by rw [a]; decide, ?_⟩
    obtain ⟨c8, c9, c10, c11, _⟩ := c y hy
    rw [c11]
    unfold kpI
    rw [if_neg (fun z => hs (c10.trans z.1))]; decide
  · exact absurd (c y hy).2.1 hs
end LD
/-! the shared words don't care how they are spelt within the table -/
section GC2
variable {rw cl : Nat} {sn sn2 : Nat → Prop} {cs cs2 : Nat → Int32} {sec sec2 : Nat → Nat → Prop} {Lo Hi N Lo2 Hi2 N2 : Nat → Nat → Nat} {dn up : Nat} {K : Nat → Nat → Bool}
theorem dG_c (h1 : ∀ x, x < rw → (sn x ↔ sn2 x)) (h2 : ∀ x, x < rw → cs x = cs2 x) {its : Int32} : dG rw cl sn cs its = dG rw cl sn2 cs2 its := funext (fun x => funext (fun y => pB_c ⟨fun z => ⟨z.1, z.2.1, (h1 x z.1).mp z.2.2.1, (h2 x z.1).symm.trans z.2.2.2⟩, fun z => ⟨z.1, z.2.1, (h1 x z.1).mpr z.2.2.1, (h2 x z.1).trans z.2.2.2⟩⟩))
theorem UNG_c (hrw : rw ≤ 12) (hcl : cl ≤ 12) (h1 : ∀ x, x < rw → (sn x ↔ sn2 x)) (h2 : ∀ x, x < rw → cs x = cs2 x) (h3 : ∀ x y, x < rw → y < cl → sn x → (sec x y ↔ sec2 x y)) (h4 : ∀ x y, x < rw → y < cl → sn x → N2 x y = N x y) (h5 : ∀ x y its, kG rw cl sn cs its K x y = true → Lo x y = Lo2 x y ∧ (Hi x y = Hi2 x y ∨ (rsum (rsT (dG rw cl sn cs its) N) x ≤ (Hi x y : Int) ∧ rsum (rsT (dG rw cl sn cs its) N) x ≤ (Hi2 x y : Int)))) {i j : Nat} : UNG rw cl sn cs sec Lo Hi N dn up K i j ↔ UNG rw cl sn2 cs2 sec2 Lo2 Hi2 N2 dn up K i j := by
  have key : ∀ i, i < rw → ∀ j, j < cl → (SFG rw cl sn cs Lo Hi N dn up K i j ↔ SFG rw cl sn2 cs2 Lo2 Hi2 N2 dn up K i j) := fun i hi j hj => by
    unfold SFG
    have eK : kG rw cl sn2 cs2 (cs2 i) K = kG rw cl sn cs (cs i) K := by
      funext x y; unfold kG; rw [← dG_c h1 h2, h2 i hi]
    have eD : dG rw cl sn2 cs2 (cs2 i) = dG rw cl sn cs (cs i) := by rw [← dG_c h1 h2, h2 i hi]
    have eN : ∀ x y, x < 12 → y < 12 → rsT (dG rw cl sn cs (cs i)) N2 x y = rsT (dG rw cl sn cs (cs i)) N x y := fun x y _ _ => by
      rcases bo (dG rw cl sn cs (cs i) x y) with d | d
      · have q := pB_i d
        rw [rsT_t d, rsT_t d, h4 x y q.1 q.2.1 q.2.2.1]
      · rw [rsT_f d, rsT_f d]
    have hb : bndE (kG rw cl sn cs (cs i) K) (rsT (dG rw cl sn cs (cs i)) N) Lo Hi Lo2 Hi2 := fun x y _ _ hk => h5 x y (cs i) hk
    rw [eK, eD]
    exact ⟨fun z => SAFR_e (by omega) (by omega) (fun _ _ _ _ => rfl) eN hb z, fun z => SAFR_e (by omega) (by omega) (fun _ _ _ _ => rfl) (fun x y hx hy => (eN x y hx hy).symm) (bndE_s (fun _ _ _ _ => rfl) eN hb) z⟩
  unfold UNG
  constructor
  · exact fun z => ⟨z.1, z.2.1, (h1 i z.1).mp z.2.2.1, (h3 i j z.1 z.2.1 z.2.2.1).mp z.2.2.2.1, fun y => z.2.2.2.2 ((key i z.1 j z.2.1).mpr y)⟩
  · exact fun z => ⟨z.1, z.2.1, (h1 i z.1).mpr z.2.2.1, (h3 i j z.1 z.2.1 ((h1 i z.1).mpr z.2.2.1)).mpr z.2.2.2.1, fun y => z.2.2.2.2 ((key i z.1 j z.2.1).mp y)⟩
end GC2
