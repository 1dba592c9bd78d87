/-! safe or not, by: which rows are sound, their classes, what is secret, bounds, numbers, what is kept -/
noncomputable def dG (rw cl : Nat) (sn : Nat → Prop) (cs : Nat → Int32) (its : Int32) (x y : Nat) : Bool := pB (x < rw ∧ y < cl ∧ sn x ∧ cs x = its)
noncomputable def kG (rw cl : Nat) (sn : Nat → Prop) (cs : Nat → Int32) (its : Int32) (K : Nat → Nat → Bool) (x y : Nat) : Bool := dG rw cl sn cs its x y && K x y
def SFG (rw cl : Nat) (sn : Nat → Prop) (cs : Nat → Int32) (Lo Hi N : Nat → Nat → Nat) (dn up : Nat) (K : Nat → Nat → Bool) (i j : Nat) : Prop := SAFR (kG rw cl sn cs (cs i) K) Lo Hi (rsT (dG rw cl sn cs (cs i)) N) i j dn up
def UNG (rw cl : Nat) (sn : Nat → Prop) (cs : Nat → Int32) (sec : Nat → Nat → Prop) (Lo Hi N : Nat → Nat → Nat) (dn up : Nat) (K : Nat → Nat → Bool) (i j : Nat) : Prop := i < rw ∧ j < cl ∧ sn i ∧ sec i j ∧ ¬ SFG rw cl sn cs Lo Hi N dn up K i j
theorem kG_t {rw cl : Nat} {sn : Nat → Prop} {cs : Nat → Int32} {its : Int32} {K : Nat → Nat → Bool} {x y : Nat} (h : kG rw cl sn cs its K x y = true) : (x < rw ∧ y < cl ∧ sn x ∧ cs x = its) ∧ K x y = true := by
  unfold kG at h
  rw [Bool.and_eq_true] at h
  exact ⟨pB_i h.1, h.2⟩
theorem kG_mk {rw cl : Nat} {sn : Nat → Prop} {cs : Nat → Int32} {its : Int32} {K : Nat → Nat → Bool} {x y : Nat} (h : x < rw ∧ y < cl ∧ sn x ∧ cs x = its) (hk : K x y = true) : kG rw cl sn cs its K x y = true := by
  unfold kG dG; rw [pB_t h, hk]; rfl
/-- bounds hold the true numbers -/
def BNG (rw cl : Nat) (sn : Nat → Prop) (Lo Hi N : Nat → Nat → Nat) : Prop := ∀ x y, x < rw → y < cl → sn x → Lo x y ≤ N x y ∧ N x y ≤ Hi x y
theorem UNG_m {rw cl : Nat} {sn : Nat → Prop} {cs : Nat → Int32} {sec : Nat → Nat → Prop} {Lo Hi N : Nat → Nat → Nat} {dn up i j : Nat} {K K2 : Nat → Nat → Bool} (hrw : rw ≤ 12) (hcl : cl ≤ 12) (hB : BNG rw cl sn Lo Hi N) (hs : ∀ x y, x < rw → y < cl → sn x → sec x y → K x y = true) (hK : ∀ x y, x < rw → y < cl → K x y = true → K2 x y = true) (h : UNG rw cl sn cs sec Lo Hi N dn up K2 i j) : UNG rw cl sn cs sec Lo Hi N dn up K i j := by
  obtain ⟨h1, h2, h3, h4, h5⟩ := h
  refine ⟨h1, h2, h3, h4, fun z => h5 ?_⟩
  unfold SFG at z ⊢
  refine SAFR_m (kG_mk ⟨h1, h2, h3, rfl⟩ (hs i j h1 h2 h3 h4)) (by omega) (by omega) (fun x y hx hy hk => ?_) (fun x y hx hy hk => ?_) z
  · obtain ⟨a, b⟩ := kG_t hk
    exact kG_mk a (hK x y a.1 a.2.1 b)
  · obtain ⟨a, b⟩ := kG_t hk
    rw [rsT_t (pB_t a)]
    exact hB x y a.1 a.2.1 a.2.2.1
/-! one step of a plan: three cells more -/
def kOf (K0 Pl : Nat → Nat → Bool) (x y : Nat) : Bool := K0 x y || Pl x y
def pcT (pr : Nat → Nat → Nat) (K : Nat → Nat → Bool) (x y : Nat) : Nat := if K x y = true then 0 else pr x y
def pc3 (pr : Nat → Nat → Nat) (K : Nat → Nat → Bool) (i j q d : Nat) : Nat := pcT pr K q j + pcT pr K i d + pcT pr K q d
def CAND (rw cl : Nat) (mt : Nat → Nat → Prop) (zz : Nat → Nat → Prop) (K : Nat → Nat → Bool) (i j q d : Nat) : Prop := q < rw ∧ d < cl ∧ q ≠ i ∧ d ≠ j ∧ mt i q ∧ ¬ zz i d ∧ ¬ zz q j ∧ ¬ zz q d ∧ ¬ (K i d = true ∧ K q j = true ∧ K q d = true)
/-- the best of the pairs below n, if one is there -/
def BSN (rw cl : Nat) (mt zz : Nat → Nat → Prop) (pr : Nat → Nat → Nat) (K : Nat → Nat → Bool) (i j n q d : Nat) : Prop := CAND rw cl mt zz K i j q d ∧ 12 * q + d < n ∧ ∀ q2 d2, CAND rw cl mt zz K i j q2 d2 → 12 * q2 + d2 < n → pc3 pr K i j q d < pc3 pr K i j q2 d2 ∨ (pc3 pr K i j q d = pc3 pr K i j q2 d2 ∧ 12 * q + d ≤ 12 * q2 + d2)
def NON (rw cl : Nat) (mt zz : Nat → Nat → Prop) (K : Nat → Nat → Bool) (i j n : Nat) : Prop := ∀ q d, CAND rw cl mt zz K i j q d → ¬ 12 * q + d < n
def ad1 (Pl : Nat → Nat → Bool) (a b x y : Nat) : Bool := Pl x y || (decide (x = a) && decide (y = b))
def ad3 (Pl : Nat → Nat → Bool) (i j q d : Nat) : Nat → Nat → Bool := ad1 (ad1 (ad1 Pl i d) q j) q d
def nw1 (K : Nat → Nat → Bool) (x y : Nat) : Nat := if K x y = true then 0 else 1
def nw3 (K : Nat → Nat → Bool) (i j q d : Nat) : Nat := nw1 K i d + nw1 K q j + nw1 K q d
def FST (rw cl : Nat) (UN : (Nat → Nat → Bool) → Nat → Nat → Prop) (K : Nat → Nat → Bool) (i j : Nat) : Prop := i < rw ∧ j < cl ∧ UN K i j ∧ ∀ x y, x < rw → y < cl → 12 * x + y < 12 * i + j → ¬ UN K x y
def PLS (rw cl : Nat) (UN : (Nat → Nat → Bool) → Nat → Nat → Prop) (mt zz : Nat → Nat → Prop) (pr : Nat → Nat → Nat) (K0 : Nat → Nat → Bool) : Nat → (Nat → Nat → Bool) → Nat → Prop
  | 0, Pl, c => Pl = (fun _ _ => false) ∧ c = 0
  | n + 1, Pl, c => ∃ Pl1 c1 i j q d, PLS rw cl UN mt zz pr K0 n Pl1 c1 ∧ FST rw cl UN (kOf K0 Pl1) i j ∧ BSN rw cl mt zz pr (kOf K0 Pl1) i j 144 q d ∧ Pl = ad3 Pl1 i j q d ∧ c = c1 + nw3 (kOf K0 Pl1) i j q d
def PDN (rw cl : Nat) (UN : (Nat → Nat → Bool) → Nat → Nat → Prop) (K0 Pl : Nat → Nat → Bool) : Prop := ∀ x y, x < rw → y < cl → ¬ UN (kOf K0 Pl) x y
def PFL (rw cl : Nat) (UN : (Nat → Nat → Bool) → Nat → Nat → Prop) (mt zz : Nat → Nat → Prop) (K0 Pl : Nat → Nat → Bool) : Prop := ∃ i j, FST rw cl UN (kOf K0 Pl) i j ∧ NON rw cl mt zz (kOf K0 Pl) i j 144
section PL
variable {rw cl : Nat} {UN : (Nat → Nat → Bool) → Nat → Nat → Prop} {mt zz : Nat → Nat → Prop} {pr : Nat → Nat → Nat} {K0 : Nat → Nat → Bool}
theorem FST_u {K : Nat → Nat → Bool} {i j i2 j2 : Nat} (hcl : cl ≤ 12) (h1 : FST rw cl UN K i j) (h2 : FST rw cl UN K i2 j2) : i = i2 ∧ j = j2 := by
  have a := fun z => h2.2.2.2 i j h1.1 h1.2.1 z h1.2.2.1
  have b := fun z => h1.2.2.2 i2 j2 h2.1 h2.2.1 z h2.2.2.1
  have c := h1.2.1
  have d := h2.2.1
  have e : 12 * i + j = 12 * i2 + j2 := by
    rcases Nat.lt_trichotomy (12 * i + j) (12 * i2 + j2) with z | z | z
    · exact absurd z a
    · exact z
    · exact absurd z b
  omega
theorem BSN_u {K : Nat → Nat → Bool} {i j q d q2 d2 : Nat} (hcl : cl ≤ 12) (h1 : BSN rw cl mt zz pr K i j 144 q d) (h2 : BSN rw cl mt zz pr K i j 144 q2 d2) : q = q2 ∧ d = d2 := by
  have a := h1.2.2 q2 d2 h2.1 h2.2.1
  have b := h2.2.2 q d h1.1 h1.2.1
  have e1 := h1.1.2.1
  have e2 := h2.1.2.1
  omega
theorem PLS_u (hcl : cl ≤ 12) : ∀ n {Pl Pl2 : Nat → Nat → Bool} {c c2 : Nat}, PLS rw cl UN mt zz pr K0 n Pl c → PLS rw cl UN mt zz pr K0 n Pl2 c2 → Pl = Pl2 ∧ c = c2
  | 0, _, _, _, _, h1, h2 => ⟨h1.1.trans h2.1.symm, h1.2.trans h2.2.symm⟩
  | n + 1, _, _, _, _, h1, h2 => by
    obtain ⟨P1, c1, i, j, q, d, a1, a2, a3, a4, a5⟩ := h1
    obtain ⟨P2, c3, i2, j2, q2, d2, b1, b2, b3, b4, b5⟩ := h2
    obtain ⟨rfl, rfl⟩ := PLS_u hcl n a1 b1
    obtain ⟨rfl, rfl⟩ := FST_u hcl a2 b2
    obtain ⟨rfl, rfl⟩ := BSN_u hcl a3 b3
    exact ⟨a4.trans b4.symm, a5.trans b5.symm⟩
theorem PLS_d {n : Nat} : ∀ m {Pl : Nat → Nat → Bool} {c : Nat}, PLS rw cl UN mt zz pr K0 (n + (m + 1)) Pl c → ∃ P1 c1 i j q d, PLS rw cl UN mt zz pr K0 n P1 c1 ∧ FST rw cl UN (kOf K0 P1) i j ∧ BSN rw cl mt zz pr (kOf K0 P1) i j 144 q d
  | 0, _, _, h => by
    obtain ⟨P1, c1, i, j, q, d, a1, a2, a3, _, _⟩ := h
    exact ⟨P1, c1, i, j, q, d, a1, a2, a3⟩
  | m + 1, _, _, h => by
    obtain ⟨P1, c1, i, j, q, d, a1, _, _, _, _⟩ := h
    exact PLS_d m a1
/-- a plan's end is one -/
def PEND (rw cl : Nat) (UN : (Nat → Nat → Bool) → Nat → Nat → Prop) (mt zz : Nat → Nat → Prop) (K0 Pl : Nat → Nat → Bool) : Prop := PDN rw cl UN K0 Pl ∨ PFL rw cl UN mt zz K0 Pl
theorem PEND_no (hcl : cl ≤ 12) {Pl : Nat → Nat → Bool} {i j q d : Nat} (h : PEND rw cl UN mt zz K0 Pl) (h1 : FST rw cl UN (kOf K0 Pl) i j) (h2 : BSN rw cl mt zz pr (kOf K0 Pl) i j 144 q d) : False := by
  rcases h with h | ⟨i2, j2, h3, h4⟩
  · exact h i j h1.1 h1.2.1 h1.2.2.1
  · obtain ⟨rfl, rfl⟩ := FST_u hcl h1 h3
    exact h4 q d h2.1 h2.2.1
theorem PLS_e (hcl : cl ≤ 12) {n m : Nat} {Pl Pl2 : Nat → Nat → Bool} {c c2 : Nat} (h1 : PLS rw cl UN mt zz pr K0 n Pl c) (e1 : PEND rw cl UN mt zz K0 Pl) (h2 : PLS rw cl UN mt zz pr K0 m Pl2 c2) (e2 : PEND rw cl UN mt zz K0 Pl2) : Pl = Pl2 ∧ c = c2 := by
  rcases Nat.lt_trichotomy n m with z | z | z
  · obtain ⟨P1, c1, i, j, q, d, a1, a2, a3⟩ := PLS_d (n := n) (m - n - 1) (by rw [show n + (m - n - 1 + 1) = m by omega]; exact h2)
    obtain ⟨rfl, rfl⟩ := PLS_u hcl n h1 a1
    exact absurd (PEND_no hcl e1 a2 a3) id
  · subst z; exact PLS_u hcl n h1 h2
  · obtain ⟨P1, c1, i, j, q, d, a1, a2, a3⟩ := PLS_d (n := m) (n - m - 1) (by rw [show m + (n - m - 1 + 1) = n by omega]; exact h1)
    obtain ⟨rfl, rfl⟩ := PLS_u hcl m h2 a1
    exact absurd (PEND_no hcl e2 a2 a3) id
end PL
/-! how many cells are kept -/
def cB (K : Nat → Nat → Bool) : Nat → Nat
  | 0 => 0
  | n + 1 => cB K n + cntN 12 (K n)
theorem cB_le (K : Nat → Nat → Bool) : ∀ n, cB K n ≤ 12 * n
  | 0 => Nat.le_refl 0
  | n + 1 => by have a := cB_le K n; have b := cntN_le (K n) 12; show cB K n + cntN 12 (K n) ≤ 12 * (n + 1); omega
theorem cB_c {K K2 : Nat → Nat → Bool} : ∀ n, (∀ x y, x < n → y < 12 → K x y = K2 x y) → cB K n = cB K2 n
  | 0, _ => rfl
  | n + 1, h => by
    show cB K n + cntN 12 (K n) = cB K2 n + cntN 12 (K2 n)
    rw [cB_c n (fun x y hx hy => h x y (by omega) hy), cntN_c 12 (fun y hy => h n y (by omega) hy)]
theorem cB_ad {K : Nat → Nat → Bool} {a b : Nat} (hb : b < 12) : ∀ n, a < n → cB (ad1 K a b) n = cB K n + nw1 K a b
  | 0, h => absurd h (by omega)
  | n + 1, h => by
    show cB (ad1 K a b) n + cntN 12 (ad1 K a b n) = cB K n + cntN 12 (K n) + nw1 K a b
    by_cases e : a = n
    · subst e
      have e1 : cB (ad1 K a b) a = cB K a := cB_c a (fun x y hx hy => by unfold ad1; rw [decide_eq_false (by omega)]; simp)
      have e2 : cntN 12 (ad1 K a b a) = cntN 12 (K a) + nw1 K a b := by
        unfold nw1
        cases hk : K a b with
        | true =>
          rw [if_pos rfl, Nat.add_zero]
          refine cntN_c 12 (fun y hy => ?_)
          unfold ad1
          by_cases c : y = b
          · rw [c, hk]; simp
          · rw [decide_eq_false c]; simp
        | false =>
          rw [if_neg (by decide), ← cntN_add 12 hb hk]
          refine cntN_c 12 (fun y hy => ?_)
          unfold ad1
          rw [decide_eq_true (rfl : a = a)]; simp
      rw [e1, e2]; omega
    · have e2 : cntN 12 (ad1 K a b n) = cntN 12 (K n) := cntN_c 12 (fun y hy => by unfold ad1; rw [decide_eq_false (show ¬ n = a by omega)]; simp)
      rw [cB_ad hb n (by omega), e2]; omega
theorem kOf_1 {K0 Pl : Nat → Nat → Bool} {a b x y : Nat} : kOf K0 (ad1 Pl a b) x y = ad1 (kOf K0 Pl) a b x y := by
  unfold kOf ad1; rw [Bool.or_assoc]
theorem nw_ad {K : Nat → Nat → Bool} {a b x y : Nat} (h : ¬ (x = a ∧ y = b)) : nw1 (ad1 K a b) x y = nw1 K x y := by
  have e : ad1 K a b x y = K x y := by
    unfold ad1
    by_cases c : x = a
    · rw [decide_eq_false (fun z => h ⟨c, z⟩), Bool.and_false, Bool.or_false]
    · rw [decide_eq_false c]; simp
  unfold nw1; rw [e]
theorem kOf_3 {K0 Pl : Nat → Nat → Bool} {i j q d x y : Nat} : kOf K0 (ad3 Pl i j q d) x y = ad3 (kOf K0 Pl) i j q d x y := by
  unfold ad3
  rw [kOf_1]
  unfold ad1 kOf
  simp only [Bool.or_assoc]
theorem cB_3 {K : Nat → Nat → Bool} {i j q d : Nat} (hi : i < 12) (hj : j < 12) (hq : q < 12) (hd : d < 12) (h1 : q ≠ i) (h2 : d ≠ j) : cB (ad3 K i j q d) 12 = cB K 12 + nw3 K i j q d := by
  unfold ad3 nw3
  rw [cB_ad hd 12 hq, cB_ad hj 12 hq, cB_ad hd 12 hi, nw_ad (by omega), nw_ad (by omega), nw_ad (by omega)]; omega
theorem PLS_c {rw cl : Nat} {UN : (Nat → Nat → Bool) → Nat → Nat → Prop} {mt zz : Nat → Nat → Prop} {pr : Nat → Nat → Nat} {K0 : Nat → Nat → Bool} (hrw : rw ≤ 12) (hcl : cl ≤ 12) : ∀ n {Pl : Nat → Nat → Bool} {c : Nat}, PLS rw cl UN mt zz pr K0 n Pl c → cB (kOf K0 Pl) 12 = cB K0 12 + c ∧ n ≤ c
  | 0, _, _, h => by
    obtain ⟨rfl, rfl⟩ := h
    exact ⟨(cB_c 12 (K2 := K0) (fun x y _ _ => by unfold kOf; rw [Bool.or_false])).trans (Nat.add_zero _).symm, Nat.le_refl 0⟩
  | n + 1, _, _, h => by
    obtain ⟨P1, c1, i, j, q, d, a1, a2, a3, rfl, rfl⟩ := h
    obtain ⟨b1, b2⟩ := PLS_c hrw hcl n a1
    obtain ⟨k1, k2, k3, k4, k5, k6, k7, k8, k9⟩ := a3.1
    have e := a2.1
    have e2 := a2.2.1
    rw [cB_c 12 (K2 := ad3 (kOf K0 P1) i j q d) (fun x y _ _ => kOf_3), cB_3 (by omega) (by omega) (by omega) (by omega) k3 k4, b1]
    refine ⟨by omega, ?_⟩
    have hp : 1 ≤ nw3 (kOf K0 P1) i j q d := by
      unfold nw3 nw1
      by_cases z1 : kOf K0 P1 i d = true
      · by_cases z2 : kOf K0 P1 q j = true
        · by_cases z3 : kOf K0 P1 q d = true
          · exact absurd ⟨z1, z2, z3⟩ k9
          · rw [if_neg z3]; omega
        · rw [if_neg z2]; omega
      · rw [if_neg z1]; omega
    omega
/-- a plan never takes 144 steps -/
theorem PLS_lt {rw cl : Nat} {UN : (Nat → Nat → Bool) → Nat → Nat → Prop} {mt zz : Nat → Nat → Prop} {pr : Nat → Nat → Nat} {K0 : Nat → Nat → Bool} (hrw : rw ≤ 12) (hcl : cl ≤ 12) {n c i j : Nat} {Pl : Nat → Nat → Bool} (h : PLS rw cl UN mt zz pr K0 n Pl c) (hi : i < 12) (hj : j < 12) (hk : K0 i j = true) : n < 144 ∧ c < 144 := by
  obtain ⟨h1, h2⟩ := PLS_c hrw hcl n h
  have l := cB_le (kOf K0 Pl) 12
  have p : 1 ≤ cB K0 12 := by
    have e : ∀ m, i < m → 1 ≤ cB K0 m := fun m => by
      induction m with
      | zero => intro z; exact absurd z (by omega)
      | succ m ih =>
        intro z
        show 1 ≤ cB K0 m + cntN 12 (K0 m)
        by_cases c : i = m
        · subst c
          have := cntN_lt (f := fun _ => false) (g := K0 i) (r := j) 12 hj (fun k hk hf => absurd hf (by decide)) rfl hk
          omega
        · have := ih (by omega); omega
    exact e 12 hi
  omega
/-! the search for the best pair, one pair after the other -/
section BS
variable {rw cl : Nat} {mt zz : Nat → Nat → Prop} {pr : Nat → Nat → Nat} {K : Nat → Nat → Bool} {i j n q d bq bd : Nat}
/-- what a search holds behind the pairs below n: nothing, or the best one -/
def BST (rw cl : Nat) (mt zz : Nat → Nat → Prop) (pr : Nat → Nat → Nat) (K : Nat → Nat → Bool) (i j n : Nat) (fd : Prop) (bq bd : Nat) : Prop := (¬ fd ∧ NON rw cl mt zz K i j n) ∨ (fd ∧ BSN rw cl mt zz pr K i j n bq bd)
theorem BST_skip {fd : Prop} {m : Nat} (h : BST rw cl mt zz pr K i j n fd bq bd) (hnm : n ≤ m) (hno : ∀ q d, CAND rw cl mt zz K i j q d → n ≤ 12 * q + d → ¬ 12 * q + d < m) : BST rw cl mt zz pr K i j m fd bq bd := by
  rcases h with ⟨h1, h2⟩ | ⟨h1, h2, h3, h4⟩
  · refine Or.inl ⟨h1, fun q d hc z => ?_⟩
    rcases Nat.lt_or_ge (12 * q + d) n with y | y
    · exact h2 q d hc y
    · exact hno q d hc y z
  · refine Or.inr ⟨h1, h2, by omega, fun q d hc z => ?_⟩
    rcases Nat.lt_or_ge (12 * q + d) n with y | y
    · exact h4 q d hc y
    · exact absurd z (hno q d hc y)
theorem BST_take {fd fd2 : Prop} (h : BST rw cl mt zz pr K i j (12 * q + d) fd bq bd) (hcl : cl ≤ 12) (hc : CAND rw cl mt zz K i j q d) (hb : fd → pc3 pr K i j q d < pc3 pr K i j bq bd) (hf : fd2) : BST rw cl mt zz pr K i j (12 * q + (d + 1)) fd2 q d := by
  refine Or.inr ⟨hf, hc, by omega, fun q2 d2 hc2 z => ?_⟩
  have e1 := hc.2.1
  have e2 := hc2.2.1
  by_cases e : 12 * q2 + d2 = 12 * q + d
  · obtain ⟨rfl, rfl⟩ : q2 = q ∧ d2 = d := by omega
    exact Or.inr ⟨rfl, Nat.le_refl _⟩
  · rcases h with ⟨h1, h2⟩ | ⟨h1, h2, h3, h4⟩
    · exact absurd (show 12 * q2 + d2 < 12 * q + d by omega) (h2 q2 d2 hc2)
    · have a := hb h1
      have b := h4 q2 d2 hc2 (by omega)
      exact Or.inl (by omega)
theorem BST_keep {fd : Prop} (h : BST rw cl mt zz pr K i j (12 * q + d) fd bq bd) (hcl : cl ≤ 12) (hd : d < 12) (hf : fd) (hb : pc3 pr K i j bq bd ≤ pc3 pr K i j q d) : BST rw cl mt zz pr K i j (12 * q + (d + 1)) fd bq bd := by
  rcases h with ⟨h1, h2⟩ | ⟨h1, h2, h3, h4⟩
  · exact absurd hf h1
  · refine Or.inr ⟨h1, h2, by omega, fun q2 d2 hc2 z => ?_⟩
    have e2 := hc2.2.1
    by_cases e : 12 * q2 + d2 < 12 * q + d
    · exact h4 q2 d2 hc2 e
    · obtain ⟨rfl, rfl⟩ : q2 = q ∧ d2 = d := by omega
      rcases Nat.lt_or_ge (pc3 pr K i j bq bd) (pc3 pr K i j q2 d2) with y | y
      · exact Or.inl y
      · exact Or.inr ⟨by omega, by omega⟩
end BS
