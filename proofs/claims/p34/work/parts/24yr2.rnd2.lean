/-! a rounding of one class: K a whole cell, X what cells hold, U what nodes hold, fe and mo the least and the most they may; a node is a row (below 12), a column (12 and more), 24 the outside -/
def ndI (X : Nat → Nat → Int) (n : Nat) : Int := if n < 12 then sumI 12 (fun j => X n j) else sumI 12 (fun i => X i (n - 12))
theorem ndI_r {X : Nat → Nat → Int} {i : Nat} (h : i < 12) : ndI X i = sumI 12 (fun j => X i j) := if_pos h
theorem ndI_c {X : Nat → Nat → Int} {j : Nat} : ndI X (12 + j) = sumI 12 (fun i => X i j) := by
  unfold ndI; rw [if_neg (by omega), show 12 + j - 12 = j by omega]
def cI (K : Int) (on : Nat → Nat → Bool) (X : Nat → Nat → Int) (U fe mo : Nat → Int) (u v : Nat) : Int := if u < 12 ∧ 12 ≤ v ∧ v < 24 then (if on u (v - 12) = true then K - X u (v - 12) else 0) else if v < 12 ∧ 12 ≤ u ∧ u < 24 then (if on v (u - 12) = true then X v (u - 12) else 0) else if u = 24 ∧ v < 12 then mo v - U v else if v = 24 ∧ u < 12 then U u - fe u else if v = 24 ∧ 12 ≤ u ∧ u < 24 then mo u - U u else if u = 24 ∧ 12 ≤ v ∧ v < 24 then U v - fe v else 0
section CI
variable {K : Int} {on : Nat → Nat → Bool} {X : Nat → Nat → Int} {U fe mo : Nat → Int} {i j k : Nat}
theorem cI_rc (hi : i < 12) (hj : j < 12) : cI K on X U fe mo i (12 + j) = if on i j = true then K - X i j else 0 := by
  unfold cI; rw [if_pos (⟨hi, by omega, by omega⟩ : i < 12 ∧ 12 ≤ 12 + j ∧ 12 + j < 24), show 12 + j - 12 = j by omega]
theorem cI_cr (hi : i < 12) (hj : j < 12) : cI K on X U fe mo (12 + j) i = if on i j = true then X i j else 0 := by
  unfold cI; rw [if_neg (show ¬ (12 + j < 12 ∧ 12 ≤ i ∧ i < 24) by omega), if_pos (⟨hi, by omega, by omega⟩ : i < 12 ∧ 12 ≤ 12 + j ∧ 12 + j < 24), show 12 + j - 12 = j by omega]
theorem cI_or (hi : i < 12) : cI K on X U fe mo 24 i = mo i - U i := by
  unfold cI; rw [if_neg (show ¬ (24 < 12 ∧ 12 ≤ i ∧ i < 24) by omega), if_neg (show ¬ (i < 12 ∧ 12 ≤ 24 ∧ 24 < 24) by omega), if_pos (⟨rfl, hi⟩ : 24 = 24 ∧ i < 12)]
theorem cI_ro (hi : i < 12) : cI K on X U fe mo i 24 = U i - fe i := by
  unfold cI; rw [if_neg (show ¬ (i < 12 ∧ 12 ≤ 24 ∧ 24 < 24) by omega), if_neg (show ¬ (24 < 12 ∧ 12 ≤ i ∧ i < 24) by omega), if_neg (show ¬ (i = 24 ∧ 24 < 12) by omega), if_pos (⟨rfl, hi⟩ : 24 = 24 ∧ i < 12)]
theorem cI_co (hj : j < 12) : cI K on X U fe mo (12 + j) 24 = mo (12 + j) - U (12 + j) := by
  unfold cI; rw [if_neg (show ¬ (12 + j < 12 ∧ 12 ≤ 24 ∧ 24 < 24) by omega), if_neg (show ¬ (24 < 12 ∧ 12 ≤ 12 + j ∧ 12 + j < 24) by omega), if_neg (show ¬ (12 + j = 24 ∧ 24 < 12) by omega), if_neg (show ¬ (24 = 24 ∧ 12 + j < 12) by omega), if_pos (⟨rfl, by omega, by omega⟩ : 24 = 24 ∧ 12 ≤ 12 + j ∧ 12 + j < 24)]
theorem cI_oc (hj : j < 12) : cI K on X U fe mo 24 (12 + j) = U (12 + j) - fe (12 + j) := by
  unfold cI; rw [if_neg (show ¬ (24 < 12 ∧ 12 ≤ 12 + j ∧ 12 + j < 24) by omega), if_neg (show ¬ (12 + j < 12 ∧ 12 ≤ 24 ∧ 24 < 24) by omega), if_neg (show ¬ (24 = 24 ∧ 12 + j < 12) by omega), if_neg (show ¬ (12 + j = 24 ∧ 24 < 12) by omega), if_neg (show ¬ (12 + j = 24 ∧ 12 ≤ 24 ∧ 24 < 24) by omega), if_pos (⟨rfl, by omega, by omega⟩ : 24 = 24 ∧ 12 ≤ 12 + j ∧ 12 + j < 24)]
end CI
theorem nd_case (u v : Nat) (hu : u < 25) (hv : v < 25) : (∃ i j, i < 12 ∧ j < 12 ∧ u = i ∧ v = 12 + j) ∨ (∃ i j, i < 12 ∧ j < 12 ∧ u = 12 + j ∧ v = i) ∨ (u = 24 ∧ v < 12) ∨ (v = 24 ∧ u < 12) ∨ (v = 24 ∧ ∃ j, j < 12 ∧ u = 12 + j) ∨ (u = 24 ∧ ∃ j, j < 12 ∧ v = 12 + j) ∨ ∀ K on X U fe mo, cI K on X U fe mo u v = 0 ∧ cI K on X U fe mo v u = 0 := by
  by_cases c1 : u < 12 ∧ 12 ≤ v ∧ v < 24
  · exact Or.inl ⟨u, v - 12, c1.1, by omega, rfl, by omega⟩
  by_cases c2 : v < 12 ∧ 12 ≤ u ∧ u < 24
  · exact Or.inr (Or.inl ⟨v, u - 12, c2.1, by omega, by omega, rfl⟩)
  by_cases c3 : u = 24 ∧ v < 12
  · exact Or.inr (Or.inr (Or.inl c3))
  by_cases c4 : v = 24 ∧ u < 12
  · exact Or.inr (Or.inr (Or.inr (Or.inl c4)))
  by_cases c5 : v = 24 ∧ 12 ≤ u ∧ u < 24
  · exact Or.inr (Or.inr (Or.inr (Or.inr (Or.inl ⟨c5.1, u - 12, by omega, by omega⟩))))
  by_cases c6 : u = 24 ∧ 12 ≤ v ∧ v < 24
  · exact Or.inr (Or.inr (Or.inr (Or.inr (Or.inr (Or.inl ⟨c6.1, v - 12, by omega, by omega⟩)))))
  refine Or.inr (Or.inr (Or.inr (Or.inr (Or.inr (Or.inr (fun K on X U fe mo => ⟨?_, ?_⟩))))))
  · unfold cI; rw [if_neg c1, if_neg c2, if_neg c3, if_neg c4, if_neg c5, if_neg c6]
  · unfold cI; rw [if_neg c2, if_neg c1, if_neg c4, if_neg c3, if_neg c6, if_neg c5]
theorem cI_rr {K : Int} {on : Nat → Nat → Bool} {X : Nat → Nat → Int} {U fe mo : Nat → Int} {i k : Nat} (hi : i < 12) (hk : k < 12) : cI K on X U fe mo i k = 0 := by
  rcases nd_case i k (by omega) (by omega) with ⟨_, _, _, _, _, z⟩ | ⟨_, _, _, _, z, _⟩ | ⟨z, _⟩ | ⟨z, _⟩ | ⟨z, _⟩ | ⟨z, _⟩ | z
  · omega
  · omega
  · omega
  · omega
  · omega
  · omega
  · exact (z K on X U fe mo).1
theorem cI_cc {K : Int} {on : Nat → Nat → Bool} {X : Nat → Nat → Int} {U fe mo : Nat → Int} {j k : Nat} (hj : j < 12) (hk : k < 12) : cI K on X U fe mo (12 + j) (12 + k) = 0 := by
  rcases nd_case (12 + j) (12 + k) (by omega) (by omega) with ⟨_, _, _, _, z, _⟩ | ⟨_, _, _, _, _, z⟩ | ⟨z, _⟩ | ⟨z, _⟩ | ⟨z, _⟩ | ⟨z, _⟩ | z
  · omega
  · omega
  · omega
  · omega
  · omega
  · omega
  · exact (z K on X U fe mo).1
theorem cI_anti {K : Int} {on : Nat → Nat → Bool} {X X2 : Nat → Nat → Int} {U U2 fe mo : Nat → Int} (u v : Nat) (hu : u < 25) (hv : v < 25) : cI K on X U fe mo u v + cI K on X U fe mo v u = cI K on X2 U2 fe mo u v + cI K on X2 U2 fe mo v u := by
  rcases nd_case u v hu hv with ⟨i, j, hi, hj, rfl, rfl⟩ | ⟨i, j, hi, hj, rfl, rfl⟩ | ⟨rfl, h⟩ | ⟨rfl, h⟩ | ⟨rfl, j, h, rfl⟩ | ⟨rfl, j, h, rfl⟩ | z
  · simp only [cI_rc hi hj, cI_cr hi hj]; split <;> omega
  · simp only [cI_rc hi hj, cI_cr hi hj]; split <;> omega
  · simp only [cI_or h, cI_ro h]; omega
  · simp only [cI_or h, cI_ro h]; omega
  · simp only [cI_co h, cI_oc h]; omega
  · simp only [cI_co h, cI_oc h]; omega
  · rw [(z K on X U fe mo).1, (z K on X U fe mo).2, (z K on X2 U2 fe mo).1, (z K on X2 U2 fe mo).2]
theorem cI_nn {K : Int} {on : Nat → Nat → Bool} {X : Nat → Nat → Int} {U fe mo : Nat → Int} (h1 : ∀ i j, i < 12 → j < 12 → 0 ≤ X i j ∧ X i j ≤ K) (h2 : ∀ n, n < 24 → fe n ≤ U n ∧ U n ≤ mo n) (u v : Nat) (hu : u < 25) (hv : v < 25) : 0 ≤ cI K on X U fe mo u v := by
  rcases nd_case u v hu hv with ⟨i, j, hi, hj, rfl, rfl⟩ | ⟨i, j, hi, hj, rfl, rfl⟩ | ⟨rfl, h⟩ | ⟨rfl, h⟩ | ⟨rfl, j, h, rfl⟩ | ⟨rfl, j, h, rfl⟩ | z
  · rw [cI_rc hi hj]; have := h1 u j hi hj; split <;> omega
  · rw [cI_cr hi hj]; have := h1 v j hi hj; split <;> omega
  · rw [cI_or h]; have := h2 v (by omega); omega
  · rw [cI_ro h]; have := h2 u (by omega); omega
  · rw [cI_co h]; have := h2 (12 + j) (by omega); omega
  · rw [cI_oc h]; have := h2 (12 + j) (by omega); omega
  · rw [(z K on X U fe mo).1]; exact Int.le_refl 0
theorem mul_if {B a : Int} {p : Prop} [Decidable p] : B * (if p then a else 0) = if p then B * a else 0 := by
  split
  · rfl
  · exact Int.mul_zero B
theorem cI_mul {B : Int} {on : Nat → Nat → Bool} {X : Nat → Nat → Int} {U fe mo : Nat → Int} (u v : Nat) (hu : u < 25) (hv : v < 25) : cI B on (fun i j => B * X i j) (fun n => B * U n) (fun n => B * fe n) (fun n => B * mo n) u v = B * cI 1 on X U fe mo u v := by
  rcases nd_case u v hu hv with ⟨i, j, hi, hj, rfl, rfl⟩ | ⟨i, j, hi, hj, rfl, rfl⟩ | ⟨rfl, h⟩ | ⟨rfl, h⟩ | ⟨rfl, j, h, rfl⟩ | ⟨rfl, j, h, rfl⟩ | z
  · rw [cI_rc hi hj, cI_rc hi hj, mul_if, Int.mul_sub, Int.mul_one]
  · rw [cI_cr hi hj, cI_cr hi hj, mul_if]
  · rw [cI_or h, cI_or h, Int.mul_sub]
  · rw [cI_ro h, cI_ro h, Int.mul_sub]
  · rw [cI_co h, cI_co h, Int.mul_sub]
  · rw [cI_oc h, cI_oc h, Int.mul_sub]
  · rw [(z 1 on X U fe mo).1, (z B on (fun i j => B * X i j) (fun n => B * U n) (fun n => B * fe n) (fun n => B * mo n)).1, Int.mul_zero]
/-- cells and nodes but one as they were -/
theorem cI_nU {K : Int} {on : Nat → Nat → Bool} {X : Nat → Nat → Int} {U fe mo U2 fe2 mo2 : Nat → Int} {n : Nat} (hag : ∀ k, k < 24 → k ≠ n → U2 k = U k ∧ fe2 k = fe k ∧ mo2 k = mo k) (u v : Nat) (hu : u < 25) (hv : v < 25) (h1 : ¬ (u = 24 ∧ v = n)) (h2 : ¬ (u = n ∧ v = 24)) : cI K on X U2 fe2 mo2 u v = cI K on X U fe mo u v := by
  rcases nd_case u v hu hv with ⟨i, j, hi, hj, rfl, rfl⟩ | ⟨i, j, hi, hj, rfl, rfl⟩ | ⟨rfl, h⟩ | ⟨rfl, h⟩ | ⟨rfl, j, h, rfl⟩ | ⟨rfl, j, h, rfl⟩ | z
  · rw [cI_rc hi hj, cI_rc hi hj]
  · rw [cI_cr hi hj, cI_cr hi hj]
  · obtain ⟨a, b, c⟩ := hag v (by omega) (fun q => h1 ⟨rfl, q⟩)
    rw [cI_or h, cI_or h, a, c]
  · obtain ⟨a, b, c⟩ := hag u (by omega) (fun q => h2 ⟨q, rfl⟩)
    rw [cI_ro h, cI_ro h, a, b]
  · obtain ⟨a, b, c⟩ := hag (12 + j) (by omega) (fun q => h2 ⟨q, rfl⟩)
    rw [cI_co h, cI_co h, a, c]
  · obtain ⟨a, b, c⟩ := hag (12 + j) (by omega) (fun q => h1 ⟨rfl, q⟩)
    rw [cI_oc h, cI_oc h, a, b]
  · rw [(z K on X U fe mo).1, (z K on X U2 fe2 mo2).1]
theorem cI_nX {K : Int} {on on2 : Nat → Nat → Bool} {X X2 : Nat → Nat → Int} {U fe mo : Nat → Int} {i0 j0 : Nat} (hag : ∀ i j, i < 12 → j < 12 → ¬ (i = i0 ∧ j = j0) → X2 i j = X i j ∧ on2 i j = on i j) (u v : Nat) (hu : u < 25) (hv : v < 25) (h1 : ¬ (u = i0 ∧ v = 12 + j0)) (h2 : ¬ (u = 12 + j0 ∧ v = i0)) : cI K on2 X2 U fe mo u v = cI K on X U fe mo u v := by
  rcases nd_case u v hu hv with ⟨i, j, hi, hj, rfl, rfl⟩ | ⟨i, j, hi, hj, rfl, rfl⟩ | ⟨rfl, h⟩ | ⟨rfl, h⟩ | ⟨rfl, j, h, rfl⟩ | ⟨rfl, j, h, rfl⟩ | z
  · obtain ⟨a, b⟩ := hag u j hi hj (fun q => h1 ⟨q.1, by omega⟩)
    rw [cI_rc hi hj, cI_rc hi hj, a, b]
  · obtain ⟨a, b⟩ := hag v j hi hj (fun q => h2 ⟨by omega, q.1⟩)
    rw [cI_cr hi hj, cI_cr hi hj, a, b]
  · rw [cI_or h, cI_or h]
  · rw [cI_ro h, cI_ro h]
  · rw [cI_co h, cI_co h]
  · rw [cI_oc h, cI_oc h]
  · rw [(z K on X U fe mo).1, (z K on2 X2 U fe mo).1]
/-! what a node holds of steps -/
theorem sum25 (f : Nat → Int) : sumI 25 f = sumI 12 f + sumI 12 (fun k => f (12 + k)) + f 24 := by
  have h : sumI 25 f = sumI 24 f + f 24 := rfl
  have h2 : sumI 24 f = sumI 12 f + sumI 12 (fun k => f (12 + k)) := sumI_split 12 12
  rw [h, h2]
section SU
variable {K : Int} {on : Nat → Nat → Bool} {X X2 : Nat → Nat → Int} {U fe mo U2 : Nat → Int}
theorem row_sum {i : Nat} (hi : i < 12) : sumI 25 (fun v => cI K on X U fe mo i v) = sumI 12 (fun j => if on i j = true then K - X i j else 0) + (U i - fe i) := by
  have h1 : sumI 12 (fun k => cI K on X U fe mo i k) = 0 := sumI_z 12 (fun k hk => cI_rr hi hk)
  have h2 : sumI 12 (fun k => cI K on X U fe mo i (12 + k)) = sumI 12 (fun j => if on i j = true then K - X i j else 0) := sumI_c 12 (fun k hk => cI_rc hi hk)
  have h4 : cI K on X U fe mo i 24 = U i - fe i := cI_ro hi
  refine (sum25 (fun v => cI K on X U fe mo i v)).trans ?_
  show sumI 12 (fun k => cI K on X U fe mo i k) + sumI 12 (fun k => cI K on X U fe mo i (12 + k)) + cI K on X U fe mo i 24 = _
  rw [h1, h2, h4, Int.zero_add]
theorem col_sum {j : Nat} (hj : j < 12) : sumI 25 (fun v => cI K on X U fe mo (12 + j) v) = sumI 12 (fun i => if on i j = true then X i j else 0) + (mo (12 + j) - U (12 + j)) := by
  have h1 : sumI 12 (fun k => cI K on X U fe mo (12 + j) k) = sumI 12 (fun i => if on i j = true then X i j else 0) := sumI_c 12 (fun k hk => cI_cr hk hj)
  have h2 : sumI 12 (fun k => cI K on X U fe mo (12 + j) (12 + k)) = 0 := sumI_z 12 (fun k hk => cI_cc hj hk)
  have h4 : cI K on X U fe mo (12 + j) 24 = mo (12 + j) - U (12 + j) := cI_co hj
  refine (sum25 (fun v => cI K on X U fe mo (12 + j) v)).trans ?_
  show sumI 12 (fun k => cI K on X U fe mo (12 + j) k) + sumI 12 (fun k => cI K on X U fe mo (12 + j) (12 + k)) + cI K on X U fe mo (12 + j) 24 = _
  rw [h1, h2, h4, Int.add_zero]
/-- two states of one network: how the nodes' rests differ -/
theorem out_row {i : Nat} (hi : i < 12) : sumI 25 (fun v => cI K on X U fe mo i v - cI K on X2 U2 fe mo i v) = (U i - ndI X i) - (U2 i - ndI X2 i) + sumI 12 (fun j => if on i j = true then 0 else X i j - X2 i j) := by
  have a1 : sumI 12 (fun j => (if on i j = true then K - X i j else 0) + X i j) = sumI 12 (fun j => if on i j = true then K - X i j else 0) + sumI 12 (fun j => X i j) := sumI_add 12
  have a2 : sumI 12 (fun j => (if on i j = true then K - X2 i j else 0) + X2 i j) = sumI 12 (fun j => if on i j = true then K - X2 i j else 0) + sumI 12 (fun j => X2 i j) := sumI_add 12
  have a3 : sumI 12 (fun j => ((if on i j = true then K - X2 i j else 0) + X2 i j) + (if on i j = true then 0 else X i j - X2 i j)) = sumI 12 (fun j => (if on i j = true then K - X2 i j else 0) + X2 i j) + sumI 12 (fun j => if on i j = true then 0 else X i j - X2 i j) := sumI_add 12
  have a4 : sumI 12 (fun j => (if on i j = true then K - X i j else 0) + X i j) = sumI 12 (fun j => ((if on i j = true then K - X2 i j else 0) + X2 i j) + (if on i j = true then 0 else X i j - X2 i j)) := sumI_c 12 (fun j _ => by
    show (if on i j = true then K - X i j else 0) + X i j = ((if on i j = true then K - X2 i j else 0) + X2 i j) + (if on i j = true then 0 else X i j - X2 i j)
    by_cases e : on i j = true
    · rw [if_pos e, if_pos e, if_pos e]; omega
    · rw [if_neg e, if_neg e, if_neg e]; omega)
  rw [sumI_sub (f := fun v => cI K on X U fe mo i v) (g := fun v => cI K on X2 U2 fe mo i v), row_sum hi, row_sum hi, ndI_r hi, ndI_r hi]
  omega
theorem out_col {j : Nat} (hj : j < 12) : sumI 25 (fun v => cI K on X U fe mo (12 + j) v - cI K on X2 U2 fe mo (12 + j) v) = (ndI X (12 + j) - U (12 + j)) - (ndI X2 (12 + j) - U2 (12 + j)) - sumI 12 (fun i => if on i j = true then 0 else X i j - X2 i j) := by
  have a1 : sumI 12 (fun i => (if on i j = true then X i j else 0) + X2 i j) = sumI 12 (fun i => if on i j = true then X i j else 0) + sumI 12 (fun i => X2 i j) := sumI_add 12
  have a2 : sumI 12 (fun i => (if on i j = true then X2 i j else 0) + X i j) = sumI 12 (fun i => if on i j = true then X2 i j else 0) + sumI 12 (fun i => X i j) := sumI_add 12
  have a3 : sumI 12 (fun i => ((if on i j = true then X i j else 0) + X2 i j) + (if on i j = true then 0 else X i j - X2 i j)) = sumI 12 (fun i => (if on i j = true then X i j else 0) + X2 i j) + sumI 12 (fun i => if on i j = true then 0 else X i j - X2 i j) := sumI_add 12
  have a4 : sumI 12 (fun i => (if on i j = true then X2 i j else 0) + X i j) = sumI 12 (fun i => ((if on i j = true then X i j else 0) + X2 i j) + (if on i j = true then 0 else X i j - X2 i j)) := sumI_c 12 (fun i _ => by
    show (if on i j = true then X2 i j else 0) + X i j = ((if on i j = true then X i j else 0) + X2 i j) + (if on i j = true then 0 else X i j - X2 i j)
    by_cases e : on i j = true
    · rw [if_pos e, if_pos e, if_pos e]; omega
    · rw [if_neg e, if_neg e, if_neg e]; omega)
  rw [sumI_sub (f := fun v => cI K on X U fe mo (12 + j) v) (g := fun v => cI K on X2 U2 fe mo (12 + j) v), col_sum hj, col_sum hj, ndI_c, ndI_c]
  omega
theorem out_one {r0 c0 : Nat} {e : Int} (hr : r0 < 12) (hc : c0 < 12) (hb : ∀ n, n < 24 → ndI X n = U n) (hb2 : ∀ n, n < 24 → ndI X2 n = U2 n) (ho : ∀ i j, i < 12 → j < 12 → (if on i j = true then 0 else X i j - X2 i j) = if i = r0 ∧ j = c0 then e else 0) (n : Nat) (hn : n < 24) : sumI 25 (fun v => cI K on X U fe mo n v - cI K on X2 U2 fe mo n v) = dl n r0 e - dl n (12 + c0) e := by
  by_cases c : n < 12
  · have h1 : sumI 12 (fun j => if on n j = true then 0 else X n j - X2 n j) = sumI 12 (fun j => dl j c0 (dl n r0 e)) := sumI_c 12 (fun j hj => by
      refine (ho n j c hj).trans ?_
      by_cases q : n = r0
      · by_cases q2 : j = c0
        · rw [if_pos ⟨q, q2⟩, dl_t q2, dl_t q]
        · rw [if_neg (fun z => q2 z.2), dl_n q2]
      · rw [if_neg (fun z => q z.1), dl_n q]
        unfold dl; split <;> rfl)
    rw [out_row c, h1, sumI_dl 12 hc, hb n hn, hb2 n hn, dl_n (show n ≠ 12 + c0 by omega)]; omega
  · obtain ⟨j, hj, rfl⟩ : ∃ j, j < 12 ∧ n = 12 + j := ⟨n - 12, by omega, by omega⟩
    have h1 : sumI 12 (fun i => if on i j = true then 0 else X i j - X2 i j) = sumI 12 (fun i => dl i r0 (dl j c0 e)) := sumI_c 12 (fun i hi => by
      refine (ho i j hi hj).trans ?_
      by_cases q : i = r0
      · by_cases q2 : j = c0
        · rw [if_pos ⟨q, q2⟩, dl_t q, dl_t q2]
        · rw [if_neg (fun z => q2 z.2), dl_t q, dl_n q2]
      · rw [if_neg (fun z => q z.1), dl_n q])
    have h2 : dl (12 + j) (12 + c0) e = dl j c0 e := by
      by_cases q : j = c0
      · rw [dl_t q, dl_t (by omega)]
      · rw [dl_n q, dl_n (by omega)]
    rw [out_col hj, h1, sumI_dl 12 hr, hb _ hn, hb2 _ hn, dl_n (show 12 + j ≠ r0 by omega), h2]; omega
end SU
theorem mul_lt_s {B a b : Int} (hB : 0 < B) (h : B * a < B * b + B) : a ≤ b := by
  have h2 : B * a < B * (b + 1) := by rw [Int.mul_add, Int.mul_one]; exact h
  have := Int.lt_of_mul_lt_mul_left h2 (Int.le_of_lt hB)
  omega
