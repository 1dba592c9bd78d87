def SR (lo : Nat → Nat) : Int := sumI 12 (fun k => (lo k : Int))
def SC (lo : Nat → Nat) : Int := sumI 12 (fun k => (lo (12 + k) : Int))
/-- rows 0 to 11, columns 12 to 23, source 24, sink 25, need 26, due 27 -/
def nW (M : Int) (T : Nat → Nat → Nat) (lo hi : Nat → Nat) (u v : Nat) : Int := (if u < 12 ∧ 12 ≤ v ∧ v < 24 then (T u (v - 12) : Int) else 0) + (if u = 24 ∧ v < 12 then (hi v : Int) - (lo v : Int) else 0) + (if u = 26 ∧ v < 12 then (lo v : Int) else 0) + (if u = 24 ∧ v = 27 then SR lo else 0) + (if 12 ≤ u ∧ u < 24 ∧ v = 25 then (hi u : Int) - (lo u : Int) else 0) + (if u = 26 ∧ v = 25 then SC lo else 0) + (if 12 ≤ u ∧ u < 24 ∧ v = 27 then (lo u : Int) else 0) + (if u = 25 ∧ v = 24 then M else 0)
theorem sum28 (f : Nat → Int) : sumI 28 f = sumI 12 f + sumI 12 (fun k => f (12 + k)) + f 24 + f 25 + f 26 + f 27 := by
  have h : sumI 28 f = sumI 24 f + f 24 + f 25 + f 26 + f 27 := rfl
  have h2 : sumI 24 f = sumI 12 f + sumI 12 (fun k => f (12 + k)) := sumI_split 12 12
  rw [h, h2]
section NW
variable {M : Int} {T : Nat → Nat → Nat} {lo hi : Nat → Nat} {i j k : Nat}
theorem nW_rr (h1 : i < 12) (h2 : k < 12) : nW M T lo hi i k = 0 := by
  unfold nW; rw [if_neg (show ¬ (i < 12 ∧ 12 ≤ k ∧ k < 24) by omega), if_neg (show ¬ (i = 24 ∧ k < 12) by omega), if_neg (show ¬ (i = 26 ∧ k < 12) by omega), if_neg (show ¬ (i = 24 ∧ k = 27) by omega), if_neg (show ¬ (12 ≤ i ∧ i < 24 ∧ k = 25) by omega), if_neg (show ¬ (i = 26 ∧ k = 25) by omega), if_neg (show ¬ (12 ≤ i ∧ i < 24 ∧ k = 27) by omega), if_neg (show ¬ (i = 25 ∧ k = 24) by omega)]; all_goals omega
theorem nW_rc (h1 : i < 12) (h2 : j < 12) : nW M T lo hi i (12 + j) = (T i j : Int) := by
  unfold nW; rw [if_pos (show i < 12 ∧ 12 ≤ (12 + j) ∧ (12 + j) < 24 by omega), if_neg (show ¬ (i = 24 ∧ (12 + j) < 12) by omega), if_neg (show ¬ (i = 26 ∧ (12 + j) < 12) by omega), if_neg (show ¬ (i = 24 ∧ (12 + j) = 27) by omega), if_neg (show ¬ (12 ≤ i ∧ i < 24 ∧ (12 + j) = 25) by omega), if_neg (show ¬ (i = 26 ∧ (12 + j) = 25) by omega), if_neg (show ¬ (12 ≤ i ∧ i < 24 ∧ (12 + j) = 27) by omega), if_neg (show ¬ (i = 25 ∧ (12 + j) = 24) by omega), show 12 + j - 12 = j by omega]; all_goals omega
theorem nW_r4 (h1 : i < 12) : nW M T lo hi i 24 = 0 := by
  unfold nW; rw [if_neg (show ¬ (i < 12 ∧ 12 ≤ 24 ∧ 24 < 24) by omega), if_neg (show ¬ (i = 24 ∧ 24 < 12) by omega), if_neg (show ¬ (i = 26 ∧ 24 < 12) by omega), if_neg (show ¬ (i = 24 ∧ 24 = 27) by omega), if_neg (show ¬ (12 ≤ i ∧ i < 24 ∧ 24 = 25) by omega), if_neg (show ¬ (i = 26 ∧ 24 = 25) by omega), if_neg (show ¬ (12 ≤ i ∧ i < 24 ∧ 24 = 27) by omega), if_neg (show ¬ (i = 25 ∧ 24 = 24) by omega)]; all_goals omega
theorem nW_r5 (h1 : i < 12) : nW M T lo hi i 25 = 0 := by
  unfold nW; rw [if_neg (show ¬ (i < 12 ∧ 12 ≤ 25 ∧ 25 < 24) by omega), if_neg (show ¬ (i = 24 ∧ 25 < 12) by omega), if_neg (show ¬ (i = 26 ∧ 25 < 12) by omega), if_neg (show ¬ (i = 24 ∧ 25 = 27) by omega), if_neg (show ¬ (12 ≤ i ∧ i < 24 ∧ 25 = 25) by omega), if_neg (show ¬ (i = 26 ∧ 25 = 25) by omega), if_neg (show ¬ (12 ≤ i ∧ i < 24 ∧ 25 = 27) by omega), if_neg (show ¬ (i = 25 ∧ 25 = 24) by omega)]; all_goals omega
theorem nW_r6 (h1 : i < 12) : nW M T lo hi i 26 = 0 := by
  unfold nW; rw [if_neg (show ¬ (i < 12 ∧ 12 ≤ 26 ∧ 26 < 24) by omega), if_neg (show ¬ (i = 24 ∧ 26 < 12) by omega), if_neg (show ¬ (i = 26 ∧ 26 < 12) by omega), if_neg (show ¬ (i = 24 ∧ 26 = 27) by omega), if_neg (show ¬ (12 ≤ i ∧ i < 24 ∧ 26 = 25) by omega), if_neg (show ¬ (i = 26 ∧ 26 = 25) by omega), if_neg (show ¬ (12 ≤ i ∧ i < 24 ∧ 26 = 27) by omega), if_neg (show ¬ (i = 25 ∧ 26 = 24) by omega)]; all_goals omega
theorem nW_r7 (h1 : i < 12) : nW M T lo hi i 27 = 0 := by
  unfold nW; rw [if_neg (show ¬ (i < 12 ∧ 12 ≤ 27 ∧ 27 < 24) by omega), if_neg (show ¬ (i = 24 ∧ 27 < 12) by omega), if_neg (show ¬ (i = 26 ∧ 27 < 12) by omega), if_neg (show ¬ (i = 24 ∧ 27 = 27) by omega), if_neg (show ¬ (12 ≤ i ∧ i < 24 ∧ 27 = 25) by omega), if_neg (show ¬ (i = 26 ∧ 27 = 25) by omega), if_neg (show ¬ (12 ≤ i ∧ i < 24 ∧ 27 = 27) by omega), if_neg (show ¬ (i = 25 ∧ 27 = 24) by omega)]; all_goals omega
theorem nW_cr (h1 : j < 12) (h2 : i < 12) : nW M T lo hi (12 + j) i = 0 := by
  unfold nW; rw [if_neg (show ¬ ((12 + j) < 12 ∧ 12 ≤ i ∧ i < 24) by omega), if_neg (show ¬ ((12 + j) = 24 ∧ i < 12) by omega), if_neg (show ¬ ((12 + j) = 26 ∧ i < 12) by omega), if_neg (show ¬ ((12 + j) = 24 ∧ i = 27) by omega), if_neg (show ¬ (12 ≤ (12 + j) ∧ (12 + j) < 24 ∧ i = 25) by omega), if_neg (show ¬ ((12 + j) = 26 ∧ i = 25) by omega), if_neg (show ¬ (12 ≤ (12 + j) ∧ (12 + j) < 24 ∧ i = 27) by omega), if_neg (show ¬ ((12 + j) = 25 ∧ i = 24) by omega)]; all_goals omega
theorem nW_cc (h1 : j < 12) (h2 : k < 12) : nW M T lo hi (12 + j) (12 + k) = 0 := by
  unfold nW; rw [if_neg (show ¬ ((12 + j) < 12 ∧ 12 ≤ (12 + k) ∧ (12 + k) < 24) by omega), if_neg (show ¬ ((12 + j) = 24 ∧ (12 + k) < 12) by omega), if_neg (show ¬ ((12 + j) = 26 ∧ (12 + k) < 12) by omega), if_neg (show ¬ ((12 + j) = 24 ∧ (12 + k) = 27) by omega), if_neg (show ¬ (12 ≤ (12 + j) ∧ (12 + j) < 24 ∧ (12 + k) = 25) by omega), if_neg (show ¬ ((12 + j) = 26 ∧ (12 + k) = 25) by omega), if_neg (show ¬ (12 ≤ (12 + j) ∧ (12 + j) < 24 ∧ (12 + k) = 27) by omega), if_neg (show ¬ ((12 + j) = 25 ∧ (12 + k) = 24) by omega)]; all_goals omega
theorem nW_c4 (h1 : j < 12) : nW M T lo hi (12 + j) 24 = 0 := by
  unfold nW; rw [if_neg (show ¬ ((12 + j) < 12 ∧ 12 ≤ 24 ∧ 24 < 24) by omega), if_neg (show ¬ ((12 + j) = 24 ∧ 24 < 12) by omega), if_neg (show ¬ ((12 + j) = 26 ∧ 24 < 12) by omega), if_neg (show ¬ ((12 + j) = 24 ∧ 24 = 27) by omega), if_neg (show ¬ (12 ≤ (12 + j) ∧ (12 + j) < 24 ∧ 24 = 25) by omega), if_neg (show ¬ ((12 + j) = 26 ∧ 24 = 25) by omega), if_neg (show ¬ (12 ≤ (12 + j) ∧ (12 + j) < 24 ∧ 24 = 27) by omega), if_neg (show ¬ ((12 + j) = 25 ∧ 24 = 24) by omega)]; all_goals omega
theorem nW_c5 (h1 : j < 12) : nW M T lo hi (12 + j) 25 = (hi (12 + j) : Int) - (lo (12 + j) : Int) := by
  unfold nW; rw [if_neg (show ¬ ((12 + j) < 12 ∧ 12 ≤ 25 ∧ 25 < 24) by omega), if_neg (show ¬ ((12 + j) = 24 ∧ 25 < 12) by omega), if_neg (show ¬ ((12 + j) = 26 ∧ 25 < 12) by omega), if_neg (show ¬ ((12 + j) = 24 ∧ 25 = 27) by omega), if_pos (show 12 ≤ (12 + j) ∧ (12 + j) < 24 ∧ 25 = 25 by omega), if_neg (show ¬ ((12 + j) = 26 ∧ 25 = 25) by omega), if_neg (show ¬ (12 ≤ (12 + j) ∧ (12 + j) < 24 ∧ 25 = 27) by omega), if_neg (show ¬ ((12 + j) = 25 ∧ 25 = 24) by omega)]; all_goals omega
theorem nW_c6 (h1 : j < 12) : nW M T lo hi (12 + j) 26 = 0 := by
  unfold nW; rw [if_neg (show ¬ ((12 + j) < 12 ∧ 12 ≤ 26 ∧ 26 < 24) by omega), if_neg (show ¬ ((12 + j) = 24 ∧ 26 < 12) by omega), if_neg (show ¬ ((12 + j) = 26 ∧ 26 < 12) by omega), if_neg (show ¬ ((12 + j) = 24 ∧ 26 = 27) by omega), if_neg (show ¬ (12 ≤ (12 + j) ∧ (12 + j) < 24 ∧ 26 = 25) by omega), if_neg (show ¬ ((12 + j) = 26 ∧ 26 = 25) by omega), if_neg (show ¬ (12 ≤ (12 + j) ∧ (12 + j) < 24 ∧ 26 = 27) by omega), if_neg (show ¬ ((12 + j) = 25 ∧ 26 = 24) by omega)]; all_goals omega
theorem nW_c7 (h1 : j < 12) : nW M T lo hi (12 + j) 27 = (lo (12 + j) : Int) := by
  unfold nW; rw [if_neg (show ¬ ((12 + j) < 12 ∧ 12 ≤ 27 ∧ 27 < 24) by omega), if_neg (show ¬ ((12 + j) = 24 ∧ 27 < 12) by omega), if_neg (show ¬ ((12 + j) = 26 ∧ 27 < 12) by omega), if_neg (show ¬ ((12 + j) = 24 ∧ 27 = 27) by omega), if_neg (show ¬ (12 ≤ (12 + j) ∧ (12 + j) < 24 ∧ 27 = 25) by omega), if_neg (show ¬ ((12 + j) = 26 ∧ 27 = 25) by omega), if_pos (show 12 ≤ (12 + j) ∧ (12 + j) < 24 ∧ 27 = 27 by omega), if_neg (show ¬ ((12 + j) = 25 ∧ 27 = 24) by omega)]; all_goals omega
theorem nW_4r (h2 : i < 12) : nW M T lo hi 24 i = (hi i : Int) - (lo i : Int) := by
  unfold nW; rw [if_neg (show ¬ (24 < 12 ∧ 12 ≤ i ∧ i < 24) by omega), if_pos (show 24 = 24 ∧ i < 12 by omega), if_neg (show ¬ (24 = 26 ∧ i < 12) by omega), if_neg (show ¬ (24 = 24 ∧ i = 27) by omega), if_neg (show ¬ (12 ≤ 24 ∧ 24 < 24 ∧ i = 25) by omega), if_neg (show ¬ (24 = 26 ∧ i = 25) by omega), if_neg (show ¬ (12 ≤ 24 ∧ 24 < 24 ∧ i = 27) by omega), if_neg (show ¬ (24 = 25 ∧ i = 24) by omega)]; all_goals omega
theorem nW_4c (h2 : j < 12) : nW M T lo hi 24 (12 + j) = 0 := by
  unfold nW; rw [if_neg (show ¬ (24 < 12 ∧ 12 ≤ (12 + j) ∧ (12 + j) < 24) by omega), if_neg (show ¬ (24 = 24 ∧ (12 + j) < 12) by omega), if_neg (show ¬ (24 = 26 ∧ (12 + j) < 12) by omega), if_neg (show ¬ (24 = 24 ∧ (12 + j) = 27) by omega), if_neg (show ¬ (12 ≤ 24 ∧ 24 < 24 ∧ (12 + j) = 25) by omega), if_neg (show ¬ (24 = 26 ∧ (12 + j) = 25) by omega), if_neg (show ¬ (12 ≤ 24 ∧ 24 < 24 ∧ (12 + j) = 27) by omega), if_neg (show ¬ (24 = 25 ∧ (12 + j) = 24) by omega)]; all_goals omega
theorem nW_44 : nW M T lo hi 24 24 = 0 := by
  unfold nW; rw [if_neg (show ¬ (24 < 12 ∧ 12 ≤ 24 ∧ 24 < 24) by omega), if_neg (show ¬ (24 = 24 ∧ 24 < 12) by omega), if_neg (show ¬ (24 = 26 ∧ 24 < 12) by omega), if_neg (show ¬ (24 = 24 ∧ 24 = 27) by omega), if_neg (show ¬ (12 ≤ 24 ∧ 24 < 24 ∧ 24 = 25) by omega), if_neg (show ¬ (24 = 26 ∧ 24 = 25) by omega), if_neg (show ¬ (12 ≤ 24 ∧ 24 < 24 ∧ 24 = 27) by omega), if_neg (show ¬ (24 = 25 ∧ 24 = 24) by omega)]; all_goals omega
theorem nW_45 : nW M T lo hi 24 25 = 0 := by
  unfold nW; rw [if_neg (show ¬ (24 < 12 ∧ 12 ≤ 25 ∧ 25 < 24) by omega), if_neg (show ¬ (24 = 24 ∧ 25 < 12) by omega), if_neg (show ¬ (24 = 26 ∧ 25 < 12) by omega), if_neg (show ¬ (24 = 24 ∧ 25 = 27) by omega), if_neg (show ¬ (12 ≤ 24 ∧ 24 < 24 ∧ 25 = 25) by omega), if_neg (show ¬ (24 = 26 ∧ 25 = 25) by omega), if_neg (show ¬ (12 ≤ 24 ∧ 24 < 24 ∧ 25 = 27) by omega), if_neg (show ¬ (24 = 25 ∧ 25 = 24) by omega)]; all_goals omega
theorem nW_46 : nW M T lo hi 24 26 = 0 := by
  unfold nW; rw [if_neg (show ¬ (24 < 12 ∧ 12 ≤ 26 ∧ 26 < 24) by omega), if_neg (show ¬ (24 = 24 ∧ 26 < 12) by omega), if_neg (show ¬ (24 = 26 ∧ 26 < 12) by omega), if_neg (show ¬ (24 = 24 ∧ 26 = 27) by omega), if_neg (show ¬ (12 ≤ 24 ∧ 24 < 24 ∧ 26 = 25) by omega), if_neg (show ¬ (24 = 26 ∧ 26 = 25) by omega), if_neg (show ¬ (12 ≤ 24 ∧ 24 < 24 ∧ 26 = 27) by omega), if_neg (show ¬ (24 = 25 ∧ 26 = 24) by omega)]; all_goals omega
theorem nW_47 : nW M T lo hi 24 27 = SR lo := by
  unfold nW; rw [if_neg (show ¬ (24 < 12 ∧ 12 ≤ 27 ∧ 27 < 24) by omega), if_neg (show ¬ (24 = 24 ∧ 27 < 12) by omega), if_neg (show ¬ (24 = 26 ∧ 27 < 12) by omega), if_pos (show 24 = 24 ∧ 27 = 27 by omega), if_neg (show ¬ (12 ≤ 24 ∧ 24 < 24 ∧ 27 = 25) by omega), if_neg (show ¬ (24 = 26 ∧ 27 = 25) by omega), if_neg (show ¬ (12 ≤ 24 ∧ 24 < 24 ∧ 27 = 27) by omega), if_neg (show ¬ (24 = 25 ∧ 27 = 24) by omega)]; all_goals omega
theorem nW_5r (h2 : i < 12) : nW M T lo hi 25 i = 0 := by
  unfold nW; rw [if_neg (show ¬ (25 < 12 ∧ 12 ≤ i ∧ i < 24) by omega), if_neg (show ¬ (25 = 24 ∧ i < 12) by omega), if_neg (show ¬ (25 = 26 ∧ i < 12) by omega), if_neg (show ¬ (25 = 24 ∧ i = 27) by omega), if_neg (show ¬ (12 ≤ 25 ∧ 25 < 24 ∧ i = 25) by omega), if_neg (show ¬ (25 = 26 ∧ i = 25) by omega), if_neg (show ¬ (12 ≤ 25 ∧ 25 < 24 ∧ i = 27) by omega), if_neg (show ¬ (25 = 25 ∧ i = 24) by omega)]; all_goals omega
theorem nW_5c (h2 : j < 12) : nW M T lo hi 25 (12 + j) = 0 := by
  unfold nW; rw [if_neg (show ¬ (25 < 12 ∧ 12 ≤ (12 + j) ∧ (12 + j) < 24) by omega), if_neg (show ¬ (25 = 24 ∧ (12 + j) < 12) by omega), if_neg (show ¬ (25 = 26 ∧ (12 + j) < 12) by omega), if_neg (show ¬ (25 = 24 ∧ (12 + j) = 27) by omega), if_neg (show ¬ (12 ≤ 25 ∧ 25 < 24 ∧ (12 + j) = 25) by omega), if_neg (show ¬ (25 = 26 ∧ (12 + j) = 25) by omega), if_neg (show ¬ (12 ≤ 25 ∧ 25 < 24 ∧ (12 + j) = 27) by omega), if_neg (show ¬ (25 = 25 ∧ (12 + j) = 24) by omega)]; all_goals omega
theorem nW_54 : nW M T lo hi 25 24 = M := by
  unfold nW; rw [if_neg (show ¬ (25 < 12 ∧ 12 ≤ 24 ∧ 24 < 24) by omega), if_neg (show ¬ (25 = 24 ∧ 24 < 12) by omega), if_neg (show ¬ (25 = 26 ∧ 24 < 12) by omega), if_neg (show ¬ (25 = 24 ∧ 24 = 27) by omega), if_neg (show ¬ (12 ≤ 25 ∧ 25 < 24 ∧ 24 = 25) by omega), if_neg (show ¬ (25 = 26 ∧ 24 = 25) by omega), if_neg (show ¬ (12 ≤ 25 ∧ 25 < 24 ∧ 24 = 27) by omega), if_pos (show 25 = 25 ∧ 24 = 24 by omega)]; all_goals omega
theorem nW_55 : nW M T lo hi 25 25 = 0 := by
  unfold nW; rw [if_neg (show ¬ (25 < 12 ∧ 12 ≤ 25 ∧ 25 < 24) by omega), if_neg (show ¬ (25 = 24 ∧ 25 < 12) by omega), if_neg (show ¬ (25 = 26 ∧ 25 < 12) by omega), if_neg (show ¬ (25 = 24 ∧ 25 = 27) by omega), if_neg (show ¬ (12 ≤ 25 ∧ 25 < 24 ∧ 25 = 25) by omega), if_neg (show ¬ (25 = 26 ∧ 25 = 25) by omega), if_neg (show ¬ (12 ≤ 25 ∧ 25 < 24 ∧ 25 = 27) by omega), if_neg (show ¬ (25 = 25 ∧ 25 = 24) by omega)]; all_goals omega
theorem nW_56 : nW M T lo hi 25 26 = 0 := by
  unfold nW; rw [if_neg (show ¬ (25 < 12 ∧ 12 ≤ 26 ∧ 26 < 24) by omega), if_neg (show ¬ (25 = 24 ∧ 26 < 12) by omega), if_neg (show ¬ (25 = 26 ∧ 26 < 12) by omega), if_neg (show ¬ (25 = 24 ∧ 26 = 27) by omega), if_neg (show ¬ (12 ≤ 25 ∧ 25 < 24 ∧ 26 = 25) by omega), if_neg (show ¬ (25 = 26 ∧ 26 = 25) by omega), if_neg (show ¬ (12 ≤ 25 ∧ 25 < 24 ∧ 26 = 27) by omega), if_neg (show ¬ (25 = 25 ∧ 26 = 24) by omega)]; all_goals omega
theorem nW_57 : nW M T lo hi 25 27 = 0 := by
  unfold nW; rw [if_neg (show ¬ (25 < 12 ∧ 12 ≤ 27 ∧ 27 < 24) by omega), if_neg (show ¬ (25 = 24 ∧ 27 < 12) by omega), if_neg (show ¬ (25 = 26 ∧ 27 < 12) by omega), if_neg (show ¬ (25 = 24 ∧ 27 = 27) by omega), if_neg (show ¬ (12 ≤ 25 ∧ 25 < 24 ∧ 27 = 25) by omega), if_neg (show ¬ (25 = 26 ∧ 27 = 25) by omega), if_neg (show ¬ (12 ≤ 25 ∧ 25 < 24 ∧ 27 = 27) by omega), if_neg (show ¬ (25 = 25 ∧ 27 = 24) by omega)]; all_goals omega
theorem nW_6r (h2 : i < 12) : nW M T lo hi 26 i = (lo i : Int) := by
  unfold nW; rw [if_neg (show ¬ (26 < 12 ∧ 12 ≤ i ∧ i < 24) by omega), if_neg (show ¬ (26 = 24 ∧ i < 12) by omega), if_pos (show 26 = 26 ∧ i < 12 by omega), if_neg (show ¬ (26 = 24 ∧ i = 27) by omega), if_neg (show ¬ (12 ≤ 26 ∧ 26 < 24 ∧ i = 25) by omega), if_neg (show ¬ (26 = 26 ∧ i = 25) by omega), if_neg (show ¬ (12 ≤ 26 ∧ 26 < 24 ∧ i = 27) by omega), if_neg (show ¬ (26 = 25 ∧ i = 24) by omega)]; all_goals omega
theorem nW_6c (h2 : j < 12) : nW M T lo hi 26 (12 + j) = 0 := by
  unfold nW; rw [if_neg (show ¬ (26 < 12 ∧ 12 ≤ (12 + j) ∧ (12 + j) < 24) by omega), if_neg (show ¬ (26 = 24 ∧ (12 + j) < 12) by omega), if_neg (show ¬ (26 = 26 ∧ (12 + j) < 12) by omega), if_neg (show ¬ (26 = 24 ∧ (12 + j) = 27) by omega), if_neg (show ¬ (12 ≤ 26 ∧ 26 < 24 ∧ (12 + j) = 25) by omega), if_neg (show ¬ (26 = 26 ∧ (12 + j) = 25) by omega), if_neg (show ¬ (12 ≤ 26 ∧ 26 < 24 ∧ (12 + j) = 27) by omega), if_neg (show ¬ (26 = 25 ∧ (12 + j) = 24) by omega)]; all_goals omega
theorem nW_64 : nW M T lo hi 26 24 = 0 := by
  unfold nW; rw [if_neg (show ¬ (26 < 12 ∧ 12 ≤ 24 ∧ 24 < 24) by omega), if_neg (show ¬ (26 = 24 ∧ 24 < 12) by omega), if_neg (show ¬ (26 = 26 ∧ 24 < 12) by omega), if_neg (show ¬ (26 = 24 ∧ 24 = 27) by omega), if_neg (show ¬ (12 ≤ 26 ∧ 26 < 24 ∧ 24 = 25) by omega), if_neg (show ¬ (26 = 26 ∧ 24 = 25) by omega), if_neg (show ¬ (12 ≤ 26 ∧ 26 < 24 ∧ 24 = 27) by omega), if_neg (show ¬ (26 = 25 ∧ 24 = 24) by omega)]; all_goals omega
theorem nW_65 : nW M T lo hi 26 25 = SC lo := by
  unfold nW; rw [if_neg (show ¬ (26 < 12 ∧ 12 ≤ 25 ∧ 25 < 24) by omega), if_neg (show ¬ (26 = 24 ∧ 25 < 12) by omega), if_neg (show ¬ (26 = 26 ∧ 25 < 12) by omega), if_neg (show ¬ (26 = 24 ∧ 25 = 27) by omega), if_neg (show ¬ (12 ≤ 26 ∧ 26 < 24 ∧ 25 = 25) by omega), if_pos (show 26 = 26 ∧ 25 = 25 by omega), if_neg (show ¬ (12 ≤ 26 ∧ 26 < 24 ∧ 25 = 27) by omega), if_neg (show ¬ (26 = 25 ∧ 25 = 24) by omega)]; all_goals omega
theorem nW_66 : nW M T lo hi 26 26 = 0 := by
  unfold nW; rw [if_neg (show ¬ (26 < 12 ∧ 12 ≤ 26 ∧ 26 < 24) by omega), if_neg (show ¬ (26 = 24 ∧ 26 < 12) by omega), if_neg (show ¬ (26 = 26 ∧ 26 < 12) by omega), if_neg (show ¬ (26 = 24 ∧ 26 = 27) by omega), if_neg (show ¬ (12 ≤ 26 ∧ 26 < 24 ∧ 26 = 25) by omega), if_neg (show ¬ (26 = 26 ∧ 26 = 25) by omega), if_neg (show ¬ (12 ≤ 26 ∧ 26 < 24 ∧ 26 = 27) by omega), if_neg (show ¬ (26 = 25 ∧ 26 = 24) by omega)]; all_goals omega
theorem nW_67 : nW M T lo hi 26 27 = 0 := by
  unfold nW; rw [if_neg (show ¬ (26 < 12 ∧ 12 ≤ 27 ∧ 27 < 24) by omega), if_neg (show ¬ (26 = 24 ∧ 27 < 12) by omega), if_neg (show ¬ (26 = 26 ∧ 27 < 12) by omega), if_neg (show ¬ (26 = 24 ∧ 27 = 27) by omega), if_neg (show ¬ (12 ≤ 26 ∧ 26 < 24 ∧ 27 = 25) by omega), if_neg (show ¬ (26 = 26 ∧ 27 = 25) by omega), if_neg (show ¬ (12 ≤ 26 ∧ 26 < 24 ∧ 27 = 27) by omega), if_neg (show ¬ (26 = 25 ∧ 27 = 24) by omega)]; all_goals omega
theorem nW_7r (h2 : i < 12) : nW M T lo hi 27 i = 0 := by
  unfold nW; rw [if_neg (show ¬ (27 < 12 ∧ 12 ≤ i ∧ i < 24) by omega), if_neg (show ¬ (27 = 24 ∧ i < 12) by omega), if_neg (show ¬ (27 = 26 ∧ i < 12) by omega), if_neg (show ¬ (27 = 24 ∧ i = 27) by omega), if_neg (show ¬ (12 ≤ 27 ∧ 27 < 24 ∧ i = 25) by omega), if_neg (show ¬ (27 = 26 ∧ i = 25) by omega), if_neg (show ¬ (12 ≤ 27 ∧ 27 < 24 ∧ i = 27) by omega), if_neg (show ¬ (27 = 25 ∧ i = 24) by omega)]; all_goals omega
theorem nW_7c (h2 : j < 12) : nW M T lo hi 27 (12 + j) = 0 := by
  unfold nW; rw [if_neg (show ¬ (27 < 12 ∧ 12 ≤ (12 + j) ∧ (12 + j) < 24) by omega), if_neg (show ¬ (27 = 24 ∧ (12 + j) < 12) by omega), if_neg (show ¬ (27 = 26 ∧ (12 + j) < 12) by omega), if_neg (show ¬ (27 = 24 ∧ (12 + j) = 27) by omega), if_neg (show ¬ (12 ≤ 27 ∧ 27 < 24 ∧ (12 + j) = 25) by omega), if_neg (show ¬ (27 = 26 ∧ (12 + j) = 25) by omega), if_neg (show ¬ (12 ≤ 27 ∧ 27 < 24 ∧ (12 + j) = 27) by omega), if_neg (show ¬ (27 = 25 ∧ (12 + j) = 24) by omega)]; all_goals omega
theorem nW_74 : nW M T lo hi 27 24 = 0 := by
  unfold nW; rw [if_neg (show ¬ (27 < 12 ∧ 12 ≤ 24 ∧ 24 < 24) by omega), if_neg (show ¬ (27 = 24 ∧ 24 < 12) by omega), if_neg (show ¬ (27 = 26 ∧ 24 < 12) by omega), if_neg (show ¬ (27 = 24 ∧ 24 = 27) by omega), if_neg (show ¬ (12 ≤ 27 ∧ 27 < 24 ∧ 24 = 25) by omega), if_neg (show ¬ (27 = 26 ∧ 24 = 25) by omega), if_neg (show ¬ (12 ≤ 27 ∧ 27 < 24 ∧ 24 = 27) by omega), if_neg (show ¬ (27 = 25 ∧ 24 = 24) by omega)]; all_goals omega
theorem nW_75 : nW M T lo hi 27 25 = 0 := by
  unfold nW; rw [if_neg (show ¬ (27 < 12 ∧ 12 ≤ 25 ∧ 25 < 24) by omega), if_neg (show ¬ (27 = 24 ∧ 25 < 12) by omega), if_neg (show ¬ (27 = 26 ∧ 25 < 12) by omega), if_neg (show ¬ (27 = 24 ∧ 25 = 27) by omega), if_neg (show ¬ (12 ≤ 27 ∧ 27 < 24 ∧ 25 = 25) by omega), if_neg (show ¬ (27 = 26 ∧ 25 = 25) by omega), if_neg (show ¬ (12 ≤ 27 ∧ 27 < 24 ∧ 25 = 27) by omega), if_neg (show ¬ (27 = 25 ∧ 25 = 24) by omega)]; all_goals omega
theorem nW_76 : nW M T lo hi 27 26 = 0 := by
  unfold nW; rw [if_neg (show ¬ (27 < 12 ∧ 12 ≤ 26 ∧ 26 < 24) by omega), if_neg (show ¬ (27 = 24 ∧ 26 < 12) by omega), if_neg (show ¬ (27 = 26 ∧ 26 < 12) by omega), if_neg (show ¬ (27 = 24 ∧ 26 = 27) by omega), if_neg (show ¬ (12 ≤ 27 ∧ 27 < 24 ∧ 26 = 25) by omega), if_neg (show ¬ (27 = 26 ∧ 26 = 25) by omega), if_neg (show ¬ (12 ≤ 27 ∧ 27 < 24 ∧ 26 = 27) by omega), if_neg (show ¬ (27 = 25 ∧ 26 = 24) by omega)]; all_goals omega
theorem nW_77 : nW M T lo hi 27 27 = 0 := by
  unfold nW; rw [if_neg (show ¬ (27 < 12 ∧ 12 ≤ 27 ∧ 27 < 24) by omega), if_neg (show ¬ (27 = 24 ∧ 27 < 12) by omega), if_neg (show ¬ (27 = 26 ∧ 27 < 12) by omega), if_neg (show ¬ (27 = 24 ∧ 27 = 27) by omega), if_neg (show ¬ (12 ≤ 27 ∧ 27 < 24 ∧ 27 = 25) by omega), if_neg (show ¬ (27 = 26 ∧ 27 = 25) by omega), if_neg (show ¬ (12 ≤ 27 ∧ 27 < 24 ∧ 27 = 27) by omega), if_neg (show ¬ (27 = 25 ∧ 27 = 24) by omega)]; all_goals omega
end NW
theorem add8 {a b c d e f g h : Int} (h1 : 0 ≤ a) (h2 : 0 ≤ b) (h3 : 0 ≤ c) (h4 : 0 ≤ d) (h5 : 0 ≤ e) (h6 : 0 ≤ f) (h7 : 0 ≤ g) (h8 : 0 ≤ h) : 0 ≤ a + b + c + d + e + f + g + h := by omega
theorem le8 {a b c d e f g h a2 b2 c2 d2 e2 f2 g2 h2 : Int} (h1 : a ≤ a2) (q2 : b ≤ b2) (h3 : c ≤ c2) (h4 : d ≤ d2) (h5 : e ≤ e2) (h6 : f ≤ f2) (h7 : g ≤ g2) (h8 : h ≤ h2) : a + b + c + d + e + f + g + h ≤ a2 + b2 + c2 + d2 + e2 + f2 + g2 + h2 := by omega
theorem it_n {p : Prop} [Decidable p] {x : Int} (h : p → 0 ≤ x) : 0 ≤ (if p then x else 0) := by
  by_cases c : p
  · rw [if_pos c]; exact h c
  · rw [if_neg c]; exact Int.le_refl 0
theorem it_l {p : Prop} [Decidable p] {x y : Int} (h : p → x ≤ y) : (if p then x else 0) ≤ (if p then y else 0) := by
  by_cases c : p
  · rw [if_pos c, if_pos c]; exact h c
  · rw [if_neg c, if_neg c]; exact Int.le_refl 0
theorem SR_n (lo : Nat → Nat) : 0 ≤ SR lo := by have := sumI_le (f := fun _ => 0) (g := fun k => (lo k : Int)) 12 (fun k _ => Int.natCast_nonneg (lo k)); rw [sumI_0] at this; exact this
theorem SC_n (lo : Nat → Nat) : 0 ≤ SC lo := by have := sumI_le (f := fun _ => 0) (g := fun k => (lo (12 + k) : Int)) 12 (fun k _ => Int.natCast_nonneg (lo (12 + k))); rw [sumI_0] at this; exact this
theorem nW_nn {M : Int} {T : Nat → Nat → Nat} {lo hi : Nat → Nat} (hM : 0 ≤ M) (h : ∀ n, n < 24 → lo n ≤ hi n) (u v : Nat) : 0 ≤ nW M T lo hi u v := add8 (it_n (fun _ => Int.natCast_nonneg _)) (it_n (fun c => by have := h v (by omega); omega)) (it_n (fun _ => Int.natCast_nonneg _)) (it_n (fun _ => SR_n lo)) (it_n (fun c => by have := h u (by omega); omega)) (it_n (fun _ => SC_n lo)) (it_n (fun _ => Int.natCast_nonneg _)) (it_n (fun _ => hM))
theorem nW_mo {M M2 : Int} {T T2 : Nat → Nat → Nat} {lo hi hi2 : Nat → Nat} (hM : M2 ≤ M) (hT : ∀ i j, i < 12 → j < 12 → T2 i j ≤ T i j) (h : ∀ n, n < 24 → hi2 n ≤ hi n) (u v : Nat) : nW M2 T2 lo hi2 u v ≤ nW M T lo hi u v := le8 (it_l (fun c => by have := hT u (v - 12) c.1 (by omega); omega)) (it_l (fun c => by have := h v (by omega); omega)) (it_l (fun _ => Int.le_refl _)) (it_l (fun _ => Int.le_refl _)) (it_l (fun c => by have := h u (by omega); omega)) (it_l (fun _ => Int.le_refl _)) (it_l (fun _ => Int.le_refl _)) (it_l (fun _ => hM))
theorem sumI_z0 {f : Nat → Int} {n : Nat} (h : ∀ k, k < n → 0 ≤ f k) (hs : sumI n f = 0) (k : Nat) (hk : k < n) : f k = 0 := by
  have h1 := sumI_ge n hk h
  have h2 := h k hk
  omega
section SUMS
variable {M : Int} {T : Nat → Nat → Nat} {lo hi : Nat → Nat}
theorem nO_r {i : Nat} (h1 : i < 12) : sumI 28 (fun v => nW M T lo hi i v) = sumI 12 (fun q => (T i q : Int)) := by
  have e1 : sumI 12 (fun q => nW M T lo hi i q) = 0 := sumI_z 12 (fun q hq => (nW_rr h1 hq))
  have e2 : sumI 12 (fun q => nW M T lo hi i (12 + q)) = sumI 12 (fun q => (T i q : Int)) := sumI_c 12 (fun q hq => (nW_rc h1 hq))
  have e4 : nW M T lo hi i 24 = 0 := nW_r4 h1
  have e5 : nW M T lo hi i 25 = 0 := nW_r5 h1
  have e6 : nW M T lo hi i 26 = 0 := nW_r6 h1
  have e7 : nW M T lo hi i 27 = 0 := nW_r7 h1
  refine (sum28 (fun v => nW M T lo hi i v)).trans ?_
  show sumI 12 (fun q => nW M T lo hi i q) + sumI 12 (fun q => nW M T lo hi i (12 + q)) + nW M T lo hi i 24 + nW M T lo hi i 25 + nW M T lo hi i 26 + nW M T lo hi i 27 = _
  rw [e1, e2, e4, e5, e6, e7]
  all_goals omega
theorem nO_c {j : Nat} (h1 : j < 12) : sumI 28 (fun v => nW M T lo hi (12 + j) v) = (hi (12 + j) : Int) := by
  have e1 : sumI 12 (fun q => nW M T lo hi (12 + j) q) = 0 := sumI_z 12 (fun q hq => (nW_cr h1 hq))
  have e2 : sumI 12 (fun q => nW M T lo hi (12 + j) (12 + q)) = 0 := sumI_z 12 (fun q hq => (nW_cc h1 hq))
  have e4 : nW M T lo hi (12 + j) 24 = 0 := nW_c4 h1
  have e5 : nW M T lo hi (12 + j) 25 = (hi (12 + j) : Int) - (lo (12 + j) : Int) := nW_c5 h1
  have e6 : nW M T lo hi (12 + j) 26 = 0 := nW_c6 h1
  have e7 : nW M T lo hi (12 + j) 27 = (lo (12 + j) : Int) := nW_c7 h1
  refine (sum28 (fun v => nW M T lo hi (12 + j) v)).trans ?_
  show sumI 12 (fun q => nW M T lo hi (12 + j) q) + sumI 12 (fun q => nW M T lo hi (12 + j) (12 + q)) + nW M T lo hi (12 + j) 24 + nW M T lo hi (12 + j) 25 + nW M T lo hi (12 + j) 26 + nW M T lo hi (12 + j) 27 = _
  rw [e1, e2, e4, e5, e6, e7]
  all_goals omega
theorem nO_4 : sumI 28 (fun v => nW M T lo hi 24 v) = sumI 12 (fun q => (hi q : Int)) := by
  have e1 : sumI 12 (fun q => nW M T lo hi 24 q) = sumI 12 (fun q => (hi q : Int) - (lo q : Int)) := sumI_c 12 (fun q hq => (nW_4r hq))
  have e2 : sumI 12 (fun q => nW M T lo hi 24 (12 + q)) = 0 := sumI_z 12 (fun q hq => (nW_4c hq))
  have e4 : nW M T lo hi 24 24 = 0 := nW_44
  have e5 : nW M T lo hi 24 25 = 0 := nW_45
  have e6 : nW M T lo hi 24 26 = 0 := nW_46
  have e7 : nW M T lo hi 24 27 = SR lo := nW_47
  refine (sum28 (fun v => nW M T lo hi 24 v)).trans ?_
  show sumI 12 (fun q => nW M T lo hi 24 q) + sumI 12 (fun q => nW M T lo hi 24 (12 + q)) + nW M T lo hi 24 24 + nW M T lo hi 24 25 + nW M T lo hi 24 26 + nW M T lo hi 24 27 = _
  rw [e1, e2, e4, e5, e6, e7]
  rw [sumI_sub (f := fun q => (hi q : Int)) (g := fun q => (lo q : Int))]
  unfold SR
  omega
theorem nO_5 : sumI 28 (fun v => nW M T lo hi 25 v) = M := by
  have e1 : sumI 12 (fun q => nW M T lo hi 25 q) = 0 := sumI_z 12 (fun q hq => (nW_5r hq))
  have e2 : sumI 12 (fun q => nW M T lo hi 25 (12 + q)) = 0 := sumI_z 12 (fun q hq => (nW_5c hq))
  have e4 : nW M T lo hi 25 24 = M := nW_54
  have e5 : nW M T lo hi 25 25 = 0 := nW_55
  have e6 : nW M T lo hi 25 26 = 0 := nW_56
  have e7 : nW M T lo hi 25 27 = 0 := nW_57
  refine (sum28 (fun v => nW M T lo hi 25 v)).trans ?_
  show sumI 12 (fun q => nW M T lo hi 25 q) + sumI 12 (fun q => nW M T lo hi 25 (12 + q)) + nW M T lo hi 25 24 + nW M T lo hi 25 25 + nW M T lo hi 25 26 + nW M T lo hi 25 27 = _
  rw [e1, e2, e4, e5, e6, e7]
  all_goals omega
theorem nO_6 : sumI 28 (fun v => nW M T lo hi 26 v) = SR lo + SC lo := by
  have e1 : sumI 12 (fun q => nW M T lo hi 26 q) = sumI 12 (fun q => (lo q : Int)) := sumI_c 12 (fun q hq => (nW_6r hq))
  have e2 : sumI 12 (fun q => nW M T lo hi 26 (12 + q)) = 0 := sumI_z 12 (fun q hq => (nW_6c hq))
  have e4 : nW M T lo hi 26 24 = 0 := nW_64
  have e5 : nW M T lo hi 26 25 = SC lo := nW_65
  have e6 : nW M T lo hi 26 26 = 0 := nW_66
  have e7 : nW M T lo hi 26 27 = 0 := nW_67
  refine (sum28 (fun v => nW M T lo hi 26 v)).trans ?_
  show sumI 12 (fun q => nW M T lo hi 26 q) + sumI 12 (fun q => nW M T lo hi 26 (12 + q)) + nW M T lo hi 26 24 + nW M T lo hi 26 25 + nW M T lo hi 26 26 + nW M T lo hi 26 27 = _
  rw [e1, e2, e4, e5, e6, e7]
  unfold SR SC
  omega
theorem nO_7 : sumI 28 (fun v => nW M T lo hi 27 v) = 0 := by
  have e1 : sumI 12 (fun q => nW M T lo hi 27 q) = 0 := sumI_z 12 (fun q hq => (nW_7r hq))
  have e2 : sumI 12 (fun q => nW M T lo hi 27 (12 + q)) = 0 := sumI_z 12 (fun q hq => (nW_7c hq))
  have e4 : nW M T lo hi 27 24 = 0 := nW_74
  have e5 : nW M T lo hi 27 25 = 0 := nW_75
  have e6 : nW M T lo hi 27 26 = 0 := nW_76
  have e7 : nW M T lo hi 27 27 = 0 := nW_77
  refine (sum28 (fun v => nW M T lo hi 27 v)).trans ?_
  show sumI 12 (fun q => nW M T lo hi 27 q) + sumI 12 (fun q => nW M T lo hi 27 (12 + q)) + nW M T lo hi 27 24 + nW M T lo hi 27 25 + nW M T lo hi 27 26 + nW M T lo hi 27 27 = _
  rw [e1, e2, e4, e5, e6, e7]
  all_goals omega
theorem nJ_r {i : Nat} (h1 : i < 12) : sumI 28 (fun v => nW M T lo hi v i) = (hi i : Int) := by
  have e1 : sumI 12 (fun q => nW M T lo hi q i) = 0 := sumI_z 12 (fun q hq => (nW_rr hq h1))
  have e2 : sumI 12 (fun q => nW M T lo hi (12 + q) i) = 0 := sumI_z 12 (fun q hq => (nW_cr hq h1))
  have e4 : nW M T lo hi 24 i = (hi i : Int) - (lo i : Int) := nW_4r h1
  have e5 : nW M T lo hi 25 i = 0 := nW_5r h1
  have e6 : nW M T lo hi 26 i = (lo i : Int) := nW_6r h1
  have e7 : nW M T lo hi 27 i = 0 := nW_7r h1
  refine (sum28 (fun v => nW M T lo hi v i)).trans ?_
  show sumI 12 (fun q => nW M T lo hi q i) + sumI 12 (fun q => nW M T lo hi (12 + q) i) + nW M T lo hi 24 i + nW M T lo hi 25 i + nW M T lo hi 26 i + nW M T lo hi 27 i = _
  rw [e1, e2, e4, e5, e6, e7]
  all_goals omega
theorem nJ_c {j : Nat} (h1 : j < 12) : sumI 28 (fun v => nW M T lo hi v (12 + j)) = sumI 12 (fun q => (T q j : Int)) := by
  have e1 : sumI 12 (fun q => nW M T lo hi q (12 + j)) = sumI 12 (fun q => (T q j : Int)) := sumI_c 12 (fun q hq => (nW_rc hq h1))
  have e2 : sumI 12 (fun q => nW M T lo hi (12 + q) (12 + j)) = 0 := sumI_z 12 (fun q hq => (nW_cc hq h1))
  have e4 : nW M T lo hi 24 (12 + j) = 0 := nW_4c h1
  have e5 : nW M T lo hi 25 (12 + j) = 0 := nW_5c h1
  have e6 : nW M T lo hi 26 (12 + j) = 0 := nW_6c h1
  have e7 : nW M T lo hi 27 (12 + j) = 0 := nW_7c h1
  refine (sum28 (fun v => nW M T lo hi v (12 + j))).trans ?_
  show sumI 12 (fun q => nW M T lo hi q (12 + j)) + sumI 12 (fun q => nW M T lo hi (12 + q) (12 + j)) + nW M T lo hi 24 (12 + j) + nW M T lo hi 25 (12 + j) + nW M T lo hi 26 (12 + j) + nW M T lo hi 27 (12 + j) = _
  rw [e1, e2, e4, e5, e6, e7]
  all_goals omega
theorem nJ_4 : sumI 28 (fun v => nW M T lo hi v 24) = M := by
  have e1 : sumI 12 (fun q => nW M T lo hi q 24) = 0 := sumI_z 12 (fun q hq => (nW_r4 hq))
  have e2 : sumI 12 (fun q => nW M T lo hi (12 + q) 24) = 0 := sumI_z 12 (fun q hq => (nW_c4 hq))
  have e4 : nW M T lo hi 24 24 = 0 := nW_44
  have e5 : nW M T lo hi 25 24 = M := nW_54
  have e6 : nW M T lo hi 26 24 = 0 := nW_64
  have e7 : nW M T lo hi 27 24 = 0 := nW_74
  refine (sum28 (fun v => nW M T lo hi v 24)).trans ?_
  show sumI 12 (fun q => nW M T lo hi q 24) + sumI 12 (fun q => nW M T lo hi (12 + q) 24) + nW M T lo hi 24 24 + nW M T lo hi 25 24 + nW M T lo hi 26 24 + nW M T lo hi 27 24 = _
  rw [e1, e2, e4, e5, e6, e7]
  all_goals omega
theorem nJ_5 : sumI 28 (fun v => nW M T lo hi v 25) = sumI 12 (fun q => (hi (12 + q) : Int)) := by
  have e1 : sumI 12 (fun q => nW M T lo hi q 25) = 0 := sumI_z 12 (fun q hq => (nW_r5 hq))
  have e2 : sumI 12 (fun q => nW M T lo hi (12 + q) 25) = sumI 12 (fun q => (hi (12 + q) : Int) - (lo (12 + q) : Int)) := sumI_c 12 (fun q hq => (nW_c5 hq))
  have e4 : nW M T lo hi 24 25 = 0 := nW_45
  have e5 : nW M T lo hi 25 25 = 0 := nW_55
  have e6 : nW M T lo hi 26 25 = SC lo := nW_65
  have e7 : nW M T lo hi 27 25 = 0 := nW_75
  refine (sum28 (fun v => nW M T lo hi v 25)).trans ?_
  show sumI 12 (fun q => nW M T lo hi q 25) + sumI 12 (fun q => nW M T lo hi (12 + q) 25) + nW M T lo hi 24 25 + nW M T lo hi 25 25 + nW M T lo hi 26 25 + nW M T lo hi 27 25 = _
  rw [e1, e2, e4, e5, e6, e7]
  rw [sumI_sub (f := fun q => (hi (12 + q) : Int)) (g := fun q => (lo (12 + q) : Int))]
  unfold SC
  omega
theorem nJ_6 : sumI 28 (fun v => nW M T lo hi v 26) = 0 := by
  have e1 : sumI 12 (fun q => nW M T lo hi q 26) = 0 := sumI_z 12 (fun q hq => (nW_r6 hq))
  have e2 : sumI 12 (fun q => nW M T lo hi (12 + q) 26) = 0 := sumI_z 12 (fun q hq => (nW_c6 hq))
  have e4 : nW M T lo hi 24 26 = 0 := nW_46
  have e5 : nW M T lo hi 25 26 = 0 := nW_56
  have e6 : nW M T lo hi 26 26 = 0 := nW_66
  have e7 : nW M T lo hi 27 26 = 0 := nW_76
  refine (sum28 (fun v => nW M T lo hi v 26)).trans ?_
  show sumI 12 (fun q => nW M T lo hi q 26) + sumI 12 (fun q => nW M T lo hi (12 + q) 26) + nW M T lo hi 24 26 + nW M T lo hi 25 26 + nW M T lo hi 26 26 + nW M T lo hi 27 26 = _
  rw [e1, e2, e4, e5, e6, e7]
  all_goals omega
theorem nJ_7 : sumI 28 (fun v => nW M T lo hi v 27) = SR lo + SC lo := by
  have e1 : sumI 12 (fun q => nW M T lo hi q 27) = 0 := sumI_z 12 (fun q hq => (nW_r7 hq))
  have e2 : sumI 12 (fun q => nW M T lo hi (12 + q) 27) = sumI 12 (fun q => (lo (12 + q) : Int)) := sumI_c 12 (fun q hq => (nW_c7 hq))
  have e4 : nW M T lo hi 24 27 = SR lo := nW_47
  have e5 : nW M T lo hi 25 27 = 0 := nW_57
  have e6 : nW M T lo hi 26 27 = 0 := nW_67
  have e7 : nW M T lo hi 27 27 = 0 := nW_77
  refine (sum28 (fun v => nW M T lo hi v 27)).trans ?_
  show sumI 12 (fun q => nW M T lo hi q 27) + sumI 12 (fun q => nW M T lo hi (12 + q) 27) + nW M T lo hi 24 27 + nW M T lo hi 25 27 + nW M T lo hi 26 27 + nW M T lo hi 27 27 = _
  rw [e1, e2, e4, e5, e6, e7]
  unfold SR SC
  omega
end SUMS
theorem nd28 (u : Nat) (hu : u < 28) : (u < 12) ∨ (∃ j, j < 12 ∧ u = 12 + j) ∨ u = 24 ∨ u = 25 ∨ u = 26 ∨ u = 27 := by
  by_cases c : u < 12
  · exact Or.inl c
  · by_cases d : u < 24
    · exact Or.inr (Or.inl ⟨u - 12, by omega, by omega⟩)
    · omega
/-- a table between the bounds: all that is wanted can go -/
def BTW (T : Nat → Nat → Nat) (lo hi : Nat → Nat) (Z : Nat → Nat → Nat) : Prop := (∀ i j, i < 12 → j < 12 → Z i j ≤ T i j) ∧ ∀ n, n < 24 → (lo n : Int) ≤ rS Z n ∧ rS Z n ≤ (hi n : Int)
section FL
variable {c0 c1 : Nat → Int32} {M : Int} {T : Nat → Nat → Nat} {lo hi : Nat → Nat} {q : Int32}
theorem cA_n (c : Nat → Int32) (u v : Nat) : 0 ≤ cA c u v := Int.natCast_nonneg _
/-- never more goes than is wanted -/
theorem fl_le {al : Nat} (hn : ∀ u v, u < 28 → v < 28 → cA c0 u v = nW M T lo hi u v) (h : FLI c0 c1 al) : (al : Int) ≤ SR lo + SC lo := by
  have h1 := h.2 26 (by omega)
  have h2 : sumI 28 (fun v => cA c0 26 v) = sumI 28 (fun v => nW M T lo hi 26 v) := sumI_c 28 (fun v hv => hn 26 v (by omega) hv)
  have h3 := sumI_le (f := fun _ => 0) (g := fun v => cA c1 26 v) 28 (fun v _ => cA_n c1 26 v)
  rw [sumI_0] at h3
  rw [h2, nO_6, dl_s, dl_n (show 26 ≠ 27 by omega)] at h1
  omega
theorem net_yes (hn : ∀ u v, u < 28 → v < 28 → cA c0 u v = nW M T lo hi u v) (hlh : ∀ n, n < 24 → lo n ≤ hi n) {al : Nat} (h : FLI c0 c1 al) (he : (al : Int) = SR lo + SC lo) : BTW T lo hi (fun i j => (c1 (28 * (12 + j) + i)).toNatClampNeg) := by
  obtain ⟨ha, hs⟩ := h
  have sm : ∀ u, u < 28 → sumI 28 (fun v => cA c1 u v) = sumI 28 (fun v => nW M T lo hi u v) - dl u 26 (al : Int) + dl u 27 (al : Int) := fun u hu => by
    rw [hs u hu, sumI_c 28 (fun v hv => hn u v hu hv)]
  have an : ∀ u v, u < 28 → v < 28 → cA c1 u v + cA c1 v u = nW M T lo hi u v + nW M T lo hi v u := fun u v hu hv => by
    rw [ha u v hu hv, hn u v hu hv, hn v u hv hu]
  have z26 : ∀ v, v < 28 → cA c1 26 v = 0 := sumI_z0 (fun v _ => cA_n c1 26 v) (by
    rw [sm 26 (by omega), nO_6, dl_s, dl_n (show 26 ≠ 27 by omega)]; omega)
  have z27 : ∀ u, u < 28 → cA c1 u 27 = 0 := sumI_z0 (f := fun u => cA c1 u 27) (fun u _ => cA_n c1 u 27) (by
    have e1 : sumI 28 (fun u => cA c1 u 27 + cA c1 27 u) = sumI 28 (fun u => nW M T lo hi u 27 + nW M T lo hi 27 u) := sumI_c 28 (fun u hu => an u 27 hu (by omega))
    have e2 : sumI 28 (fun u => cA c1 u 27 + cA c1 27 u) = sumI 28 (fun u => cA c1 u 27) + sumI 28 (fun u => cA c1 27 u) := sumI_add 28
    have e3 : sumI 28 (fun u => nW M T lo hi u 27 + nW M T lo hi 27 u) = sumI 28 (fun u => nW M T lo hi u 27) + sumI 28 (fun u => nW M T lo hi 27 u) := sumI_add 28
    have e4 := sm 27 (by omega)
    rw [nO_7, dl_n (show 27 ≠ 26 by omega), dl_s] at e4
    rw [nJ_7, nO_7] at e3
    show sumI 28 (fun u => cA c1 u 27) = 0
    omega)
  have zz : ∀ u v, u < 28 → v < 28 → nW M T lo hi u v = 0 → nW M T lo hi v u = 0 → cA c1 u v = 0 := fun u v hu hv h1 h2 => by
    have := an u v hu hv
    have := cA_n c1 u v
    have := cA_n c1 v u
    omega
  refine ⟨fun i j hi' hj => ?_, fun n hn24 => ?_⟩
  · have h1 := an i (12 + j) (by omega) (by omega)
    rw [nW_rc hi' hj, nW_cr hj hi'] at h1
    have h2 := cA_n c1 i (12 + j)
    have h3 : (((c1 (28 * (12 + j) + i)).toNatClampNeg : Nat) : Int) = cA c1 (12 + j) i := rfl
    show (c1 (28 * (12 + j) + i)).toNatClampNeg ≤ T i j
    omega
  · by_cases c : n < 12
    · have h1 := sm n (by omega)
      rw [nO_r c, dl_n (show n ≠ 26 by omega), dl_n (show n ≠ 27 by omega), sum28 (fun v => cA c1 n v)] at h1
      have e1 : sumI 12 (fun k => cA c1 n k) = 0 := sumI_z 12 (fun k hk => zz n k (by omega) (by omega) (nW_rr c hk) (nW_rr hk c))
      have e2 : sumI 12 (fun k => cA c1 n (12 + k)) = sumI 12 (fun k => (T n k : Int)) - sumI 12 (fun k => cA c1 (12 + k) n) := by
        rw [← sumI_sub (f := fun k => (T n k : Int)) (g := fun k => cA c1 (12 + k) n)]
        exact sumI_c 12 (fun k hk => by
          have := an n (12 + k) (by omega) (by omega)
          rw [nW_rc c hk, nW_cr hk c] at this
          show cA c1 n (12 + k) = (T n k : Int) - cA c1 (12 + k) n
          omega)
      have e3 : cA c1 n 25 = 0 := zz n 25 (by omega) (by omega) (nW_r5 c) (nW_5r c)
      have e4 : cA c1 n 26 = (lo n : Int) := by
        have := an n 26 (by omega) (by omega)
        rw [nW_r6 c, nW_6r c, z26 n (by omega)] at this; omega
      have e5 := an n 24 (by omega) (by omega)
      rw [nW_r4 c, nW_4r c] at e5
      have e6 := cA_n c1 n 24
      have e7 := cA_n c1 24 n
      have e8 := z27 n (by omega)
      have h2 : sumI 12 (fun k => cA c1 n k) + sumI 12 (fun k => cA c1 n (12 + k)) + cA c1 n 24 + cA c1 n 25 + cA c1 n 26 + cA c1 n 27 = sumI 12 (fun q => (T n q : Int)) - 0 + 0 := h1
      have h3 : rS (fun i j => (c1 (28 * (12 + j) + i)).toNatClampNeg) n = sumI 12 (fun k => cA c1 (12 + k) n) := ndI_r c
      rw [h3]
      omega
    · obtain ⟨j, hj, rfl⟩ : ∃ j, j < 12 ∧ n = 12 + j := ⟨n - 12, by omega, by omega⟩
      have h1 := sm (12 + j) (by omega)
      rw [nO_c hj, dl_n (show 12 + j ≠ 26 by omega), dl_n (show 12 + j ≠ 27 by omega), sum28 (fun v => cA c1 (12 + j) v)] at h1
      have e2 : sumI 12 (fun k => cA c1 (12 + j) (12 + k)) = 0 := sumI_z 12 (fun k hk => zz (12 + j) (12 + k) (by omega) (by omega) (nW_cc hj hk) (nW_cc hk hj))
      have e3 : cA c1 (12 + j) 24 = 0 := zz (12 + j) 24 (by omega) (by omega) (nW_c4 hj) (nW_4c hj)
      have e4 : cA c1 (12 + j) 26 = 0 := zz (12 + j) 26 (by omega) (by omega) (nW_c6 hj) (nW_6c hj)
      have e5 := an (12 + j) 25 (by omega) (by omega)
      rw [nW_c5 hj, nW_5c hj] at e5
      have e6 := cA_n c1 (12 + j) 25
      have e7 := cA_n c1 25 (12 + j)
      have e8 := z27 (12 + j) (by omega)
      have h2 : sumI 12 (fun k => cA c1 (12 + j) k) + sumI 12 (fun k => cA c1 (12 + j) (12 + k)) + cA c1 (12 + j) 24 + cA c1 (12 + j) 25 + cA c1 (12 + j) 26 + cA c1 (12 + j) 27 = (hi (12 + j) : Int) - 0 + 0 := h1
      have h3 : rS (fun i j => (c1 (28 * (12 + j) + i)).toNatClampNeg) (12 + j) = sumI 12 (fun k => cA c1 (12 + j) k) := ndI_c
      rw [h3]
      omega
theorem net_no (hM : 144 ≤ M) (hn : ∀ u v, u < 28 → v < 28 → cA c0 u v = nW M T lo hi u v) (hT : ∀ i j, i < 12 → j < 12 → T i j ≤ 1) {al : Nat} {S : Nat → Bool} (h : FLI c0 c1 al) (h26 : S 26 = true) (h27 : S 27 = false) (hS : ∀ u v, u < 28 → v < 28 → S u = true → S v = false → cA c1 u v = 0) {Z : Nat → Nat → Nat} (hZ : BTW T lo hi Z) : SR lo + SC lo ≤ (al : Int) := by
  obtain ⟨ha, hs⟩ := h
  obtain ⟨hz1, hz2⟩ := hZ
  -- what the table lets go
  have hzn : ∀ n, 0 ≤ rS Z n := fun n => by
    unfold rS ndI
    split
    · have := sumI_le (f := fun _ => 0) (g := fun j => (Z n j : Int)) 12 (fun k _ => Int.natCast_nonneg _); rw [sumI_0] at this; exact this
    · have := sumI_le (f := fun _ => 0) (g := fun i => (Z i (n - 12) : Int)) 12 (fun k _ => Int.natCast_nonneg _); rw [sumI_0] at this; exact this
  obtain ⟨zs, hzs⟩ : ∃ zs : Nat → Nat, ∀ n, (zs n : Int) = rS Z n := ⟨fun n => (rS Z n).toNat, fun n => Int.toNat_of_nonneg (hzn n)⟩
  have hzl : ∀ n, n < 24 → lo n ≤ zs n := fun n hn' => by have := hzs n; have := hz2 n hn'; omega
  have hzh : ∀ n, n < 24 → zs n ≤ hi n := fun n hn' => by have := hzs n; have := hz2 n hn'; omega
  have hr : ∀ i, i < 12 → (zs i : Int) = sumI 12 (fun j => (Z i j : Int)) := fun i hi' => (hzs i).trans (ndI_r hi')
  have hc : ∀ j, j < 12 → (zs (12 + j) : Int) = sumI 12 (fun i => (Z i j : Int)) := fun j _ => (hzs (12 + j)).trans ndI_c
  have htot : sumI 12 (fun i => (zs i : Int)) = sumI 12 (fun j => (zs (12 + j) : Int)) := by
    rw [sumI_c 12 (g := fun i => sumI 12 (fun j => (Z i j : Int))) hr, sumI_c 12 (f := fun j => (zs (12 + j) : Int)) (g := fun j => sumI 12 (fun i => (Z i j : Int))) hc]
    exact sumI_swap 12 12
  have ht0 : 0 ≤ sumI 12 (fun i => (zs i : Int)) := SR_n zs
  have ht9 : sumI 12 (fun i => (zs i : Int)) ≤ M := by
    have h1 := sumI_ub (f := fun i => (zs i : Int)) (B := 12) 12 (fun i hi' => by
      have h2 := sumI_ub (f := fun j => (Z i j : Int)) (B := 1) 12 (fun j hj => by have := hz1 i j hi' hj; have := hT i j hi' hj; show (Z i j : Int) ≤ 1; omega)
      have h3 := hr i hi'
      show (zs i : Int) ≤ 12
      omega)
    omega
  have p : ∀ u v, nW (sumI 12 (fun i => (zs i : Int))) Z lo zs u v ≤ nW M T lo hi u v := nW_mo ht9 hz1 hzh
  have p0 : ∀ u v, 0 ≤ nW (sumI 12 (fun i => (zs i : Int))) Z lo zs u v := nW_nn ht0 hzl
  have cons : ∀ u, u < 28 → u ≠ 27 → sumI 28 (fun v => nW (sumI 12 (fun i => (zs i : Int))) Z lo zs u v) - sumI 28 (fun v => nW (sumI 12 (fun i => (zs i : Int))) Z lo zs v u) = dl u 26 (SR lo + SC lo) := fun u hu hne => by
    rcases nd28 u hu with c | ⟨j, hj, rfl⟩ | rfl | rfl | rfl | rfl
    · rw [nO_r c, nJ_r c, dl_n (show u ≠ 26 by omega), hr u c]; omega
    · rw [nO_c hj, nJ_c hj, dl_n (show 12 + j ≠ 26 by omega), hc j hj]; omega
    · rw [nO_4, nJ_4, dl_n (show 24 ≠ 26 by omega)]; omega
    · rw [nO_5, nJ_5, dl_n (show 25 ≠ 26 by omega)]; omega
    · rw [nO_6, nJ_6, dl_s]; omega
    · exact absurd rfl hne
  have key := cutN (N := 28) (d := fun u v => cA c1 u v - (nW M T lo hi u v - nW (sumI 12 (fun i => (zs i : Int))) Z lo zs u v + nW (sumI 12 (fun i => (zs i : Int))) Z lo zs v u)) (S := S) (fun u v hu hv => by
    have h1 := ha u v hu hv
    rw [hn u v hu hv, hn v u hv hu] at h1
    show (cA c1 u v - (nW M T lo hi u v - nW (sumI 12 (fun i => (zs i : Int))) Z lo zs u v + nW (sumI 12 (fun i => (zs i : Int))) Z lo zs v u)) + (cA c1 v u - (nW M T lo hi v u - nW (sumI 12 (fun i => (zs i : Int))) Z lo zs v u + nW (sumI 12 (fun i => (zs i : Int))) Z lo zs u v)) = 0
    omega)
  have hd : ∀ u, u < 28 → u ≠ 27 → sumI 28 (fun v => cA c1 u v - (nW M T lo hi u v - nW (sumI 12 (fun i => (zs i : Int))) Z lo zs u v + nW (sumI 12 (fun i => (zs i : Int))) Z lo zs v u)) = dl u 26 (SR lo + SC lo - (al : Int)) := fun u hu hne => by
    have h1 := hs u hu
    have h2 : sumI 28 (fun v => cA c0 u v) = sumI 28 (fun v => nW M T lo hi u v) := sumI_c 28 (fun v hv => hn u v hu hv)
    have h3 := cons u hu hne
    have h4 : sumI 28 (fun v => cA c1 u v - (nW M T lo hi u v - nW (sumI 12 (fun i => (zs i : Int))) Z lo zs u v + nW (sumI 12 (fun i => (zs i : Int))) Z lo zs v u)) = sumI 28 (fun v => cA c1 u v) - sumI 28 (fun v => nW M T lo hi u v - nW (sumI 12 (fun i => (zs i : Int))) Z lo zs u v + nW (sumI 12 (fun i => (zs i : Int))) Z lo zs v u) := sumI_sub 28
    have h5 : sumI 28 (fun v => nW M T lo hi u v - nW (sumI 12 (fun i => (zs i : Int))) Z lo zs u v + nW (sumI 12 (fun i => (zs i : Int))) Z lo zs v u) = sumI 28 (fun v => nW M T lo hi u v - nW (sumI 12 (fun i => (zs i : Int))) Z lo zs u v) + sumI 28 (fun v => nW (sumI 12 (fun i => (zs i : Int))) Z lo zs v u) := sumI_add 28
    have h6 : sumI 28 (fun v => nW M T lo hi u v - nW (sumI 12 (fun i => (zs i : Int))) Z lo zs u v) = sumI 28 (fun v => nW M T lo hi u v) - sumI 28 (fun v => nW (sumI 12 (fun i => (zs i : Int))) Z lo zs u v) := sumI_sub 28
    rw [dl_n hne] at h1
    by_cases e : u = 26
    · rw [dl_t e] at h1 h3 ⊢
      omega
    · rw [dl_n e] at h1 h3 ⊢
      omega
  have hl : sumI 28 (fun u => if S u = true then sumI 28 (fun v => cA c1 u v - (nW M T lo hi u v - nW (sumI 12 (fun i => (zs i : Int))) Z lo zs u v + nW (sumI 12 (fun i => (zs i : Int))) Z lo zs v u)) else 0) = SR lo + SC lo - (al : Int) := by
    rw [← sumI_dl (r := 26) (x := SR lo + SC lo - (al : Int)) 28 (by omega)]
    exact sumI_c 28 (fun u hu => by
      show (if S u = true then sumI 28 (fun v => cA c1 u v - (nW M T lo hi u v - nW (sumI 12 (fun i => (zs i : Int))) Z lo zs u v + nW (sumI 12 (fun i => (zs i : Int))) Z lo zs v u)) else 0) = dl u 26 (SR lo + SC lo - (al : Int))
      by_cases e : S u = true
      · rw [if_pos e]; exact hd u hu (fun z => by rw [z, h27] at e; exact absurd e (by decide))
      · rw [if_neg e, dl_n (fun z => e (by rw [z]; exact h26))])
  have hb := brd_le (N := 28) (d := fun u v => cA c1 u v - (nW M T lo hi u v - nW (sumI 12 (fun i => (zs i : Int))) Z lo zs u v + nW (sumI 12 (fun i => (zs i : Int))) Z lo zs v u)) (S := S) (fun u v hu hv h1 h2 => by
    have g1 := hS u v hu hv h1 h2
    have g2 := p u v
    have g3 := p0 v u
    show cA c1 u v - (nW M T lo hi u v - nW (sumI 12 (fun i => (zs i : Int))) Z lo zs u v + nW (sumI 12 (fun i => (zs i : Int))) Z lo zs v u) ≤ 0
    omega)
  have h9 : SR lo + SC lo - (al : Int) ≤ 0 := Int.le_trans (Int.le_of_eq (hl.symm.trans key)) hb
  omega
/-- all that is wanted goes just when there is such a table -/
theorem net_iff (hM : 144 ≤ M) (hn : ∀ u v, u < 28 → v < 28 → cA c0 u v = nW M T lo hi u v) (hT : ∀ i j, i < 12 → j < 12 → T i j ≤ 1) (hlh : ∀ n, n < 24 → lo n ≤ hi n) {w : Nat} (hw : (w : Int) = SR lo + SC lo) (hw9 : w ≤ 1000000) (h : FLX c0 c1 q) : q = nI w ↔ ∃ Z, BTW T lo hi Z := by
  obtain ⟨al, S, rfl, h1, h26, h27, hS⟩ := h
  have hle := fl_le hn h1
  constructor
  · intro e
    have e2 := (nI_eq (by omega) (by omega)).mp e
    exact ⟨_, net_yes hn hlh h1 (by omega)⟩
  · rintro ⟨Z, hZ⟩
    have := net_no hM hn hT h1 h26 h27 hS hZ
    rw [show al = w by omega]
end FL
