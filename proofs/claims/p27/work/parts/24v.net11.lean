def RUr (ru : Nat → Int32) : Prop := ∃ dn up, dn ≤ 1000000 ∧ up ≤ 1000000 ∧ ru 3 = nI dn ∧ ru 4 = nI up
def b01R (a : Nat → Int32) : Prop := ∀ p, p < 864 → a p = 0 ∨ a p = 1
/-- what the deep calls want besides JT and JC -/
def JKA (tF : Nat → Nat → Int32) (tR : Nat → Nat → Nat → Int32) (r : Nat → Nat → Int32) : Prop := (∀ j, j < 6 → JKr (tF j 1) (tR j 4) (tR j 5) (tR j 7) (r 10) j ∧ RUr (tR j 9)) ∧ b01R (r 10)
section JA
variable {o f1 f2 f3 : Int32} {pl kd nu td ps ru bf bl a1 a2 a3 a4 a5 a6 a7 a8 a9 a10 a11 a12 a13 a14 b10 : Nat → Int32} {j : Nat}
theorem NRC_of {rw cl : Nat} (hrw : rw ≤ 12) (hcl : cl ≤ 12) (er : f1 = nI rw) (ec : f2 = nI cl) (hT : TSr o f1 f2 pl a1 a2 a3 a11 j) (hD : TDr f1 f2 f3 pl kd nu td ps ru bf bl a4 a5 a6 a7 a8 a9 a12 a13 a14 j) : NRC rw cl pl kd nu := fun x y hx hy hs => by
  have hin := W_in er hrw hx
  have h := so_iff ⟨cl, hcl, ec⟩ hT hD (show x < 12 by omega) hin
  rw [ec, nI_clamp (by omega)] at h
  have hlt : nI y < pl x := by rw [W_pl ec hT (by omega) (h.mp hs)]; exact nI_lt hy (by omega)
  obtain ⟨n, hn, en, _⟩ := (hD.2.2.2.2 x y (by omega) (by omega) hin hlt).2.2.2.2.2.2
  exact ⟨n, hn, en⟩
theorem NRM_of {rw cl : Nat} (hrw : rw ≤ 12) (hcl : cl ≤ 12) (er : a2 j = nI rw) (ec : a3 j = nI cl) (hT : TSr o f1 f2 pl a1 a2 a3 a11 j) (hD : TDr f1 f2 f3 pl kd nu td ps ru bf bl a4 a5 a6 a7 a8 a9 a12 a13 a14 j) : NRM rw cl j a3 a5 a6 a11 := fun x y hx hy hs => by
  have hin := W_in (hT.2.1.trans er) hrw hx
  have ec2 := hT.2.2.1.trans ec
  have hlt : nI y < pl x := by rw [W_pl ec2 hT (by omega) hs]; exact nI_lt hy (by omega)
  have hc := hD.2.2.2.2 x y (by omega) (by omega) hin hlt
  obtain ⟨n, hn, en, _⟩ := hc.2.2.2.2.2.2
  exact ⟨n, hn, hc.2.1.symm.trans en⟩
theorem RU_a (hD : TDr f1 f2 f3 pl kd nu td ps ru bf bl a4 a5 a6 a7 a8 a9 a12 a13 a14 j) (h : RUr ru) : ∃ dn uq, dn ≤ 1000000 ∧ uq ≤ 1000000 ∧ a4 (6 * j + 3) = nI dn ∧ a4 (6 * j + 4) = nI uq := by
  obtain ⟨dn, up, h1, h2, h3, h4⟩ := h
  exact ⟨dn, up, h1, h2, (hD.2.1 3 (by omega)).symm.trans h3, (hD.2.1 4 (by omega)).symm.trans h4⟩
/-- what the class's deep calls want of the named table -/
theorem NC_of (hT : TSr o f1 f2 pl a1 a2 a3 a11 j) (hD : TDr f1 f2 f3 pl kd nu td ps ru bf bl a4 a5 a6 a7 a8 a9 a12 a13 a14 j) (h : RUr ru) : (∀ rw cl, rw ≤ 12 → cl ≤ 12 → f1 = nI rw → f2 = nI cl → NRC rw cl pl kd nu) ∧ ∃ dn up, dn ≤ 1000000 ∧ up ≤ 1000000 ∧ ru 3 = nI dn ∧ ru 4 = nI up := by
  exact ⟨fun rw cl hrw hcl er ec => NRC_of hrw hcl er ec hT hD, h⟩
theorem JKA_of {tF : Nat → Nat → Int32} {tR : Nat → Nat → Nat → Int32} {r r2 : Nat → Nat → Int32} {tf2 : Nat → Int32} {tr2 : Nat → Nat → Int32} (h : JKA tF tR r) (hK : JKr (tf2 1) (tr2 4) (tr2 5) (tr2 7) (r2 10) j) (hR : RUr (tr2 9)) (hl : ∀ p, p < 864 → (p < 144 * j ∨ 144 * j + 144 ≤ p) → r2 10 p = r 10 p) (hb : b01R (r2 10)) : JKA (upA tF j tf2) (upA tR j tr2) r2 := by
  refine ⟨fun i hi => ?_, hb⟩
  by_cases e : i = j
  · subst e; rw [upA_s, upA_s]; exact ⟨hK, hR⟩
  · rw [upA_n e, upA_n e]
    refine ⟨fun x c hx hc h1 h2 => ?_, (h.1 i hi).2⟩
    rw [hl _ (by omega) (by omega)]
    exact (h.1 i hi).1 x c hx hc h1 h2
theorem b01_l {k : Nat} {a b : Nat → Int32} (h : b01R a) (hk : k < 864) {v : Int32} (hv : v = 0 ∨ v = 1) (e : b = upd a k v) : b01R b := fun p hp => by
  rw [e]
  by_cases c : p = k
  · subst c; rw [pk_us]; exact hv
  · rw [pk_un c]; exact h p hp
theorem b01_o {a b : Nat → Int32} (h : b01R a) (hl : ∀ p, p < 864 → b p = a p ∨ b p = 0 ∨ b p = 1) : b01R b := fun p hp => by
  rcases hl p hp with z | z
  · rw [z]; exact h p hp
  · exact z
end JA
