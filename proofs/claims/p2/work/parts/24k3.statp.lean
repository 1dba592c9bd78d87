theorem adz1_c {Pl : Nat → Nat → Bool} {a b : Nat} (hb : b < 12) : ∀ n, rkG (fun x y => ad1 Pl a b x y = true) n = rkG (fun x y => Pl x y = true) n + (if 12 * a + b < n then nw1 Pl a b else 0)
  | 0 => by rw [if_neg (by omega)]; rfl
  | n + 1 => by
    rw [rk_s, rk_s, adz1_c hb n]
    have key : ad1 Pl a b (n / 12) (n % 12) = (Pl (n / 12) (n % 12) || decide (12 * a + b = n)) := by
      unfold ad1
      by_cases e : 12 * a + b = n
      · rw [decide_eq_true e, decide_eq_true (show n / 12 = a by omega), decide_eq_true (show n % 12 = b by omega)]; rfl
      · rw [decide_eq_false e]
        by_cases c : n / 12 = a
        · rw [decide_eq_false (show ¬ n % 12 = b by omega), Bool.and_false]
        · rw [decide_eq_false c, Bool.false_and]
    by_cases e : 12 * a + b = n
    · have e1 : n / 12 = a := by omega
      have e2 : n % 12 = b := by omega
      rw [if_neg (show ¬ 12 * a + b < n by omega), if_pos (show 12 * a + b < n + 1 by omega), key, decide_eq_true e, Bool.or_true]
      unfold nw1
      rw [e1, e2]
      rcases bo (Pl a b) with k | k
      · rw [k, if_pos rfl, pB_t rfl, if_pos rfl]
      · rw [k, if_neg (show ¬ false = true by decide), pB_f (show ¬ false = true by decide), if_neg (show ¬ false = true by decide), pB_t rfl, if_pos rfl]
    · rw [key, decide_eq_false e, Bool.or_false]
      by_cases c : 12 * a + b < n
      · rw [if_pos c, if_pos (show 12 * a + b < n + 1 by omega)]; omega
      · rw [if_neg c, if_neg (show ¬ 12 * a + b < n + 1 by omega)]; omega
theorem nw1_le {K Pl : Nat → Nat → Bool} {x y : Nat} (h : Pl x y = true → K x y = true) : nw1 K x y ≤ nw1 Pl x y := by
  unfold nw1
  rcases bo (Pl x y) with k | k
  · rw [if_pos k, if_pos (h k)]; omega
  · rw [if_neg (show ¬ Pl x y = true by rw [k]; decide)]
    split <;> omega
/-- a plan counts no cell twice -/
theorem PLZ_c {rw cl : Nat} {UN : (Nat → Nat → Bool) → Nat → Nat → Prop} {mt zz : Nat → Nat → Prop} {pr : Nat → Nat → Nat} {K0 : Nat → Nat → Bool} (hrw : rw ≤ 12) (hcl : cl ≤ 12) : ∀ n {Pl : Nat → Nat → Bool} {c : Nat}, PLS rw cl UN mt zz pr K0 n Pl c → c ≤ rkG (fun x y => Pl x y = true) 144
  | 0, Pl, c, h => by rw [h.2]; omega
  | n + 1, Pl, c, ⟨P1, c1, i, j, q, d, h1, h2, h3, h4, h5⟩ => by
    have ih := PLZ_c hrw hcl n h1
    obtain ⟨a1, a2, a3, a4, a5, a6, a7, a8, a9⟩ := h3.1
    have b1 := h2.1
    have b2 := h2.2.1
    subst h4
    unfold ad3
    rw [adz1_c (by omega), adz1_c (by omega), adz1_c (by omega), if_pos (by omega), if_pos (by omega), if_pos (by omega)]
    have hk : ∀ x y, P1 x y = true → kOf K0 P1 x y = true := fun x y z => by unfold kOf; rw [z, Bool.or_true]
    have e2 : nw1 (ad1 P1 i d) q j = nw1 P1 q j := by
      unfold nw1 ad1
      rw [decide_eq_false a3, Bool.false_and, Bool.or_false]
    have e3 : nw1 (ad1 (ad1 P1 i d) q j) q d = nw1 P1 q d := by
      unfold nw1 ad1
      rw [decide_eq_false a3, Bool.false_and, Bool.or_false, decide_eq_false (show ¬ d = j from a4), Bool.and_false, Bool.or_false]
    rw [e2, e3, h5]
    unfold nw3
    have g1 := nw1_le (hk i d)
    have g2 := nw1_le (hk q j)
    have g3 := nw1_le (hk q d)
    omega
theorem PLS_b {rw cl n c : Nat} {UN : (Nat → Nat → Bool) → Nat → Nat → Prop} {mt zz : Nat → Nat → Prop} {pr : Nat → Nat → Nat} {K0 Pl : Nat → Nat → Bool} (hrw : rw ≤ 12) (hcl : cl ≤ 12) (h : PLS rw cl UN mt zz pr K0 n Pl c) : c < 2147483648 := by
  have a := PLZ_c hrw hcl n h
  have b := rk_b (M := fun x y => Pl x y = true) 144
  omega
