section KC
variable {o rw cl bk tb row col q q1 q2 : Int32} {pl kd nu td ps ru bf bl pl2 kd2 nu2 td2 ps2 ru2 a1 a2 a3 a4 a5 a6 a7 a8 a9 a10 a11 a12 a13 a14 b10 : Nat → Int32} {j : Nat}
theorem bit2_or1 (x : Int32) : (x ||| 1) &&& 2 = x &&& 2 := b_ext (fun i hi => by
  rw [b_and, b_and, b_or, b_1 i hi]
  by_cases h : i = 0
  · subst h; rw [show bt 2 0 = false from by decide]; simp
  · rw [decide_eq_false h]; simp)
theorem b21 : ∀ i, i < 32 → (bt ((1 : Int32) ^^^ (-1)) i && bt 2 i) = bt 2 i := by decide +kernel
theorem bit2_an1 (x : Int32) : (x &&& ((1 : Int32) ^^^ (-1))) &&& 2 = x &&& 2 := b_ext (fun i hi => by
  rw [b_and, b_and, b_and, Bool.and_assoc, b21 i hi])
/-- hand leaves the keep bits -/
theorem ha_k {on : Int32} (hK : JKr rw pl kd td a10 j)
    (h1 : atP (stX (tbO tb j o) rw cl pl row col) row col (fun i k => sv (gdK (kd (i * 12 + k))) (q1 = 1 ∧ td2 = upd td (i * 12 + k) (if on = 0 then td (i * 12 + k) &&& (1 ^^^ (-1)) else td (i * 12 + k) ||| 1)) (q1 = 0 ∧ td2 = td)) (q1 = 0 ∧ td2 = td)) : JKr rw pl kd td2 a10 j := by
  have key : ∀ p, td2 p &&& 2 = td p &&& 2 := by
    rcases h1 with ⟨_, _, _, _, x⟩ | ⟨_, i, k, _, _, _, _, ⟨_, _, x⟩ | ⟨_, _, x⟩⟩
    · subst x; exact fun _ => rfl
    · subst x
      intro p
      by_cases e : p = i * 12 + k
      · rw [e, pk_us]
        by_cases c : on = 0
        · rw [if_pos c, bit2_an1]
        · rw [if_neg c, bit2_or1]
      · rw [pk_un e]
    · subst x; exact fun _ => rfl
  intro i c hi hc h2 h3
  obtain ⟨g1, g2⟩ := hK i c hi hc h2 h3
  exact ⟨by rw [key]; exact g1, fun z => by rw [key]; exact g2 z⟩
/-- what keep answers, without its row -/
theorem ke_drop {G : Nat → Nat → Nat → Prop} {F : Nat → Nat → Nat → Nat → Int32} (h : atM a1 a2 a3 a11 tb row col (fun t i k => sv (G t i k) (q2 = 1 ∧ b10 = F t i k) (q2 = 0 ∧ b10 = a10)) (q2 = 0 ∧ b10 = a10)) : atM a1 a2 a3 a11 tb row col (fun t i k => sv (G t i k) (q2 = 1) (q2 = 0)) (q2 = 0) := by
  rcases h with ⟨z, h1, h2, h3⟩ | ⟨h1, t, i, k, g1, g2, g3, g4, g5, g6, h⟩
  · exact Or.inl ⟨z, h1, h2, h3.1⟩
  · exact Or.inr ⟨h1, t, i, k, g1, g2, g3, g4, g5, g6, h.imp (fun z => ⟨z.1, z.2.1⟩) (fun z => ⟨z.1, z.2.1⟩)⟩
theorem op_ru {ra ca bk2 : Int32} (h : RUr ru) (h2 : opRX2 ra ca q bk kd nu td ps ru bk2 kd2 nu2 td2 ps2 ru2) : RUr ru2 := by
  rcases h2 with ⟨_, _, _, _, _, _, x⟩ | ⟨_, _, rn, cn, _, _, _, _, _, _, _, _, x⟩
  · subst x; exact h
  · subst x; exact ⟨1, 1, by omega, by omega, rfl, rfl⟩
theorem ru_ru {P : Prop} {wh nm : Int32} (h : RUr ru) (h1 : ruB P wh nm q) (h2 : ruRX wh nm q ru ru2) : RUr ru2 := by
  obtain ⟨dn, up, d1, d2, d3, d4⟩ := h
  rcases h2 with ⟨_, x⟩ | ⟨e, n, hn, en, x⟩
  · subst x; exact ⟨dn, up, d1, d2, d3, d4⟩
  · rcases h1 with ⟨_, _, n2, hn2, en2, g1, g2⟩ | ⟨e0, _⟩
    · have e9 := (nI_eq (by omega) (by omega)).mp (en.symm.trans en2)
      subst e9 x
      have big : ∀ B : Nat, B ≤ 1000000 → ¬ nI B < nm → ∃ m, m ≤ 1000000 ∧ nm = nI m := fun B hB h => by
        obtain ⟨m, hm, em⟩ := nI_le_n (n := B) (by omega) g1 h
        exact ⟨m, by omega, em⟩
      rcases (show n = 3 ∨ n = 4 ∨ (n ≠ 3 ∧ n ≠ 4) by omega) with c | c | ⟨c1, c2⟩
      · subst c
        obtain ⟨m, hm, em⟩ := big 1000000 (by omega) g2
        exact ⟨m, up, hm, d2, by rw [pk_us]; exact em, by rw [pk_un (by omega)]; exact d4⟩
      · subst c
        obtain ⟨m, hm, em⟩ := big 1000000 (by omega) g2
        exact ⟨dn, m, d1, hm, by rw [pk_un (by omega)]; exact d3, by rw [pk_us]; exact em⟩
      · exact ⟨dn, up, d1, d2, by rw [pk_un (by omega)]; exact d3, by rw [pk_un (by omega)]; exact d4⟩
    · exact absurd (e.symm.trans e0) (by decide)
theorem b_op (h : b01R a10) (h4 : opR3 tb q2 a10 b10) : b01R b10 := by
  rcases h4 with ⟨_, x⟩ | ⟨_, t, _, _, x⟩
  · subst x; exact h
  · refine b01_o h (fun p _ => ?_)
    by_cases c : 144 * t ≤ p ∧ p < 144 * t + 144
    · exact Or.inr (Or.inl ((x p).1 c))
    · exact Or.inl ((x p).2 c)
theorem b_on {pa : Nat} (h : b01R a10) (h1 : only pa 0 a10 b10) : b01R b10 := b01_o h (fun p _ => by
  by_cases c : p = pa
  · subst c; exact Or.inr (Or.inl h1.1)
  · exact Or.inl (h1.2 p c))
theorem b_at {C : Nat → Nat → Nat → Prop} (h : b01R a10) (h2 : atM a1 a2 a3 a11 tb row col (fun t i k => sv (C t i k) (only (144 * t + 12 * i + k) 0 a10 b10) (b10 = a10)) (b10 = a10)) : b01R b10 := by
  rcases h2 with ⟨_, _, _, x⟩ | ⟨_, t, i, k, _, _, _, _, _, _, ⟨_, x⟩ | ⟨_, x⟩⟩
  · subst x; exact h
  · exact b_on h x
  · subst x; exact h
theorem b_ke {on : Int32} {C : Nat → Nat → Nat → Prop} (hon : on = 0 ∨ on = 1) (h : b01R a10) (h2 : atM a1 a2 a3 a11 tb row col (fun t i k => sv (C t i k) (q2 = 1 ∧ b10 = upd a10 (144 * t + 12 * i + k) (vp_nar .boolean on)) (q2 = 0 ∧ b10 = a10)) (q2 = 0 ∧ b10 = a10)) : b01R b10 := by
  rcases h2 with ⟨_, _, _, _, x⟩ | ⟨_, t, i, k, g1, g2, g3, _, _, _, ⟨_, _, x⟩ | ⟨_, _, x⟩⟩
  · subst x; exact h
  · refine b01_l h (show 144 * t + 12 * i + k < 864 by omega) ?_ x
    rcases hon with e | e
    · subst e; exact Or.inl rfl
    · subst e; exact Or.inr rfl
  · subst x; exact h
theorem b_pl {st : Int32} (h : b01R a10) (h2 : plM tb q2 a1 a2 a3 a4 a5 a6 a7 a8 a9 a10 a11 a12 a13 a14 b10 st) : b01R b10 := by
  rcases h2 with ⟨_, _, x, _⟩ | ⟨t, rw, cl, bk, dn, uq, nn, Pl, cc, ht, _, _, _, _, _, _, _, _, _, _, _, _, _, ⟨_, _, x, _⟩ | ⟨_, _, x, _⟩⟩
  · subst x; exact h
  · refine b01_o h (fun p hp => ?_)
    by_cases c : p < 144 * t ∨ 144 * t + 144 ≤ p
    · exact Or.inl (x.2 p c)
    · have e : p = 144 * t + 12 * ((p - 144 * t) / 12) + (p - 144 * t) % 12 := by omega
      have g := x.1 ((p - 144 * t) / 12) ((p - 144 * t) % 12) (by omega) (by omega)
      rw [← e] at g
      rw [g]
      split
      · exact Or.inr (Or.inr rfl)
      · exact Or.inl rfl
  · exact b01_o h (fun p hp => Or.inl (x p hp))
theorem b_fw {st : Int32} (h : b01R a10) (h2 : fwM tb q2 a1 a2 a3 a4 a5 a6 a7 a8 a9 a10 a11 a12 a13 a14 b10 st) : b01R b10 := by
  rcases h2 with ⟨_, _, x, _⟩ | ⟨t, rw, cl, bk, dn, uq, ht, _, _, _, _, _, _, _, _, _, _, _, _, ⟨_, _, x, _⟩ | ⟨m, cp, _, _, _, ⟨bz, _, _, x, y, _⟩ | ⟨_, _, x, _⟩⟩⟩
  · subst x; exact h
  · subst x; exact h
  · refine b01_o h (fun p hp => ?_)
    by_cases c : p < 144 * t ∨ 144 * t + 144 ≤ p
    · exact Or.inl (y p c)
    · have e : p = 144 * t + 12 * ((p - 144 * t) / 12) + (p - 144 * t) % 12 := by omega
      have g := x ((p - 144 * t) / 12) ((p - 144 * t) % 12) (by omega) (by omega)
      rw [← e] at g
      rw [g]
      split
      · exact Or.inr (Or.inr rfl)
      · exact Or.inr (Or.inl rfl)
  · exact b01_o h (fun p hp => Or.inl (x p hp))
theorem b_te {pn : Int32} (h : b01R a10) (h3 : teR3 tb row pn q2 a10 b10) : b01R b10 := by
  rcases h3 with ⟨_, x⟩ | ⟨_, t, i, k, _, _, _, _, _, _, x⟩
  · subst x; exact h
  · exact b01_o h (fun p _ => (x p).imp id Or.inl)
end KC
theorem JKA_0 : JKA (fun _ _ => 0) (fun _ _ _ => 0) (fun _ _ => 0) := ⟨fun j hj => ⟨fun _ _ _ _ _ _ => KK_00, 0, 0, by omega, by omega, rfl, rfl⟩, fun _ _ => Or.inl rfl⟩
