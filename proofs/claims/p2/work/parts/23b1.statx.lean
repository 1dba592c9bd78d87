theorem stW_n {S : Int32 → Prop} {row col q : Int32} {K : Nat → Nat → Int32} {X : Nat → Nat → Int32 → Prop} (h : stK S row col K q) (hq : ¬ q = 0) : stW S row col K X q := by
  rcases h with ⟨a, b⟩ | ⟨a, i, k, hi, hk, e1, e2, e3⟩
  · exact Or.inl ⟨a, b⟩
  · exact Or.inr ⟨a, i, k, hi, hk, e1, e2, Or.inl ⟨fun z => hq (e3.trans z), e3⟩⟩
theorem stW_th {S : Int32 → Prop} {row col q : Int32} {kd : Nat → Int32} {X : Nat → Nat → Int32 → Prop} (h : stK S row col (fun i k => kf2 (kd (i * 12 + k))) q) (hq : ¬ q = 0) (hX : ∀ i k, kd (i * 12 + k) = 5 → X i k 6) : stW S row col (fun i k => kf1 (kd (i * 12 + k))) X q := by
  rcases h with ⟨a, b⟩ | ⟨a, i, k, hi, hk, e1, e2, e3⟩
  · exact Or.inl ⟨a, b⟩
  · refine Or.inr ⟨a, i, k, hi, hk, e1, e2, ?_⟩
    by_cases c : kd (i * 12 + k) = 0
    · refine Or.inl ⟨fun h9 => absurd ((kf1_0 c).symm.trans h9) (by decide), ?_⟩
      exact e3.trans ((kf2_0 c).trans (kf1_0 c).symm)
    · by_cases d : kd (i * 12 + k) = 5
      · refine Or.inr ⟨kf1_g c, ?_⟩
        have e5 := e3.trans (kf2_5 c d)
        rw [e5]
        exact hX i k d
      · exact absurd (e3.trans (kf2_g c d)) hq
theorem srX_n {P : Prop} {rw row q : Int32} {X : Nat → Int32 → Prop} (h : rwQ P rw row q) (h0 : ¬ q = 0) : srX P rw row X q := by
  rcases h with ⟨a, b⟩ | ⟨a, b, c⟩ | ⟨a, _⟩
  · exact Or.inl ⟨a, b⟩
  · exact Or.inr ⟨b, Or.inl ⟨a, c⟩⟩
  · exact absurd a h0
