/-! one turn of a draw -/
def agN (kp : Nat → Nat → Bool) (Lo Hi V0 V : Nat → Nat → Nat) : Prop := agI 12 12 kp (fun i j => (Lo i j : Int)) (fun i j => (Hi i j : Int)) (fun i j => (V0 i j : Int)) (fun i j => (V i j : Int))
/-- how far each step of the way may go -/
def resA (bb : Nat → Int32) (t0 : Nat) (V Lo Hi : Nat → Nat → Nat) (k : Nat) : Nat := if chF bb t0 (k + 1) < 12 then Hi (ceR bb t0 k) (ceC bb t0 k) - V (ceR bb t0 k) (ceC bb t0 k) else V (ceR bb t0 k) (ceC bb t0 k) - Lo (ceR bb t0 k) (ceC bb t0 k)
theorem ce_arc {s bb : Nat → Int32} {u0 t0 k : Nat} {L : Nat → Nat} {kp : Nat → Nat → Bool} {V Lo Hi : Nat → Nat → Nat} {on : Nat → Nat → Bool} (h : CH s u0 t0 bb L) (hS : SYN kp V Lo Hi on s) (hk : k < L t0) : ceR bb t0 k < 12 ∧ ceC bb t0 k < 12 ∧ on (ceR bb t0 k) (ceC bb t0 k) = true ∧ kp (ceR bb t0 k) (ceC bb t0 k) = true ∧ (chF bb t0 (k + 1) < 12 → V (ceR bb t0 k) (ceC bb t0 k) < Hi (ceR bb t0 k) (ceC bb t0 k)) ∧ (¬ chF bb t0 (k + 1) < 12 → Lo (ceR bb t0 k) (ceC bb t0 k) < V (ceR bb t0 k) (ceC bb t0 k)) := by
  obtain ⟨b1, b2, _, _, b5, _⟩ := h.2.2.2.2 k hk
  rcases arc_of hS b2 b1 b5 with ⟨a1, a2, a3, a4, a5, a6⟩ | ⟨a1, a2, a3, a4, a5, a6⟩
  · have eR : ceR bb t0 k = chF bb t0 (k + 1) := if_pos a1
    have eC : ceC bb t0 k = chF bb t0 k - 12 := if_pos a1
    rw [eR, eC]
    exact ⟨a1, by omega, a4, a5, fun _ => a6, fun z => absurd a1 z⟩
  · have na : ¬ chF bb t0 (k + 1) < 12 := by omega
    have eR : ceR bb t0 k = chF bb t0 k := if_neg na
    have eC : ceC bb t0 k = chF bb t0 (k + 1) - 12 := if_neg na
    rw [eR, eC]
    exact ⟨a1, by omega, a4, a5, fun z => absurd z na, fun _ => a6⟩
theorem res_pos {s bb : Nat → Int32} {u0 t0 k : Nat} {L : Nat → Nat} {kp : Nat → Nat → Bool} {V Lo Hi : Nat → Nat → Nat} {on : Nat → Nat → Bool} (h : CH s u0 t0 bb L) (hS : SYN kp V Lo Hi on s) (hk : k < L t0) : 0 < resA bb t0 V Lo Hi k := by
  obtain ⟨_, _, _, _, c5, c6⟩ := ce_arc h hS hk
  unfold resA
  by_cases e : chF bb t0 (k + 1) < 12
  · rw [if_pos e]; have := c5 e; omega
  · rw [if_neg e]; have := c6 e; omega
/-- either a cell lies on no step of the way, or it is one step's cell -/
theorem ce_or (bb : Nat → Int32) (t0 i j : Nat) : ∀ n, (∀ k, k < n → ¬ (i = ceR bb t0 k ∧ j = ceC bb t0 k)) ∨ ∃ k, k < n ∧ i = ceR bb t0 k ∧ j = ceC bb t0 k
  | 0 => Or.inl (fun k hk => absurd hk (by omega))
  | n + 1 => by
    rcases ce_or bb t0 i j n with h | ⟨k, hk, e⟩
    · by_cases c : i = ceR bb t0 n ∧ j = ceC bb t0 n
      · exact Or.inr ⟨n, by omega, c⟩
      · exact Or.inl (fun k hk => by
          by_cases e : k = n
          · subst e; exact c
          · exact h k (by omega))
    · exact Or.inr ⟨k, by omega, e⟩
theorem sh_bound {s bb : Nat → Int32} {u0 t0 d : Nat} {L : Nat → Nat} {kp : Nat → Nat → Bool} {V Lo Hi : Nat → Nat → Nat} {on : Nat → Nat → Bool} (h : CH s u0 t0 bb L) (hS : SYN kp V Lo Hi on s) (hd : ∀ k, k < L t0 → d ≤ resA bb t0 V Lo Hi k) (hB : ∀ i j, i < 12 → j < 12 → kp i j = true → Lo i j ≤ V i j ∧ V i j ≤ Hi i j) : (∀ i j, i < 12 → j < 12 → kp i j = true → Lo i j ≤ shT bb t0 d V (L t0) i j ∧ shT bb t0 d V (L t0) i j ≤ Hi i j) ∧ (∀ i j, kp i j = false → shT bb t0 d V (L t0) i j = V i j) ∧ ∀ i j, on i j = false → shT bb t0 d V (L t0) i j = V i j := by
  refine ⟨fun i j hi hj hk => ?_, fun i j hk => ?_, fun i j hk => ?_⟩
  · rcases ce_or bb t0 i j (L t0) with hf | ⟨k, hkl, rfl, rfl⟩
    · rw [shT_far _ hf]; exact hB i j hi hj hk
    · rw [shT_at h hS _ (Nat.le_refl _) k hkl]
      have b := hB _ _ hi hj hk
      have q := hd k hkl
      unfold resA at q
      by_cases e : chF bb t0 (k + 1) < 12
      · rw [if_pos e] at q ⊢; omega
      · rw [if_neg e] at q ⊢; omega
  · rcases ce_or bb t0 i j (L t0) with hf | ⟨k, hkl, rfl, rfl⟩
    · exact shT_far _ hf
    · have := (ce_arc h hS hkl).2.2.2.1; rw [hk] at this; exact absurd this (by decide)
  · rcases ce_or bb t0 i j (L t0) with hf | ⟨k, hkl, rfl, rfl⟩
    · exact shT_far _ hf
    · have := (ce_arc h hS hkl).2.2.1; rw [hk] at this; exact absurd this (by decide)
/-- the table stays one that agrees: the drawn cell (r, c) is taken out of the steps; falls: from its row to its column -/
theorem dr_down {s bb : Nat → Int32} {r c d : Nat} {L : Nat → Nat} {kp : Nat → Nat → Bool} {V0 V Lo Hi : Nat → Nat → Nat} {on : Nat → Nat → Bool} (hr : r < 12) (hc : c < 12) (hon : on r c = false) (hkp : kp r c = true) (h : CH s r (12 + c) bb L) (hS : SYN kp V Lo Hi on s) (hd : ∀ k, k < L (12 + c) → d ≤ resA bb (12 + c) V Lo Hi k) (hlo : Lo r c + d ≤ V r c) (hA : agN kp Lo Hi V0 V) : agN kp Lo Hi V0 (upT (shT bb (12 + c) d V (L (12 + c))) r c (V r c - d)) := by
  obtain ⟨a1, a2, a3, a4⟩ := hA
  have hB : ∀ i j, i < 12 → j < 12 → kp i j = true → Lo i j ≤ V i j ∧ V i j ≤ Hi i j := fun i j hi hj hk => by
    have q := a2 i j hi hj hk
    have q1 : (Lo i j : Int) ≤ (V i j : Int) := q.1
    have q2 : (V i j : Int) ≤ (Hi i j : Int) := q.2
    omega
  obtain ⟨s1, s2, s3⟩ := sh_bound h hS hd hB
  have hV := s3 r c hon
  have hle : d ≤ V r c := by omega
  obtain ⟨sr, sc⟩ := shT_sum (d := d) h hS (fun k hk e => by have q := hd k hk; unfold resA at q; rw [if_neg e] at q; omega) (L (12 + c)) (Nat.le_refl _)
  refine ⟨fun i j hi hj hk => ?_, fun i j hi hj hk => ?_, fun i hi => ?_, fun j hj => ?_⟩
  · show ((upT _ r c _ i j : Nat) : Int) = _
    rw [upT_n (fun z => by rw [z.1, z.2, hkp] at hk; exact absurd hk (by decide)), s2 i j hk]
    exact a1 i j hi hj hk
  · show ((Lo i j : Nat) : Int) ≤ ((upT _ r c _ i j : Nat) : Int) ∧ ((upT _ r c _ i j : Nat) : Int) ≤ ((Hi i j : Nat) : Int)
    by_cases e : i = r ∧ j = c
    · obtain ⟨rfl, rfl⟩ := e
      rw [upT_s]
      have b := hB i j hi hj hk
      omega
    · rw [upT_n e]
      have b := s1 i j hi hj hk
      omega
  · show sumI 12 (fun j => (upT _ r c _ i j : Int)) = sumI 12 (fun j => (V0 i j : Int))
    rw [row_u hc, sr i hi, h.2.2.2.1, hV, dl_n (show i ≠ 12 + c by omega)]
    have q := a3 i hi
    by_cases e : i = r
    · rw [e, dl_s, dl_s]
      rw [e] at q
      have q2 : sumI 12 (fun j => (V r j : Int)) = sumI 12 (fun j => (V0 r j : Int)) := q
      omega
    · rw [dl_n e, dl_n e]
      have q2 : sumI 12 (fun j => (V i j : Int)) = sumI 12 (fun j => (V0 i j : Int)) := q
      omega
  · show sumI 12 (fun i => (upT _ r c _ i j : Int)) = sumI 12 (fun i => (V0 i j : Int))
    rw [col_u hr, sc j hj, h.2.2.2.1, hV, dl_n (show 12 + j ≠ r by omega)]
    have q := a4 j hj
    have q2 : sumI 12 (fun i => (V i j : Int)) = sumI 12 (fun i => (V0 i j : Int)) := q
    by_cases e : j = c
    · rw [e, dl_s, dl_s]
      rw [e] at q2
      omega
    · rw [dl_n e, dl_n (show 12 + j ≠ 12 + c by omega)]
      omega
