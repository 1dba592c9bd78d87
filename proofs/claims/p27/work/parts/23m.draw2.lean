theorem sh_steps {s s2 bb : Nat → Int32} {u0 t0 d : Nat} {L : Nat → Nat} {kp : Nat → Nat → Bool} {V Lo Hi : Nat → Nat → Nat} {on : Nat → Nat → Bool} (h : CH s u0 t0 bb L) (hS : SYN kp V Lo Hi on s) (hS2 : SYN kp (shT bb t0 d V (L t0)) Lo Hi on s2) (u v : Nat) (hu : u < 25) (hv : v < 25) (e : bt (s2 u) v = true) : bt (s u) v = true ∨ ∃ k, k < L t0 ∧ u = chF bb t0 k ∧ v = chF bb t0 (k + 1) := by
  have keep : ∀ i j, (∀ k, k < L t0 → ¬ (i = ceR bb t0 k ∧ j = ceC bb t0 k)) → shT bb t0 d V (L t0) i j = V i j := fun i j hf => shT_far _ hf
  have e2 := e
  rw [hS2 u v hu hv] at e
  rcases arc_of hS2 hu hv e2 with ⟨a1, a2, a3, _⟩ | ⟨a1, a2, a3, _⟩
  · rcases ce_or bb t0 u (v - 12) (L t0) with hf | ⟨k, hk, e1, e3⟩
    · refine Or.inl ?_
      rw [hS u v hu hv]
      unfold stE gof at e ⊢
      rw [if_pos ⟨a1, a2, a3⟩] at e ⊢
      rw [keep _ _ hf] at e
      exact e
    · obtain ⟨b1, b2, _, _, b5, _⟩ := h.2.2.2.2 k hk
      rcases arc_of hS b2 b1 b5 with ⟨c1, c2, c3, _⟩ | ⟨c1, c2, c3, _⟩
      · have eR : ceR bb t0 k = chF bb t0 (k + 1) := if_pos c1
        have eC : ceC bb t0 k = chF bb t0 k - 12 := if_pos c1
        rw [eR] at e1
        rw [eC] at e3
        refine Or.inl ?_
        rw [e1, show v = chF bb t0 k by omega]; exact b5
      · have na : ¬ chF bb t0 (k + 1) < 12 := by omega
        have eR : ceR bb t0 k = chF bb t0 k := if_neg na
        have eC : ceC bb t0 k = chF bb t0 (k + 1) - 12 := if_neg na
        rw [eR] at e1
        rw [eC] at e3
        exact Or.inr ⟨k, hk, e1, by omega⟩
  · rcases ce_or bb t0 v (u - 12) (L t0) with hf | ⟨k, hk, e1, e3⟩
    · refine Or.inl ?_
      rw [hS u v hu hv]
      unfold stE gob at e ⊢
      rw [if_neg (by omega), if_pos ⟨a1, a2, a3⟩] at e ⊢
      rw [keep _ _ hf] at e
      exact e
    · obtain ⟨b1, b2, _, _, b5, _⟩ := h.2.2.2.2 k hk
      rcases arc_of hS b2 b1 b5 with ⟨c1, c2, c3, _⟩ | ⟨c1, c2, c3, _⟩
      · have eR : ceR bb t0 k = chF bb t0 (k + 1) := if_pos c1
        have eC : ceC bb t0 k = chF bb t0 k - 12 := if_pos c1
        rw [eR] at e1
        rw [eC] at e3
        exact Or.inr ⟨k, hk, by omega, e1⟩
      · have na : ¬ chF bb t0 (k + 1) < 12 := by omega
        have eR : ceR bb t0 k = chF bb t0 k := if_neg na
        have eC : ceC bb t0 k = chF bb t0 (k + 1) - 12 := if_neg na
        rw [eR] at e1
        rw [eC] at e3
        refine Or.inl ?_
        rw [e1, show u = chF bb t0 (k + 1) by omega]; exact b5
theorem sh_sat {s s2 bb : Nat → Int32} {u0 t0 d k : Nat} {L : Nat → Nat} {kp : Nat → Nat → Bool} {V Lo Hi : Nat → Nat → Nat} {on : Nat → Nat → Bool} (h : CH s u0 t0 bb L) (hS : SYN kp V Lo Hi on s) (hS2 : SYN kp (shT bb t0 d V (L t0)) Lo Hi on s2) (hk : k < L t0) (hd : d = resA bb t0 V Lo Hi k) : bt (s2 (chF bb t0 (k + 1))) (chF bb t0 k) = false := by
  obtain ⟨b1, b2, _, _, b5, _⟩ := h.2.2.2.2 k hk
  have hat := shT_at (d := d) h hS _ (Nat.le_refl _) k hk
  have hpos := res_pos h hS hk
  cases hb : bt (s2 (chF bb t0 (k + 1))) (chF bb t0 k) with
  | false => rfl
  | true =>
    unfold resA at hd hpos
    rcases arc_of hS2 b2 b1 hb with ⟨c1, c2, c3, _, _, c6⟩ | ⟨c1, c2, c3, _, _, c6⟩
    · have eR : ceR bb t0 k = chF bb t0 (k + 1) := if_pos c1
      have eC : ceC bb t0 k = chF bb t0 k - 12 := if_pos c1
      rw [if_pos c1] at hat hd hpos
      rw [eR, eC] at hat hd hpos
      rw [hat] at c6
      omega
    · have na : ¬ chF bb t0 (k + 1) < 12 := by omega
      have eR : ceR bb t0 k = chF bb t0 k := if_neg na
      have eC : ceC bb t0 k = chF bb t0 (k + 1) - 12 := if_neg na
      rw [if_neg na] at hat hd hpos
      rw [eR, eC] at hat hd hpos
      rw [hat] at c6
      omega
/-- rises: from the cell's column to its row -/
theorem dr_up {s bb : Nat → Int32} {r c d : Nat} {L : Nat → Nat} {kp : Nat → Nat → Bool} {V0 V Lo Hi : Nat → Nat → Nat} {on : Nat → Nat → Bool} (hr : r < 12) (hc : c < 12) (hon : on r c = false) (hkp : kp r c = true) (h : CH s (12 + c) r bb L) (hS : SYN kp V Lo Hi on s) (hd : ∀ k, k < L r → d ≤ resA bb r V Lo Hi k) (hhi : V r c + d ≤ Hi r c) (hA : agN kp Lo Hi V0 V) : agN kp Lo Hi V0 (upT (shT bb r d V (L r)) r c (V r c + d)) := by
  obtain ⟨a1, a2, a3, a4⟩ := hA
  have hB : ∀ i j, i < 12 → j < 12 → kp i j = true → Lo i j ≤ V i j ∧ V i j ≤ Hi i j := fun i j hi hj hk => by
    have q := a2 i j hi hj hk
    have q1 : (Lo i j : Int) ≤ (V i j : Int) := q.1
    have q2 : (V i j : Int) ≤ (Hi i j : Int) := q.2
    omega
  obtain ⟨s1, s2, s3⟩ := sh_bound h hS hd hB
  have hV := s3 r c hon
  obtain ⟨sr, sc⟩ := shT_sum (d := d) h hS (fun k hk e => by have q := hd k hk; unfold resA at q; rw [if_neg e] at q; omega) (L r) (Nat.le_refl _)
  refine ⟨fun i j hi hj hk => ?_, fun i j hi hj hk => ?_, fun i hi => ?_, fun j hj => ?_⟩
  · show ((upT _ r c _ i j : Nat) : Int) = _
    rw [upT_n (fun z => by rw [z.1, z.2, hkp] at hk; exact absurd hk (by decide)), s2 i j hk]
    exact a1 i j hi hj hk
  · show ((Lo i j : Nat) : Int) ≤ ((upT _ r c _ i j : Nat) : Int) ∧ ((upT _ r c _ i j : Nat) : Int) ≤ ((Hi i j : Nat) : Int)
    by_cases e : i = r ∧ j = c
    · obtain ⟨rfl, rfl⟩ := e
      rw [upT_s]
      have b := hB i j hi hj hk
      omega
    · rw [upT_n e]
      have b := s1 i j hi hj hk
      omega
  · show sumI 12 (fun j => (upT _ r c _ i j : Int)) = sumI 12 (fun j => (V0 i j : Int))
    rw [row_u hc, sr i hi, h.2.2.2.1, hV, dl_n (show i ≠ 12 + c by omega)]
    have q := a3 i hi
    have q2 : sumI 12 (fun j => (V i j : Int)) = sumI 12 (fun j => (V0 i j : Int)) := q
    by_cases e : i = r
    · rw [e, dl_s, dl_s]
      rw [e] at q2
      omega
    · rw [dl_n e, dl_n e]
      omega
  · show sumI 12 (fun i => (upT _ r c _ i j : Int)) = sumI 12 (fun i => (V0 i j : Int))
    rw [col_u hr, sc j hj, h.2.2.2.1, hV, dl_n (show 12 + j ≠ r by omega)]
    have q := a4 j hj
    have q2 : sumI 12 (fun i => (V i j : Int)) = sumI 12 (fun i => (V0 i j : Int)) := q
    by_cases e : j = c
    · rw [e, dl_s, dl_s]
      rw [e] at q2
      omega
    · rw [dl_n e, dl_n (show 12 + j ≠ 12 + c by omega)]
      omega
/-- where the search ends closed, the table's cell is at its end -/
theorem clo_low {kp : Nat → Nat → Bool} {V Lo Hi w : Nat → Nat → Nat} {on gr : Nat → Nat → Bool} {s : Nat → Int32} {rc : Int32} {r c : Nat} (hr : r < 12) (hc : c < 12) (hC : CLO s r (12 + c) rc) (hS : SYN kp V Lo Hi on s) (hon : ∀ i j, i < 12 → j < 12 → kp i j = true → ¬ (i = r ∧ j = c) → on i j = true) (hA : agN kp Lo Hi V w) : V r c ≤ w r c := by
  obtain ⟨c1, c2, c3⟩ := hC
  have hsc : bt rc (12 + c) = false := by
    cases hh : bt rc (12 + c) with
    | false => rfl
    | true => exact absurd (c2 hh) (by omega)
  have q := cut_low (n := 12) (m := 12) (r := r) (c := c) (SR := fun i => bt rc i) (SC := fun j => bt rc (12 + j)) hA hr hc c1 hsc
    (fun i j hi hj e1 e2 hk hne => by
      have e3 : ¬ bt (s i) (12 + j) = true := fun z => by rw [c3 i (12 + j) (by omega) (by omega) e1 z] at e2; exact absurd e2 (by decide)
      rw [hS i (12 + j) (by omega) (by omega), stE_f hi hj] at e3
      unfold gof at e3
      rw [hon i j hi hj hk hne, hk] at e3
      have e4 : ¬ V i j < Hi i j := fun z => e3 (by rw [decide_eq_true z]; rfl)
      show ((Hi i j : Nat) : Int) ≤ ((V i j : Nat) : Int)
      omega)
    (fun i j hi hj e1 e2 hk => by
      by_cases hne : i = r ∧ j = c
      · rw [hne.1] at e1; have e9 : bt rc r = false := e1; rw [c1] at e9; exact absurd e9 (by decide)
      · have e3 : ¬ bt (s (12 + j)) i = true := fun z => by have e9 : bt rc i = false := e1; rw [c3 (12 + j) i (by omega) (by omega) e2 z] at e9; exact absurd e9 (by decide)
        rw [hS (12 + j) i (by omega) (by omega), stE_b hi hj] at e3
        unfold gob at e3
        rw [hon i j hi hj hk hne, hk] at e3
        have e4 : ¬ Lo i j < V i j := fun z => e3 (by rw [decide_eq_true z]; rfl)
        show ((V i j : Nat) : Int) ≤ ((Lo i j : Nat) : Int)
        omega)
  have q2 : ((V r c : Nat) : Int) ≤ ((w r c : Nat) : Int) := q
  omega
