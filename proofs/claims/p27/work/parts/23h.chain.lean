/-! the way as a chain of nodes, backwards -/
def chF (bb : Nat → Int32) (t0 : Nat) : Nat → Nat
  | 0 => t0
  | k + 1 => (bb (chF bb t0 k)).toNatClampNeg
def CH (s : Nat → Int32) (u0 t0 : Nat) (bb : Nat → Int32) (L : Nat → Nat) : Prop := lvOK (fun u v => bt (s u) v) L ∧ L u0 = 0 ∧ L t0 ≤ 25 ∧ chF bb t0 (L t0) = u0 ∧ ∀ k, k < L t0 → chF bb t0 k < 25 ∧ chF bb t0 (k + 1) < 25 ∧ chF bb t0 k ≠ u0 ∧ bb (chF bb t0 k) = nI (chF bb t0 (k + 1)) ∧ bt (s (chF bb t0 (k + 1))) (chF bb t0 k) = true ∧ L (chF bb t0 k) = L t0 - k
theorem CH_of {s bb : Nat → Int32} {u0 t0 : Nat} (h : WAY s u0 t0 bb) (ht : t0 < 25) : ∃ L, CH s u0 t0 bb L := by
  obtain ⟨L, h1, h2, h3, Q, hQ, h4⟩ := h
  have step : ∀ v, v < 25 → Q v → v ≠ u0 → ∀ k, chF bb t0 k = v → chF bb t0 (k + 1) < 25 ∧ Q (chF bb t0 (k + 1)) ∧ bb v = nI (chF bb t0 (k + 1)) ∧ bt (s (chF bb t0 (k + 1))) v = true ∧ L v = L (chF bb t0 (k + 1)) + 1 := fun v hv hq hne k ek => by
    obtain ⟨u, a, b, c, d, e⟩ := h4 v hv hq hne
    have eu : chF bb t0 (k + 1) = u := by
      show (bb (chF bb t0 k)).toNatClampNeg = u
      rw [ek, b]; exact nI_clamp (by omega)
    rw [eu]; exact ⟨a, c, b, d, e⟩
  have key : ∀ k, k ≤ L t0 → Q (chF bb t0 k) ∧ chF bb t0 k < 25 ∧ L (chF bb t0 k) = L t0 - k := by
    intro k
    induction k with
    | zero => intro _; exact ⟨hQ, ht, rfl⟩
    | succ k ih =>
      intro hk
      obtain ⟨q1, q2, q3⟩ := ih (by omega)
      have hne : chF bb t0 k ≠ u0 := fun z => by rw [z, h2] at q3; omega
      obtain ⟨a, b, _, _, e⟩ := step _ q2 q1 hne k rfl
      exact ⟨b, a, by omega⟩
  refine ⟨L, h1, h2, h3, ?_, fun k hk => ?_⟩
  · obtain ⟨q1, q2, q3⟩ := key (L t0) (Nat.le_refl _)
    by_cases e : chF bb t0 (L t0) = u0
    · exact e
    · obtain ⟨_, _, _, _, e5⟩ := step _ q2 q1 e (L t0) rfl
      omega
  · obtain ⟨q1, q2, q3⟩ := key k (by omega)
    have hne : chF bb t0 k ≠ u0 := fun z => by rw [z, h2] at q3; omega
    obtain ⟨a, _, c, d, _⟩ := step _ q2 q1 hne k rfl
    exact ⟨q2, a, hne, c, d, q3⟩
theorem CH_lv {s bb : Nat → Int32} {u0 t0 : Nat} {L : Nat → Nat} (h : CH s u0 t0 bb L) {k : Nat} (hk : k ≤ L t0) : L (chF bb t0 k) = L t0 - k := by
  rcases Nat.lt_or_ge k (L t0) with c | c
  · exact (h.2.2.2.2 k c).2.2.2.2.2
  · obtain rfl : k = L t0 := by omega
    rw [h.2.2.2.1, h.2.1]; omega
/-- each way of these is as good for an older row of levels, or the levels have risen -/
theorem CH_best {s bb : Nat → Int32} {u0 t0 : Nat} {L L0 : Nat → Nat} (h : CH s u0 t0 bb L) (h0 : lvOK (fun u v => bt (s u) v) L0) (hz : L0 u0 = 0) : ∃ L2, CH s u0 t0 bb L2 ∧ msr (fun u v => bt (s u) v) L2 t0 ≤ msr (fun u v => bt (s u) v) L0 t0 := by
  have up : ∀ k, k ≤ L t0 → L0 t0 ≤ L0 (chF bb t0 k) + k := by
    intro k
    induction k with
    | zero => intro _; exact Nat.le_refl _
    | succ k ih =>
      intro hk
      have a := ih (by omega)
      obtain ⟨b1, b2, _, _, b5, _⟩ := h.2.2.2.2 k (by omega)
      have c := h0 _ _ b2 b1 b5
      omega
  have dn : ∀ d, d ≤ L t0 → L0 (chF bb t0 (L t0 - d)) ≤ d := by
    intro d
    induction d with
    | zero => intro _; rw [Nat.sub_zero, h.2.2.2.1, hz]; exact Nat.le_refl 0
    | succ d ih =>
      intro hd
      have a := ih (by omega)
      obtain ⟨b1, b2, _, _, b5, _⟩ := h.2.2.2.2 (L t0 - (d + 1)) (by omega)
      have c := h0 _ _ b2 b1 b5
      rw [show L t0 - (d + 1) + 1 = L t0 - d by omega] at c
      omega
  have htop : L0 t0 ≤ L t0 := by
    have := up (L t0) (Nat.le_refl _)
    rw [h.2.2.2.1, hz] at this
    omega
  rcases Nat.lt_or_ge (L0 t0) (L t0) with c | c
  · exact ⟨L, h, msr_new c h.2.2.1⟩
  · have e : L0 t0 = L t0 := by omega
    refine ⟨L0, ⟨h0, hz, by rw [e]; exact h.2.2.1, by rw [e]; exact h.2.2.2.1, fun k hk => ?_⟩, Nat.le_refl _⟩
    rw [e] at hk
    obtain ⟨b1, b2, b3, b4, b5, _⟩ := h.2.2.2.2 k hk
    refine ⟨b1, b2, b3, b4, b5, ?_⟩
    have a1 := up k (by omega)
    have a2 := dn (L t0 - k) (by omega)
    rw [show L t0 - (L t0 - k) = k by omega] at a2
    rw [e] at a1 ⊢
    omega
/-- what falls when one step of the way is gone and only steps against the way are new -/
theorem CH_fall {s s2 bb : Nat → Int32} {u0 t0 : Nat} {L : Nat → Nat} (h : CH s u0 t0 bb L) (hs : ∀ u v, u < 25 → v < 25 → bt (s2 u) v = true → bt (s u) v = true ∨ ∃ k, k < L t0 ∧ u = chF bb t0 k ∧ v = chF bb t0 (k + 1)) (hk : ∃ k, k < L t0 ∧ bt (s2 (chF bb t0 (k + 1))) (chF bb t0 k) = false) : lvOK (fun u v => bt (s2 u) v) L ∧ msr (fun u v => bt (s2 u) v) L t0 < msr (fun u v => bt (s u) v) L t0 := by
  have sub : ∀ u v, u < 25 → v < 25 → bt (s2 u) v = true → bt (s u) v = true ∨ (bt (s v) u = true ∧ L u = L v + 1) := fun u v hu hv e => by
    rcases hs u v hu hv e with q | ⟨k, hk, e1, e2⟩
    · exact Or.inl q
    · refine Or.inr ⟨by rw [e1, e2]; exact (h.2.2.2.2 k hk).2.2.2.2.1, ?_⟩
      rw [e1, e2, CH_lv h (show k ≤ L t0 by omega), CH_lv h (show k + 1 ≤ L t0 by omega)]
      omega
  obtain ⟨k, hk1, hk2⟩ := hk
  obtain ⟨b1, b2, _, _, b5, _⟩ := h.2.2.2.2 k hk1
  exact ⟨lvOK_2 h.1 sub, msr_lt b2 b1 b5 (by rw [CH_lv h (show k ≤ L t0 by omega), CH_lv h (show k + 1 ≤ L t0 by omega)]; omega) hk2 sub⟩
theorem lv_0 {s : Nat → Int32} : lvOK (fun u v => bt (s u) v) (fun _ => 0) := fun _ _ _ _ _ => Nat.zero_le _
/-! sums when one place changes -/
theorem sumI_u {f : Nat → Int} {r : Nat} {x : Int} : ∀ n, r < n → sumI n (fun k => if k = r then x else f k) = sumI n f + (x - f r)
  | 0, hr => absurd hr (by omega)
  | n + 1, hr => by
    show sumI n (fun k => if k = r then x else f k) + (if n = r then x else f n) = sumI n f + f n + (x - f r)
    by_cases e : n = r
    · subst e
      rw [sumI_c n (g := f) (fun k hk => if_neg (by omega)), if_pos rfl]; omega
    · rw [sumI_u n (by omega), if_neg e]; omega