/-! a search by breadth: R what is reached, lev how far off, the queue qq, the row of befores bb -/
def BI (s : Nat → Int32) (u0 t0 : Nat) (bb qq : Nat → Int32) (R : Nat → Bool) (lev : Nat → Nat) (n fl : Nat) : Prop :=
  (∀ k, k < fl → ∃ v, v < 25 ∧ qq k = nI v ∧ R v = true ∧ lev v ≤ k) ∧ (∀ v, v < 25 → R v = true → ∃ k, k < fl ∧ qq k = nI v) ∧ (R u0 = true ∧ lev u0 = 0) ∧ (∀ v, v < 25 → R v = true → v ≠ u0 → ∃ u, u < 25 ∧ R u = true ∧ bb v = nI u ∧ bt (s u) v = true ∧ lev v = lev u + 1) ∧ (∀ k u v, k < n → k < fl → u < 25 → v < 25 → qq k = nI u → bt (s u) v = true → R v = true ∧ lev v ≤ lev u + 1) ∧ (∀ k k2 u u2, k ≤ k2 → k2 < fl → u < 25 → u2 < 25 → qq k = nI u → qq k2 = nI u2 → lev u ≤ lev u2 ∧ (n ≤ k → lev u2 ≤ lev u + 1)) ∧ (R t0 = true → t0 = u0) ∧ cntN 25 R = fl
theorem cnt_one : ∀ u, u < 25 → cntN 25 (fun v => decide (v = u)) = 1 := by decide +kernel
theorem cntN_c {f g : Nat → Bool} : ∀ n, (∀ k, k < n → f k = g k) → cntN n f = cntN n g
  | 0, _ => rfl
  | n + 1, h => by
    show cntN n f + _ = cntN n g + _
    rw [cntN_c n (fun k hk => h k (by omega)), h n (by omega)]
theorem cntN_add {f : Nat → Bool} {r : Nat} : ∀ n, r < n → f r = false → cntN n (fun v => f v || decide (v = r)) = cntN n f + 1
  | 0, hr, _ => absurd hr (by omega)
  | n + 1, hr, hf => by
    show cntN n (fun v => f v || decide (v = r)) + (if (f n || decide (n = r)) = true then 1 else 0) = cntN n f + (if f n = true then 1 else 0) + 1
    by_cases e : r = n
    · subst e
      rw [cntN_c r (g := f) (fun k hk => by rw [decide_eq_false (by omega), Bool.or_false]), decide_eq_true rfl, Bool.or_true, hf]
      rfl
    · rw [cntN_add n (by omega) hf, decide_eq_false (fun z => e z.symm), Bool.or_false]; omega
theorem cntN_lt_n {f : Nat → Bool} {r : Nat} (n : Nat) (hr : r < n) (hf : f r = false) : cntN n f < n := by
  have h := cntN_le (fun v => f v || decide (v = r)) n
  rw [cntN_add n hr hf] at h
  omega
theorem BI_0 {s bb qq : Nat → Int32} {u0 t0 : Nat} (hu : u0 < 25) : BI s u0 t0 bb (upd qq 0 (nI u0)) (fun v => decide (v = u0)) (fun _ => 0) 0 1 := by
  refine ⟨fun k hk => ⟨u0, hu, ?_, decide_eq_true rfl, Nat.zero_le _⟩, fun v hv h => ⟨0, by omega, ?_⟩, ⟨decide_eq_true rfl, rfl⟩, fun v hv h hne => absurd (of_decide_eq_true h) hne, fun k u v hk => absurd hk (by omega), fun k k2 u u2 _ _ _ _ _ _ => ⟨Nat.le_refl 0, fun _ => Nat.zero_le _⟩, fun h => of_decide_eq_true h, cnt_one u0 hu⟩
  · obtain rfl : k = 0 := by omega
    exact pk_us
  · rw [of_decide_eq_true h]; exact pk_us
theorem BI_c {s bb qq : Nat → Int32} {u0 t0 n fl : Nat} {R R2 : Nat → Bool} {lev : Nat → Nat} (hu : u0 < 25) (ht : t0 < 25) (h : BI s u0 t0 bb qq R lev n fl) (e : ∀ v, v < 25 → R2 v = R v) : BI s u0 t0 bb qq R2 lev n fl := by
  obtain ⟨h1, h2, h3, h4, h5, h6, h7, h8⟩ := h
  refine ⟨fun k hk => ?_, fun v hv hr => h2 v hv (by rw [← e v hv]; exact hr), ⟨by rw [e u0 hu]; exact h3.1, h3.2⟩, fun v hv hr hne => ?_, fun k u v hk hf hu' hv hq hb => ?_, h6, fun hr => h7 (by rw [← e t0 ht]; exact hr), by rw [cntN_c 25 e]; exact h8⟩
  · obtain ⟨v, hv, a, b, c⟩ := h1 k hk
    exact ⟨v, hv, a, by rw [e v hv]; exact b, c⟩
  · obtain ⟨u, a, b, c, d, f⟩ := h4 v hv (by rw [← e v hv]; exact hr) hne
    exact ⟨u, a, by rw [e u a]; exact b, c, d, f⟩
  · have q := h5 k u v hk hf hu' hv hq hb
    exact ⟨by rw [e v hv]; exact q.1, q.2⟩
theorem lev_le {s bb qq : Nat → Int32} {u0 t0 n fl nd : Nat} {R : Nat → Bool} {lev : Nat → Nat} (h : BI s u0 t0 bb qq R lev n fl) (hn : n < fl) (hnd : nd < 25) (hq : qq n = nI nd) (v : Nat) (hv : v < 25) (hr : R v = true) : lev v ≤ lev nd + 1 := by
  obtain ⟨k, hk, ek⟩ := h.2.1 v hv hr
  rcases Nat.lt_or_ge k n with c | c
  · have := (h.2.2.2.2.2.1 k n v nd (by omega) hn hv hnd ek hq).1
    omega
  · exact (h.2.2.2.2.2.1 n k nd v c hk hnd hv hq ek).2 (Nat.le_refl n)
def orR (R : Nat → Bool) (o v : Nat) : Bool := R v || decide (v = o)
def upL (lev : Nat → Nat) (o x v : Nat) : Nat := if v = o then x else lev v
theorem orR_t {R : Nat → Bool} {o v : Nat} (h : R v = true) : orR R o v = true := by unfold orR; rw [h]; rfl
theorem orR_o {R : Nat → Bool} {o : Nat} : orR R o o = true := by unfold orR; rw [decide_eq_true rfl, Bool.or_true]
theorem orR_i {R : Nat → Bool} {o v : Nat} (h : orR R o v = true) (hne : v ≠ o) : R v = true := by
  unfold orR at h; rw [decide_eq_false hne, Bool.or_false] at h; exact h
theorem upL_o {lev : Nat → Nat} {o x : Nat} : upL lev o x o = x := if_pos rfl
theorem upL_n {lev : Nat → Nat} {o x v : Nat} (h : v ≠ o) : upL lev o x v = lev v := if_neg h
theorem BI_push {s bb qq : Nat → Int32} {u0 t0 n fl nd o : Nat} {R : Nat → Bool} {lev : Nat → Nat} (h : BI s u0 t0 bb qq R lev n fl) (hn : n < fl) (hnd : nd < 25) (hq : qq n = nI nd) (ho : o < 25) (hR : R o = false) (hb : bt (s nd) o = true) (hot : o ≠ t0) : BI s u0 t0 (upd bb o (nI nd)) (upd qq fl (nI o)) (orR R o) (upL lev o (lev nd + 1)) n (fl + 1) := by
  have hle := lev_le h hn hnd hq
  obtain ⟨h1, h2, h3, h4, h5, h6, h7, h8⟩ := h
  have nod : ∀ k v, k < fl → v < 25 → qq k = nI v → R v = true ∧ lev v ≤ k := fun k v hk hv e => by
    obtain ⟨u, hu, a, b, c⟩ := h1 k hk
    have e2 := (nI_eq (by omega) (by omega)).mp (a.symm.trans e)
    rw [← e2]; exact ⟨b, c⟩
  have hRnd := nod n nd hn hnd hq
  have ne_of : ∀ v, R v = true → v ≠ o := fun v hv z => by rw [z, hR] at hv; exact absurd hv (by decide)
  refine ⟨fun k hk => ?_, fun v hv hr => ?_, ⟨orR_t h3.1, (upL_n (ne_of u0 h3.1)).trans h3.2⟩, fun v hv hr hne => ?_, fun k u v hk hf hu' hv hqk hbk => ?_, fun k k2 u u2 hkk hk2 hu' hu2 e1 e2 => ?_, fun hr => h7 (orR_i hr (fun z => hot z.symm)), (cntN_add 25 ho hR).trans (by rw [h8])⟩
  · by_cases e : k = fl
    · subst e
      exact ⟨o, ho, pk_us, orR_o, by rw [upL_o]; omega⟩
    · obtain ⟨v, hv, a, b, c⟩ := h1 k (by omega)
      exact ⟨v, hv, by rw [pk_un e]; exact a, orR_t b, by rw [upL_n (ne_of v b)]; exact c⟩
  · by_cases e : v = o
    · subst e; exact ⟨fl, by omega, pk_us⟩
    · obtain ⟨k, hk, ek⟩ := h2 v hv (orR_i hr e)
      exact ⟨k, by omega, by rw [pk_un (by omega)]; exact ek⟩
  · by_cases e : v = o
    · subst e
      exact ⟨nd, hnd, orR_t hRnd.1, pk_us, hb, by rw [upL_o, upL_n (ne_of nd hRnd.1)]⟩
    · obtain ⟨u, a, b, c, d, f⟩ := h4 v hv (orR_i hr e) hne
      exact ⟨u, a, orR_t b, by rw [pk_un e]; exact c, d, by rw [upL_n e, upL_n (ne_of u b)]; exact f⟩
  · rw [pk_un (by omega)] at hqk
    have q := h5 k u v hk (by omega) hu' hv hqk hbk
    have b3 := (nod k u (by omega) hu' hqk).1
    exact ⟨orR_t q.1, by rw [upL_n (ne_of v q.1), upL_n (ne_of u b3)]; exact q.2⟩
  · by_cases c2 : k2 = fl
    · rw [c2, pk_us] at e2
      have eo := (nI_eq (by omega) (by omega)).mp e2
      subst eo
      rw [upL_o]
      by_cases c1 : k = fl
      · rw [c1, pk_us] at e1
        have eo1 := (nI_eq (by omega) (by omega)).mp e1
        subst eo1
        rw [upL_o]
        exact ⟨Nat.le_refl _, fun _ => by omega⟩
      · rw [pk_un c1] at e1
        have b3 := (nod k u (by omega) hu' e1).1
        rw [upL_n (ne_of u b3)]
        exact ⟨hle u hu' b3, fun hnk => by have := (h6 n k nd u hnk (by omega) hnd hu' hq e1).1; omega⟩
    · rw [pk_un c2] at e2
      rw [pk_un (by omega)] at e1
      have b3 := (nod k u (by omega) hu' e1).1
      have b4 := (nod k2 u2 (by omega) hu2 e2).1
      rw [upL_n (ne_of u b3), upL_n (ne_of u2 b4)]
      exact h6 k k2 u u2 hkk (by omega) hu' hu2 e1 e2
theorem BI_adv {s bb qq : Nat → Int32} {u0 t0 n fl nd : Nat} {R : Nat → Bool} {lev : Nat → Nat} (h : BI s u0 t0 bb qq R lev n fl) (hn : n < fl) (hnd : nd < 25) (hq : qq n = nI nd) (hall : ∀ v, v < 25 → bt (s nd) v = true → R v = true) : BI s u0 t0 bb qq R lev (n + 1) fl := by
  have hle := lev_le h hn hnd hq
  obtain ⟨h1, h2, h3, h4, h5, h6, h7, h8⟩ := h
  refine ⟨h1, h2, h3, h4, fun k u v hk hf hu' hv hqk hbk => ?_, fun k k2 u u2 hkk hk2 hu' hu2 e1 e2 => ?_, h7, h8⟩
  · by_cases e : k = n
    · subst e
      have eu := (nI_eq (by omega) (by omega)).mp (hqk.symm.trans hq)
      subst eu
      exact ⟨hall v hv hbk, hle v hv (hall v hv hbk)⟩
    · exact h5 k u v (by omega) hf hu' hv hqk hbk
  · exact ⟨(h6 k k2 u u2 hkk hk2 hu' hu2 e1 e2).1, fun hk => (h6 k k2 u u2 hkk hk2 hu' hu2 e1 e2).2 (by omega)⟩
/-- a way from u0 to t0, level by level, told by the row of befores -/
def WAY (s : Nat → Int32) (u0 t0 : Nat) (bb : Nat → Int32) : Prop := ∃ L : Nat → Nat, lvOK (fun u v => bt (s u) v) L ∧ L u0 = 0 ∧ L t0 ≤ 25 ∧ ∃ Q : Nat → Prop, Q t0 ∧ ∀ v, v < 25 → Q v → v ≠ u0 → ∃ u, u < 25 ∧ bb v = nI u ∧ Q u ∧ bt (s u) v = true ∧ L v = L u + 1
def CLO (s : Nat → Int32) (u0 t0 : Nat) (rc : Int32) : Prop := bt rc u0 = true ∧ (bt rc t0 = true → t0 = u0) ∧ ∀ u v, u < 25 → v < 25 → bt rc u = true → bt (s u) v = true → bt rc v = true
def wL (R : Nat → Bool) (lev : Nat → Nat) (d v : Nat) : Nat := if R v = true then lev v else d
theorem wL_t {R : Nat → Bool} {lev : Nat → Nat} {d v : Nat} (h : R v = true) : wL R lev d v = lev v := if_pos h
theorem wL_f {R : Nat → Bool} {lev : Nat → Nat} {d v : Nat} (h : ¬ R v = true) : wL R lev d v = d := if_neg h
theorem BI_way {s bb qq : Nat → Int32} {u0 t0 n fl nd : Nat} {R : Nat → Bool} {lev : Nat → Nat} (h : BI s u0 t0 bb qq R lev n fl) (hfl : fl ≤ 25) (hn : n < fl) (hnd : nd < 25) (ht : t0 < 25) (hq : qq n = nI nd) (hb : bt (s nd) t0 = true) (hR : R t0 = false) : WAY s u0 t0 (upd bb t0 (nI nd)) := by
  have hle := lev_le h hn hnd hq
  obtain ⟨h1, h2, h3, h4, h5, h6, h7, h8⟩ := h
  have hRnd : R nd = true ∧ lev nd ≤ n := by
    obtain ⟨v, hv, a, b, c⟩ := h1 n hn
    have e := (nI_eq (by omega) (by omega)).mp (a.symm.trans hq)
    rw [← e]; exact ⟨b, c⟩
  have hRt : ¬ R t0 = true := by rw [hR]; decide
  refine ⟨wL R lev (lev nd + 1), fun u v hu hv e => ?_, (wL_t h3.1).trans h3.2, by rw [wL_f hRt]; omega, fun v => v = t0 ∨ R v = true, Or.inl rfl, fun v hv hQ hne => ?_⟩
  · have lv_ : wL R lev (lev nd + 1) v ≤ lev nd + 1 := by
      by_cases c : R v = true
      · rw [wL_t c]; exact hle v hv c
      · rw [wL_f c]; exact Nat.le_refl _
    by_cases c : R u = true
    · rw [wL_t c]
      obtain ⟨k, hk, ek⟩ := h2 u hu c
      rcases Nat.lt_or_ge k n with d | d
      · have q := h5 k u v d hk hu hv ek e
        rw [wL_t q.1]; exact q.2
      · have q := (h6 n k nd u d hk hnd hu hq ek).1
        omega
    · rw [wL_f c]; omega
  · by_cases e : v = t0
    · subst e
      exact ⟨nd, hnd, pk_us, Or.inr hRnd.1, hb, by rw [wL_f hRt, wL_t hRnd.1]⟩
    · have hr := hQ.resolve_left e
      obtain ⟨u, a, b, c, d, f⟩ := h4 v hv hr hne
      exact ⟨u, a, by rw [pk_un e]; exact c, Or.inr b, d, by rw [wL_t hr, wL_t b]; exact f⟩
theorem BI_clo {s bb qq : Nat → Int32} {u0 t0 n fl : Nat} {rc : Int32} {lev : Nat → Nat} (h : BI s u0 t0 bb qq (bt rc) lev n fl) (hn : fl ≤ n) : CLO s u0 t0 rc := by
  obtain ⟨h1, h2, h3, h4, h5, h6, h7, h8⟩ := h
  refine ⟨h3.1, h7, fun u v hu hv hr hb => ?_⟩
  obtain ⟨k, hk, ek⟩ := h2 u hu hr
  exact (h5 k u v (by omega) hk hu hv ek hb).1
