theorem bits_ex (f : Nat → Bool) : ∀ n, n ≤ 25 → ∃ x : Int32, ∀ v, v < n → bt x v = f v
  | 0, _ => ⟨0, fun v h => absurd h (by omega)⟩
  | n + 1, hn => by
    obtain ⟨x, hx⟩ := bits_ex f n (by omega)
    refine ⟨jb x n (if f n = true then 1 else 0), fun v hv => ?_⟩
    rw [jb_eq (by omega) (by omega)]
    by_cases e : v = n
    · rw [if_pos e, e]
      cases f n with
      | true => rfl
      | false => rfl
    · rw [if_neg e]; exact hx v (by omega)
theorem SYN_ex (kp on : Nat → Nat → Bool) (V Lo Hi : Nat → Nat → Nat) : ∃ s, SYN kp V Lo Hi on s := ⟨fun u => Classical.choose (bits_ex (fun v => stE kp V Lo Hi on u v) 25 (Nat.le_refl _)), fun u v _ hv => Classical.choose_spec (bits_ex (fun v => stE kp V Lo Hi on u v) 25 (Nat.le_refl _)) v hv⟩
/-- closed, but not with the goal in it -/
def CLB (s : Nat → Int32) (u0 t0 : Nat) (R : Nat → Bool) : Prop := R u0 = true ∧ R t0 = false ∧ ∀ u v, u < 25 → v < 25 → R u = true → bt (s u) v = true → R v = true
theorem clB_lo {kp : Nat → Nat → Bool} {V Lo Hi w : Nat → Nat → Nat} {on : Nat → Nat → Bool} {s : Nat → Int32} {R : Nat → Bool} {r c : Nat} (hr : r < 12) (hc : c < 12) (hC : CLB s r (12 + c) R) (hS : SYN kp V Lo Hi on s) (hon : ∀ i j, i < 12 → j < 12 → kp i j = true → ¬ (i = r ∧ j = c) → on i j = true) (hA : agN kp Lo Hi V w) : V r c ≤ w r c := by
  obtain ⟨c1, c2, c3⟩ := hC
  have q := cut_low (n := 12) (m := 12) (r := r) (c := c) (SR := fun i => R i) (SC := fun j => R (12 + j)) hA hr hc c1 c2
    (fun i j hi hj e1 e2 hk hne => by
      have e3 : ¬ bt (s i) (12 + j) = true := fun z => by have e9 : R (12 + j) = false := e2; rw [c3 i (12 + j) (by omega) (by omega) e1 z] at e9; exact absurd e9 (by decide)
      rw [hS i (12 + j) (by omega) (by omega), stE_f hi hj] at e3
      unfold gof at e3
      rw [hon i j hi hj hk hne, hk] at e3
      have e4 : ¬ V i j < Hi i j := fun z => e3 (by rw [decide_eq_true z]; rfl)
      show ((Hi i j : Nat) : Int) ≤ ((V i j : Nat) : Int)
      omega)
    (fun i j hi hj e1 e2 hk => by
      by_cases hne : i = r ∧ j = c
      · rw [hne.1] at e1; have e9 : R r = false := e1; rw [c1] at e9; exact absurd e9 (by decide)
      · have e3 : ¬ bt (s (12 + j)) i = true := fun z => by have e9 : R i = false := e1; rw [c3 (12 + j) i (by omega) (by omega) e2 z] at e9; exact absurd e9 (by decide)
        rw [hS (12 + j) i (by omega) (by omega), stE_b hi hj] at e3
        unfold gob at e3
        rw [hon i j hi hj hk hne, hk] at e3
        have e4 : ¬ Lo i j < V i j := fun z => e3 (by rw [decide_eq_true z]; rfl)
        show ((V i j : Nat) : Int) ≤ ((Lo i j : Nat) : Int)
        omega)
  have q2 : ((V r c : Nat) : Int) ≤ ((w r c : Nat) : Int) := q
  omega
theorem clB_hi {kp : Nat → Nat → Bool} {V Lo Hi w : Nat → Nat → Nat} {on : Nat → Nat → Bool} {s : Nat → Int32} {R : Nat → Bool} {r c : Nat} (hr : r < 12) (hc : c < 12) (hC : CLB s (12 + c) r R) (hS : SYN kp V Lo Hi on s) (hon : ∀ i j, i < 12 → j < 12 → kp i j = true → ¬ (i = r ∧ j = c) → on i j = true) (hA : agN kp Lo Hi V w) : w r c ≤ V r c := by
  obtain ⟨c1, c2, c3⟩ := hC
  have q := cut_high (n := 12) (m := 12) (r := r) (c := c) (SR := fun i => R i) (SC := fun j => R (12 + j)) hA hr hc c2 c1
    (fun i j hi hj e1 e2 hk => by
      by_cases hne : i = r ∧ j = c
      · rw [hne.1] at e1; have e9 : R r = true := e1; rw [c2] at e9; exact absurd e9 (by decide)
      · have e3 : ¬ bt (s i) (12 + j) = true := fun z => by have e9 : R (12 + j) = false := e2; rw [c3 i (12 + j) (by omega) (by omega) e1 z] at e9; exact absurd e9 (by decide)
        rw [hS i (12 + j) (by omega) (by omega), stE_f hi hj] at e3
        unfold gof at e3
        rw [hon i j hi hj hk hne, hk] at e3
        have e4 : ¬ V i j < Hi i j := fun z => e3 (by rw [decide_eq_true z]; rfl)
        show ((Hi i j : Nat) : Int) ≤ ((V i j : Nat) : Int)
        omega)
    (fun i j hi hj e1 e2 hk hne => by
      have e3 : ¬ bt (s (12 + j)) i = true := fun z => by have e9 : R i = false := e1; rw [c3 (12 + j) i (by omega) (by omega) e2 z] at e9; exact absurd e9 (by decide)
      rw [hS (12 + j) i (by omega) (by omega), stE_b hi hj] at e3
      unfold gob at e3
      rw [hon i j hi hj hk hne, hk] at e3
      have e4 : ¬ Lo i j < V i j := fun z => e3 (by rw [decide_eq_true z]; rfl)
      show ((V i j : Nat) : Int) ≤ ((Lo i j : Nat) : Int)
      omega)
  have q2 : ((w r c : Nat) : Int) ≤ ((V r c : Nat) : Int) := q
  omega
/-! the reference's search: what is reached is what has a before -/
def Rf (fr : Nat → Int32) (v : Nat) : Bool := decide (v < 24) && !decide (fr v = -1)
theorem Rf_t {fr : Nat → Int32} {v : Nat} (h1 : v < 24) (h2 : ¬ fr v = -1) : Rf fr v = true := by unfold Rf; rw [decide_eq_true h1, decide_eq_false h2]; rfl
theorem Rf_f {fr : Nat → Int32} {v : Nat} (h : fr v = -1) : Rf fr v = false := by unfold Rf; rw [decide_eq_true h]; simp
theorem Rf_24 {fr : Nat → Int32} : Rf fr 24 = false := by unfold Rf; rw [decide_eq_false (by omega)]; rfl
theorem Rf_of {fr : Nat → Int32} {v : Nat} (h : Rf fr v = true) : v < 24 ∧ ¬ fr v = -1 := by
  unfold Rf at h
  simp only [Bool.and_eq_true, decide_eq_true_eq, Bool.not_eq_true', decide_eq_false_iff_not] at h
  exact h
theorem Rf_u {fr : Nat → Int32} {o nd v : Nat} (ho : o < 24) (hnd : nd < 25) : Rf (upd fr o (nI nd)) v = orR (Rf fr) o v := by
  by_cases e : v = o
  · subst e
    rw [orR_o]
    exact Rf_t ho (by rw [pk_us]; exact nI_nm1 (by omega))
  · unfold orR
    rw [decide_eq_false e, Bool.or_false]
    unfold Rf; rw [pk_un e]
theorem Rf_cnt {fr : Nat → Int32} {o nd : Nat} (ho : o < 24) (hnd : nd < 25) (h : fr o = -1) : cntN 25 (Rf (upd fr o (nI nd))) = cntN 25 (Rf fr) + 1 := by
  rw [cntN_c 25 (fun k _ => Rf_u ho hnd)]
  exact cntN_add 25 (by omega) (Rf_f h)
theorem Rf_le {fr : Nat → Int32} : cntN 25 (Rf fr) ≤ 24 := by
  have := cntN_lt_n (f := Rf fr) 25 (r := 24) (by omega) Rf_24
  omega
/-- a way whose nodes all are reached -/
def WAYF (s : Nat → Int32) (u0 t0 : Nat) (fr : Nat → Int32) : Prop := ∃ L : Nat → Nat, lvOK (fun u v => bt (s u) v) L ∧ L u0 = 0 ∧ L t0 ≤ 25 ∧ ∃ Q : Nat → Prop, Q t0 ∧ (∀ v, Q v → ¬ fr v = -1) ∧ ∀ v, v < 25 → Q v → v ≠ u0 → ∃ u, u < 25 ∧ fr v = nI u ∧ Q u ∧ bt (s u) v = true ∧ L v = L u + 1
theorem WAYF_w {s fr : Nat → Int32} {u0 t0 : Nat} (h : WAYF s u0 t0 fr) : WAY s u0 t0 fr := by
  obtain ⟨L, a, b, c, Q, d, _, e⟩ := h
  exact ⟨L, a, b, c, Q, d, e⟩
theorem WAYF_u {s fr : Nat → Int32} {u0 t0 o : Nat} {x : Int32} (h : WAYF s u0 t0 fr) (ho : fr o = -1) : WAYF s u0 t0 (upd fr o x) := by
  obtain ⟨L, a, b, c, Q, d, q, e⟩ := h
  have ne : ∀ v, Q v → v ≠ o := fun v hv z => q v hv (by rw [z]; exact ho)
  refine ⟨L, a, b, c, Q, d, fun v hv => by rw [pk_un (ne v hv)]; exact q v hv, fun v hv hq hne => ?_⟩
  obtain ⟨u, e1, e2, e3, e4, e5⟩ := e v hv hq hne
  exact ⟨u, e1, by rw [pk_un (ne v hq)]; exact e2, e3, e4, e5⟩
theorem BI_wayF {s fr qq : Nat → Int32} {u0 t0 n fl nd : Nat} {lev : Nat → Nat} (h : BI s u0 t0 fr qq (Rf fr) lev n fl) (hfl : fl ≤ 25) (hn : n < fl) (hnd : nd < 25) (ht : t0 < 25) (hq : qq n = nI nd) (hb : bt (s nd) t0 = true) (hR : fr t0 = -1) : WAYF s u0 t0 (upd fr t0 (nI nd)) := by
  have hle := lev_le h hn hnd hq
  have hRt : ¬ Rf fr t0 = true := by rw [Rf_f hR]; decide
  obtain ⟨h1, h2, h3, h4, h5, h6, h7, h8⟩ := h
  have hRnd : Rf fr nd = true ∧ lev nd ≤ n := by
    obtain ⟨v, hv, a, b, c⟩ := h1 n hn
    have e := (nI_eq (by omega) (by omega)).mp (a.symm.trans hq)
    rw [← e]; exact ⟨b, c⟩
  refine ⟨wL (Rf fr) lev (lev nd + 1), fun u v hu hv e => ?_, (wL_t h3.1).trans h3.2, by rw [wL_f hRt]; omega, fun v => v = t0 ∨ Rf fr v = true, Or.inl rfl, fun v hQ => ?_, fun v hv hQ hne => ?_⟩
  · have lv_ : wL (Rf fr) lev (lev nd + 1) v ≤ lev nd + 1 := by
      by_cases c : Rf fr v = true
      · rw [wL_t c]; exact hle v hv c
      · rw [wL_f c]; exact Nat.le_refl _
    by_cases c : Rf fr u = true
    · rw [wL_t c]
      obtain ⟨k, hk, ek⟩ := h2 u hu c
      rcases Nat.lt_or_ge k n with d | d
      · have q := h5 k u v d hk hu hv ek e
        rw [wL_t q.1]; exact q.2
      · have q := (h6 n k nd u d hk hnd hu hq ek).1
        omega
    · rw [wL_f c]; omega
  · by_cases e : v = t0
    · subst e; rw [pk_us]; exact nI_nm1 (by omega)
    · rw [pk_un e]; exact (Rf_of (hQ.resolve_left e)).2
  · by_cases e : v = t0
    · subst e
      exact ⟨nd, hnd, pk_us, Or.inr hRnd.1, hb, by rw [wL_f hRt, wL_t hRnd.1]⟩
    · have hr := hQ.resolve_left e
      obtain ⟨u, a, b, c, d, f⟩ := h4 v hv hr hne
      exact ⟨u, a, by rw [pk_un e]; exact c, Or.inr b, d, by rw [wL_t hr, wL_t b]; exact f⟩
def WIF (s : Nat → Int32) (a b2 : Nat) (fr : Nat → Int32) (fl : Nat) : Prop := WAYF s a b2 fr ∧ ¬ fr b2 = -1 ∧ cntN 25 (Rf fr) = fl
/-- between two nodes of the queue -/
def WVO (ok : Nat → Prop) (s : Nat → Int32) (a b2 : Nat) (fr qu : Nat → Int32) (n fl : Nat) : Prop := ((∃ lev, BI s a b2 fr qu (Rf fr) lev n fl) ∧ fr b2 = -1 ∧ ∀ v, Rf fr v = true → ok v) ∨ WIF s a b2 fr fl
/-- among one node's steps -/
def WVS (ok : Nat → Prop) (s : Nat → Int32) (a b2 nd lo j : Nat) (fr qu : Nat → Int32) (n fl : Nat) : Prop := ((∃ lev, BI s a b2 fr qu (Rf fr) lev n fl) ∧ fr b2 = -1 ∧ (∀ v, Rf fr v = true → ok v) ∧ ∀ v, lo ≤ v → v < j → bt (s nd) v = true → Rf fr v = true) ∨ WIF s a b2 fr fl
section WV
variable {ok : Nat → Prop} {s fr qu : Nat → Int32} {a b2 nd lo j n fl : Nat}
theorem WVO_0 (ha : a < 24) (hab : a ≠ b2) (h : ∀ v, v < 24 → fr v = -1) (hb : b2 < 24) (hok : ok a) : WVO ok s a b2 (upd fr a (nI a)) (upd qu 0 (nI a)) 0 1 := by
  have eR : ∀ v, v < 25 → Rf (upd fr a (nI a)) v = decide (v = a) := fun v hv => by
    by_cases e : v = a
    · rw [decide_eq_true e, e]; exact Rf_t ha (by rw [pk_us]; exact nI_nm1 (by omega))
    · rw [decide_eq_false e]
      by_cases c : v < 24
      · exact Rf_f (by rw [pk_un e]; exact h v c)
      · rw [show v = 24 by omega]; exact Rf_24
  refine Or.inl ⟨⟨fun _ => 0, BI_c (by omega) (by omega) (BI_0 (by omega)) eR⟩, by rw [pk_un (fun z => hab z.symm)]; exact h b2 hb, fun v hv => ?_⟩
  have := Rf_of hv
  rw [eR v (by omega)] at hv
  rw [of_decide_eq_true hv]; exact hok
theorem WVS_cnt (h : WVS ok s a b2 nd lo j fr qu n fl) : cntN 25 (Rf fr) = fl := h.elim (fun z => by obtain ⟨lev, h⟩ := z.1; exact h.2.2.2.2.2.2.2) (fun z => z.2.2)
theorem WVS_0 (h : WVO ok s a b2 fr qu n fl) : WVS ok s a b2 nd lo lo fr qu n fl := h.imp (fun z => ⟨z.1, z.2.1, z.2.2, fun v h1 h2 => absurd h2 (by omega)⟩) id
theorem WVS_n (h : WVS ok s a b2 nd lo j fr qu n fl) (hj : bt (s nd) j = true → Rf fr j = true) : WVS ok s a b2 nd lo (j + 1) fr qu n fl := h.imp (fun z => ⟨z.1, z.2.1, z.2.2.1, fun v h1 h2 h3 => by
  by_cases e : v = j
  · rw [e]; rw [e] at h3; exact hj h3
  · exact z.2.2.2 v h1 (by omega) h3⟩) id
theorem WVS_p (h : WVS ok s a b2 nd lo j fr qu n fl) (ha : a < 24) (hn : n < fl) (hnd : nd < 24) (hq : qu n = nI nd) (hj : j < 24) (hf : fr j = -1) (hb : bt (s nd) j = true) (hok : ok j) (hb2 : b2 < 24) : WVS ok s a b2 nd lo (j + 1) (upd fr j (nI nd)) (upd qu fl (nI j)) n (fl + 1) := by
  have hc := WVS_cnt h
  have hc2 : cntN 25 (Rf (upd fr j (nI nd))) = fl + 1 := by rw [Rf_cnt hj (by omega) hf, hc]
  have hle : fl ≤ 24 := by rw [← hc]; exact Rf_le
  rcases h with ⟨⟨lev, h1⟩, h2, h3, h4⟩ | h
  · by_cases e : j = b2
    · subst e
      exact Or.inr ⟨BI_wayF h1 (by omega) hn (by omega) (by omega) hq hb hf, by rw [pk_us]; exact nI_nm1 (by omega), hc2⟩
    · have hp := BI_c (R2 := Rf (upd fr j (nI nd))) (by omega) (by omega) (BI_push h1 hn (by omega) hq (by omega) (Rf_f hf) hb e) (fun v _ => Rf_u hj (by omega))
      refine Or.inl ⟨⟨_, hp⟩, by rw [pk_un (fun z => e z.symm)]; exact h2, fun v hv => ?_, fun v h5 h6 h7 => ?_⟩
      · rw [Rf_u hj (by omega)] at hv
        by_cases c : v = j
        · rw [c]; exact hok
        · exact h3 v (orR_i hv c)
      · rw [Rf_u hj (by omega)]
        by_cases c : v = j
        · rw [c]; exact orR_o
        · exact orR_t (h4 v h5 (by omega) h7)
  · exact Or.inr ⟨WAYF_u h.1 hf, by
      by_cases c : b2 = j
      · rw [c, pk_us]; exact nI_nm1 (by omega)
      · rw [pk_un c]; exact h.2.1, hc2⟩
theorem WVO_s (h : WVS ok s a b2 nd lo j fr qu n fl) (hn : n < fl) (hnd : nd < 24) (hq : qu n = nI nd) (hall : ∀ v, v < 25 → bt (s nd) v = true → lo ≤ v ∧ v < j) : WVO ok s a b2 fr qu (n + 1) fl := by
  rcases h with ⟨⟨lev, h1⟩, h2, h3, h4⟩ | h
  · exact Or.inl ⟨⟨lev, BI_adv h1 hn (by omega) hq (fun v hv hb => h4 v (hall v hv hb).1 (hall v hv hb).2 hb)⟩, h2, h3⟩
  · exact Or.inr h
theorem WVO_clo (h : WVO ok s a b2 fr qu n fl) (hn : fl ≤ n) (hb : fr b2 = -1) : CLB s a b2 (Rf fr) := by
  rcases h with ⟨⟨lev, h1⟩, h2, _⟩ | h
  · obtain ⟨g1, g2, g3, g4, g5, _⟩ := h1
    refine ⟨g3.1, Rf_f hb, fun u v hu hv hr hbt => ?_⟩
    obtain ⟨k, hk, ek⟩ := g2 u hu hr
    exact (g5 k u v (by omega) hk hu hv ek hbt).1
  · exact absurd hb h.2.1
theorem WVO_at (h : WVO ok s a b2 fr qu n fl) (hb : fr b2 = -1) (hn : n < fl) : ∃ nd, nd < 24 ∧ qu n = nI nd ∧ ok nd := by
  rcases h with ⟨⟨lev, h1⟩, h2, h3⟩ | h
  · obtain ⟨v, hv, e1, e2, _⟩ := h1.1 n hn
    exact ⟨v, (Rf_of e2).1, e1, h3 v e2⟩
  · exact absurd hb h.2.1
theorem WVO_way (h : WVO ok s a b2 fr qu n fl) (hb : ¬ fr b2 = -1) : WAY s a b2 fr := h.elim (fun z => absurd z.2.1 hb) (fun z => WAYF_w z.1)
end WV
