
/-! the cells of one class, those of them that are kept, a table cut down to them -/
def dmR (so cs : Nat → Int32) (rw cl : Nat) (cc : Int32) (x y : Nat) : Bool := decide (x < rw) && decide (y < cl) && !decide (so x = 0) && decide (cs x = cc)
def kpR (so cs kp : Nat → Int32) (rw cl : Nat) (cc : Int32) (x y : Nat) : Bool := dmR so cs rw cl cc x y && !decide (kp (x * 12 + y) = 0)
def rsT (dm : Nat → Nat → Bool) (V : Nat → Nat → Nat) (x y : Nat) : Nat := if dm x y = true then V x y else 0
def jnT (dm : Nat → Nat → Bool) (A V : Nat → Nat → Nat) (x y : Nat) : Nat := if dm x y = true then A x y else V x y
theorem dmR_of {so cs : Nat → Int32} {rw cl x y : Nat} {cc : Int32} (h : dmR so cs rw cl cc x y = true) : x < rw ∧ y < cl ∧ ¬ so x = 0 ∧ cs x = cc := by
  unfold dmR at h
  simp only [Bool.and_eq_true, decide_eq_true_eq, Bool.not_eq_true', decide_eq_false_iff_not] at h
  exact ⟨h.1.1.1, h.1.1.2, h.1.2, h.2⟩
theorem dmR_mk {so cs : Nat → Int32} {rw cl x y : Nat} {cc : Int32} (h1 : x < rw) (h2 : y < cl) (h3 : ¬ so x = 0) (h4 : cs x = cc) : dmR so cs rw cl cc x y = true := by
  unfold dmR
  rw [decide_eq_true h1, decide_eq_true h2, decide_eq_false h3, decide_eq_true h4]; rfl
theorem kpR_of {so cs kp : Nat → Int32} {rw cl x y : Nat} {cc : Int32} (h : kpR so cs kp rw cl cc x y = true) : dmR so cs rw cl cc x y = true ∧ ¬ kp (x * 12 + y) = 0 := by
  unfold kpR at h
  simp only [Bool.and_eq_true, Bool.not_eq_true', decide_eq_false_iff_not] at h
  exact h
theorem kpR_mk {so cs kp : Nat → Int32} {rw cl x y : Nat} {cc : Int32} (h : dmR so cs rw cl cc x y = true) (hk : ¬ kp (x * 12 + y) = 0) : kpR so cs kp rw cl cc x y = true := by
  unfold kpR; rw [h, decide_eq_false hk]; rfl
theorem kpR_no {so cs kp : Nat → Int32} {rw cl x y : Nat} {cc : Int32} (hk : kp (x * 12 + y) = 0) : kpR so cs kp rw cl cc x y = false := by
  unfold kpR; rw [decide_eq_true hk, Bool.not_true, Bool.and_false]
theorem rsT_t {dm : Nat → Nat → Bool} {V : Nat → Nat → Nat} {x y : Nat} (h : dm x y = true) : rsT dm V x y = V x y := if_pos h
theorem rsT_f {dm : Nat → Nat → Bool} {V : Nat → Nat → Nat} {x y : Nat} (h : dm x y = false) : rsT dm V x y = 0 := if_neg (by rw [h]; decide)
theorem jnT_t {dm : Nat → Nat → Bool} {A V : Nat → Nat → Nat} {x y : Nat} (h : dm x y = true) : jnT dm A V x y = A x y := if_pos h
theorem jnT_f {dm : Nat → Nat → Bool} {A V : Nat → Nat → Nat} {x y : Nat} (h : dm x y = false) : jnT dm A V x y = V x y := if_neg (by rw [h]; decide)
theorem bo (b : Bool) : b = true ∨ b = false := by cases b <;> simp
theorem agN_c {kp : Nat → Nat → Bool} {Lo Hi V0 V w : Nat → Nat → Nat} (h : agN kp Lo Hi V0 V) (e : ∀ x y, x < 12 → y < 12 → w x y = V x y) : agN kp Lo Hi V0 w := by
  obtain ⟨h1, h2, h3, h4⟩ := h
  refine ⟨fun x y hx hy hk => ?_, fun x y hx hy hk => ?_, fun x hx => ?_, fun y hy => ?_⟩
  · show ((w x y : Nat) : Int) = _
    rw [e x y hx hy]; exact h1 x y hx hy hk
  · show ((Lo x y : Nat) : Int) ≤ ((w x y : Nat) : Int) ∧ ((w x y : Nat) : Int) ≤ _
    rw [e x y hx hy]; exact h2 x y hx hy hk
  · exact (sumI_c 12 (fun y hy => by show ((w x y : Nat) : Int) = ((V x y : Nat) : Int); rw [e x y hx hy])).trans (h3 x hx)
  · exact (sumI_c 12 (fun x hx => by show ((w x y : Nat) : Int) = ((V x y : Nat) : Int); rw [e x y hx hy])).trans (h4 y hy)
theorem SYN_c {kp on on2 : Nat → Nat → Bool} {V V2 Lo Hi : Nat → Nat → Nat} {s : Nat → Int32} (h : SYN kp V Lo Hi on s) (e1 : ∀ x y, x < 12 → y < 12 → on2 x y = on x y) (e2 : ∀ x y, x < 12 → y < 12 → V2 x y = V x y) : SYN kp V2 Lo Hi on2 s := fun u v hu hv => by
  rw [h u v hu hv]
  unfold stE gof gob
  by_cases c1 : u < 12 ∧ 12 ≤ v ∧ v < 24
  · rw [if_pos c1, if_pos c1, e1 u (v - 12) (by omega) (by omega), e2 u (v - 12) (by omega) (by omega)]
  · rw [if_neg c1, if_neg c1]
    by_cases c2 : v < 12 ∧ 12 ≤ u ∧ u < 24
    · rw [if_pos c2, if_pos c2, e1 v (u - 12) (by omega) (by omega), e2 v (u - 12) (by omega) (by omega)]
    · rw [if_neg c2, if_neg c2]
theorem SYN_rf2 {kp on on2 : Nat → Nat → Bool} {V Lo Hi : Nat → Nat → Nat} {s kr va lo hi : Nat → Int32} {i j : Nat} (h : SYN kp V Lo Hi on s) (hi' : i < 12) (hj : j < 12) (hon : ∀ a b, ¬ (a = i ∧ b = j) → on2 a b = on a b) (ho : on2 i j = true) (hk : ¬ kr (i * 12 + j) = 0 ↔ kp i j = true) (hv : va (i * 12 + j) = nI (V i j)) (hl : lo (i * 12 + j) = nI (Lo i j)) (hh : hi (i * 12 + j) = nI (Hi i j)) (b1 : V i j ≤ 1073741824) (b2 : Lo i j ≤ 1073741824) (b3 : Hi i j ≤ 1073741824) : SYN kp V Lo Hi on2 (rfS kr va lo hi s i j) := by
  unfold rfS
  refine SYN_join h hi' hj (fun _ _ _ => rfl) hon ?_ ?_
  · unfold gof; rw [ho]; exact mo_go hk hv hh (by omega) (by omega)
  · unfold gob; rw [ho]; exact le_go hk hv hl (by omega) (by omega)
/-- what the reader holds: numbers, bounds, and in each class a table that agrees with the true one -/
def RVL (so va lo hi : Nat → Int32) (rw cl : Nat) (V Lo Hi : Nat → Nat → Nat) : Prop := ∀ x y, x < rw → y < cl → ¬ so x = 0 → va (x * 12 + y) = nI (V x y) ∧ lo (x * 12 + y) = nI (Lo x y) ∧ hi (x * 12 + y) = nI (Hi x y) ∧ Hi x y ≤ 1073741824 ∧ V x y ≤ Hi x y ∧ Lo x y ≤ V x y
def RDI (so cs kp va lo hi : Nat → Int32) (rw cl : Nat) (V0 V Lo Hi : Nat → Nat → Nat) : Prop := rw ≤ 12 ∧ cl ≤ 12 ∧ (∀ x, x < rw → ¬ cs x = -2) ∧ RVL so va lo hi rw cl V Lo Hi ∧ ∀ cc, agN (kpR so cs kp rw cl cc) Lo Hi (rsT (dmR so cs rw cl cc) V0) (rsT (dmR so cs rw cl cc) V)
/-- the steps are those of the class that was entered -/
def RSY (so cs kp : Nat → Int32) (rw cl : Nat) (V Lo Hi : Nat → Nat → Nat) (en : Int32) (s : Nat → Int32) : Prop := en = -2 ∨ SYN (kpR so cs kp rw cl en) (rsT (dmR so cs rw cl en) V) Lo Hi (dmR so cs rw cl en) s
section RD
variable {so cs kp va lo hi : Nat → Int32} {rw cl : Nat} {V0 V Lo Hi : Nat → Nat → Nat}
theorem RD_row (h : RDI so cs kp va lo hi rw cl V0 V Lo Hi) (cc : Int32) : rowV (dmR so cs rw cl cc) (rsT (dmR so cs rw cl cc) V) va ∧ rowV (dmR so cs rw cl cc) Lo lo ∧ rowV (dmR so cs rw cl cc) Hi hi := by
  refine ⟨fun x y hx hy e => ?_, fun x y hx hy e => ?_, fun x y hx hy e => ?_⟩
  · obtain ⟨a1, a2, a3, _⟩ := dmR_of e
    rw [rsT_t e]; exact (h.2.2.2.1 x y a1 a2 a3).1
  · obtain ⟨a1, a2, a3, _⟩ := dmR_of e
    exact (h.2.2.2.1 x y a1 a2 a3).2.1
  · obtain ⟨a1, a2, a3, _⟩ := dmR_of e
    exact (h.2.2.2.1 x y a1 a2 a3).2.2.1
theorem RD_bnd (h : RDI so cs kp va lo hi rw cl V0 V Lo Hi) (cc : Int32) : BND (dmR so cs rw cl cc) Lo Hi (rsT (dmR so cs rw cl cc) V) := fun x y e => by
  obtain ⟨a1, a2, a3, _⟩ := dmR_of e
  have q := h.2.2.2.1 x y a1 a2 a3
  have q1 := h.1
  have q2 := h.2.1
  rw [rsT_t e]
  exact ⟨by omega, by omega, q.2.2.2⟩
theorem RD_kr (h : RDI so cs kp va lo hi rw cl V0 V Lo Hi) (cc : Int32) (x y : Nat) (e : dmR so cs rw cl cc x y = true) : ¬ kp (x * 12 + y) = 0 ↔ kpR so cs kp rw cl cc x y = true := ⟨fun z => kpR_mk e z, fun z => (kpR_of z).2⟩
/-- the reader's table behind a draw in one class -/
theorem RD_set {va2 : Nat → Int32} {A : Nat → Nat → Nat} (h : RDI so cs kp va lo hi rw cl V0 V Lo Hi) (cc : Int32) (h1 : rowV (dmR so cs rw cl cc) A va2) (h2 : agN (kpR so cs kp rw cl cc) Lo Hi (rsT (dmR so cs rw cl cc) V0) A) (h3 : BND (dmR so cs rw cl cc) Lo Hi A) (h4 : ∀ x y, x < 12 → y < 12 → dmR so cs rw cl cc x y = false → va2 (x * 12 + y) = va (x * 12 + y)) : RDI so cs kp va2 lo hi rw cl V0 (jnT (dmR so cs rw cl cc) A V) Lo Hi := by
  obtain ⟨r1, r2, r3, r4, r5⟩ := h
  refine ⟨r1, r2, r3, fun x y hx hy hs => ?_, fun c2 => ?_⟩
  · have q := r4 x y hx hy hs
    rcases bo (dmR so cs rw cl cc x y) with e | e
    · rw [jnT_t e]
      have b := h3 x y e
      exact ⟨h1 x y (by omega) (by omega) e, q.2.1, q.2.2.1, b.2.2⟩
    · rw [jnT_f e, h4 x y (by omega) (by omega) e]; exact q
  · by_cases e : c2 = cc
    · rw [e]
      refine agN_c h2 (fun x y hx hy => ?_)
      rcases bo (dmR so cs rw cl cc x y) with d | d
      · rw [rsT_t d, jnT_t d]
      · rw [rsT_f d]
        have q : ((A x y : Nat) : Int) = ((rsT (dmR so cs rw cl cc) V0 x y : Nat) : Int) := h2.1 x y hx hy (by unfold kpR; rw [d]; rfl)
        rw [rsT_f d] at q; omega
    · refine agN_c (r5 c2) (fun x y hx hy => ?_)
      rcases bo (dmR so cs rw cl c2 x y) with d | d
      · rw [rsT_t d, rsT_t d]
        refine jnT_f ?_
        rcases bo (dmR so cs rw cl cc x y) with d2 | d2
        · exact absurd ((dmR_of d).2.2.2.symm.trans (dmR_of d2).2.2.2) e
        · exact d2
      · rw [rsT_f d, rsT_f d]
theorem RD_jn {A : Nat → Nat → Nat} (cc : Int32) (h2 : agN (kpR so cs kp rw cl cc) Lo Hi (rsT (dmR so cs rw cl cc) V0) A) (x y : Nat) (hx : x < 12) (hy : y < 12) : rsT (dmR so cs rw cl cc) (jnT (dmR so cs rw cl cc) A V) x y = A x y := by
  rcases bo (dmR so cs rw cl cc x y) with d | d
  · rw [rsT_t d, jnT_t d]
  · rw [rsT_f d]
    have q : ((A x y : Nat) : Int) = ((rsT (dmR so cs rw cl cc) V0 x y : Nat) : Int) := h2.1 x y hx hy (by unfold kpR; rw [d]; rfl)
    rw [rsT_f d] at q; omega
end RD
/-! enter: the steps of a class, from a row on -/
def onE (dm : Nat → Nat → Bool) (a0 i m x y : Nat) : Bool := dm x y && decide (a0 ≤ x) && (decide (x < i) || (decide (x = i) && decide (y < m)))
theorem onE_0 {dm : Nat → Nat → Bool} {a0 x y : Nat} : onE dm a0 a0 0 x y = false := by
  unfold onE
  by_cases c : a0 ≤ x
  · rw [decide_eq_false (show ¬ x < a0 by omega), decide_eq_false (show ¬ y < 0 by omega)]; simp
  · rw [decide_eq_false c]; simp
theorem onE_n {dm : Nat → Nat → Bool} {a0 i m x y : Nat} (h : ¬ (x = i ∧ y = m)) : onE dm a0 i (m + 1) x y = onE dm a0 i m x y := by
  unfold onE
  by_cases c : x = i
  · have d : ¬ y = m := fun z => h ⟨c, z⟩
    by_cases e : y < m
    · rw [decide_eq_true e, decide_eq_true (show y < m + 1 by omega)]
    · rw [decide_eq_false e, decide_eq_false (show ¬ y < m + 1 by omega)]
  · rw [decide_eq_false c]; simp
theorem onE_s {dm : Nat → Nat → Bool} {a0 i m : Nat} (h : dm i m = true) (ha : a0 ≤ i) : onE dm a0 i (m + 1) i m = true := by
  unfold onE; rw [h, decide_eq_true ha, decide_eq_true (show i = i from rfl), decide_eq_true (show m < m + 1 by omega)]; simp
theorem onE_row {dm : Nat → Nat → Bool} {a0 i m x y : Nat} (h : dm x y = true → x = i → y < m) : onE dm a0 (i + 1) 0 x y = onE dm a0 i m x y := by
  unfold onE
  rcases bo (dm x y) with d | d
  · by_cases c : x = i
    · rw [decide_eq_true (show x < i + 1 by omega), decide_eq_true c, decide_eq_true (h d c), decide_eq_false (show ¬ x < i by omega)]; simp
    · by_cases e : x < i
      · rw [decide_eq_true (show x < i + 1 by omega), decide_eq_true e]; simp
      · rw [decide_eq_false (show ¬ x < i + 1 by omega), decide_eq_false e, decide_eq_false c, decide_eq_false (show ¬ y < 0 by omega)]; simp
  · rw [d]; simp
theorem SYN_row {kp dm : Nat → Nat → Bool} {V Lo Hi : Nat → Nat → Nat} {s kr va lo hi : Nat → Int32} {a0 i : Nat} (hi' : i < 12) (ha : a0 ≤ i) (hk : ∀ y, y < 12 → dm i y = true → (¬ kr (i * 12 + y) = 0 ↔ kp i y = true)) (hv : rowV dm V va) (hl : rowV dm Lo lo) (hh : rowV dm Hi hi) (hB : BND dm Lo Hi V) (h : SYN kp V Lo Hi (onE dm a0 i 0) s) : ∀ n, n ≤ 12 → (∀ y, y < n → dm i y = true) → SYN kp V Lo Hi (onE dm a0 i n) (rfR kr va lo hi s i n)
  | 0, _, _ => h
  | n + 1, hn, hd => by
    have hm := hd n (by omega)
    have b := hB i n hm
    exact SYN_rf2 (SYN_row hi' ha hk hv hl hh hB h n (by omega) (fun y hy => hd y (by omega))) hi' (by omega) (fun a b hne => onE_n hne) (onE_s hm ha) (hk n (by omega) hm) (hv i n hi' (by omega) hm) (hl i n hi' (by omega) hm) (hh i n hi' (by omega) hm) (by omega) (by omega) (by omega)
theorem SYN_en {so cs kp va lo hi : Nat → Int32} {rw cl a0 : Nat} {cc : Int32} {V Lo Hi : Nat → Nat → Nat} {s : Nat → Int32} (hrw : rw ≤ 12) (hcl : cl ≤ 12) (hv : rowV (dmR so cs rw cl cc) V va) (hl : rowV (dmR so cs rw cl cc) Lo lo) (hh : rowV (dmR so cs rw cl cc) Hi hi) (hB : BND (dmR so cs rw cl cc) Lo Hi V) : ∀ n, a0 + n ≤ rw → SYN (kpR so cs kp rw cl cc) V Lo Hi (onE (dmR so cs rw cl cc) a0 (a0 + n) 0) (enR so cs cc kp va lo hi (flF s 0 25) cl a0 n)
  | 0, _ => by
    show SYN _ _ _ _ _ (flF s 0 25)
    exact SYN_c SYN_0 (fun x y _ _ => onE_0) (fun _ _ _ _ => rfl)
  | n + 1, hn => by
    have ih := SYN_en (kp := kp) (s := s) (a0 := a0) hrw hcl hv hl hh hB n (by omega)
    by_cases c : ¬ so (a0 + n) = 0 ∧ cs (a0 + n) = cc
    · rw [enR_p c]
      refine SYN_c (SYN_row (by omega) (by omega) (fun y hy e => ⟨fun z => kpR_mk e z, fun z => (kpR_of z).2⟩) hv hl hh hB ih cl hcl (fun y hy => dmR_mk (by omega) hy c.1 c.2)) (fun x y _ _ => ?_) (fun _ _ _ _ => rfl)
      exact onE_row (fun d _ => (dmR_of d).2.1)
    · rw [enR_n c]
      refine SYN_c ih (fun x y _ _ => ?_) (fun _ _ _ _ => rfl)
      exact onE_row (i := a0 + n) (fun d e => absurd (by have e2 : x = a0 + n := e; rw [← e2]; exact ⟨(dmR_of d).2.2.1, (dmR_of d).2.2.2⟩) c)
theorem SYN_all {so cs kp va lo hi : Nat → Int32} {rw cl : Nat} {cc : Int32} {V Lo Hi : Nat → Nat → Nat} {s : Nat → Int32} (hrw : rw ≤ 12) (hcl : cl ≤ 12) (hv : rowV (dmR so cs rw cl cc) V va) (hl : rowV (dmR so cs rw cl cc) Lo lo) (hh : rowV (dmR so cs rw cl cc) Hi hi) (hB : BND (dmR so cs rw cl cc) Lo Hi V) : SYN (kpR so cs kp rw cl cc) V Lo Hi (dmR so cs rw cl cc) (enR so cs cc kp va lo hi (flF s 0 25) cl 0 (rw - 0)) := by
  have h := SYN_en (kp := kp) (s := s) (a0 := 0) hrw hcl hv hl hh hB rw (by omega)
  rw [Nat.sub_zero]
  refine SYN_c h (fun x y _ _ => ?_) (fun _ _ _ _ => rfl)
  unfold onE
  rcases bo (dmR so cs rw cl cc x y) with d | d
  · rw [d, decide_eq_true (Nat.zero_le x), decide_eq_true (show x < 0 + rw by have := (dmR_of d).1; omega)]; simp
  · rw [d]; simp
/-! when a cell is safe -/
def SAFR (K : Nat → Nat → Bool) (Lo Hi N : Nat → Nat → Nat) (i j dn up : Nat) : Prop := (K i j = true ∧ (∃ w, agN K Lo Hi N w ∧ w i j ≤ N i j - dn) ∧ ∃ w, agN K Lo Hi N w ∧ N i j + up ≤ w i j) ∨ (K i j = false ∧ N i j - dn = N i j ∧ up = 0)
theorem SAF_k {K : Nat → Nat → Bool} {Lo Hi N : Nat → Nat → Nat} {i j dn up : Nat} (h : K i j = true) : SAFR K Lo Hi N i j dn up ↔ (∃ w, agN K Lo Hi N w ∧ w i j ≤ N i j - dn) ∧ ∃ w, agN K Lo Hi N w ∧ N i j + up ≤ w i j := by
  unfold SAFR
  constructor
  · rintro (q | q)
    · exact q.2
    · rw [h] at q; exact absurd q.1 (by decide)
  · exact fun q => Or.inl ⟨h, q⟩
theorem SAF_n {K : Nat → Nat → Bool} {Lo Hi N : Nat → Nat → Nat} {i j dn up : Nat} (h : K i j = false) : SAFR K Lo Hi N i j dn up ↔ (N i j - dn = N i j ∧ up = 0) := by
  unfold SAFR
  constructor
  · rintro (q | q)
    · rw [h] at q; exact absurd q.1 (by decide)
    · exact q.2
  · exact fun q => Or.inr ⟨h, q⟩
theorem max_nI {v z : Int32} {a b : Nat} (e : v = if 0 < z then z else 0) (ez : z = nI a - nI b) (ha : a < 2147483648) (hb : b < 2147483648) : v = nI (a - b) := by
  by_cases c : b ≤ a
  · rw [pk_sub c] at ez
    by_cases d : 0 < a - b
    · have hp : (0 : Int32) < nI (a - b) := nI_lt (a := 0) d (by omega)
      rw [e, ez, if_pos hp]
    · have hz : ¬ (0 : Int32) < nI 0 := by decide
      rw [e, ez, show a - b = 0 by omega, if_neg hz]; rfl
  · have e1 : z = -(nI (b - a)) := by rw [ez, ← pk_sub (show a ≤ b by omega), Int32.neg_sub]
    have h0 : z ≤ 0 := by rw [e1]; exact (Int32.neg_nonpos_iff _).mpr (Or.inr (nI_pos' (by omega)))
    rw [e, if_neg (Int32.not_lt.mpr h0), show a - b = 0 by omega]; rfl
theorem SYN_rb {kp : Nat → Nat → Bool} {V Lo Hi : Nat → Nat → Nat} {on : Nat → Nat → Bool} {s : Nat → Int32} (h : SYN kp V Lo Hi on s) : RB adjR s := fun u v hu hv hb => by
  rw [h u v hu hv] at hb
  unfold stE at hb
  by_cases c : u < 12 ∧ 12 ≤ v ∧ v < 24
  · exact Or.inl c
  · rw [if_neg c] at hb
    by_cases d : v < 12 ∧ 12 ≤ u ∧ u < 24
    · exact Or.inr ⟨d.2.1, d.2.2, d.1⟩
    · rw [if_neg d] at hb; exact absurd hb (by decide)
theorem EN_nolow {K : Nat → Nat → Bool} {Lo Hi N V2 : Nat → Nat → Nat} {i j dn up wt : Nat} (hk : K i j = true) (he : ENDS K Lo Hi N i j wt V2) (hlt : wt < V2 i j) (hw : wt = N i j - dn) : ¬ SAFR K Lo Hi N i j dn up := fun z => by
  obtain ⟨⟨w, h1, h2⟩, _⟩ := (SAF_k hk).mp z
  rcases he with e | e | e
  · omega
  · have := e.2 w h1; omega
  · omega
theorem EN_nohigh {K : Nat → Nat → Bool} {Lo Hi N V2 : Nat → Nat → Nat} {i j dn up wt : Nat} (hk : K i j = true) (he : ENDS K Lo Hi N i j wt V2) (hlt : V2 i j < wt) (hw : wt = N i j + up) : ¬ SAFR K Lo Hi N i j dn up := fun z => by
  obtain ⟨_, w, h1, h2⟩ := (SAF_k hk).mp z
  rcases he with e | e | e
  · omega
  · omega
  · have := e.2 w h1; omega
theorem EN_least {K : Nat → Nat → Bool} {Lo Hi N V2 w : Nat → Nat → Nat} {i j : Nat} (hk : K i j = true) (he : ENDS K Lo Hi N i j (Lo i j) V2) (hb : Lo i j ≤ V2 i j) (h : agN K Lo Hi N w) (hi : i < 12) (hj : j < 12) : V2 i j ≤ w i j := by
  have q := agN_b h i j hi hj hk
  rcases he with e | e | e
  · omega
  · exact e.2 w h
  · omega
theorem EN_most {K : Nat → Nat → Bool} {Lo Hi N V2 w : Nat → Nat → Nat} {i j : Nat} (hk : K i j = true) (he : ENDS K Lo Hi N i j (Hi i j) V2) (hb : V2 i j ≤ Hi i j) (h : agN K Lo Hi N w) (hi : i < 12) (hj : j < 12) : w i j ≤ V2 i j := by
  have q := agN_b h i j hi hj hk
  rcases he with e | e | e
  · omega
  · omega
  · exact e.2 w h
set_option maxHeartbeats 4000000 in
set_option maxRecDepth 100000 in
theorem e_X2_isSafe (l : Launch) (G : GG) (a b : Nat → Nat) (f qf : Nat → Int32) (r q : Nat → Nat → Int32) (i : Nat) (j : Nat) (rw : Nat) (cl : Nat) (dn : Nat) (up : Nat) (V0 : Nat → Nat → Nat) (V : Nat → Nat → Nat) (Lo : Nat → Nat → Nat) (Hi : Nat → Nat → Nat) (hi : i < rw) (hj : j < cl) (hsi : ¬ (r 6) i = 0) (h0 : (f 0) = nI rw) (h1 : (f 1) = nI cl) (h2 : (f 2) = nI dn) (h3 : (f 3) = nI up) (hdn : dn ≤ 1000000) (hup : up ≤ 1000000) (hnu : (r 9) (i * 12 + j) = nI (V0 i j)) (hnb : V0 i j ≤ 1073741824) (hRD : RDI (r 6) (r 7) (r 11) (r 12) (r 13) (r 14) rw cl V0 V Lo Hi) (hRS : RSY (r 6) (r 7) (r 11) rw cl V Lo Hi (f 4) (q 0)) (hRB : RB adjR (q 0)) : WrI l yX2_isSafe cX2_isSafe 8 (some .boolean) ({ frames := 4, cells := 0, slots := 0, locals := 107 }) G (rdW G a b f qf r q) [.ref (a 15), .int (nI i), .int (nI j)] (fun qz w => ∃ (n_f_4 : Int32) (n_q_0 : Nat → Int32) (n_q_1 : Nat → Int32) (n_q_2 : Nat → Int32) (n_qf_3 : Int32) (n_r_12 : Nat → Int32) (V3 : Nat → Nat → Nat), w = rdW G a b (upd f 4 n_f_4) (upd qf 3 n_qf_3) (up2 r 12 n_r_12) (up2 (up2 (up2 q 0 n_q_0) 1 n_q_1) 2 n_q_2) ∧ ((qz = 1 ∧ (SAFR (kpR (r 6) (r 7) (r 11) rw cl ((r 7) i)) Lo Hi (rsT (dmR (r 6) (r 7) rw cl ((r 7) i)) V0) i j dn up)) ∨ (qz = 0 ∧ ¬ (SAFR (kpR (r 6) (r 7) (r 11) rw cl ((r 7) i)) Lo Hi (rsT (dmR (r 6) (r 7) rw cl ((r 7) i)) V0) i j dn up))) ∧ (RDI (r 6) (r 7) (r 11) n_r_12 (r 13) (r 14) rw cl V0 V3 Lo Hi) ∧ (RSY (r 6) (r 7) (r 11) rw cl V3 Lo Hi n_f_4 n_q_0) ∧ (RB adjR n_q_0)) := by
  refine wr_entryI (by decide +kernel) (Nat.le_of_ble_eq_true rfl) ?_
  intro p e s m below meth c A C0 hP hK hD hA ls hl
  have hS : va_S A s.heap s.heap [] := va_S.rf
  obtain ⟨hx, hb, hml, hown, hts, hr, hlocks, hin⟩ := C0
  have hown : s.vm.findClass RX2 = some m.cls := hown
  have hDD : ∀ f' qf' r' q', va_D A (rdW G a b f' qf' r' q') := fun f' qf' r' q' => D_same hD rfl
  have hl : lv_has ls 8 [(0, .ref (a 15)), (1, .int (nI i)), (2, .int (nI j))] := hl
  have hr12 := hRD.1
  have hc12 := hRD.2.1
  obtain ⟨hv0, hl0, hh0⟩ := RD_row hRD (r 7 i)
  have hB0 := RD_bnd hRD (r 7 i)
  have hG0 := hRD.2.2.2.2 (r 7 i)
  have hdij : (dmR (r 6) (r 7) rw cl (r 7 i)) i j = true := dmR_mk hi hj hsi rfl
  have hBi := hB0 i j hdij
  have hN : rsT (dmR (r 6) (r 7) rw cl (r 7 i)) V0 i j = V0 i j := rsT_t hdij
  have hVi : rsT (dmR (r 6) (r 7) rw cl (r 7 i)) V i j = V i j := rsT_t hdij
  refine lv_iload_n hx hb dX2_isSafe_0 rfl (lv_at hl 1 rfl) ?_
  refine lv_iload_n hx hb dX2_isSafe_1 rfl (lv_at hl 2 rfl) ?_
  refine rdSN (rest := []) ⟨hx, hb, hml, hown, hts⟩ (c_X6_spotOf l G ((nI i)) ((nI j))) mi_yX6_spotOf mst_yX6_spotOf (by decide +kernel) ⟨rfl, rfl, Nat.le_of_ble_eq_true rfl, Nat.le_of_ble_eq_true rfl⟩ hK (fun k q h => by simp at h) rfl hl.1 rfl (Nat.le_of_ble_eq_true rfl) dX2_isSafe_2 ⟨Nat.zero_le _, Nat.zero_le _⟩ hS hA hP (fun r1 H locs hr1 hP hS => ?_)
  obtain rfl : r1 = nI (i * 12 + j) := spot_eq hr1
  refine lv_istore_n (lv' := [(3, .int (nI (i * 12 + j))), (0, .ref (a 15)), (1, .int (nI i)), (2, .int (nI j))]) hx hb dX2_isSafe_5 rfl hl (by decide) rfl (fun ls hl => ?_)
  refine lv_iconst (v := 0) hx hb dX2_isSafe_6 (by decide) ?_
  refine lv_aload_n hx hb dX2_isSafe_7 rfl (lv_at hl 1 rfl) ?_
  refine va_get (D := G.1) (ci := 2) (v := .ref (a 9)) (C := RX2) (T := TX2) (N := 15) hx hb hts inX2 hown hK.1 hP 0 rfl rfl 9 (by decide) (hts _ mf_X2_45) (fun _ h9 => h9) rfl dX2_isSafe_8 ?_
  refine lv_iload_n hx hb dX2_isSafe_11 rfl (lv_at hl 0 rfl) ?_
  refine xiald (f := (r 9)) hx hb hK hP 4 ((i * 12 + j)) (rfl) (by omega) (by decide) rfl dX2_isSafe_12 ?_
  refine lv_topi (fun v2 ev2 => ?_)
  obtain rfl : v2 = nI (V0 i j) := ev2.trans (hnu)
  refine lv_aload_n hx hb dX2_isSafe_13 rfl (lv_at hl 1 rfl) ?_
  refine va_get (D := G.1) (ci := 2) (v := .int (f 2)) (C := RX2) (T := TX2) (N := 15) hx hb hts inX2 hown hK.1 hP 0 rfl rfl 2 (by decide) (hts _ mf_X2_18) (fun _ h9 => h9) rfl dX2_isSafe_14 ?_
  rw [show (f 2) = nI (dn) from h2]
  refine lv_isub hx hb dX2_isSafe_17 ?_
  refine lv_topi (fun v3 ev3 => ?_)
  refine va_mmax hx hb (hml.trans hl.1.symm) hown (hts _ ml_X2_152) (hts _ mst_yJ9_max_7cf53) (hts _ mz_RJ9) (hts _ mcode_yJ9_max_7cf53) (Nat.le_of_ble_eq_true rfl) (Nat.le_of_ble_eq_true rfl) (Nat.zero_le _) (Nat.zero_le _) dX2_isSafe_18 ?_
  refine lv_topi (fun v4 ev4 => ?_)
  obtain rfl : v4 = nI (V0 i j - dn) := max_nI ev4 ev3 (by omega) (by omega)
  refine lv_istore (lv' := [(4, .int (nI (V0 i j - dn))), (3, .int (nI (i * 12 + j))), (0, .ref (a 15)), (1, .int (nI i)), (2, .int (nI j))]) hx hb dX2_isSafe_21 hl (by decide) rfl (fun ls hl => ?_)
  refine lv_aload_n hx hb dX2_isSafe_23 rfl (lv_at hl 2 rfl) ?_
  refine va_get (D := G.1) (ci := 2) (v := .ref (a 9)) (C := RX2) (T := TX2) (N := 15) hx hb hts inX2 hown hK.1 hP 0 rfl rfl 9 (by decide) (hts _ mf_X2_45) (fun _ h9 => h9) rfl dX2_isSafe_24 ?_
  refine lv_iload_n hx hb dX2_isSafe_27 rfl (lv_at hl 1 rfl) ?_
  refine xiald (f := (r 9)) hx hb hK hP 4 ((i * 12 + j)) (rfl) (by omega) (by decide) rfl dX2_isSafe_28 ?_
  refine lv_topi (fun v5 ev5 => ?_)
  obtain rfl : v5 = nI (V0 i j) := ev5.trans (hnu)
  refine lv_aload_n hx hb dX2_isSafe_29 rfl (lv_at hl 2 rfl) ?_
  refine va_get (D := G.1) (ci := 2) (v := .int (f 3)) (C := RX2) (T := TX2) (N := 15) hx hb hts inX2 hown hK.1 hP 0 rfl rfl 3 (by decide) (hts _ mf_X2_21) (fun _ h9 => h9) rfl dX2_isSafe_30 ?_
  rw [show (f 3) = nI (up) from h3]
  refine lv_iadd hx hb dX2_isSafe_33 ?_
  refine lv_topi (fun v6 ev6 => ?_)
  obtain rfl : v6 = nI ((V0 i j) + (up)) := nI_plus ev6 rfl rfl
  refine lv_istore (lv' := [(5, .int (nI ((V0 i j) + (up)))), (4, .int (nI (V0 i j - dn))), (3, .int (nI (i * 12 + j))), (0, .ref (a 15)), (1, .int (nI i)), (2, .int (nI j))]) hx hb dX2_isSafe_34 hl (by decide) rfl (fun ls hl => ?_)
  refine lv_aload_n hx hb dX2_isSafe_36 rfl (lv_at hl 3 rfl) ?_
  refine va_get (D := G.1) (ci := 2) (v := .ref (a 11)) (C := RX2) (T := TX2) (N := 15) hx hb hts inX2 hown hK.1 hP 0 rfl rfl 11 (by decide) (hts _ mf_X2_51) (fun _ h9 => h9) rfl dX2_isSafe_37 ?_
  refine lv_iload_n hx hb dX2_isSafe_40 rfl (lv_at hl 2 rfl) ?_
  refine xzald (f := (r 11)) hx hb hK hP 6 ((i * 12 + j)) (rfl) (by omega) (by decide) rfl dX2_isSafe_41 ?_
  refine lv_topi (fun v7 ev7 => ?_)
  refine lv_if_ne (tgt := 73) hx hb dX2_isSafe_42 (by decide) (fun c8 => ?_) (fun c8 => ?_)
  · have hkij : (kpR (r 6) (r 7) (r 11) rw cl (r 7 i)) i j = true := kpR_mk hdij (fun z9 => c8 (ev7.trans z9))
    have hkb := agN_b hG0 i j (by omega) (by omega) hkij
    refine lv_iload hx hb dX2_isSafe_73 (lv_at hl 1 rfl) ?_
    refine lv_aload_n hx hb dX2_isSafe_75 rfl (lv_at hl 3 rfl) ?_
    refine va_get (D := G.1) (ci := 2) (v := .ref (a 13)) (C := RX2) (T := TX2) (N := 15) hx hb hts inX2 hown hK.1 hP 0 rfl rfl 13 (by decide) (hts _ mf_X2_57) (fun _ h9 => h9) rfl dX2_isSafe_76 ?_
    refine lv_iload_n hx hb dX2_isSafe_79 rfl (lv_at hl 2 rfl) ?_
    refine xiald (f := (r 13)) hx hb hK hP 8 ((i * 12 + j)) (rfl) (by omega) (by decide) rfl dX2_isSafe_80 ?_
    refine lv_topi (fun v9 ev9 => ?_)
    obtain rfl : v9 = nI (Lo i j) := ev9.trans (hl0 i j (by omega) (by omega) hdij)
    refine lv_icmp_lt (tgt := 95) hx hb dX2_isSafe_81 (by decide) (fun c10 => ?_) (fun c10 => ?_)
    · have b81 := qlt_t (a := (V0 i j - dn)) (b := (Lo i j)) (by omega) (by omega) c10
      refine lv_iconst (v := 0) hx hb dX2_isSafe_95 (by decide) ?_
      exact wr_zret hx hb hr hlocks (Or.inl rfl) hS hP ⟨(f 4), (q 0), (q 1), (q 2), (qf 3), (r 12), _, rfl, (Or.inr ⟨rfl, fun z9 => by obtain ⟨⟨w9, h9, h8⟩, w7, h7, h6⟩ := (SAF_k hkij).mp z9; have h5 := agN_b h9 i j (by omega) (by omega) hkij; have h4 := agN_b h7 i j (by omega) (by omega) hkij; rw [hN] at h8 h6; omega⟩), hRD, hRS, hRB⟩ dX2_isSafe_96
    · have b81 := qlt_f (a := (V0 i j - dn)) (b := (Lo i j)) (by omega) (by omega) c10
      refine lv_iload hx hb dX2_isSafe_84 (lv_at hl 0 rfl) ?_
      refine lv_aload_n hx hb dX2_isSafe_86 rfl (lv_at hl 3 rfl) ?_
      refine va_get (D := G.1) (ci := 2) (v := .ref (a 14)) (C := RX2) (T := TX2) (N := 15) hx hb hts inX2 hown hK.1 hP 0 rfl rfl 14 (by decide) (hts _ mf_X2_60) (fun _ h9 => h9) rfl dX2_isSafe_87 ?_
      refine lv_iload_n hx hb dX2_isSafe_90 rfl (lv_at hl 2 rfl) ?_
      refine xiald (f := (r 14)) hx hb hK hP 9 ((i * 12 + j)) (rfl) (by omega) (by decide) rfl dX2_isSafe_91 ?_
      refine lv_topi (fun v11 ev11 => ?_)
      obtain rfl : v11 = nI (Hi i j) := ev11.trans (hh0 i j (by omega) (by omega) hdij)
      refine lv_icmp_le (tgt := 97) hx hb dX2_isSafe_92 (by decide) (fun c12 => ?_) (fun c12 => ?_)
      · have b92 := qle_t (a := ((V0 i j) + (up))) (b := (Hi i j)) (by omega) (by omega) c12
        refine lv_aload_n hx hb dX2_isSafe_97 rfl (lv_at hl 3 rfl) ?_
        refine va_get (D := G.1) (ci := 2) (v := .int (f 4)) (C := RX2) (T := TX2) (N := 15) hx hb hts inX2 hown hK.1 hP 0 rfl rfl 4 (by decide) (hts _ mf_X2_24) (fun _ h9 => h9) rfl dX2_isSafe_98 ?_
        refine lv_aload_n hx hb dX2_isSafe_101 rfl (lv_at hl 3 rfl) ?_
        refine va_get (D := G.1) (ci := 2) (v := .ref (a 7)) (C := RX2) (T := TX2) (N := 15) hx hb hts inX2 hown hK.1 hP 0 rfl rfl 7 (by decide) (hts _ mf_X2_38) (fun _ h9 => h9) rfl dX2_isSafe_102 ?_
        refine lv_iload_n hx hb dX2_isSafe_105 rfl (lv_at hl 4 rfl) ?_
        refine xiald (f := (r 7)) hx hb hK hP 2 (i) (rfl) (by omega) (by decide) rfl dX2_isSafe_106 ?_
        refine lv_topi (fun v13 ev13 => ?_)
        obtain rfl : v13 = (r 7 i) := ev13.trans (rfl)
        have j121_15 : ∀ (x14 : Int32) (x15 : Nat → Int32) (hSY : SYN (kpR (r 6) (r 7) (r 11) rw cl (r 7 i)) (rsT (dmR (r 6) (r 7) rw cl (r 7 i)) V) Lo Hi (dmR (r 6) (r 7) rw cl (r 7 i)) x15) (hf4 : x14 = r 7 i) (H : Heap) (locs : List Loc) (ls : Array Slot), PP G (rdW G a b (upd f 4 x14) qf r (up2 q 0 x15)) H → va_S A s.heap H locs → lv_has ls 8 [(5, .int (nI ((V0 i j) + (up)))), (4, .int (nI (V0 i j - dn))), (3, .int (nI (i * 12 + j))), (0, .ref (a 15)), (1, .int (nI i)), (2, .int (nI j))] → W p l e ({ frames := 4, cells := 0, slots := 0, locals := 107 }) s m ([.ref (a 15), .int (nI i), .int (nI j)] : List Value).toArray below meth c H locs 0 0 (MQ below (QwI G (fun qz w => ∃ (n_f_4 : Int32) (n_q_0 : Nat → Int32) (n_q_1 : Nat → Int32) (n_q_2 : Nat → Int32) (n_qf_3 : Int32) (n_r_12 : Nat → Int32) (V3 : Nat → Nat → Nat), w = rdW G a b (upd f 4 n_f_4) (upd qf 3 n_qf_3) (up2 r 12 n_r_12) (up2 (up2 (up2 q 0 n_q_0) 1 n_q_1) 2 n_q_2) ∧ ((qz = 1 ∧ (SAFR (kpR (r 6) (r 7) (r 11) rw cl ((r 7) i)) Lo Hi (rsT (dmR (r 6) (r 7) rw cl ((r 7) i)) V0) i j dn up)) ∨ (qz = 0 ∧ ¬ (SAFR (kpR (r 6) (r 7) (r 11) rw cl ((r 7) i)) Lo Hi (rsT (dmR (r 6) (r 7) rw cl ((r 7) i)) V0) i j dn up))) ∧ (RDI (r 6) (r 7) (r 11) n_r_12 (r 13) (r 14) rw cl V0 V3 Lo Hi) ∧ (RSY (r 6) (r 7) (r 11) rw cl V3 Lo Hi n_f_4 n_q_0) ∧ (RB adjR n_q_0)) A) ([.ref (a 15), .int (nI i), .int (nI j)] : List Value).toArray s 0 0 A) (F0 m 121 ls []) := by
          intro x14 x15 hSY hf4 H locs ls hP hS hl
          refine lv_aload_n hx hb dX2_isSafe_121 rfl (lv_at hl 3 rfl) ?_
          refine va_get (D := G.1) (ci := 2) (v := .ref (a 12)) (C := RX2) (T := TX2) (N := 15) hx hb hts inX2 hown hK.1 hP 0 rfl rfl 12 (by decide) (hts _ mf_X2_54) (fun _ h9 => h9) rfl dX2_isSafe_122 ?_
          refine lv_iload_n hx hb dX2_isSafe_125 rfl (lv_at hl 2 rfl) ?_
          refine xiald (f := (r 12)) hx hb hK hP 7 ((i * 12 + j)) (rfl) (by omega) (by decide) rfl dX2_isSafe_126 ?_
          refine lv_topi (fun v16 ev16 => ?_)
          obtain rfl : v16 = nI ((rsT (dmR (r 6) (r 7) rw cl (r 7 i)) V) i j) := ev16.trans (hv0 i j (by omega) (by omega) hdij)
          refine lv_iload hx hb dX2_isSafe_127 (lv_at hl 1 rfl) ?_
          refine lv_icmp_gt (tgt := 136) hx hb dX2_isSafe_129 (by decide) (fun c17 => ?_) (fun c17 => ?_)
          · have b129 := qgt_t (a := ((rsT (dmR (r 6) (r 7) rw cl (r 7 i)) V) i j)) (b := (V0 i j - dn)) (by omega) (by omega) c17
            refine lv_iconst (v := 0) hx hb dX2_isSafe_136 (by decide) ?_
            refine lv_istore (lv' := [(6, .int 0), (5, .int (nI ((V0 i j) + (up)))), (4, .int (nI (V0 i j - dn))), (3, .int (nI (i * 12 + j))), (0, .ref (a 15)), (1, .int (nI i)), (2, .int (nI j))]) hx hb dX2_isSafe_137 hl (by decide) rfl (fun ls hl => ?_)
            refine lv_iload hx hb dX2_isSafe_139 (lv_at hl 0 rfl) ?_
            refine lv_if_ne (tgt := 170) hx hb dX2_isSafe_141 (by decide) (fun c18 => absurd rfl c18) (fun c18 => ?_)
            refine lv_aload_n hx hb dX2_isSafe_144 rfl (lv_at hl 4 rfl) ?_
            refine lv_iload_n hx hb dX2_isSafe_145 rfl (lv_at hl 5 rfl) ?_
            refine lv_iload_n hx hb dX2_isSafe_146 rfl (lv_at hl 6 rfl) ?_
            refine lv_iload hx hb dX2_isSafe_147 (lv_at hl 2 rfl) ?_
            refine wrVVa (rest := []) (q0 := 0) ⟨hx, hb, hml, hown, hts⟩ (e_X2_draw l G a b (upd f 4 x14) qf r (up2 q 0 x15) i j (V0 i j - dn) (rsT (dmR (r 6) (r 7) rw cl (r 7 i)) V0) (rsT (dmR (r 6) (r 7) rw cl (r 7 i)) V) Lo Hi (kpR (r 6) (r 7) (r 11) rw cl (r 7 i)) (dmR (r 6) (r 7) rw cl (r 7 i)) (dmR (r 6) (r 7) rw cl (r 7 i)) (by omega) (by omega) (by omega) (by omega) hdij hkij (fun x y e9 => e9) (fun x y _ _ z9 n9 => (kpR_of z9).1) hSY hv0 hl0 hh0 (fun x y _ _ e9 => RD_kr hRD _ x y e9) hB0 hG0) mi_yX2_draw mv_yX2_draw ml_X2_149 ⟨rfl, rfl, Nat.le_of_ble_eq_true rfl, Nat.le_of_ble_eq_true rfl⟩ hK hP (hDD _ _ _ _) rfl rfl rfl hl.1 rfl (Nat.le_of_ble_eq_true rfl) dX2_isSafe_149 ⟨Nat.zero_le _, Nat.zero_le _⟩ hS hA (fun w20 H locs hw20 hP hS => ?_)
            obtain ⟨x21, x22, x23, x24, x25, V2, rfl, hv2, hs2, ha2, hb2, hf2, he2⟩ := hw20
            have hP : PP G (rdW G a b (upd f 4 x14) (upd qf 3 x24) (up2 r 12 x25) (up2 (up2 (up2 q 0 x21) 1 x22) 2 x23)) H := hP
            have hv2 : rowV (dmR (r 6) (r 7) rw cl (r 7 i)) V2 x25 := hv2
            have hs2 : SYN (kpR (r 6) (r 7) (r 11) rw cl (r 7 i)) V2 Lo Hi (offT (dmR (r 6) (r 7) rw cl (r 7 i)) i j) x21 := hs2
            have ha2 : agN (kpR (r 6) (r 7) (r 11) rw cl (r 7 i)) Lo Hi (rsT (dmR (r 6) (r 7) rw cl (r 7 i)) V0) V2 := ha2
            have hb2 : BND (dmR (r 6) (r 7) rw cl (r 7 i)) Lo Hi V2 := hb2
            have hf2 : ∀ x y, x < 12 → y < 12 → (dmR (r 6) (r 7) rw cl (r 7 i)) x y = false → x25 (x * 12 + y) = (r 12) (x * 12 + y) := hf2
            have he2 : ENDS (kpR (r 6) (r 7) (r 11) rw cl (r 7 i)) Lo Hi (rsT (dmR (r 6) (r 7) rw cl (r 7 i)) V0) i j (V0 i j - dn) V2 := he2
            have hRDn := RD_set hRD (r 7 i) hv2 ha2 hb2 hf2
            have hBi2 := hb2 i j hdij
            refine lv_aload_n hx hb dX2_isSafe_152 rfl (lv_at hl 4 rfl) ?_
            refine va_get (D := G.1) (ci := 2) (v := .ref (a 12)) (C := RX2) (T := TX2) (N := 15) hx hb hts inX2 hown hK.1 hP 0 rfl rfl 12 (by decide) (hts _ mf_X2_54) (fun _ h9 => h9) rfl dX2_isSafe_153 ?_
            refine lv_iload_n hx hb dX2_isSafe_156 rfl (lv_at hl 3 rfl) ?_
            refine xiald (f := x25) hx hb hK hP 7 ((i * 12 + j)) (rfl) (by omega) (by decide) rfl dX2_isSafe_157 ?_
            refine lv_topi (fun v26 ev26 => ?_)
            obtain rfl : v26 = nI (V2 i j) := ev26.trans (hv2 i j (by omega) (by omega) hdij)
            refine lv_iload hx hb dX2_isSafe_158 (lv_at hl 2 rfl) ?_
            refine lv_icmp_gt (tgt := 167) hx hb dX2_isSafe_160 (by decide) (fun c27 => ?_) (fun c27 => ?_)
            · have b160 := qgt_t (a := (V2 i j)) (b := (V0 i j - dn)) (by omega) (by omega) c27
              refine lv_iconst (v := 0) hx hb dX2_isSafe_167 (by decide) ?_
              refine lv_istore (lv' := [(6, .int 0), (5, .int (nI ((V0 i j) + (up)))), (4, .int (nI (V0 i j - dn))), (3, .int (nI (i * 12 + j))), (0, .ref (a 15)), (1, .int (nI i)), (2, .int (nI j))]) hx hb dX2_isSafe_168 hl (by decide) rfl (fun ls hl => ?_)
              refine lv_iload hx hb dX2_isSafe_170 (lv_at hl 0 rfl) ?_
              refine lv_if_eq (tgt := 190) hx hb dX2_isSafe_172 (by decide) (fun c28 => ?_) (fun c28 => absurd (by decide) c28)
              refine lv_iconst (v := 0) hx hb dX2_isSafe_190 (by decide) ?_
              refine lv_istore (lv' := [(7, .int 0), (6, .int 0), (5, .int (nI ((V0 i j) + (up)))), (4, .int (nI (V0 i j - dn))), (3, .int (nI (i * 12 + j))), (0, .ref (a 15)), (1, .int (nI i)), (2, .int (nI j))]) hx hb dX2_isSafe_191 hl (by decide) rfl (fun ls hl => ?_)
              refine lv_iload hx hb dX2_isSafe_193 (lv_at hl 1 rfl) ?_
              refine lv_if_eq (tgt := 229) hx hb dX2_isSafe_195 (by decide) (fun c29 => ?_) (fun c29 => absurd (by decide) c29)
              refine lv_aload_n hx hb dX2_isSafe_229 rfl (lv_at hl 5 rfl) ?_
              refine lv_iload_n hx hb dX2_isSafe_230 rfl (lv_at hl 6 rfl) ?_
              refine lv_iload_n hx hb dX2_isSafe_231 rfl (lv_at hl 7 rfl) ?_
              refine wrVVa (rest := []) (q0 := 0) ⟨hx, hb, hml, hown, hts⟩ (e_X2_refresh l G a b (upd f 4 x14) (upd qf 3 x24) (up2 r 12 x25) (up2 (up2 (up2 q 0 x21) 1 x22) 2 x23) i j  (by omega) (by omega)) mi_yX2_refresh mv_yX2_refresh ml_X2_117 ⟨rfl, rfl, Nat.le_of_ble_eq_true rfl, Nat.le_of_ble_eq_true rfl⟩ hK hP (hDD _ _ _ _) rfl rfl rfl hl.1 rfl (Nat.le_of_ble_eq_true rfl) dX2_isSafe_232 ⟨Nat.zero_le _, Nat.zero_le _⟩ hS hA (fun w31 H locs hw31 hP hS => ?_)
              obtain ⟨x32, rfl, hrf⟩ := hw31
              have hP : PP G (rdW G a b (upd f 4 x14) (upd qf 3 x24) (up2 r 12 x25) (up2 (up2 (up2 q 0 x32) 1 x22) 2 x23)) H := hP
              have hrf : x32 = rfS (r 11) x25 (r 13) (r 14) x21 i j := hrf
              have hSf : SYN (kpR (r 6) (r 7) (r 11) rw cl (r 7 i)) V2 Lo Hi (dmR (r 6) (r 7) rw cl (r 7 i)) x32 := by rw [hrf]; exact SYN_rf2 hs2 (by omega) (by omega) (fun a9 b9 h9 => (offT_n h9).symm) hdij (RD_kr hRD _ i j hdij) (hv2 i j (by omega) (by omega) hdij) (hl0 i j (by omega) (by omega) hdij) (hh0 i j (by omega) (by omega) hdij) (by omega) (by omega) (by omega)
              refine lv_iload hx hb dX2_isSafe_235 (lv_at hl 0 rfl) ?_
              exact wr_zret hx hb hr hlocks (Or.inl rfl) hS hP ⟨x14, x32, x22, x23, x24, x25, _, rfl, (Or.inr ⟨rfl, EN_nolow hkij he2 (by omega) (by rw [hN])⟩), hRDn, (by rw [hf4]; exact Or.inr (SYN_c hSf (fun _ _ _ _ => rfl) (fun x y h8 h9 => RD_jn _ ha2 x y h8 h9))), (SYN_rb hSf)⟩ dX2_isSafe_237
            · have b160 := qgt_f (a := (V2 i j)) (b := (V0 i j - dn)) (by omega) (by omega) c27
              have hlowW : ∃ w9, agN (kpR (r 6) (r 7) (r 11) rw cl (r 7 i)) Lo Hi (rsT (dmR (r 6) (r 7) rw cl (r 7 i)) V0) w9 ∧ w9 i j ≤ (rsT (dmR (r 6) (r 7) rw cl (r 7 i)) V0) i j - dn := ⟨V2, ha2, by rw [hN]; exact b160⟩
              refine lv_iconst (v := 1) hx hb dX2_isSafe_163 (by decide) ?_
              refine lv_goto (tgt := 168) hx hb dX2_isSafe_164 (by decide) ?_
              refine lv_istore (lv' := [(6, .int 1), (5, .int (nI ((V0 i j) + (up)))), (4, .int (nI (V0 i j - dn))), (3, .int (nI (i * 12 + j))), (0, .ref (a 15)), (1, .int (nI i)), (2, .int (nI j))]) hx hb dX2_isSafe_168 hl (by decide) rfl (fun ls hl => ?_)
              refine lv_iload hx hb dX2_isSafe_170 (lv_at hl 0 rfl) ?_
              refine lv_if_eq (tgt := 190) hx hb dX2_isSafe_172 (by decide) (fun c33 => absurd c33 (by decide)) (fun c33 => ?_)
              refine lv_aload_n hx hb dX2_isSafe_175 rfl (lv_at hl 4 rfl) ?_
              refine va_get (D := G.1) (ci := 2) (v := .ref (a 12)) (C := RX2) (T := TX2) (N := 15) hx hb hts inX2 hown hK.1 hP 0 rfl rfl 12 (by decide) (hts _ mf_X2_54) (fun _ h9 => h9) rfl dX2_isSafe_176 ?_
              refine lv_iload_n hx hb dX2_isSafe_179 rfl (lv_at hl 3 rfl) ?_
              refine xiald (f := x25) hx hb hK hP 7 ((i * 12 + j)) (rfl) (by omega) (by decide) rfl dX2_isSafe_180 ?_
              refine lv_topi (fun v34 ev34 => ?_)
              obtain rfl : v34 = nI (V2 i j) := ev34.trans (hv2 i j (by omega) (by omega) hdij)
              refine lv_iload hx hb dX2_isSafe_181 (lv_at hl 1 rfl) ?_
              refine lv_icmp_lt (tgt := 190) hx hb dX2_isSafe_183 (by decide) (fun c35 => ?_) (fun c35 => ?_)
              · have b183 := qlt_t (a := (V2 i j)) (b := ((V0 i j) + (up))) (by omega) (by omega) c35
                refine lv_iconst (v := 0) hx hb dX2_isSafe_190 (by decide) ?_
                refine lv_istore (lv' := [(7, .int 0), (6, .int 1), (5, .int (nI ((V0 i j) + (up)))), (4, .int (nI (V0 i j - dn))), (3, .int (nI (i * 12 + j))), (0, .ref (a 15)), (1, .int (nI i)), (2, .int (nI j))]) hx hb dX2_isSafe_191 hl (by decide) rfl (fun ls hl => ?_)
                refine lv_iload hx hb dX2_isSafe_193 (lv_at hl 1 rfl) ?_
                refine lv_if_eq (tgt := 229) hx hb dX2_isSafe_195 (by decide) (fun c36 => absurd c36 (by decide)) (fun c36 => ?_)
                refine lv_iload hx hb dX2_isSafe_198 (lv_at hl 0 rfl) ?_
                refine lv_if_ne (tgt := 229) hx hb dX2_isSafe_200 (by decide) (fun c37 => absurd rfl c37) (fun c37 => ?_)
                refine lv_aload_n hx hb dX2_isSafe_203 rfl (lv_at hl 5 rfl) ?_
                refine lv_iload_n hx hb dX2_isSafe_204 rfl (lv_at hl 6 rfl) ?_
                refine lv_iload_n hx hb dX2_isSafe_205 rfl (lv_at hl 7 rfl) ?_
                refine lv_iload hx hb dX2_isSafe_206 (lv_at hl 2 rfl) ?_
                refine wrVVa (rest := []) (q0 := 0) ⟨hx, hb, hml, hown, hts⟩ (e_X2_draw l G a b (upd f 4 x14) (upd qf 3 x24) (up2 r 12 x25) (up2 (up2 (up2 q 0 x21) 1 x22) 2 x23) i j ((V0 i j) + (up)) (rsT (dmR (r 6) (r 7) rw cl (r 7 i)) V0) V2 Lo Hi (kpR (r 6) (r 7) (r 11) rw cl (r 7 i)) (offT (dmR (r 6) (r 7) rw cl (r 7 i)) i j) (dmR (r 6) (r 7) rw cl (r 7 i)) (by omega) (by omega) (by omega) (by omega) hdij hkij (fun x y e9 => offT_le e9) (fun x y _ _ z9 n9 => by rw [offT_n n9]; exact (kpR_of z9).1) hs2 hv2 hl0 hh0 (fun x y _ _ e9 => RD_kr hRD _ x y (offT_le e9)) hb2 ha2) mi_yX2_draw mv_yX2_draw ml_X2_149 ⟨rfl, rfl, Nat.le_of_ble_eq_true rfl, Nat.le_of_ble_eq_true rfl⟩ hK hP (hDD _ _ _ _) rfl rfl rfl hl.1 rfl (Nat.le_of_ble_eq_true rfl) dX2_isSafe_208 ⟨Nat.zero_le _, Nat.zero_le _⟩ hS hA (fun w39 H locs hw39 hP hS => ?_)
                obtain ⟨x40, x41, x42, x43, x44, V2, rfl, hv2, hs2, ha2, hb2, hf2, he2⟩ := hw39
                have hP : PP G (rdW G a b (upd f 4 x14) (upd qf 3 x43) (up2 r 12 x44) (up2 (up2 (up2 q 0 x40) 1 x41) 2 x42)) H := hP
                have hv2 : rowV (dmR (r 6) (r 7) rw cl (r 7 i)) V2 x44 := hv2
                have hs2 : SYN (kpR (r 6) (r 7) (r 11) rw cl (r 7 i)) V2 Lo Hi (offT (offT (dmR (r 6) (r 7) rw cl (r 7 i)) i j) i j) x40 := hs2
                have ha2 : agN (kpR (r 6) (r 7) (r 11) rw cl (r 7 i)) Lo Hi (rsT (dmR (r 6) (r 7) rw cl (r 7 i)) V0) V2 := ha2
                have hb2 : BND (dmR (r 6) (r 7) rw cl (r 7 i)) Lo Hi V2 := hb2
                have hf2 : ∀ x y, x < 12 → y < 12 → (dmR (r 6) (r 7) rw cl (r 7 i)) x y = false → x44 (x * 12 + y) = x25 (x * 12 + y) := hf2
                have he2 : ENDS (kpR (r 6) (r 7) (r 11) rw cl (r 7 i)) Lo Hi (rsT (dmR (r 6) (r 7) rw cl (r 7 i)) V0) i j ((V0 i j) + (up)) V2 := he2
                have hRDn := RD_set hRDn (r 7 i) hv2 ha2 hb2 hf2
                have hBi2 := hb2 i j hdij
                refine lv_aload_n hx hb dX2_isSafe_211 rfl (lv_at hl 5 rfl) ?_
                refine va_get (D := G.1) (ci := 2) (v := .ref (a 12)) (C := RX2) (T := TX2) (N := 15) hx hb hts inX2 hown hK.1 hP 0 rfl rfl 12 (by decide) (hts _ mf_X2_54) (fun _ h9 => h9) rfl dX2_isSafe_212 ?_
                refine lv_iload_n hx hb dX2_isSafe_215 rfl (lv_at hl 4 rfl) ?_
                refine xiald (f := x44) hx hb hK hP 7 ((i * 12 + j)) (rfl) (by omega) (by decide) rfl dX2_isSafe_216 ?_
                refine lv_topi (fun v45 ev45 => ?_)
                obtain rfl : v45 = nI (V2 i j) := ev45.trans (hv2 i j (by omega) (by omega) hdij)
                refine lv_iload hx hb dX2_isSafe_217 (lv_at hl 2 rfl) ?_
                refine lv_icmp_lt (tgt := 226) hx hb dX2_isSafe_219 (by decide) (fun c46 => ?_) (fun c46 => ?_)
                · have b219 := qlt_t (a := (V2 i j)) (b := ((V0 i j) + (up))) (by omega) (by omega) c46
                  refine lv_iconst (v := 0) hx hb dX2_isSafe_226 (by decide) ?_
                  refine lv_istore (lv' := [(7, .int 0), (6, .int 1), (5, .int (nI ((V0 i j) + (up)))), (4, .int (nI (V0 i j - dn))), (3, .int (nI (i * 12 + j))), (0, .ref (a 15)), (1, .int (nI i)), (2, .int (nI j))]) hx hb dX2_isSafe_227 hl (by decide) rfl (fun ls hl => ?_)
                  refine lv_aload_n hx hb dX2_isSafe_229 rfl (lv_at hl 5 rfl) ?_
                  refine lv_iload_n hx hb dX2_isSafe_230 rfl (lv_at hl 6 rfl) ?_
                  refine lv_iload_n hx hb dX2_isSafe_231 rfl (lv_at hl 7 rfl) ?_
                  refine wrVVa (rest := []) (q0 := 0) ⟨hx, hb, hml, hown, hts⟩ (e_X2_refresh l G a b (upd f 4 x14) (upd qf 3 x43) (up2 r 12 x44) (up2 (up2 (up2 q 0 x40) 1 x41) 2 x42) i j  (by omega) (by omega)) mi_yX2_refresh mv_yX2_refresh ml_X2_117 ⟨rfl, rfl, Nat.le_of_ble_eq_true rfl, Nat.le_of_ble_eq_true rfl⟩ hK hP (hDD _ _ _ _) rfl rfl rfl hl.1 rfl (Nat.le_of_ble_eq_true rfl) dX2_isSafe_232 ⟨Nat.zero_le _, Nat.zero_le _⟩ hS hA (fun w48 H locs hw48 hP hS => ?_)
                  obtain ⟨x49, rfl, hrf⟩ := hw48
                  have hP : PP G (rdW G a b (upd f 4 x14) (upd qf 3 x43) (up2 r 12 x44) (up2 (up2 (up2 q 0 x49) 1 x41) 2 x42)) H := hP
                  have hrf : x49 = rfS (r 11) x44 (r 13) (r 14) x40 i j := hrf
                  have hSf : SYN (kpR (r 6) (r 7) (r 11) rw cl (r 7 i)) V2 Lo Hi (dmR (r 6) (r 7) rw cl (r 7 i)) x49 := by rw [hrf]; exact SYN_rf2 hs2 (by omega) (by omega) (fun a9 b9 h9 => by rw [offT_n h9, offT_n h9]) hdij (RD_kr hRD _ i j hdij) (hv2 i j (by omega) (by omega) hdij) (hl0 i j (by omega) (by omega) hdij) (hh0 i j (by omega) (by omega) hdij) (by omega) (by omega) (by omega)
                  refine lv_iload hx hb dX2_isSafe_235 (lv_at hl 0 rfl) ?_
                  exact wr_zret hx hb hr hlocks (Or.inl rfl) hS hP ⟨x14, x49, x41, x42, x43, x44, _, rfl, (Or.inr ⟨rfl, EN_nohigh hkij he2 (by omega) (by rw [hN])⟩), hRDn, (by rw [hf4]; exact Or.inr (SYN_c hSf (fun _ _ _ _ => rfl) (fun x y h8 h9 => RD_jn _ ha2 x y h8 h9))), (SYN_rb hSf)⟩ dX2_isSafe_237
                · have b219 := qlt_f (a := (V2 i j)) (b := ((V0 i j) + (up))) (by omega) (by omega) c46
                  refine lv_iconst (v := 1) hx hb dX2_isSafe_222 (by decide) ?_
                  refine lv_goto (tgt := 227) hx hb dX2_isSafe_223 (by decide) ?_
                  refine lv_istore (lv' := [(7, .int 1), (6, .int 1), (5, .int (nI ((V0 i j) + (up)))), (4, .int (nI (V0 i j - dn))), (3, .int (nI (i * 12 + j))), (0, .ref (a 15)), (1, .int (nI i)), (2, .int (nI j))]) hx hb dX2_isSafe_227 hl (by decide) rfl (fun ls hl => ?_)
                  refine lv_aload_n hx hb dX2_isSafe_229 rfl (lv_at hl 5 rfl) ?_
                  refine lv_iload_n hx hb dX2_isSafe_230 rfl (lv_at hl 6 rfl) ?_
                  refine lv_iload_n hx hb dX2_isSafe_231 rfl (lv_at hl 7 rfl) ?_
                  refine wrVVa (rest := []) (q0 := 0) ⟨hx, hb, hml, hown, hts⟩ (e_X2_refresh l G a b (upd f 4 x14) (upd qf 3 x43) (up2 r 12 x44) (up2 (up2 (up2 q 0 x40) 1 x41) 2 x42) i j  (by omega) (by omega)) mi_yX2_refresh mv_yX2_refresh ml_X2_117 ⟨rfl, rfl, Nat.le_of_ble_eq_true rfl, Nat.le_of_ble_eq_true rfl⟩ hK hP (hDD _ _ _ _) rfl rfl rfl hl.1 rfl (Nat.le_of_ble_eq_true rfl) dX2_isSafe_232 ⟨Nat.zero_le _, Nat.zero_le _⟩ hS hA (fun w51 H locs hw51 hP hS => ?_)
                  obtain ⟨x52, rfl, hrf⟩ := hw51
                  have hP : PP G (rdW G a b (upd f 4 x14) (upd qf 3 x43) (up2 r 12 x44) (up2 (up2 (up2 q 0 x52) 1 x41) 2 x42)) H := hP
                  have hrf : x52 = rfS (r 11) x44 (r 13) (r 14) x40 i j := hrf
                  have hSf : SYN (kpR (r 6) (r 7) (r 11) rw cl (r 7 i)) V2 Lo Hi (dmR (r 6) (r 7) rw cl (r 7 i)) x52 := by rw [hrf]; exact SYN_rf2 hs2 (by omega) (by omega) (fun a9 b9 h9 => by rw [offT_n h9, offT_n h9]) hdij (RD_kr hRD _ i j hdij) (hv2 i j (by omega) (by omega) hdij) (hl0 i j (by omega) (by omega) hdij) (hh0 i j (by omega) (by omega) hdij) (by omega) (by omega) (by omega)
                  refine lv_iload hx hb dX2_isSafe_235 (lv_at hl 0 rfl) ?_
                  exact wr_zret hx hb hr hlocks (Or.inr rfl) hS hP ⟨x14, x52, x41, x42, x43, x44, _, rfl, (Or.inl ⟨rfl, (SAF_k hkij).mpr ⟨hlowW, V2, ha2, by rw [hN]; omega⟩⟩), hRDn, (by rw [hf4]; exact Or.inr (SYN_c hSf (fun _ _ _ _ => rfl) (fun x y h8 h9 => RD_jn _ ha2 x y h8 h9))), (SYN_rb hSf)⟩ dX2_isSafe_237
              · have b183 := qlt_f (a := (V2 i j)) (b := ((V0 i j) + (up))) (by omega) (by omega) c35
                refine lv_iconst (v := 1) hx hb dX2_isSafe_186 (by decide) ?_
                refine lv_goto (tgt := 191) hx hb dX2_isSafe_187 (by decide) ?_
                refine lv_istore (lv' := [(7, .int 1), (6, .int 1), (5, .int (nI ((V0 i j) + (up)))), (4, .int (nI (V0 i j - dn))), (3, .int (nI (i * 12 + j))), (0, .ref (a 15)), (1, .int (nI i)), (2, .int (nI j))]) hx hb dX2_isSafe_191 hl (by decide) rfl (fun ls hl => ?_)
                refine lv_iload hx hb dX2_isSafe_193 (lv_at hl 1 rfl) ?_
                refine lv_if_eq (tgt := 229) hx hb dX2_isSafe_195 (by decide) (fun c53 => absurd c53 (by decide)) (fun c53 => ?_)
                refine lv_iload hx hb dX2_isSafe_198 (lv_at hl 0 rfl) ?_
                refine lv_if_ne (tgt := 229) hx hb dX2_isSafe_200 (by decide) (fun c54 => ?_) (fun c54 => absurd c54 (by decide))
                refine lv_aload_n hx hb dX2_isSafe_229 rfl (lv_at hl 5 rfl) ?_
                refine lv_iload_n hx hb dX2_isSafe_230 rfl (lv_at hl 6 rfl) ?_
                refine lv_iload_n hx hb dX2_isSafe_231 rfl (lv_at hl 7 rfl) ?_
                refine wrVVa (rest := []) (q0 := 0) ⟨hx, hb, hml, hown, hts⟩ (e_X2_refresh l G a b (upd f 4 x14) (upd qf 3 x24) (up2 r 12 x25) (up2 (up2 (up2 q 0 x21) 1 x22) 2 x23) i j  (by omega) (by omega)) mi_yX2_refresh mv_yX2_refresh ml_X2_117 ⟨rfl, rfl, Nat.le_of_ble_eq_true rfl, Nat.le_of_ble_eq_true rfl⟩ hK hP (hDD _ _ _ _) rfl rfl rfl hl.1 rfl (Nat.le_of_ble_eq_true rfl) dX2_isSafe_232 ⟨Nat.zero_le _, Nat.zero_le _⟩ hS hA (fun w56 H locs hw56 hP hS => ?_)
                obtain ⟨x57, rfl, hrf⟩ := hw56
                have hP : PP G (rdW G a b (upd f 4 x14) (upd qf 3 x24) (up2 r 12 x25) (up2 (up2 (up2 q 0 x57) 1 x22) 2 x23)) H := hP
                have hrf : x57 = rfS (r 11) x25 (r 13) (r 14) x21 i j := hrf
                have hSf : SYN (kpR (r 6) (r 7) (r 11) rw cl (r 7 i)) V2 Lo Hi (dmR (r 6) (r 7) rw cl (r 7 i)) x57 := by rw [hrf]; exact SYN_rf2 hs2 (by omega) (by omega) (fun a9 b9 h9 => (offT_n h9).symm) hdij (RD_kr hRD _ i j hdij) (hv2 i j (by omega) (by omega) hdij) (hl0 i j (by omega) (by omega) hdij) (hh0 i j (by omega) (by omega) hdij) (by omega) (by omega) (by omega)
                refine lv_iload hx hb dX2_isSafe_235 (lv_at hl 0 rfl) ?_
                exact wr_zret hx hb hr hlocks (Or.inr rfl) hS hP ⟨x14, x57, x22, x23, x24, x25, _, rfl, (Or.inl ⟨rfl, (SAF_k hkij).mpr ⟨hlowW, V2, ha2, by rw [hN]; omega⟩⟩), hRDn, (by rw [hf4]; exact Or.inr (SYN_c hSf (fun _ _ _ _ => rfl) (fun x y h8 h9 => RD_jn _ ha2 x y h8 h9))), (SYN_rb hSf)⟩ dX2_isSafe_237
          · have b129 := qgt_f (a := ((rsT (dmR (r 6) (r 7) rw cl (r 7 i)) V) i j)) (b := (V0 i j - dn)) (by omega) (by omega) c17
            have hlowW : ∃ w9, agN (kpR (r 6) (r 7) (r 11) rw cl (r 7 i)) Lo Hi (rsT (dmR (r 6) (r 7) rw cl (r 7 i)) V0) w9 ∧ w9 i j ≤ (rsT (dmR (r 6) (r 7) rw cl (r 7 i)) V0) i j - dn := ⟨(rsT (dmR (r 6) (r 7) rw cl (r 7 i)) V), hG0, by rw [hN]; exact b129⟩
            refine lv_iconst (v := 1) hx hb dX2_isSafe_132 (by decide) ?_
            refine lv_goto (tgt := 137) hx hb dX2_isSafe_133 (by decide) ?_
            refine lv_istore (lv' := [(6, .int 1), (5, .int (nI ((V0 i j) + (up)))), (4, .int (nI (V0 i j - dn))), (3, .int (nI (i * 12 + j))), (0, .ref (a 15)), (1, .int (nI i)), (2, .int (nI j))]) hx hb dX2_isSafe_137 hl (by decide) rfl (fun ls hl => ?_)
            refine lv_iload hx hb dX2_isSafe_139 (lv_at hl 0 rfl) ?_
            refine lv_if_ne (tgt := 170) hx hb dX2_isSafe_141 (by decide) (fun c58 => ?_) (fun c58 => absurd c58 (by decide))
            refine lv_iload hx hb dX2_isSafe_170 (lv_at hl 0 rfl) ?_
            refine lv_if_eq (tgt := 190) hx hb dX2_isSafe_172 (by decide) (fun c59 => absurd c59 (by decide)) (fun c59 => ?_)
            refine lv_aload_n hx hb dX2_isSafe_175 rfl (lv_at hl 4 rfl) ?_
            refine va_get (D := G.1) (ci := 2) (v := .ref (a 12)) (C := RX2) (T := TX2) (N := 15) hx hb hts inX2 hown hK.1 hP 0 rfl rfl 12 (by decide) (hts _ mf_X2_54) (fun _ h9 => h9) rfl dX2_isSafe_176 ?_
            refine lv_iload_n hx hb dX2_isSafe_179 rfl (lv_at hl 3 rfl) ?_
            refine xiald (f := (r 12)) hx hb hK hP 7 ((i * 12 + j)) (rfl) (by omega) (by decide) rfl dX2_isSafe_180 ?_
            refine lv_topi (fun v60 ev60 => ?_)
            obtain rfl : v60 = nI ((rsT (dmR (r 6) (r 7) rw cl (r 7 i)) V) i j) := ev60.trans (hv0 i j (by omega) (by omega) hdij)
            refine lv_iload hx hb dX2_isSafe_181 (lv_at hl 1 rfl) ?_
            refine lv_icmp_lt (tgt := 190) hx hb dX2_isSafe_183 (by decide) (fun c61 => ?_) (fun c61 => ?_)
            · have b183 := qlt_t (a := ((rsT (dmR (r 6) (r 7) rw cl (r 7 i)) V) i j)) (b := ((V0 i j) + (up))) (by omega) (by omega) c61
              refine lv_iconst (v := 0) hx hb dX2_isSafe_190 (by decide) ?_
              refine lv_istore (lv' := [(7, .int 0), (6, .int 1), (5, .int (nI ((V0 i j) + (up)))), (4, .int (nI (V0 i j - dn))), (3, .int (nI (i * 12 + j))), (0, .ref (a 15)), (1, .int (nI i)), (2, .int (nI j))]) hx hb dX2_isSafe_191 hl (by decide) rfl (fun ls hl => ?_)
              refine lv_iload hx hb dX2_isSafe_193 (lv_at hl 1 rfl) ?_
              refine lv_if_eq (tgt := 229) hx hb dX2_isSafe_195 (by decide) (fun c62 => absurd c62 (by decide)) (fun c62 => ?_)
              refine lv_iload hx hb dX2_isSafe_198 (lv_at hl 0 rfl) ?_
              refine lv_if_ne (tgt := 229) hx hb dX2_isSafe_200 (by decide) (fun c63 => absurd rfl c63) (fun c63 => ?_)
              refine lv_aload_n hx hb dX2_isSafe_203 rfl (lv_at hl 5 rfl) ?_
              refine lv_iload_n hx hb dX2_isSafe_204 rfl (lv_at hl 6 rfl) ?_
              refine lv_iload_n hx hb dX2_isSafe_205 rfl (lv_at hl 7 rfl) ?_
              refine lv_iload hx hb dX2_isSafe_206 (lv_at hl 2 rfl) ?_
              refine wrVVa (rest := []) (q0 := 0) ⟨hx, hb, hml, hown, hts⟩ (e_X2_draw l G a b (upd f 4 x14) qf r (up2 q 0 x15) i j ((V0 i j) + (up)) (rsT (dmR (r 6) (r 7) rw cl (r 7 i)) V0) (rsT (dmR (r 6) (r 7) rw cl (r 7 i)) V) Lo Hi (kpR (r 6) (r 7) (r 11) rw cl (r 7 i)) (dmR (r 6) (r 7) rw cl (r 7 i)) (dmR (r 6) (r 7) rw cl (r 7 i)) (by omega) (by omega) (by omega) (by omega) hdij hkij (fun x y e9 => e9) (fun x y _ _ z9 n9 => (kpR_of z9).1) hSY hv0 hl0 hh0 (fun x y _ _ e9 => RD_kr hRD _ x y e9) hB0 hG0) mi_yX2_draw mv_yX2_draw ml_X2_149 ⟨rfl, rfl, Nat.le_of_ble_eq_true rfl, Nat.le_of_ble_eq_true rfl⟩ hK hP (hDD _ _ _ _) rfl rfl rfl hl.1 rfl (Nat.le_of_ble_eq_true rfl) dX2_isSafe_208 ⟨Nat.zero_le _, Nat.zero_le _⟩ hS hA (fun w65 H locs hw65 hP hS => ?_)
              obtain ⟨x66, x67, x68, x69, x70, V2, rfl, hv2, hs2, ha2, hb2, hf2, he2⟩ := hw65
              have hP : PP G (rdW G a b (upd f 4 x14) (upd qf 3 x69) (up2 r 12 x70) (up2 (up2 (up2 q 0 x66) 1 x67) 2 x68)) H := hP
              have hv2 : rowV (dmR (r 6) (r 7) rw cl (r 7 i)) V2 x70 := hv2
              have hs2 : SYN (kpR (r 6) (r 7) (r 11) rw cl (r 7 i)) V2 Lo Hi (offT (dmR (r 6) (r 7) rw cl (r 7 i)) i j) x66 := hs2
              have ha2 : agN (kpR (r 6) (r 7) (r 11) rw cl (r 7 i)) Lo Hi (rsT (dmR (r 6) (r 7) rw cl (r 7 i)) V0) V2 := ha2
              have hb2 : BND (dmR (r 6) (r 7) rw cl (r 7 i)) Lo Hi V2 := hb2
              have hf2 : ∀ x y, x < 12 → y < 12 → (dmR (r 6) (r 7) rw cl (r 7 i)) x y = false → x70 (x * 12 + y) = (r 12) (x * 12 + y) := hf2
              have he2 : ENDS (kpR (r 6) (r 7) (r 11) rw cl (r 7 i)) Lo Hi (rsT (dmR (r 6) (r 7) rw cl (r 7 i)) V0) i j ((V0 i j) + (up)) V2 := he2
              have hRDn := RD_set hRD (r 7 i) hv2 ha2 hb2 hf2
              have hBi2 := hb2 i j hdij
              refine lv_aload_n hx hb dX2_isSafe_211 rfl (lv_at hl 5 rfl) ?_
              refine va_get (D := G.1) (ci := 2) (v := .ref (a 12)) (C := RX2) (T := TX2) (N := 15) hx hb hts inX2 hown hK.1 hP 0 rfl rfl 12 (by decide) (hts _ mf_X2_54) (fun _ h9 => h9) rfl dX2_isSafe_212 ?_
              refine lv_iload_n hx hb dX2_isSafe_215 rfl (lv_at hl 4 rfl) ?_
              refine xiald (f := x70) hx hb hK hP 7 ((i * 12 + j)) (rfl) (by omega) (by decide) rfl dX2_isSafe_216 ?_
              refine lv_topi (fun v71 ev71 => ?_)
              obtain rfl : v71 = nI (V2 i j) := ev71.trans (hv2 i j (by omega) (by omega) hdij)
              refine lv_iload hx hb dX2_isSafe_217 (lv_at hl 2 rfl) ?_
              refine lv_icmp_lt (tgt := 226) hx hb dX2_isSafe_219 (by decide) (fun c72 => ?_) (fun c72 => ?_)
              · have b219 := qlt_t (a := (V2 i j)) (b := ((V0 i j) + (up))) (by omega) (by omega) c72
                refine lv_iconst (v := 0) hx hb dX2_isSafe_226 (by decide) ?_
                refine lv_istore (lv' := [(7, .int 0), (6, .int 1), (5, .int (nI ((V0 i j) + (up)))), (4, .int (nI (V0 i j - dn))), (3, .int (nI (i * 12 + j))), (0, .ref (a 15)), (1, .int (nI i)), (2, .int (nI j))]) hx hb dX2_isSafe_227 hl (by decide) rfl (fun ls hl => ?_)
                refine lv_aload_n hx hb dX2_isSafe_229 rfl (lv_at hl 5 rfl) ?_
                refine lv_iload_n hx hb dX2_isSafe_230 rfl (lv_at hl 6 rfl) ?_
                refine lv_iload_n hx hb dX2_isSafe_231 rfl (lv_at hl 7 rfl) ?_
                refine wrVVa (rest := []) (q0 := 0) ⟨hx, hb, hml, hown, hts⟩ (e_X2_refresh l G a b (upd f 4 x14) (upd qf 3 x69) (up2 r 12 x70) (up2 (up2 (up2 q 0 x66) 1 x67) 2 x68) i j  (by omega) (by omega)) mi_yX2_refresh mv_yX2_refresh ml_X2_117 ⟨rfl, rfl, Nat.le_of_ble_eq_true rfl, Nat.le_of_ble_eq_true rfl⟩ hK hP (hDD _ _ _ _) rfl rfl rfl hl.1 rfl (Nat.le_of_ble_eq_true rfl) dX2_isSafe_232 ⟨Nat.zero_le _, Nat.zero_le _⟩ hS hA (fun w74 H locs hw74 hP hS => ?_)
                obtain ⟨x75, rfl, hrf⟩ := hw74
                have hP : PP G (rdW G a b (upd f 4 x14) (upd qf 3 x69) (up2 r 12 x70) (up2 (up2 (up2 q 0 x75) 1 x67) 2 x68)) H := hP
                have hrf : x75 = rfS (r 11) x70 (r 13) (r 14) x66 i j := hrf
                have hSf : SYN (kpR (r 6) (r 7) (r 11) rw cl (r 7 i)) V2 Lo Hi (dmR (r 6) (r 7) rw cl (r 7 i)) x75 := by rw [hrf]; exact SYN_rf2 hs2 (by omega) (by omega) (fun a9 b9 h9 => (offT_n h9).symm) hdij (RD_kr hRD _ i j hdij) (hv2 i j (by omega) (by omega) hdij) (hl0 i j (by omega) (by omega) hdij) (hh0 i j (by omega) (by omega) hdij) (by omega) (by omega) (by omega)
                refine lv_iload hx hb dX2_isSafe_235 (lv_at hl 0 rfl) ?_
                exact wr_zret hx hb hr hlocks (Or.inl rfl) hS hP ⟨x14, x75, x67, x68, x69, x70, _, rfl, (Or.inr ⟨rfl, EN_nohigh hkij he2 (by omega) (by rw [hN])⟩), hRDn, (by rw [hf4]; exact Or.inr (SYN_c hSf (fun _ _ _ _ => rfl) (fun x y h8 h9 => RD_jn _ ha2 x y h8 h9))), (SYN_rb hSf)⟩ dX2_isSafe_237
              · have b219 := qlt_f (a := (V2 i j)) (b := ((V0 i j) + (up))) (by omega) (by omega) c72
                refine lv_iconst (v := 1) hx hb dX2_isSafe_222 (by decide) ?_
                refine lv_goto (tgt := 227) hx hb dX2_isSafe_223 (by decide) ?_
                refine lv_istore (lv' := [(7, .int 1), (6, .int 1), (5, .int (nI ((V0 i j) + (up)))), (4, .int (nI (V0 i j - dn))), (3, .int (nI (i * 12 + j))), (0, .ref (a 15)), (1, .int (nI i)), (2, .int (nI j))]) hx hb dX2_isSafe_227 hl (by decide) rfl (fun ls hl => ?_)
                refine lv_aload_n hx hb dX2_isSafe_229 rfl (lv_at hl 5 rfl) ?_
                refine lv_iload_n hx hb dX2_isSafe_230 rfl (lv_at hl 6 rfl) ?_
                refine lv_iload_n hx hb dX2_isSafe_231 rfl (lv_at hl 7 rfl) ?_
                refine wrVVa (rest := []) (q0 := 0) ⟨hx, hb, hml, hown, hts⟩ (e_X2_refresh l G a b (upd f 4 x14) (upd qf 3 x69) (up2 r 12 x70) (up2 (up2 (up2 q 0 x66) 1 x67) 2 x68) i j  (by omega) (by omega)) mi_yX2_refresh mv_yX2_refresh ml_X2_117 ⟨rfl, rfl, Nat.le_of_ble_eq_true rfl, Nat.le_of_ble_eq_true rfl⟩ hK hP (hDD _ _ _ _) rfl rfl rfl hl.1 rfl (Nat.le_of_ble_eq_true rfl) dX2_isSafe_232 ⟨Nat.zero_le _, Nat.zero_le _⟩ hS hA (fun w77 H locs hw77 hP hS => ?_)
                obtain ⟨x78, rfl, hrf⟩ := hw77
                have hP : PP G (rdW G a b (upd f 4 x14) (upd qf 3 x69) (up2 r 12 x70) (up2 (up2 (up2 q 0 x78) 1 x67) 2 x68)) H := hP
                have hrf : x78 = rfS (r 11) x70 (r 13) (r 14) x66 i j := hrf
                have hSf : SYN (kpR (r 6) (r 7) (r 11) rw cl (r 7 i)) V2 Lo Hi (dmR (r 6) (r 7) rw cl (r 7 i)) x78 := by rw [hrf]; exact SYN_rf2 hs2 (by omega) (by omega) (fun a9 b9 h9 => (offT_n h9).symm) hdij (RD_kr hRD _ i j hdij) (hv2 i j (by omega) (by omega) hdij) (hl0 i j (by omega) (by omega) hdij) (hh0 i j (by omega) (by omega) hdij) (by omega) (by omega) (by omega)
                refine lv_iload hx hb dX2_isSafe_235 (lv_at hl 0 rfl) ?_
                exact wr_zret hx hb hr hlocks (Or.inr rfl) hS hP ⟨x14, x78, x67, x68, x69, x70, _, rfl, (Or.inl ⟨rfl, (SAF_k hkij).mpr ⟨hlowW, V2, ha2, by rw [hN]; omega⟩⟩), hRDn, (by rw [hf4]; exact Or.inr (SYN_c hSf (fun _ _ _ _ => rfl) (fun x y h8 h9 => RD_jn _ ha2 x y h8 h9))), (SYN_rb hSf)⟩ dX2_isSafe_237
            · have b183 := qlt_f (a := ((rsT (dmR (r 6) (r 7) rw cl (r 7 i)) V) i j)) (b := ((V0 i j) + (up))) (by omega) (by omega) c61
              refine lv_iconst (v := 1) hx hb dX2_isSafe_186 (by decide) ?_
              refine lv_goto (tgt := 191) hx hb dX2_isSafe_187 (by decide) ?_
              refine lv_istore (lv' := [(7, .int 1), (6, .int 1), (5, .int (nI ((V0 i j) + (up)))), (4, .int (nI (V0 i j - dn))), (3, .int (nI (i * 12 + j))), (0, .ref (a 15)), (1, .int (nI i)), (2, .int (nI j))]) hx hb dX2_isSafe_191 hl (by decide) rfl (fun ls hl => ?_)
              refine lv_iload hx hb dX2_isSafe_193 (lv_at hl 1 rfl) ?_
              refine lv_if_eq (tgt := 229) hx hb dX2_isSafe_195 (by decide) (fun c79 => absurd c79 (by decide)) (fun c79 => ?_)
              refine lv_iload hx hb dX2_isSafe_198 (lv_at hl 0 rfl) ?_
              refine lv_if_ne (tgt := 229) hx hb dX2_isSafe_200 (by decide) (fun c80 => ?_) (fun c80 => absurd c80 (by decide))
              refine lv_aload_n hx hb dX2_isSafe_229 rfl (lv_at hl 5 rfl) ?_
              refine lv_iload_n hx hb dX2_isSafe_230 rfl (lv_at hl 6 rfl) ?_
              refine lv_iload_n hx hb dX2_isSafe_231 rfl (lv_at hl 7 rfl) ?_
              refine wrVVa (rest := []) (q0 := 0) ⟨hx, hb, hml, hown, hts⟩ (e_X2_refresh l G a b (upd f 4 x14) qf r (up2 q 0 x15) i j  (by omega) (by omega)) mi_yX2_refresh mv_yX2_refresh ml_X2_117 ⟨rfl, rfl, Nat.le_of_ble_eq_true rfl, Nat.le_of_ble_eq_true rfl⟩ hK hP (hDD _ _ _ _) rfl rfl rfl hl.1 rfl (Nat.le_of_ble_eq_true rfl) dX2_isSafe_232 ⟨Nat.zero_le _, Nat.zero_le _⟩ hS hA (fun w82 H locs hw82 hP hS => ?_)
              obtain ⟨x83, rfl, hrf⟩ := hw82
              have hP : PP G (rdW G a b (upd f 4 x14) qf r (up2 q 0 x83)) H := hP
              have hrf : x83 = rfS (r 11) (r 12) (r 13) (r 14) x15 i j := hrf
              have hSf : SYN (kpR (r 6) (r 7) (r 11) rw cl (r 7 i)) (rsT (dmR (r 6) (r 7) rw cl (r 7 i)) V) Lo Hi (dmR (r 6) (r 7) rw cl (r 7 i)) x83 := by rw [hrf]; exact SYN_rf2 hSY (by omega) (by omega) (fun _ _ _ => rfl) hdij (RD_kr hRD _ i j hdij) (hv0 i j (by omega) (by omega) hdij) (hl0 i j (by omega) (by omega) hdij) (hh0 i j (by omega) (by omega) hdij) (by omega) (by omega) (by omega)
              refine lv_iload hx hb dX2_isSafe_235 (lv_at hl 0 rfl) ?_
              exact wr_zret hx hb hr hlocks (Or.inr rfl) hS hP ⟨x14, x83, (q 1), (q 2), (qf 3), (r 12), _, rfl, (Or.inl ⟨rfl, (SAF_k hkij).mpr ⟨hlowW, (rsT (dmR (r 6) (r 7) rw cl (r 7 i)) V), hG0, by rw [hN]; omega⟩⟩), hRD, (by rw [hf4]; exact Or.inr hSf), (SYN_rb hSf)⟩ dX2_isSafe_237
        refine lv_icmp_eq (tgt := 121) hx hb dX2_isSafe_107 (by decide) (fun c84 => ?_) (fun c84 => ?_)
        · exact j121_15 (f 4) (q 0) (by have h9 := hRS.resolve_left (fun z9 => hRD.2.2.1 i hi (c84.symm.trans z9)); rw [c84] at h9; exact h9) (c84) _ _ _ hP hS (lv_sub hl [0, 1, 2, 3, 4, 5] rfl)
        · refine lv_aload_n hx hb dX2_isSafe_110 rfl (lv_at hl 3 rfl) ?_
          refine lv_aload_n hx hb dX2_isSafe_111 rfl (lv_at hl 3 rfl) ?_
          refine va_get (D := G.1) (ci := 2) (v := .ref (a 7)) (C := RX2) (T := TX2) (N := 15) hx hb hts inX2 hown hK.1 hP 0 rfl rfl 7 (by decide) (hts _ mf_X2_38) (fun _ h9 => h9) rfl dX2_isSafe_112 ?_
          refine lv_iload_n hx hb dX2_isSafe_115 rfl (lv_at hl 4 rfl) ?_
          refine xiald (f := (r 7)) hx hb hK hP 2 (i) (rfl) (by omega) (by decide) rfl dX2_isSafe_116 ?_
          refine lv_topi (fun v85 ev85 => ?_)
          obtain rfl : v85 = (r 7 i) := ev85.trans (rfl)
          refine lv_iconst (v := 0) hx hb dX2_isSafe_117 (by decide) ?_
          refine wrVVa (rest := []) (q0 := 0) ⟨hx, hb, hml, hown, hts⟩ (e_X2_enter l G a b f qf r q (r 7 i) 0 rw cl (by omega) (by omega) (by omega) h0 h1) mi_yX2_enter mv_yX2_enter ml_X2_146 ⟨rfl, rfl, Nat.le_of_ble_eq_true rfl, Nat.le_of_ble_eq_true rfl⟩ hK hP (hDD _ _ _ _) rfl rfl rfl hl.1 rfl (Nat.le_of_ble_eq_true rfl) dX2_isSafe_118 ⟨Nat.zero_le _, Nat.zero_le _⟩ hS hA (fun w87 H locs hw87 hP hS => ?_)
          obtain ⟨x88, x89, rfl, hen, he4⟩ := hw87
          have hP : PP G (rdW G a b (upd f 4 x88) qf r (up2 q 0 x89)) H := hP
          have hen : x89 = enR (r 6) (r 7) (r 7 i) (r 11) (r 12) (r 13) (r 14) (flF (q 0) 0 25) cl 0 (rw - 0) := hen
          have he4 : x88 = (if 0 = 0 then (r 7 i) else -2) := he4
          exact j121_15 x88 x89 (by rw [hen]; exact SYN_all hr12 hc12 hv0 hl0 hh0 hB0) (he4.trans (if_pos rfl)) _ _ _ hP hS (lv_sub hl [0, 1, 2, 3, 4, 5] rfl)
      · have b92 := qle_f (a := ((V0 i j) + (up))) (b := (Hi i j)) (by omega) (by omega) c12
        refine lv_iconst (v := 0) hx hb dX2_isSafe_95 (by decide) ?_
        exact wr_zret hx hb hr hlocks (Or.inl rfl) hS hP ⟨(f 4), (q 0), (q 1), (q 2), (qf 3), (r 12), _, rfl, (Or.inr ⟨rfl, fun z9 => by obtain ⟨⟨w9, h9, h8⟩, w7, h7, h6⟩ := (SAF_k hkij).mp z9; have h5 := agN_b h9 i j (by omega) (by omega) hkij; have h4 := agN_b h7 i j (by omega) (by omega) hkij; rw [hN] at h8 h6; omega⟩), hRD, hRS, hRB⟩ dX2_isSafe_96
  · have hkn : (kpR (r 6) (r 7) (r 11) rw cl (r 7 i)) i j = false := kpR_no (ev7.symm.trans c8)
    refine lv_iload hx hb dX2_isSafe_45 (lv_at hl 1 rfl) ?_
    refine lv_aload_n hx hb dX2_isSafe_47 rfl (lv_at hl 3 rfl) ?_
    refine va_get (D := G.1) (ci := 2) (v := .ref (a 9)) (C := RX2) (T := TX2) (N := 15) hx hb hts inX2 hown hK.1 hP 0 rfl rfl 9 (by decide) (hts _ mf_X2_45) (fun _ h9 => h9) rfl dX2_isSafe_48 ?_
    refine lv_iload_n hx hb dX2_isSafe_51 rfl (lv_at hl 2 rfl) ?_
    refine xiald (f := (r 9)) hx hb hK hP 4 ((i * 12 + j)) (rfl) (by omega) (by decide) rfl dX2_isSafe_52 ?_
    refine lv_topi (fun v90 ev90 => ?_)
    obtain rfl : v90 = nI (V0 i j) := ev90.trans (hnu)
    refine lv_icmp_ne (tgt := 71) hx hb dX2_isSafe_53 (by decide) (fun c91 => ?_) (fun c91 => ?_)
    · have b53 := qeq_f (a := (V0 i j - dn)) (b := (V0 i j)) (by omega) (by omega) c91
      refine lv_iconst (v := 0) hx hb dX2_isSafe_71 (by decide) ?_
      exact wr_zret hx hb hr hlocks (Or.inl rfl) hS hP ⟨(f 4), (q 0), (q 1), (q 2), (qf 3), (r 12), _, rfl, (Or.inr ⟨rfl, fun z9 => by have z8 := (SAF_n hkn).mp z9; rw [hN] at z8; omega⟩), hRD, hRS, hRB⟩ dX2_isSafe_72
    · have b53 := qeq_t (a := (V0 i j - dn)) (b := (V0 i j)) (by omega) (by omega) c91
      refine lv_iload hx hb dX2_isSafe_56 (lv_at hl 0 rfl) ?_
      refine lv_aload_n hx hb dX2_isSafe_58 rfl (lv_at hl 3 rfl) ?_
      refine va_get (D := G.1) (ci := 2) (v := .ref (a 9)) (C := RX2) (T := TX2) (N := 15) hx hb hts inX2 hown hK.1 hP 0 rfl rfl 9 (by decide) (hts _ mf_X2_45) (fun _ h9 => h9) rfl dX2_isSafe_59 ?_
      refine lv_iload_n hx hb dX2_isSafe_62 rfl (lv_at hl 2 rfl) ?_
      refine xiald (f := (r 9)) hx hb hK hP 4 ((i * 12 + j)) (rfl) (by omega) (by decide) rfl dX2_isSafe_63 ?_
      refine lv_topi (fun v92 ev92 => ?_)
      obtain rfl : v92 = nI (V0 i j) := ev92.trans (hnu)
      refine lv_icmp_ne (tgt := 71) hx hb dX2_isSafe_64 (by decide) (fun c93 => ?_) (fun c93 => ?_)
      · have b64 := qeq_f (a := ((V0 i j) + (up))) (b := (V0 i j)) (by omega) (by omega) c93
        refine lv_iconst (v := 0) hx hb dX2_isSafe_71 (by decide) ?_
        exact wr_zret hx hb hr hlocks (Or.inl rfl) hS hP ⟨(f 4), (q 0), (q 1), (q 2), (qf 3), (r 12), _, rfl, (Or.inr ⟨rfl, fun z9 => by have z8 := (SAF_n hkn).mp z9; rw [hN] at z8; omega⟩), hRD, hRS, hRB⟩ dX2_isSafe_72
      · have b64 := qeq_t (a := ((V0 i j) + (up))) (b := (V0 i j)) (by omega) (by omega) c93
        refine lv_iconst (v := 1) hx hb dX2_isSafe_67 (by decide) ?_
        refine lv_goto (tgt := 72) hx hb dX2_isSafe_68 (by decide) ?_
        exact wr_zret hx hb hr hlocks (Or.inr rfl) hS hP ⟨(f 4), (q 0), (q 1), (q 2), (qf 3), (r 12), _, rfl, (Or.inl ⟨rfl, (SAF_n hkn).mpr ⟨by rw [hN]; omega, by omega⟩⟩), hRD, hRS, hRB⟩ dX2_isSafe_72
set_option maxHeartbeats 4000000 in
set_option maxRecDepth 100000 in
theorem e_X2_moveToEnd (l : Launch) (G : GG) (a b : Nat → Nat) (f qf : Nat → Int32) (r q : Nat → Nat → Int32) (i : Nat) (j : Nat) (g : Int32) (rw : Nat) (cl : Nat) (V0 : Nat → Nat → Nat) (V : Nat → Nat → Nat) (Lo : Nat → Nat → Nat) (Hi : Nat → Nat → Nat) (hi : i < rw) (hj : j < cl) (hsi : ¬ (r 6) i = 0) (h0 : (f 0) = nI rw) (h1 : (f 1) = nI cl) (hRD : RDI (r 6) (r 7) (r 11) (r 12) (r 13) (r 14) rw cl V0 V Lo Hi) (hRS : RSY (r 6) (r 7) (r 11) rw cl V Lo Hi (f 4) (q 0)) (hRB : RB adjR (q 0)) : WrV l yX2_moveToEnd cX2_moveToEnd 5 ({ frames := 4, cells := 0, slots := 0, locals := 107 }) G (rdW G a b f qf r q) [.ref (a 15), .int (nI i), .int (nI j), .int g] (fun w => ∃ (n_f_4 : Int32) (n_q_0 : Nat → Int32) (n_q_1 : Nat → Int32) (n_q_2 : Nat → Int32) (n_qf_3 : Int32) (n_r_12 : Nat → Int32) (V3 : Nat → Nat → Nat), w = rdW G a b (upd f 4 n_f_4) (upd qf 3 n_qf_3) (up2 r 12 n_r_12) (up2 (up2 (up2 q 0 n_q_0) 1 n_q_1) 2 n_q_2) ∧ (RDI (r 6) (r 7) (r 11) n_r_12 (r 13) (r 14) rw cl V0 V3 Lo Hi) ∧ (RSY (r 6) (r 7) (r 11) rw cl V3 Lo Hi n_f_4 n_q_0) ∧ (((kpR (r 6) (r 7) (r 11) rw cl ((r 7) i)) i j = false ∧ V3 = V) ∨ ((kpR (r 6) (r 7) (r 11) rw cl ((r 7) i)) i j = true ∧ (g = 0 → ∀ w, agN (kpR (r 6) (r 7) (r 11) rw cl ((r 7) i)) Lo Hi (rsT (dmR (r 6) (r 7) rw cl ((r 7) i)) V0) w → V3 i j ≤ w i j) ∧ (¬ g = 0 → ∀ w, agN (kpR (r 6) (r 7) (r 11) rw cl ((r 7) i)) Lo Hi (rsT (dmR (r 6) (r 7) rw cl ((r 7) i)) V0) w → w i j ≤ V3 i j))) ∧ (RB adjR n_q_0)) := by
  refine wr_entryV (by decide +kernel) (Nat.le_of_ble_eq_true rfl) ?_
  intro p e s m below meth c A C0 hP hK hD hA ls hl
  have hS : va_S A s.heap s.heap [] := va_S.rf
  obtain ⟨hx, hb, hml, hown, hts, hr, hlocks, hin⟩ := C0
  have hown : s.vm.findClass RX2 = some m.cls := hown
  have hDD : ∀ f' qf' r' q', va_D A (rdW G a b f' qf' r' q') := fun f' qf' r' q' => D_same hD rfl
  have hl : lv_has ls 5 [(0, .ref (a 15)), (1, .int (nI i)), (2, .int (nI j)), (3, .int g)] := hl
  have hr12 := hRD.1
  have hc12 := hRD.2.1
  obtain ⟨hv0, hl0, hh0⟩ := RD_row hRD (r 7 i)
  have hB0 := RD_bnd hRD (r 7 i)
  have hG0 := hRD.2.2.2.2 (r 7 i)
  have hdij : (dmR (r 6) (r 7) rw cl (r 7 i)) i j = true := dmR_mk hi hj hsi rfl
  have hBi := hB0 i j hdij
  refine lv_iload_n hx hb dX2_moveToEnd_0 rfl (lv_at hl 1 rfl) ?_
  refine lv_iload_n hx hb dX2_moveToEnd_1 rfl (lv_at hl 2 rfl) ?_
  refine rdSN (rest := []) ⟨hx, hb, hml, hown, hts⟩ (c_X6_spotOf l G ((nI i)) ((nI j))) mi_yX6_spotOf mst_yX6_spotOf (by decide +kernel) ⟨rfl, rfl, Nat.le_of_ble_eq_true rfl, Nat.le_of_ble_eq_true rfl⟩ hK (fun k q h => by simp at h) rfl hl.1 rfl (Nat.le_of_ble_eq_true rfl) dX2_moveToEnd_2 ⟨Nat.zero_le _, Nat.zero_le _⟩ hS hA hP (fun r1 H locs hr1 hP hS => ?_)
  obtain rfl : r1 = nI (i * 12 + j) := spot_eq hr1
  refine lv_istore (lv' := [(4, .int (nI (i * 12 + j))), (0, .ref (a 15)), (1, .int (nI i)), (2, .int (nI j)), (3, .int g)]) hx hb dX2_moveToEnd_5 hl (by decide) rfl (fun ls hl => ?_)
  refine lv_aload_n hx hb dX2_moveToEnd_7 rfl (lv_at hl 1 rfl) ?_
  refine va_get (D := G.1) (ci := 2) (v := .ref (a 11)) (C := RX2) (T := TX2) (N := 15) hx hb hts inX2 hown hK.1 hP 0 rfl rfl 11 (by decide) (hts _ mf_X2_51) (fun _ h9 => h9) rfl dX2_moveToEnd_8 ?_
  refine lv_iload hx hb dX2_moveToEnd_11 (lv_at hl 0 rfl) ?_
  refine xzald (f := (r 11)) hx hb hK hP 6 ((i * 12 + j)) (rfl) (by omega) (by decide) rfl dX2_moveToEnd_13 ?_
  refine lv_topi (fun v2 ev2 => ?_)
  refine lv_if_eq (tgt := 61) hx hb dX2_moveToEnd_14 (by decide) (fun c3 => ?_) (fun c3 => ?_)
  · have hkn : (kpR (r 6) (r 7) (r 11) rw cl (r 7 i)) i j = false := kpR_no (ev2.symm.trans c3)
    exact wr_vret hx hb hr hlocks hS hP ⟨(f 4), (q 0), (q 1), (q 2), (qf 3), (r 12), _, rfl, hRD, hRS, (Or.inl ⟨hkn, rfl⟩), hRB⟩ dX2_moveToEnd_61
  · have hkij : (kpR (r 6) (r 7) (r 11) rw cl (r 7 i)) i j = true := kpR_mk hdij (fun z9 => c3 (ev2.trans z9))
    have hkb := agN_b hG0 i j (by omega) (by omega) hkij
    refine lv_aload_n hx hb dX2_moveToEnd_17 rfl (lv_at hl 1 rfl) ?_
    refine lv_aload_n hx hb dX2_moveToEnd_18 rfl (lv_at hl 1 rfl) ?_
    refine va_get (D := G.1) (ci := 2) (v := .ref (a 7)) (C := RX2) (T := TX2) (N := 15) hx hb hts inX2 hown hK.1 hP 0 rfl rfl 7 (by decide) (hts _ mf_X2_38) (fun _ h9 => h9) rfl dX2_moveToEnd_19 ?_
    refine lv_iload_n hx hb dX2_moveToEnd_22 rfl (lv_at hl 2 rfl) ?_
    refine xiald (f := (r 7)) hx hb hK hP 2 (i) (rfl) (by omega) (by decide) rfl dX2_moveToEnd_23 ?_
    refine lv_topi (fun v4 ev4 => ?_)
    obtain rfl : v4 = (r 7 i) := ev4.trans (rfl)
    refine lv_iconst (v := 0) hx hb dX2_moveToEnd_24 (by decide) ?_
    refine wrVVa (rest := []) (q0 := 0) ⟨hx, hb, hml, hown, hts⟩ (e_X2_enter l G a b f qf r q (r 7 i) 0 rw cl (by omega) (by omega) (by omega) h0 h1) mi_yX2_enter mv_yX2_enter ml_X2_146 ⟨rfl, rfl, Nat.le_of_ble_eq_true rfl, Nat.le_of_ble_eq_true rfl⟩ hK hP (hDD _ _ _ _) rfl rfl rfl hl.1 rfl (Nat.le_of_ble_eq_true rfl) dX2_moveToEnd_25 ⟨Nat.zero_le _, Nat.zero_le _⟩ hS hA (fun w6 H locs hw6 hP hS => ?_)
    obtain ⟨x7, x8, rfl, hen, he4⟩ := hw6
    have hP : PP G (rdW G a b (upd f 4 x7) qf r (up2 q 0 x8)) H := hP
    have hen : x8 = enR (r 6) (r 7) (r 7 i) (r 11) (r 12) (r 13) (r 14) (flF (q 0) 0 25) cl 0 (rw - 0) := hen
    have he4 : x7 = (if 0 = 0 then (r 7 i) else -2) := he4
    have hSY : SYN (kpR (r 6) (r 7) (r 11) rw cl (r 7 i)) (rsT (dmR (r 6) (r 7) rw cl (r 7 i)) V) Lo Hi (dmR (r 6) (r 7) rw cl (r 7 i)) x8 := by rw [hen]; exact SYN_all hr12 hc12 hv0 hl0 hh0 hB0
    refine lv_aload_n hx hb dX2_moveToEnd_28 rfl (lv_at hl 1 rfl) ?_
    refine lv_iload_n hx hb dX2_moveToEnd_29 rfl (lv_at hl 2 rfl) ?_
    refine lv_iload_n hx hb dX2_moveToEnd_30 rfl (lv_at hl 3 rfl) ?_
    refine lv_iload_n hx hb dX2_moveToEnd_31 rfl (lv_at hl 4 rfl) ?_
    refine lv_if_eq (tgt := 45) hx hb dX2_moveToEnd_32 (by decide) (fun c9 => ?_) (fun c9 => ?_)
    · refine lv_aload_n hx hb dX2_moveToEnd_45 rfl (lv_at hl 1 rfl) ?_
      refine va_get (D := G.1) (ci := 2) (v := .ref (a 13)) (C := RX2) (T := TX2) (N := 15) hx hb hts inX2 hown hK.1 hP 0 rfl rfl 13 (by decide) (hts _ mf_X2_57) (fun _ h9 => h9) rfl dX2_moveToEnd_46 ?_
      refine lv_iload hx hb dX2_moveToEnd_49 (lv_at hl 0 rfl) ?_
      refine xiald (f := (r 13)) hx hb hK hP 8 ((i * 12 + j)) (rfl) (by omega) (by decide) rfl dX2_moveToEnd_51 ?_
      refine lv_topi (fun v10 ev10 => ?_)
      obtain rfl : v10 = nI (Lo i j) := ev10.trans (hl0 i j (by omega) (by omega) hdij)
      refine wrVVa (rest := []) (q0 := 0) ⟨hx, hb, hml, hown, hts⟩ (e_X2_draw l G a b (upd f 4 x7) qf r (up2 q 0 x8) i j (Lo i j) (rsT (dmR (r 6) (r 7) rw cl (r 7 i)) V0) (rsT (dmR (r 6) (r 7) rw cl (r 7 i)) V) Lo Hi (kpR (r 6) (r 7) (r 11) rw cl (r 7 i)) (dmR (r 6) (r 7) rw cl (r 7 i)) (dmR (r 6) (r 7) rw cl (r 7 i)) (by omega) (by omega) (by omega) (by omega) hdij hkij (fun x y e9 => e9) (fun x y _ _ z9 n9 => (kpR_of z9).1) hSY hv0 hl0 hh0 (fun x y _ _ e9 => RD_kr hRD _ x y e9) hB0 hG0) mi_yX2_draw mv_yX2_draw ml_X2_149 ⟨rfl, rfl, Nat.le_of_ble_eq_true rfl, Nat.le_of_ble_eq_true rfl⟩ hK hP (hDD _ _ _ _) rfl rfl rfl hl.1 rfl (Nat.le_of_ble_eq_true rfl) dX2_moveToEnd_52 ⟨Nat.zero_le _, Nat.zero_le _⟩ hS hA (fun w12 H locs hw12 hP hS => ?_)
      obtain ⟨x13, x14, x15, x16, x17, V2, rfl, hv2, hs2, ha2, hb2, hf2, he2⟩ := hw12
      have hP : PP G (rdW G a b (upd f 4 x7) (upd qf 3 x16) (up2 r 12 x17) (up2 (up2 (up2 q 0 x13) 1 x14) 2 x15)) H := hP
      have hv2 : rowV (dmR (r 6) (r 7) rw cl (r 7 i)) V2 x17 := hv2
      have hs2 : SYN (kpR (r 6) (r 7) (r 11) rw cl (r 7 i)) V2 Lo Hi (offT (dmR (r 6) (r 7) rw cl (r 7 i)) i j) x13 := hs2
      have ha2 : agN (kpR (r 6) (r 7) (r 11) rw cl (r 7 i)) Lo Hi (rsT (dmR (r 6) (r 7) rw cl (r 7 i)) V0) V2 := ha2
      have hb2 : BND (dmR (r 6) (r 7) rw cl (r 7 i)) Lo Hi V2 := hb2
      have hf2 : ∀ x y, x < 12 → y < 12 → (dmR (r 6) (r 7) rw cl (r 7 i)) x y = false → x17 (x * 12 + y) = (r 12) (x * 12 + y) := hf2
      have he2 : ENDS (kpR (r 6) (r 7) (r 11) rw cl (r 7 i)) Lo Hi (rsT (dmR (r 6) (r 7) rw cl (r 7 i)) V0) i j (Lo i j) V2 := he2
      have hRDn := RD_set hRD (r 7 i) hv2 ha2 hb2 hf2
      have hBi2 := hb2 i j hdij
      refine lv_aload_n hx hb dX2_moveToEnd_55 rfl (lv_at hl 1 rfl) ?_
      refine lv_bipush (v := -2) hx hb dX2_moveToEnd_56 (by decide) ?_
      refine va_put (D := G.1) (ci := 2) (v := .int (-2)) (C := RX2) (T := TX2) (N := 15) hx hb hts inX2 tyX2 tyX2_ok nmX2 hown hK.1 hP (hDD _ _ _ _) hS 0 rfl rfl 4 (by decide) (hts _ mf_X2_24) (fun _ h9 => h9) rfl (tyX2_ok 4 (by decide)) (rfl) (rfl) (Nat.le_of_ble_eq_true rfl) dX2_moveToEnd_58 (fun H locs hP _ hS => ?_)
      have hP : PP G (rdW G a b (upd f 4 (-2)) (upd qf 3 x16) (up2 r 12 x17) (up2 (up2 (up2 q 0 x13) 1 x14) 2 x15)) H := hP
      exact wr_vret hx hb hr hlocks hS hP ⟨(-2), x13, x14, x15, x16, x17, _, rfl, hRDn, (Or.inl rfl), (Or.inr ⟨hkij, by rw [jnT_t hdij]; exact ⟨fun _ w9 h9 => EN_least hkij he2 hBi2.2.2.2.2 h9 (by omega) (by omega), fun z9 => absurd c9 z9⟩⟩), (SYN_rb hs2)⟩ dX2_moveToEnd_61
    · refine lv_aload_n hx hb dX2_moveToEnd_35 rfl (lv_at hl 1 rfl) ?_
      refine va_get (D := G.1) (ci := 2) (v := .ref (a 14)) (C := RX2) (T := TX2) (N := 15) hx hb hts inX2 hown hK.1 hP 0 rfl rfl 14 (by decide) (hts _ mf_X2_60) (fun _ h9 => h9) rfl dX2_moveToEnd_36 ?_
      refine lv_iload hx hb dX2_moveToEnd_39 (lv_at hl 0 rfl) ?_
      refine xiald (f := (r 14)) hx hb hK hP 9 ((i * 12 + j)) (rfl) (by omega) (by decide) rfl dX2_moveToEnd_41 ?_
      refine lv_topi (fun v18 ev18 => ?_)
      obtain rfl : v18 = nI (Hi i j) := ev18.trans (hh0 i j (by omega) (by omega) hdij)
      refine lv_goto (tgt := 52) hx hb dX2_moveToEnd_42 (by decide) ?_
      refine wrVVa (rest := []) (q0 := 0) ⟨hx, hb, hml, hown, hts⟩ (e_X2_draw l G a b (upd f 4 x7) qf r (up2 q 0 x8) i j (Hi i j) (rsT (dmR (r 6) (r 7) rw cl (r 7 i)) V0) (rsT (dmR (r 6) (r 7) rw cl (r 7 i)) V) Lo Hi (kpR (r 6) (r 7) (r 11) rw cl (r 7 i)) (dmR (r 6) (r 7) rw cl (r 7 i)) (dmR (r 6) (r 7) rw cl (r 7 i)) (by omega) (by omega) (by omega) (by omega) hdij hkij (fun x y e9 => e9) (fun x y _ _ z9 n9 => (kpR_of z9).1) hSY hv0 hl0 hh0 (fun x y _ _ e9 => RD_kr hRD _ x y e9) hB0 hG0) mi_yX2_draw mv_yX2_draw ml_X2_149 ⟨rfl, rfl, Nat.le_of_ble_eq_true rfl, Nat.le_of_ble_eq_true rfl⟩ hK hP (hDD _ _ _ _) rfl rfl rfl hl.1 rfl (Nat.le_of_ble_eq_true rfl) dX2_moveToEnd_52 ⟨Nat.zero_le _, Nat.zero_le _⟩ hS hA (fun w20 H locs hw20 hP hS => ?_)
      obtain ⟨x21, x22, x23, x24, x25, V2, rfl, hv2, hs2, ha2, hb2, hf2, he2⟩ := hw20
      have hP : PP G (rdW G a b (upd f 4 x7) (upd qf 3 x24) (up2 r 12 x25) (up2 (up2 (up2 q 0 x21) 1 x22) 2 x23)) H := hP
      have hv2 : rowV (dmR (r 6) (r 7) rw cl (r 7 i)) V2 x25 := hv2
      have hs2 : SYN (kpR (r 6) (r 7) (r 11) rw cl (r 7 i)) V2 Lo Hi (offT (dmR (r 6) (r 7) rw cl (r 7 i)) i j) x21 := hs2
      have ha2 : agN (kpR (r 6) (r 7) (r 11) rw cl (r 7 i)) Lo Hi (rsT (dmR (r 6) (r 7) rw cl (r 7 i)) V0) V2 := ha2
      have hb2 : BND (dmR (r 6) (r 7) rw cl (r 7 i)) Lo Hi V2 := hb2
      have hf2 : ∀ x y, x < 12 → y < 12 → (dmR (r 6) (r 7) rw cl (r 7 i)) x y = false → x25 (x * 12 + y) = (r 12) (x * 12 + y) := hf2
      have he2 : ENDS (kpR (r 6) (r 7) (r 11) rw cl (r 7 i)) Lo Hi (rsT (dmR (r 6) (r 7) rw cl (r 7 i)) V0) i j (Hi i j) V2 := he2
      have hRDn := RD_set hRD (r 7 i) hv2 ha2 hb2 hf2
      have hBi2 := hb2 i j hdij
      refine lv_aload_n hx hb dX2_moveToEnd_55 rfl (lv_at hl 1 rfl) ?_
      refine lv_bipush (v := -2) hx hb dX2_moveToEnd_56 (by decide) ?_
      refine va_put (D := G.1) (ci := 2) (v := .int (-2)) (C := RX2) (T := TX2) (N := 15) hx hb hts inX2 tyX2 tyX2_ok nmX2 hown hK.1 hP (hDD _ _ _ _) hS 0 rfl rfl 4 (by decide) (hts _ mf_X2_24) (fun _ h9 => h9) rfl (tyX2_ok 4 (by decide)) (rfl) (rfl) (Nat.le_of_ble_eq_true rfl) dX2_moveToEnd_58 (fun H locs hP _ hS => ?_)
      have hP : PP G (rdW G a b (upd f 4 (-2)) (upd qf 3 x24) (up2 r 12 x25) (up2 (up2 (up2 q 0 x21) 1 x22) 2 x23)) H := hP
      exact wr_vret hx hb hr hlocks hS hP ⟨(-2), x21, x22, x23, x24, x25, _, rfl, hRDn, (Or.inl rfl), (Or.inr ⟨hkij, by rw [jnT_t hdij]; exact ⟨fun z9 => absurd z9 c9, fun _ w9 h9 => EN_most hkij he2 hBi2.2.2.2.1 h9 (by omega) (by omega)⟩⟩), (SYN_rb hs2)⟩ dX2_moveToEnd_61
