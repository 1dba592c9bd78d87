def rowM (dm : Nat → Nat → Bool) (V : Nat → Nat → Nat) (va : Nat → Int32) : Prop := ∀ i j, i < 12 → j < 12 → dm i j = true → va (12 * i + j) = nI (V i j)
def dmM (rw cl : Nat) (gp : Nat → Int32) (its : Int32) (x y : Nat) : Bool := decide (x < rw) && decide (y < cl) && decide (gp x = its)
theorem dmM_of {rw cl x y : Nat} {gp : Nat → Int32} {its : Int32} (h : dmM rw cl gp its x y = true) : x < rw ∧ y < cl ∧ gp x = its := by
  unfold dmM at h
  simp only [Bool.and_eq_true, decide_eq_true_eq] at h
  exact ⟨h.1.1, h.1.2, h.2⟩
theorem dmM_mk {rw cl x y : Nat} {gp : Nat → Int32} {its : Int32} (h1 : x < rw) (h2 : y < cl) (h3 : gp x = its) : dmM rw cl gp its x y = true := by
  unfold dmM; rw [decide_eq_true h1, decide_eq_true h2, decide_eq_true h3]; rfl
theorem pos_nI {n : Nat} (h : n < 2147483648) : (0 : Int32) < nI n ↔ 0 < n := nI_ltI (a := 0) (by omega) h
theorem nd_row {rw cl n : Nat} {gp : Nat → Int32} {its : Int32} (h : ndM rw cl gp its n) (hn : n < 12) : n < rw ∧ gp n = its := h.elim (fun z => z.2) (fun z => absurd z.1 (by omega))
theorem nd_col {rw cl n : Nat} {gp : Nat → Int32} {its : Int32} (h : ndM rw cl gp its n) (hn : 12 ≤ n) : n - 12 < cl := h.elim (fun z => absurd z.1 (by omega)) (fun z => by have := z.2; omega)
section NM
variable {rw cl i j z : Nat} {gp mv hi lo nw s : Nat → Int32} {its : Int32} {K : Nat → Nat → Bool} {U Lo Hi : Nat → Nat → Nat}
/-- what a step's room is -/
theorem rm_fo {x y : Nat} (hx : x < 12) (hy : y < 12) (hd : dmM rw cl gp its x y = true) (hB : BND (dmM rw cl gp its) Lo Hi U) (hnw : rowM (dmM rw cl gp its) (upT U i j z) nw) (hhi : rowM (dmM rw cl gp its) Hi hi) (hmv : ∀ x y, dmM rw cl gp its x y = true → (¬ mv (12 * x + y) = 0 ↔ (K x y = true ∧ ¬ (x = i ∧ y = j)))) : rmF mv hi lo nw x (12 + y) = if K x y = true ∧ ¬ (x = i ∧ y = j) then nI (Hi x y - U x y) else 0 := by
  rw [rm_a hx, show 12 * x + (12 + y) - 12 = 12 * x + y by omega]
  have b := hB x y hd
  by_cases c : K x y = true ∧ ¬ (x = i ∧ y = j)
  · rw [if_pos c, if_neg ((hmv x y hd).mpr c), hhi x y hx hy hd, hnw x y hx hy hd, upT_n c.2]
    exact pk_sub (by omega)
  · rw [if_neg c]
    by_cases m : mv (12 * x + y) = 0
    · rw [if_pos m]
    · exact absurd ((hmv x y hd).mp m) c
theorem rm_ba {x y : Nat} (hx : x < 12) (hy : y < 12) (hd : dmM rw cl gp its x y = true) (hB : BND (dmM rw cl gp its) Lo Hi U) (hnw : rowM (dmM rw cl gp its) (upT U i j z) nw) (hlo : rowM (dmM rw cl gp its) Lo lo) (hmv : ∀ x y, dmM rw cl gp its x y = true → (¬ mv (12 * x + y) = 0 ↔ (K x y = true ∧ ¬ (x = i ∧ y = j)))) : rmF mv hi lo nw (12 + y) x = if K x y = true ∧ ¬ (x = i ∧ y = j) then nI (U x y - Lo x y) else 0 := by
  rw [rm_b (by omega), show 12 * x + (12 + y) - 12 = 12 * x + y by omega]
  have b := hB x y hd
  by_cases c : K x y = true ∧ ¬ (x = i ∧ y = j)
  · rw [if_pos c, if_neg ((hmv x y hd).mpr c), hlo x y hx hy hd, hnw x y hx hy hd, upT_n c.2]
    exact pk_sub (by omega)
  · rw [if_neg c]
    by_cases m : mv (12 * x + y) = 0
    · rw [if_pos m]
    · exact absurd ((hmv x y hd).mp m) c
theorem on_iff {x y : Nat} (hd : dmM rw cl gp its x y = true) : offT (dmM rw cl gp its) i j x y = true ↔ ¬ (x = i ∧ y = j) := by
  constructor
  · intro h e; rw [e.1, e.2, offT_s] at h; exact absurd h (by decide)
  · intro h; rw [offT_n h]; exact hd
theorem st_M (hS : SYN K U Lo Hi (offT (dmM rw cl gp its) i j) s) (hB : BND (dmM rw cl gp its) Lo Hi U) (hnw : rowM (dmM rw cl gp its) (upT U i j z) nw) (hlo : rowM (dmM rw cl gp its) Lo lo) (hhi : rowM (dmM rw cl gp its) Hi hi) (hmv : ∀ x y, dmM rw cl gp its x y = true → (¬ mv (12 * x + y) = 0 ↔ (K x y = true ∧ ¬ (x = i ∧ y = j)))) : ∀ u v, bip u v → ndM rw cl gp its u → ndM rw cl gp its v → (0 < rmF mv hi lo nw u v ↔ bt (s u) v = true) := fun u v hb hu hv => by
  have half : ∀ {c : Prop} [Decidable c] {n : Nat} {k : Bool}, n < 2147483648 → (k = true ↔ (c ∧ 0 < n)) → ((0 : Int32) < (if c then nI n else 0) ↔ k = true) := fun {c} _ {n k} hn hk => by
    by_cases h : c
    · rw [if_pos h, pos_nI hn]
      exact ⟨fun q => hk.mpr ⟨h, q⟩, fun q => (hk.mp q).2⟩
    · rw [if_neg h]
      exact ⟨fun q => absurd q (by decide), fun q => absurd (hk.mp q).1 h⟩
  rcases hb with ⟨b1, b2, b3⟩ | ⟨b1, b2, b3⟩
  · obtain ⟨y, rfl⟩ : ∃ y, v = 12 + y := ⟨v - 12, by omega⟩
    have hd : dmM rw cl gp its u y = true := dmM_mk (nd_row hu b1).1 (by have := nd_col hv (by omega); omega) (nd_row hu b1).2
    have b := hB u y hd
    rw [rm_fo (K := K) (i := i) (j := j) b1 (by omega) hd hB hnw hhi hmv, hS u (12 + y) (by omega) (by omega), stE_f b1 (by omega)]
    refine half (by omega) ?_
    unfold gof
    rw [Bool.and_eq_true, Bool.and_eq_true, decide_eq_true_eq, on_iff hd]
    constructor
    · rintro ⟨⟨q1, q2⟩, q3⟩; exact ⟨⟨q2, q1⟩, by omega⟩
    · rintro ⟨⟨q1, q2⟩, q3⟩; exact ⟨⟨q2, q1⟩, by omega⟩
  · obtain ⟨y, rfl⟩ : ∃ y, u = 12 + y := ⟨u - 12, by omega⟩
    have hd : dmM rw cl gp its v y = true := dmM_mk (nd_row hv b3).1 (by have := nd_col hu (by omega); omega) (nd_row hv b3).2
    have b := hB v y hd
    rw [rm_ba (K := K) (i := i) (j := j) b3 (by omega) hd hB hnw hlo hmv, hS (12 + y) v (by omega) (by omega), stE_b b3 (by omega)]
    refine half (by omega) ?_
    unfold gob
    rw [Bool.and_eq_true, Bool.and_eq_true, decide_eq_true_eq, on_iff hd]
    constructor
    · rintro ⟨⟨q1, q2⟩, q3⟩; exact ⟨⟨q2, q1⟩, by omega⟩
    · rintro ⟨⟨q1, q2⟩, q3⟩; exact ⟨⟨q2, q1⟩, by omega⟩
theorem sn_M (hS : SYN K U Lo Hi (offT (dmM rw cl gp its) i j) s) (hK : ∀ x y, K x y = true → dmM rw cl gp its x y = true) : ∀ u v, u < 25 → v < 25 → bt (s u) v = true → bip u v ∧ ndM rw cl gp its v := fun u v hu hv e => by
  rcases arc_of hS hu hv e with ⟨a1, a2, a3, a4, a5, _⟩ | ⟨a1, a2, a3, a4, a5, _⟩
  · have d := dmM_of (hK _ _ a5)
    exact ⟨Or.inl ⟨a1, a2, a3⟩, Or.inr ⟨a2, by omega⟩⟩
  · have d := dmM_of (hK _ _ a5)
    exact ⟨Or.inr ⟨a2, a3, a1⟩, Or.inl ⟨a1, d.1, d.2.2⟩⟩
theorem rm_res {fr : Nat → Int32} {u0 t0 k : Nat} {L : Nat → Nat} (h : CH s u0 t0 fr L) (hS : SYN K U Lo Hi (offT (dmM rw cl gp its) i j) s) (hB : BND (dmM rw cl gp its) Lo Hi U) (hnw : rowM (dmM rw cl gp its) (upT U i j z) nw) (hlo : rowM (dmM rw cl gp its) Lo lo) (hhi : rowM (dmM rw cl gp its) Hi hi) (hmv : ∀ x y, dmM rw cl gp its x y = true → (¬ mv (12 * x + y) = 0 ↔ (K x y = true ∧ ¬ (x = i ∧ y = j)))) (hK : ∀ x y, K x y = true → dmM rw cl gp its x y = true) (hk : k < L t0) : rmF mv hi lo nw (chF fr t0 (k + 1)) (chF fr t0 k) = nI (resA fr t0 U Lo Hi k) := by
  obtain ⟨b1, b2, _, _, b5, _⟩ := h.2.2.2.2 k hk
  unfold resA
  rcases arc_of hS b2 b1 b5 with ⟨a1, a2, a3, a4, a5, a6⟩ | ⟨a1, a2, a3, a4, a5, a6⟩
  · have eR : ceR fr t0 k = chF fr t0 (k + 1) := if_pos a1
    have eC : ceC fr t0 k = chF fr t0 k - 12 := if_pos a1
    rw [if_pos a1, eR, eC]
    have hd := hK _ _ a5
    have e := rm_fo (lo := lo) (K := K) (i := i) (j := j) a1 (show chF fr t0 k - 12 < 12 by omega) hd hB hnw hhi hmv
    rw [show 12 + (chF fr t0 k - 12) = chF fr t0 k by omega] at e
    rw [e, if_pos ⟨a5, (on_iff hd).mp a4⟩]
  · have na : ¬ chF fr t0 (k + 1) < 12 := by omega
    have eR : ceR fr t0 k = chF fr t0 k := if_neg na
    have eC : ceC fr t0 k = chF fr t0 (k + 1) - 12 := if_neg na
    rw [if_neg na, eR, eC]
    have hd := hK _ _ a5
    have e := rm_ba (hi := hi) (K := K) (i := i) (j := j) a1 (show chF fr t0 (k + 1) - 12 < 12 by omega) hd hB hnw hlo hmv
    rw [show 12 + (chF fr t0 (k + 1) - 12) = chF fr t0 (k + 1) by omega] at e
    rw [e, if_pos ⟨a5, (on_iff hd).mp a4⟩]
end NM
def mn2 (e : Nat) (rs : Nat → Nat) : Nat → Nat
  | 0 => e
  | k + 1 => if rs k < mn2 e rs k then rs k else mn2 e rs k
theorem mn2_le {e : Nat} {rs : Nat → Nat} : ∀ n, mn2 e rs n ≤ e
  | 0 => Nat.le_refl _
  | n + 1 => by
    have := mn2_le (e := e) (rs := rs) n
    show (if rs n < mn2 e rs n then rs n else mn2 e rs n) ≤ e
    split <;> omega
theorem mn2_all {e : Nat} {rs : Nat → Nat} : ∀ n k, k < n → mn2 e rs n ≤ rs k
  | 0, k, hk => absurd hk (by omega)
  | n + 1, k, hk => by
    show (if rs n < mn2 e rs n then rs n else mn2 e rs n) ≤ rs k
    by_cases c : k = n
    · subst c; split <;> omega
    · have := mn2_all (e := e) (rs := rs) n k (by omega)
      split <;> omega
theorem mn2_pos {e : Nat} {rs : Nat → Nat} (he : 0 < e) : ∀ n, (∀ k, k < n → 0 < rs k) → 0 < mn2 e rs n
  | 0, _ => he
  | n + 1, h => by
    have := mn2_pos (rs := rs) he n (fun k hk => h k (by omega))
    have := h n (by omega)
    show 0 < (if rs n < mn2 e rs n then rs n else mn2 e rs n)
    split <;> omega
theorem rowM_c {dm : Nat → Nat → Bool} {V V2 : Nat → Nat → Nat} {va : Nat → Int32} (h : rowM dm V va) (e : ∀ x y, x < 12 → y < 12 → V2 x y = V x y) : rowM dm V2 va := fun x y hx hy d => by rw [e x y hx hy]; exact h x y hx hy d
theorem rowM_sh {dm : Nat → Nat → Bool} {A : Nat → Nat → Nat} {va : Nat → Int32} {i j z p q v ix : Nat} (h : rowM dm (upT A i j z) va) (hq : q < 12) (hne : ¬ (p = i ∧ q = j)) (hix : ix = 12 * p + q) : rowM dm (upT (upT A p q v) i j z) (upd va ix (nI v)) := fun a b ha hb d => by
  by_cases c : a = p ∧ b = q
  · obtain ⟨rfl, rfl⟩ := c
    rw [hix, pk_us, upT_n hne, upT_s]
  · rw [pk_un (by omega), h a b ha hb d]
    by_cases e : a = i ∧ b = j
    · rw [e.1, e.2, upT_s, upT_s]
    · rw [upT_n e, upT_n e, upT_n c]
theorem rowM_at {dm : Nat → Nat → Bool} {A : Nat → Nat → Nat} {va : Nat → Int32} {i j z p q ix : Nat} (h : rowM dm (upT A i j z) va) (hp : p < 12) (hq : q < 12) (hne : ¬ (p = i ∧ q = j)) (hd : dm p q = true) (hix : ix = 12 * p + q) : va ix = nI (A p q) := by
  rw [hix, h p q hp hq hd, upT_n hne]
theorem rowM_f {dm : Nat → Nat → Bool} {va r0 : Nat → Int32} {p q ix : Nat} {v : Int32} (hf : ∀ x y, x < 12 → y < 12 → dm x y = false → va (12 * x + y) = r0 (12 * x + y)) (hd : dm p q = true) (hq : q < 12) (hix : ix = 12 * p + q) : ∀ x y, x < 12 → y < 12 → dm x y = false → upd va ix v (12 * x + y) = r0 (12 * x + y) := fun x y hx hy e => by
  rw [pk_un (fun z => by have c : x = p ∧ y = q := (by omega); rw [c.1, c.2, hd] at e; exact absurd e (by decide))]
  exact hf x y hx hy e
theorem bndT {s bb : Nat → Int32} {u0 t0 d i j x : Nat} {L : Nat → Nat} {kp on dm : Nat → Nat → Bool} {V Lo Hi : Nat → Nat → Nat} (h : CH s u0 t0 bb L) (hS : SYN kp V Lo Hi on s) (hd : ∀ k, k < L t0 → d ≤ resA bb t0 V Lo Hi k) (hK : ∀ a b, a < 12 → b < 12 → kp a b = true → Lo a b ≤ V a b ∧ V a b ≤ Hi a b) (hB : BND dm Lo Hi V) (hx : x ≤ Hi i j ∧ Lo i j ≤ x) : BND dm Lo Hi (upT (shT bb t0 d V (L t0)) i j x) := by
  obtain ⟨s1, s2, _⟩ := sh_bound h hS hd hK
  intro a b e
  obtain ⟨b1, b2, b3, b4, b5⟩ := hB a b e
  refine ⟨b1, b2, b3, ?_⟩
  by_cases c : a = i ∧ b = j
  · rw [c.1, c.2, upT_s]; exact hx
  · rw [upT_n c]
    cases hk : kp a b with
    | true => exact ⟨(s1 a b b1 b2 hk).2, (s1 a b b1 b2 hk).1⟩
    | false => rw [s2 a b hk]; exact ⟨b4, b5⟩
theorem upT_id {A : Nat → Nat → Nat} {i j a b : Nat} : upT A i j (A i j) a b = A a b := by
  by_cases c : a = i ∧ b = j
  · rw [c.1, c.2, upT_s]
  · rw [upT_n c]
theorem upT_tw {A : Nat → Nat → Nat} {i j x z a b : Nat} : upT (upT A i j x) i j z a b = upT A i j z a b := by
  by_cases c : a = i ∧ b = j
  · rw [c.1, c.2, upT_s, upT_s]
  · rw [upT_n c, upT_n c, upT_n c]
