/-! a table that is moved along a way -/
def upT (W : Nat → Nat → Nat) (i j x a b : Nat) : Nat := if a = i ∧ b = j then x else W a b
theorem upT_s {W : Nat → Nat → Nat} {i j x : Nat} : upT W i j x i j = x := if_pos ⟨rfl, rfl⟩
theorem upT_n {W : Nat → Nat → Nat} {i j x a b : Nat} (h : ¬ (a = i ∧ b = j)) : upT W i j x a b = W a b := if_neg h
/-- the cell of the way's k-th step -/
def ceR (bb : Nat → Int32) (t0 k : Nat) : Nat := if chF bb t0 (k + 1) < 12 then chF bb t0 (k + 1) else chF bb t0 k
def ceC (bb : Nat → Int32) (t0 k : Nat) : Nat := if chF bb t0 (k + 1) < 12 then chF bb t0 k - 12 else chF bb t0 (k + 1) - 12
def shT (bb : Nat → Int32) (t0 d : Nat) (V : Nat → Nat → Nat) : Nat → Nat → Nat → Nat
  | 0 => V
  | k + 1 => upT (shT bb t0 d V k) (ceR bb t0 k) (ceC bb t0 k) (if chF bb t0 (k + 1) < 12 then shT bb t0 d V k (ceR bb t0 k) (ceC bb t0 k) + d else shT bb t0 d V k (ceR bb t0 k) (ceC bb t0 k) - d)
/-- what is known of each step of a way, by the steps' being in step -/
def arcP (kp : Nat → Nat → Bool) (V Lo Hi : Nat → Nat → Nat) (on : Nat → Nat → Bool) (x y : Nat) : Prop := (x < 12 ∧ 12 ≤ y ∧ y < 24 ∧ on x (y - 12) = true ∧ kp x (y - 12) = true ∧ V x (y - 12) < Hi x (y - 12)) ∨ (y < 12 ∧ 12 ≤ x ∧ x < 24 ∧ on y (x - 12) = true ∧ kp y (x - 12) = true ∧ Lo y (x - 12) < V y (x - 12))
theorem and3 {a b c : Bool} (h : (a && b && c) = true) : a = true ∧ b = true ∧ c = true := by cases a <;> cases b <;> cases c <;> simp_all
theorem arc_of {kp : Nat → Nat → Bool} {V Lo Hi : Nat → Nat → Nat} {on : Nat → Nat → Bool} {s : Nat → Int32} {x y : Nat} (h : SYN kp V Lo Hi on s) (hx : x < 25) (hy : y < 25) (e : bt (s x) y = true) : arcP kp V Lo Hi on x y := by
  rw [h x y hx hy] at e
  unfold stE at e
  by_cases c1 : x < 12 ∧ 12 ≤ y ∧ y < 24
  · rw [if_pos c1] at e
    obtain ⟨a, b, c⟩ := and3 e
    exact Or.inl ⟨c1.1, c1.2.1, c1.2.2, a, b, of_decide_eq_true c⟩
  · rw [if_neg c1] at e
    by_cases c2 : y < 12 ∧ 12 ≤ x ∧ x < 24
    · rw [if_pos c2] at e
      obtain ⟨a, b, c⟩ := and3 e
      exact Or.inr ⟨c2.1, c2.2.1, c2.2.2, a, b, of_decide_eq_true c⟩
    · rw [if_neg c2] at e; exact absurd e (by decide)
theorem ce_ne {s bb : Nat → Int32} {u0 t0 k m : Nat} {L : Nat → Nat} {kp : Nat → Nat → Bool} {V Lo Hi : Nat → Nat → Nat} {on : Nat → Nat → Bool} (h : CH s u0 t0 bb L) (hS : SYN kp V Lo Hi on s) (hk : k < L t0) (hm : m < L t0) (hne : k ≠ m) : ¬ (ceR bb t0 k = ceR bb t0 m ∧ ceC bb t0 k = ceC bb t0 m) := by
  obtain ⟨k1, k2, _, _, k5, _⟩ := h.2.2.2.2 k hk
  obtain ⟨m1, m2, _, _, m5, _⟩ := h.2.2.2.2 m hm
  have ak := arc_of hS k2 k1 k5
  have am := arc_of hS m2 m1 m5
  have l1 := CH_lv h (show k ≤ L t0 by omega)
  have l2 := CH_lv h (show k + 1 ≤ L t0 by omega)
  have l3 := CH_lv h (show m ≤ L t0 by omega)
  have l4 := CH_lv h (show m + 1 ≤ L t0 by omega)
  unfold ceR ceC
  intro hz
  rcases ak with ⟨a1, a2, a3, _⟩ | ⟨a1, a2, a3, _⟩ <;> rcases am with ⟨b1, b2, b3, _⟩ | ⟨b1, b2, b3, _⟩
  · rw [if_pos a1, if_pos a1, if_pos b1, if_pos b1] at hz
    rw [hz.1] at l2
    omega
  · rw [if_pos a1, if_pos a1, if_neg (show ¬ chF bb t0 (m + 1) < 12 by omega), if_neg (show ¬ chF bb t0 (m + 1) < 12 by omega)] at hz
    have e2 : chF bb t0 k = chF bb t0 (m + 1) := by omega
    rw [hz.1] at l2
    rw [e2] at l1
    omega
  · rw [if_neg (show ¬ chF bb t0 (k + 1) < 12 by omega), if_neg (show ¬ chF bb t0 (k + 1) < 12 by omega), if_pos b1, if_pos b1] at hz
    have e2 : chF bb t0 (k + 1) = chF bb t0 m := by omega
    rw [hz.1] at l1
    rw [e2] at l2
    omega
  · rw [if_neg (show ¬ chF bb t0 (k + 1) < 12 by omega), if_neg (show ¬ chF bb t0 (k + 1) < 12 by omega), if_neg (show ¬ chF bb t0 (m + 1) < 12 by omega), if_neg (show ¬ chF bb t0 (m + 1) < 12 by omega)] at hz
    rw [hz.1] at l1
    omega
theorem shT_far {bb : Nat → Int32} {t0 d i j : Nat} {V : Nat → Nat → Nat} : ∀ n, (∀ k, k < n → ¬ (i = ceR bb t0 k ∧ j = ceC bb t0 k)) → shT bb t0 d V n i j = V i j
  | 0, _ => rfl
  | n + 1, h => by
    show upT (shT bb t0 d V n) (ceR bb t0 n) (ceC bb t0 n) _ i j = V i j
    rw [upT_n (h n (by omega))]
    exact shT_far n (fun k hk => h k (by omega))
/-- each step's cell is moved once -/
theorem shT_at {s bb : Nat → Int32} {u0 t0 d : Nat} {L : Nat → Nat} {kp : Nat → Nat → Bool} {V Lo Hi : Nat → Nat → Nat} {on : Nat → Nat → Bool} (h : CH s u0 t0 bb L) (hS : SYN kp V Lo Hi on s) : ∀ n, n ≤ L t0 → ∀ k, k < n → shT bb t0 d V n (ceR bb t0 k) (ceC bb t0 k) = if chF bb t0 (k + 1) < 12 then V (ceR bb t0 k) (ceC bb t0 k) + d else V (ceR bb t0 k) (ceC bb t0 k) - d
  | 0, _, k, hk => absurd hk (by omega)
  | n + 1, hn, k, hk => by
    show upT (shT bb t0 d V n) (ceR bb t0 n) (ceC bb t0 n) _ (ceR bb t0 k) (ceC bb t0 k) = _
    by_cases e : k = n
    · subst e
      rw [upT_s, shT_far k (fun m hm => ce_ne h hS (by omega) (by omega) (by omega))]
    · rw [upT_n (ce_ne h hS (by omega) (by omega) e)]
      exact shT_at h hS n (by omega) k (by omega)
def dl (a b : Nat) (d : Int) : Int := if a = b then d else 0
theorem dl_t {a b : Nat} (h : a = b) (d : Int) : dl a b d = d := if_pos h
theorem dl_s (a : Nat) (d : Int) : dl a a d = d := if_pos rfl
theorem dl_n {a b : Nat} (h : a ≠ b) (d : Int) : dl a b d = 0 := if_neg h
theorem row_u {W : Nat → Nat → Nat} {i j x a : Nat} (hj : j < 12) : sumI 12 (fun b => (upT W i j x a b : Int)) = sumI 12 (fun b => (W a b : Int)) + dl a i ((x : Int) - (W i j : Int)) := by
  unfold dl
  by_cases e : a = i
  · subst e
    rw [if_pos rfl, ← sumI_u 12 hj]
    exact sumI_c 12 (fun b _ => by
      by_cases eb : b = j
      · subst eb; rw [upT_s, if_pos rfl]
      · rw [upT_n (fun z => eb z.2), if_neg eb])
  · rw [if_neg e, Int.add_zero]
    exact sumI_c 12 (fun b _ => by rw [upT_n (fun z => e z.1)])
theorem col_u {W : Nat → Nat → Nat} {i j x b : Nat} (hi : i < 12) : sumI 12 (fun a => (upT W i j x a b : Int)) = sumI 12 (fun a => (W a b : Int)) + dl b j ((x : Int) - (W i j : Int)) := by
  unfold dl
  by_cases e : b = j
  · subst e
    rw [if_pos rfl, ← sumI_u 12 hi]
    exact sumI_c 12 (fun a _ => by
      by_cases ea : a = i
      · subst ea; rw [upT_s, if_pos rfl]
      · rw [upT_n (fun z => ea z.1), if_neg ea])
  · rw [if_neg e, Int.add_zero]
    exact sumI_c 12 (fun a _ => by rw [upT_n (fun z => e z.2)])
/-- sums of rows and columns on the way -/
theorem shT_sum {s bb : Nat → Int32} {u0 t0 d : Nat} {L : Nat → Nat} {kp : Nat → Nat → Bool} {V Lo Hi : Nat → Nat → Nat} {on : Nat → Nat → Bool} (h : CH s u0 t0 bb L) (hS : SYN kp V Lo Hi on s) (hd : ∀ k, k < L t0 → ¬ chF bb t0 (k + 1) < 12 → d ≤ V (ceR bb t0 k) (ceC bb t0 k)) : ∀ n, n ≤ L t0 → (∀ i, i < 12 → sumI 12 (fun j => (shT bb t0 d V n i j : Int)) = sumI 12 (fun j => (V i j : Int)) + dl i (chF bb t0 n) d - dl i t0 d) ∧ ∀ j, j < 12 → sumI 12 (fun i => (shT bb t0 d V n i j : Int)) = sumI 12 (fun i => (V i j : Int)) - dl (12 + j) (chF bb t0 n) d + dl (12 + j) t0 d
  | 0, _ => ⟨fun i hi => by show _ = _ + dl i t0 d - dl i t0 d; rw [Int.add_sub_cancel]; rfl, fun j hj => by show _ = _ - dl (12 + j) t0 d + dl (12 + j) t0 d; rw [Int.sub_add_cancel]; rfl⟩
  | n + 1, hn => by
    obtain ⟨ihr, ihc⟩ := shT_sum h hS hd n (by omega)
    obtain ⟨b1, b2, _, _, b5, _⟩ := h.2.2.2.2 n (by omega)
    have hfar := shT_far (d := d) (V := V) n (fun k hk => ce_ne h hS (show n < L t0 by omega) (show k < L t0 by omega) (by omega))
    have hdn := hd n (by omega)
    rcases arc_of hS b2 b1 b5 with ⟨a1, a2, a3, _⟩ | ⟨a1, a2, a3, _⟩
    · have eR : ceR bb t0 n = chF bb t0 (n + 1) := if_pos a1
      have eC : ceC bb t0 n = chF bb t0 n - 12 := if_pos a1
      refine ⟨fun i hi => ?_, fun j hj => ?_⟩
      · show sumI 12 (fun j => (upT (shT bb t0 d V n) (ceR bb t0 n) (ceC bb t0 n) (if chF bb t0 (n + 1) < 12 then shT bb t0 d V n (ceR bb t0 n) (ceC bb t0 n) + d else shT bb t0 d V n (ceR bb t0 n) (ceC bb t0 n) - d) i j : Int)) = _
        rw [row_u (by rw [eC]; omega), ihr i hi, if_pos a1, eR]
        by_cases e1 : i = chF bb t0 (n + 1)
        · simp only [dl_t e1, dl_n (show i ≠ chF bb t0 n by omega)] <;> omega
        · simp only [dl_n e1, dl_n (show i ≠ chF bb t0 n by omega)] <;> omega
      · show sumI 12 (fun i => (upT (shT bb t0 d V n) (ceR bb t0 n) (ceC bb t0 n) (if chF bb t0 (n + 1) < 12 then shT bb t0 d V n (ceR bb t0 n) (ceC bb t0 n) + d else shT bb t0 d V n (ceR bb t0 n) (ceC bb t0 n) - d) i j : Int)) = _
        rw [col_u (by rw [eR]; exact a1), ihc j hj, if_pos a1, eC]
        by_cases e1 : 12 + j = chF bb t0 n
        · simp only [dl_t e1, dl_n (show 12 + j ≠ chF bb t0 (n + 1) by omega), dl_t (show j = chF bb t0 n - 12 by omega)] <;> omega
        · simp only [dl_n e1, dl_n (show 12 + j ≠ chF bb t0 (n + 1) by omega), dl_n (show j ≠ chF bb t0 n - 12 by omega)] <;> omega
    · have na : ¬ chF bb t0 (n + 1) < 12 := by omega
      have eR : ceR bb t0 n = chF bb t0 n := if_neg na
      have eC : ceC bb t0 n = chF bb t0 (n + 1) - 12 := if_neg na
      have hge := hdn na
      refine ⟨fun i hi => ?_, fun j hj => ?_⟩
      · show sumI 12 (fun j => (upT (shT bb t0 d V n) (ceR bb t0 n) (ceC bb t0 n) (if chF bb t0 (n + 1) < 12 then shT bb t0 d V n (ceR bb t0 n) (ceC bb t0 n) + d else shT bb t0 d V n (ceR bb t0 n) (ceC bb t0 n) - d) i j : Int)) = _
        rw [row_u (by rw [eC]; omega), ihr i hi, if_neg na, hfar, eR]
        rw [eR] at hge
        by_cases e1 : i = chF bb t0 n
        · simp only [dl_t e1, dl_n (show i ≠ chF bb t0 (n + 1) by omega)] <;> omega
        · simp only [dl_n e1, dl_n (show i ≠ chF bb t0 (n + 1) by omega)] <;> omega
      · show sumI 12 (fun i => (upT (shT bb t0 d V n) (ceR bb t0 n) (ceC bb t0 n) (if chF bb t0 (n + 1) < 12 then shT bb t0 d V n (ceR bb t0 n) (ceC bb t0 n) + d else shT bb t0 d V n (ceR bb t0 n) (ceC bb t0 n) - d) i j : Int)) = _
        rw [col_u (by rw [eR]; exact a1), ihc j hj, if_neg na, hfar, eC]
        rw [eC] at hge
        by_cases e1 : 12 + j = chF bb t0 (n + 1)
        · simp only [dl_t e1, dl_n (show 12 + j ≠ chF bb t0 n by omega), dl_t (show j = chF bb t0 (n + 1) - 12 by omega)] <;> omega
        · simp only [dl_n e1, dl_n (show 12 + j ≠ chF bb t0 n by omega), dl_n (show j ≠ chF bb t0 (n + 1) - 12 by omega)] <;> omega
