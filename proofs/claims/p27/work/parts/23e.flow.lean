/-- the sum of the first n -/
def sumI : Nat → (Nat → Int) → Int
  | 0, _ => 0
  | n + 1, f => sumI n f + f n
theorem sumI_c {f g : Nat → Int} : ∀ n, (∀ k, k < n → f k = g k) → sumI n f = sumI n g
  | 0, _ => rfl
  | n + 1, h => by
    show sumI n f + f n = sumI n g + g n
    rw [sumI_c n (fun k hk => h k (by omega)), h n (by omega)]
theorem sumI_sub {f g : Nat → Int} : ∀ n, sumI n (fun k => f k - g k) = sumI n f - sumI n g
  | 0 => rfl
  | n + 1 => by
    show sumI n (fun k => f k - g k) + (f n - g n) = sumI n f + f n - (sumI n g + g n)
    rw [sumI_sub n]; omega
theorem sumI_add {f g : Nat → Int} : ∀ n, sumI n (fun k => f k + g k) = sumI n f + sumI n g
  | 0 => rfl
  | n + 1 => by
    show sumI n (fun k => f k + g k) + (f n + g n) = sumI n f + f n + (sumI n g + g n)
    rw [sumI_add n]; omega
theorem sumI_0 : ∀ n, sumI n (fun _ => 0) = 0
  | 0 => rfl
  | n + 1 => by
    show sumI n (fun _ => 0) + 0 = 0
    rw [sumI_0 n]; rfl
theorem sumI_swap {f : Nat → Nat → Int} : ∀ n m, sumI n (fun i => sumI m (fun j => f i j)) = sumI m (fun j => sumI n (fun i => f i j))
  | 0, m => (sumI_0 m).symm
  | n + 1, m => by
    show sumI n (fun i => sumI m (fun j => f i j)) + sumI m (fun j => f n j) = sumI m (fun j => sumI n (fun i => f i j) + f n j)
    rw [sumI_swap n m, sumI_add]
theorem sumI_np {f : Nat → Int} : ∀ n, (∀ k, k < n → f k ≤ 0) → sumI n f ≤ 0
  | 0, _ => Int.le_refl 0
  | n + 1, h => by
    have h1 := sumI_np n (fun k hk => h k (by omega))
    have h2 := h n (by omega)
    show sumI n f + f n ≤ 0
    omega
theorem sumI_one {f : Nat → Int} {r : Nat} : ∀ n, r < n → (∀ k, k < n → k ≠ r → f k ≤ 0) → sumI n f ≤ f r
  | 0, hr, _ => absurd hr (by omega)
  | n + 1, hr, h => by
    show sumI n f + f n ≤ f r
    by_cases e : r = n
    · subst e
      have h1 := sumI_np r (fun k hk => h k (by omega) (by omega))
      omega
    · have h1 := sumI_one n (by omega) (fun k hk hne => h k (by omega) hne)
      have h2 := h n (by omega) (fun z => e z.symm)
      omega
theorem sumI_z {f : Nat → Int} (n : Nat) (h : ∀ k, k < n → f k = 0) : sumI n f = 0 := (sumI_c n h).trans (sumI_0 n)
/-- no table goes beyond a cut: d is the difference of two tables with the same sums -/
theorem cut_0 {n m r c : Nat} {d : Nat → Nat → Int} {SR SC : Nat → Bool} (hrow : ∀ i, i < n → sumI m (fun j => d i j) = 0) (hcol : ∀ j, j < m → sumI n (fun i => d i j) = 0) (hr : r < n) (hc : c < m) (hSr : SR r = true) (hSc : SC c = false)
    (h1 : ∀ i j, i < n → j < m → SR i = true → SC j = false → ¬ (i = r ∧ j = c) → d i j ≤ 0) (h2 : ∀ i j, i < n → j < m → SR i = false → SC j = true → 0 ≤ d i j) : 0 ≤ d r c := by
  have ea : sumI n (fun i => sumI m (fun j => if SR i = true then d i j else 0)) = 0 := sumI_z n (fun i hi => by
    by_cases e : SR i = true
    · rw [sumI_c m (g := fun j => d i j) (fun j _ => if_pos e)]; exact hrow i hi
    · exact sumI_z m (fun j _ => if_neg e))
  have eb : sumI n (fun i => sumI m (fun j => if SC j = true then d i j else 0)) = 0 := by
    rw [sumI_swap]
    exact sumI_z m (fun j hj => by
      by_cases e : SC j = true
      · rw [sumI_c n (g := fun i => d i j) (fun i _ => if_pos e)]; exact hcol j hj
      · exact sumI_z n (fun i _ => if_neg e))
  have et : sumI n (fun i => sumI m (fun j => (if SR i = true then d i j else 0) - (if SC j = true then d i j else 0))) = 0 := by
    rw [sumI_c n (g := fun i => sumI m (fun j => if SR i = true then d i j else 0) - sumI m (fun j => if SC j = true then d i j else 0)) (fun i _ => sumI_sub m), sumI_sub, ea, eb]; rfl
  have ele : ∀ i j, i < n → j < m → ¬ (i = r ∧ j = c) → (if SR i = true then d i j else 0) - (if SC j = true then d i j else 0) ≤ 0 := fun i j hi hj hne => by
    by_cases e1 : SR i = true
    · by_cases e2 : SC j = true
      · rw [if_pos e1, if_pos e2]; omega
      · have e2f : SC j = false := by cases hh : SC j with
          | true => exact absurd hh e2
          | false => rfl
        rw [if_pos e1, if_neg e2]
        have := h1 i j hi hj e1 e2f hne
        omega
    · have e1f : SR i = false := by cases hh : SR i with
        | true => exact absurd hh e1
        | false => rfl
      by_cases e2 : SC j = true
      · rw [if_neg e1, if_pos e2]
        have := h2 i j hi hj e1f e2
        omega
      · rw [if_neg e1, if_neg e2]; omega
  have hrc : (if SR r = true then d r c else 0) - (if SC c = true then d r c else 0) = d r c := by
    rw [if_pos hSr, if_neg (by rw [hSc]; decide)]; omega
  have hrow2 : sumI m (fun j => (if SR r = true then d r j else 0) - (if SC j = true then d r j else 0)) ≤ d r c := by
    have := sumI_one (f := fun j => (if SR r = true then d r j else 0) - (if SC j = true then d r j else 0)) m hc (fun k hk hne => ele r k hr hk (fun z => hne z.2))
    rw [← hrc]; exact this
  have hall := sumI_one (f := fun i => sumI m (fun j => (if SR i = true then d i j else 0) - (if SC j = true then d i j else 0))) n hr (fun i hi hne => sumI_np m (fun j hj => ele i j hi hj (fun z => hne z.1)))
  rw [et] at hall
  exact Int.le_trans hall hrow2
/-- a table of whole numbers that agrees: what is not kept stays, what is kept lies between its bounds, rows and columns have their sums -/
def agI (n m : Nat) (kp : Nat → Nat → Bool) (lo hi v w : Nat → Nat → Int) : Prop := (∀ i j, i < n → j < m → kp i j = false → w i j = v i j) ∧ (∀ i j, i < n → j < m → kp i j = true → lo i j ≤ w i j ∧ w i j ≤ hi i j) ∧ (∀ i, i < n → sumI m (fun j => w i j) = sumI m (fun j => v i j)) ∧ ∀ j, j < m → sumI n (fun i => w i j) = sumI n (fun i => v i j)
/-- from row r no steps lead to column c but the cell itself: no table that agrees has less there -/
theorem cut_low {n m r c : Nat} {kp : Nat → Nat → Bool} {lo hi v w : Nat → Nat → Int} {SR SC : Nat → Bool} (ha : agI n m kp lo hi v w) (hr : r < n) (hc : c < m) (hSr : SR r = true) (hSc : SC c = false)
    (h1 : ∀ i j, i < n → j < m → SR i = true → SC j = false → kp i j = true → ¬ (i = r ∧ j = c) → hi i j ≤ v i j) (h2 : ∀ i j, i < n → j < m → SR i = false → SC j = true → kp i j = true → v i j ≤ lo i j) : v r c ≤ w r c := by
  obtain ⟨a1, a2, a3, a4⟩ := ha
  have hk : ∀ i j, kp i j = false ∨ kp i j = true := fun i j => by cases kp i j with
    | true => exact Or.inr rfl
    | false => exact Or.inl rfl
  have := cut_0 (n := n) (m := m) (r := r) (c := c) (d := fun i j => w i j - v i j) (SR := SR) (SC := SC) (fun i hi' => by rw [sumI_sub (f := fun j => w i j) (g := fun j => v i j), a3 i hi']; exact Int.sub_self _) (fun j hj => by rw [sumI_sub (f := fun i => w i j) (g := fun i => v i j), a4 j hj]; exact Int.sub_self _) hr hc hSr hSc
    (fun i j hi' hj e1 e2 hne => by
      rcases hk i j with e | e
      · have := a1 i j hi' hj e; show w i j - v i j ≤ 0; omega
      · have q := a2 i j hi' hj e; have q2 := h1 i j hi' hj e1 e2 e hne; show w i j - v i j ≤ 0; omega)
    (fun i j hi' hj e1 e2 => by
      rcases hk i j with e | e
      · have := a1 i j hi' hj e; show 0 ≤ w i j - v i j; omega
      · have q := a2 i j hi' hj e; have q2 := h2 i j hi' hj e1 e2 e; show 0 ≤ w i j - v i j; omega)
  have h3 : 0 ≤ w r c - v r c := this
  omega
/-- from column c no steps lead to row r but the cell itself: no table that agrees has more there -/
theorem cut_high {n m r c : Nat} {kp : Nat → Nat → Bool} {lo hi v w : Nat → Nat → Int} {SR SC : Nat → Bool} (ha : agI n m kp lo hi v w) (hr : r < n) (hc : c < m) (hSr : SR r = false) (hSc : SC c = true)
    (h1 : ∀ i j, i < n → j < m → SR i = true → SC j = false → kp i j = true → hi i j ≤ v i j) (h2 : ∀ i j, i < n → j < m → SR i = false → SC j = true → kp i j = true → ¬ (i = r ∧ j = c) → v i j ≤ lo i j) : w r c ≤ v r c := by
  obtain ⟨a1, a2, a3, a4⟩ := ha
  have hk : ∀ i j, kp i j = false ∨ kp i j = true := fun i j => by cases kp i j with
    | true => exact Or.inr rfl
    | false => exact Or.inl rfl
  have := cut_0 (n := n) (m := m) (r := r) (c := c) (d := fun i j => v i j - w i j) (SR := fun i => !SR i) (SC := fun j => !SC j) (fun i hi' => by rw [sumI_sub (f := fun j => v i j) (g := fun j => w i j), a3 i hi']; exact Int.sub_self _) (fun j hj => by rw [sumI_sub (f := fun i => v i j) (g := fun i => w i j), a4 j hj]; exact Int.sub_self _) hr hc (by rw [hSr]; rfl) (by rw [hSc]; rfl)
    (fun i j hi' hj e1 e2 hne => by
      have f1 : SR i = false := by cases hh : SR i with
        | true => rw [hh] at e1; exact absurd e1 (by decide)
        | false => rfl
      have f2 : SC j = true := by cases hh : SC j with
        | true => rfl
        | false => rw [hh] at e2; exact absurd e2 (by decide)
      rcases hk i j with e | e
      · have := a1 i j hi' hj e; show v i j - w i j ≤ 0; omega
      · have q := a2 i j hi' hj e; have q2 := h2 i j hi' hj f1 f2 e hne; show v i j - w i j ≤ 0; omega)
    (fun i j hi' hj e1 e2 => by
      have f1 : SR i = true := by cases hh : SR i with
        | true => rfl
        | false => rw [hh] at e1; exact absurd e1 (by decide)
      have f2 : SC j = false := by cases hh : SC j with
        | true => rw [hh] at e2; exact absurd e2 (by decide)
        | false => rfl
      rcases hk i j with e | e
      · have := a1 i j hi' hj e; show 0 ≤ v i j - w i j; omega
      · have q := a2 i j hi' hj e; have q2 := h1 i j hi' hj f1 f2 e; show 0 ≤ v i j - w i j; omega)
  have h3 : 0 ≤ v r c - w r c := this
  omega
/-! how long walks by steps that lie level by level can go on -/
def cntN : Nat → (Nat → Bool) → Nat
  | 0, _ => 0
  | n + 1, f => cntN n f + (if f n = true then 1 else 0)
theorem cntN_le (f : Nat → Bool) : ∀ n, cntN n f ≤ n
  | 0 => Nat.le_refl 0
  | n + 1 => by
    have := cntN_le f n
    show cntN n f + _ ≤ n + 1
    split <;> omega
theorem cntN_mono {f g : Nat → Bool} : ∀ n, (∀ k, k < n → f k = true → g k = true) → cntN n f ≤ cntN n g
  | 0, _ => Nat.le_refl 0
  | n + 1, h => by
    have h1 := cntN_mono n (fun k hk => h k (by omega))
    have h2 := h n (by omega)
    show cntN n f + (if f n = true then 1 else 0) ≤ cntN n g + (if g n = true then 1 else 0)
    by_cases e : f n = true
    · rw [if_pos e, if_pos (h2 e)]; omega
    · rw [if_neg e]; omega
theorem cntN_lt {f g : Nat → Bool} {r : Nat} : ∀ n, r < n → (∀ k, k < n → f k = true → g k = true) → f r = false → g r = true → cntN n f < cntN n g
  | 0, hr, _, _, _ => absurd hr (by omega)
  | n + 1, hr, h, hf, hg => by
    show cntN n f + (if f n = true then 1 else 0) < cntN n g + (if g n = true then 1 else 0)
    by_cases e : r = n
    · subst e
      have h1 := cntN_mono r (fun k hk => h k (by omega))
      rw [if_neg (by rw [hf]; decide), if_pos hg]; omega
    · have h1 := cntN_lt n (by omega) (fun k hk => h k (by omega)) hf hg
      by_cases e2 : f n = true
      · rw [if_pos e2, if_pos (h n (by omega) e2)]; omega
      · rw [if_neg e2]; omega
/-- steps u → v, both below 25, as one number -/
def tight (E : Nat → Nat → Bool) (L : Nat → Nat) (q : Nat) : Bool := E (q / 25) (q % 25) && decide (L (q % 25) = L (q / 25) + 1)
def lvOK (E : Nat → Nat → Bool) (L : Nat → Nat) : Prop := ∀ u v, u < 25 → v < 25 → E u v = true → L v ≤ L u + 1
/-- what falls with each walk: t's level can rise to 25 at the most -/
def msr (E : Nat → Nat → Bool) (L : Nat → Nat) (t : Nat) : Nat := (25 - L t) * 626 + cntN 625 (tight E L)
theorem msr_lt {E E2 : Nat → Nat → Bool} {L : Nat → Nat} {t a b : Nat} (ha : a < 25) (hb : b < 25) (hE : E a b = true) (hL : L b = L a + 1) (hE2 : E2 a b = false) (hsub : ∀ u v, u < 25 → v < 25 → E2 u v = true → E u v = true ∨ (E v u = true ∧ L u = L v + 1)) : msr E2 L t < msr E L t := by
  unfold msr
  have h := cntN_lt (f := tight E2 L) (g := tight E L) (r := a * 25 + b) 625 (by omega) (fun q hq hf => by
    unfold tight at hf ⊢
    rw [Bool.and_eq_true] at hf ⊢
    refine ⟨?_, hf.2⟩
    rcases hsub (q / 25) (q % 25) (by omega) (by omega) hf.1 with h | ⟨_, h⟩
    · exact h
    · have := of_decide_eq_true hf.2
      omega) (by unfold tight; rw [show (a * 25 + b) / 25 = a by omega, show (a * 25 + b) % 25 = b by omega, hE2]; rfl) (by unfold tight; rw [show (a * 25 + b) / 25 = a by omega, show (a * 25 + b) % 25 = b by omega, hE, Bool.true_and]; exact decide_eq_true hL)
  omega
theorem lvOK_2 {E E2 : Nat → Nat → Bool} {L : Nat → Nat} (h : lvOK E L) (hsub : ∀ u v, u < 25 → v < 25 → E2 u v = true → E u v = true ∨ (E v u = true ∧ L u = L v + 1)) : lvOK E2 L := fun u v hu hv e => by
  rcases hsub u v hu hv e with q | ⟨_, q⟩
  · exact h u v hu hv q
  · omega
theorem msr_new {E : Nat → Nat → Bool} {L L2 : Nat → Nat} {t : Nat} (h : L t < L2 t) (h25 : L2 t ≤ 25) : msr E L2 t ≤ msr E L t := by
  unfold msr
  have h1 := cntN_le (tight E L2) 625
  have h2 : (25 - L2 t) * 626 + 626 ≤ (25 - L t) * 626 := by
    have : 25 - L2 t + 1 ≤ 25 - L t := by omega
    calc (25 - L2 t) * 626 + 626 = (25 - L2 t + 1) * 626 := by omega
      _ ≤ (25 - L t) * 626 := Nat.mul_le_mul_right 626 this
  omega
theorem msr_le (E : Nat → Nat → Bool) (L : Nat → Nat) (t : Nat) : msr E L t ≤ 16275 := by
  unfold msr
  exact Nat.add_le_add (Nat.mul_le_mul_right 626 (show 25 - L t ≤ 25 from Nat.sub_le 25 (L t))) (cntN_le (tight E L) 625)
