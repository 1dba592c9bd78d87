/-! networks: c u v is what may still go from u to v -/
theorem sumI_split {f : Nat → Int} (n : Nat) : ∀ m, sumI (n + m) f = sumI n f + sumI m (fun k => f (n + k))
  | 0 => (Int.add_zero _).symm
  | m + 1 => by
    show sumI (n + m) f + f (n + m) = sumI n f + (sumI m (fun k => f (n + k)) + f (n + m))
    rw [sumI_split n m]; omega
theorem sumI_le {f g : Nat → Int} : ∀ n, (∀ k, k < n → f k ≤ g k) → sumI n f ≤ sumI n g
  | 0, _ => Int.le_refl 0
  | n + 1, h => by
    have h1 := sumI_le n (fun k hk => h k (by omega))
    have h2 := h n (by omega)
    show sumI n f + f n ≤ sumI n g + g n
    omega
theorem sumI_lt {f g : Nat → Int} {r : Nat} : ∀ n, r < n → (∀ k, k < n → f k ≤ g k) → f r < g r → sumI n f < sumI n g
  | 0, hr, _, _ => absurd hr (by omega)
  | n + 1, hr, h, hl => by
    have h2 := h n (by omega)
    show sumI n f + f n < sumI n g + g n
    by_cases e : r = n
    · subst e
      have h1 := sumI_le r (fun k hk => h k (by omega))
      omega
    · have h1 := sumI_lt n (by omega) (fun k hk => h k (by omega)) hl
      omega
theorem sumI_dl {r : Nat} {x : Int} (n : Nat) (hr : r < n) : sumI n (fun k => dl k r x) = x := by
  have h := sumI_u (f := fun _ => 0) (x := x) n hr
  rw [sumI_0] at h
  show sumI n (fun k => if k = r then x else 0) = x
  rw [h]; omega
theorem anti_0 {N : Nat} {A : Nat → Nat → Int} (h : ∀ u v, u < N → v < N → A u v + A v u = 0) : sumI N (fun u => sumI N (fun v => A u v)) = 0 := by
  have e1 : sumI N (fun u => sumI N (fun v => A u v)) = sumI N (fun u => sumI N (fun v => A v u)) := sumI_swap N N
  have e2 : sumI N (fun u => sumI N (fun v => A u v)) + sumI N (fun u => sumI N (fun v => A v u)) = 0 := (sumI_add N).symm.trans (sumI_z N (fun u hu => (sumI_add N).symm.trans (sumI_z N (fun v hv => h u v hu hv))))
  omega
theorem cutN {N : Nat} {d : Nat → Nat → Int} {S : Nat → Bool} (ha : ∀ u v, u < N → v < N → d u v + d v u = 0) : sumI N (fun u => if S u = true then sumI N (fun v => d u v) else 0) = sumI N (fun u => sumI N (fun v => if S u = true ∧ S v = false then d u v else 0)) := by
  have e0 : sumI N (fun u => sumI N (fun v => if S u = true ∧ S v = true then d u v else 0)) = 0 := anti_0 (A := fun u v => if S u = true ∧ S v = true then d u v else 0) (fun u v hu hv => by
    show (if S u = true ∧ S v = true then d u v else 0) + (if S v = true ∧ S u = true then d v u else 0) = 0
    by_cases e : S u = true ∧ S v = true
    · rw [if_pos e, if_pos ⟨e.2, e.1⟩]; exact ha u v hu hv
    · rw [if_neg e, if_neg (fun z => e ⟨z.2, z.1⟩)]; rfl)
  have e1 : sumI N (fun u => if S u = true then sumI N (fun v => d u v) else 0) = sumI N (fun u => sumI N (fun v => if S u = true ∧ S v = true then d u v else 0) + sumI N (fun v => if S u = true ∧ S v = false then d u v else 0)) := sumI_c N (fun u hu => by
    show (if S u = true then sumI N (fun v => d u v) else 0) = sumI N (fun v => if S u = true ∧ S v = true then d u v else 0) + sumI N (fun v => if S u = true ∧ S v = false then d u v else 0)
    by_cases e : S u = true
    · rw [if_pos e]
      refine Eq.trans (sumI_c N (fun v hv => ?_)) (sumI_add (f := fun v => if S u = true ∧ S v = true then d u v else 0) (g := fun v => if S u = true ∧ S v = false then d u v else 0) N)
      show d u v = (if S u = true ∧ S v = true then d u v else 0) + (if S u = true ∧ S v = false then d u v else 0)
      by_cases q : S v = true
      · rw [if_pos ⟨e, q⟩, if_neg (fun z => by rw [q] at z; exact absurd z.2 (by decide))]; omega
      · have q2 : S v = false := by cases hh : S v with
          | true => exact absurd hh q
          | false => rfl
        rw [if_neg (fun z => q z.2), if_pos ⟨e, q2⟩]; omega
    · have z1 : sumI N (fun v => if S u = true ∧ S v = true then d u v else 0) = 0 := sumI_z N (fun v _ => if_neg (fun z => e z.1))
      have z2 : sumI N (fun v => if S u = true ∧ S v = false then d u v else 0) = 0 := sumI_z N (fun v _ => if_neg (fun z => e z.1))
      rw [if_neg e, z1, z2]; rfl)
  rw [e1]
  refine (sumI_add (f := fun u => sumI N (fun v => if S u = true ∧ S v = true then d u v else 0)) (g := fun u => sumI N (fun v => if S u = true ∧ S v = false then d u v else 0)) N).trans ?_
  show sumI N (fun u => sumI N (fun v => if S u = true ∧ S v = true then d u v else 0)) + _ = _
  rw [e0]; exact Int.zero_add _
/-- what crosses the border of a set that holds r0 and not t0 -/
theorem net_cut {d : Nat → Nat → Int} {S : Nat → Bool} {r0 t0 : Nat} {e : Int} (hr : r0 < 24) (ht : t0 < 24) (ha : ∀ u v, u < 25 → v < 25 → d u v + d v u = 0) (hout : ∀ u, u < 24 → sumI 25 (fun v => d u v) = dl u r0 e - dl u t0 e) : (if S r0 = true then e else 0) - (if S t0 = true then e else 0) = sumI 25 (fun u => sumI 25 (fun v => if S u = true ∧ S v = false then d u v else 0)) := by
  have tot := anti_0 ha
  have h24 : sumI 25 (fun v => d 24 v) = 0 := by
    have h1 : sumI 25 (fun u => sumI 25 (fun v => d u v)) = sumI 24 (fun u => sumI 25 (fun v => d u v)) + sumI 25 (fun v => d 24 v) := rfl
    have h2 : sumI 24 (fun u => sumI 25 (fun v => d u v)) = sumI 24 (fun u => dl u r0 e - dl u t0 e) := sumI_c 24 hout
    rw [sumI_sub (f := fun u => dl u r0 e) (g := fun u => dl u t0 e), sumI_dl 24 hr, sumI_dl 24 ht] at h2
    omega
  have hall : ∀ u, u < 25 → sumI 25 (fun v => d u v) = dl u r0 e - dl u t0 e := fun u hu => by
    by_cases q : u = 24
    · rw [q, h24, dl_n (show 24 ≠ r0 by omega), dl_n (show 24 ≠ t0 by omega)]; rfl
    · exact hout u (by omega)
  rw [← cutN ha]
  have h3 : sumI 25 (fun u => if S u = true then sumI 25 (fun v => d u v) else 0) = sumI 25 (fun u => dl u r0 (if S r0 = true then e else 0) - dl u t0 (if S t0 = true then e else 0)) := sumI_c 25 (fun u hu => by
    show (if S u = true then sumI 25 (fun v => d u v) else 0) = dl u r0 (if S r0 = true then e else 0) - dl u t0 (if S t0 = true then e else 0)
    rw [hall u hu]
    by_cases q1 : u = r0
    · by_cases q2 : u = t0
      · rw [dl_t q1, dl_t q1, dl_t q2, dl_t q2, ← q1, ← q2]; split <;> omega
      · rw [dl_t q1, dl_t q1, dl_n q2, dl_n q2, ← q1]; split <;> omega
    · by_cases q2 : u = t0
      · rw [dl_n q1, dl_n q1, dl_t q2, dl_t q2, ← q2]; split <;> omega
      · rw [dl_n q1, dl_n q1, dl_n q2, dl_n q2]; split <;> omega)
  rw [h3, sumI_sub (f := fun u => dl u r0 (if S r0 = true then e else 0)) (g := fun u => dl u t0 (if S t0 = true then e else 0)), sumI_dl 25 (by omega), sumI_dl 25 (by omega)]
theorem brd_np {N : Nat} {d : Nat → Nat → Int} {S : Nat → Bool} (h0 : ∀ u v, u < N → v < N → S u = true → S v = false → d u v ≤ 0) (u v : Nat) (hu : u < N) (hv : v < N) : (if S u = true ∧ S v = false then d u v else 0) ≤ 0 := by
  by_cases q : S u = true ∧ S v = false
  · rw [if_pos q]; exact h0 u v hu hv q.1 q.2
  · rw [if_neg q]; exact Int.le_refl 0
theorem brd_le {N : Nat} {d : Nat → Nat → Int} {S : Nat → Bool} (h0 : ∀ u v, u < N → v < N → S u = true → S v = false → d u v ≤ 0) : sumI N (fun u => sumI N (fun v => if S u = true ∧ S v = false then d u v else 0)) ≤ 0 := sumI_np N (fun u hu => sumI_np N (fun v hv => brd_np h0 u v hu hv))
theorem brd_lt {N p q : Nat} {d : Nat → Nat → Int} {S : Nat → Bool} (hp : p < N) (hq : q < N) (h0 : ∀ u v, u < N → v < N → S u = true → S v = false → d u v ≤ 0) (h1 : S p = true) (h2 : S q = false) (h3 : d p q < 0) : sumI N (fun u => sumI N (fun v => if S u = true ∧ S v = false then d u v else 0)) < 0 := by
  have row : sumI N (fun v => if S p = true ∧ S v = false then d p v else 0) < 0 := by
    have := sumI_lt (f := fun v => if S p = true ∧ S v = false then d p v else 0) (g := fun _ => 0) (r := q) N hq (fun v hv => brd_np h0 p v hp hv) (by show (if S p = true ∧ S q = false then d p q else 0) < 0; rw [if_pos ⟨h1, h2⟩]; exact h3)
    rw [sumI_0] at this; exact this
  have := sumI_lt (f := fun u => sumI N (fun v => if S u = true ∧ S v = false then d u v else 0)) (g := fun _ => 0) (r := p) N hp (fun u hu => sumI_np N (fun v hv => brd_np h0 u v hu hv)) row
  rw [sumI_0] at this; exact this
/-! what is left when n go from x to y -/
def pu (c : Nat → Nat → Int) (x y : Nat) (n : Int) (u v : Nat) : Int := if u = x ∧ v = y then c u v - n else if u = y ∧ v = x then c u v + n else c u v
theorem pu_f {c : Nat → Nat → Int} {x y : Nat} {n : Int} : pu c x y n x y = c x y - n := if_pos ⟨rfl, rfl⟩
theorem pu_b {c : Nat → Nat → Int} {x y : Nat} {n : Int} (h : x ≠ y) : pu c x y n y x = c y x + n := by
  unfold pu; rw [if_neg (fun z => h z.2), if_pos ⟨rfl, rfl⟩]
theorem pu_n {c : Nat → Nat → Int} {x y u v : Nat} {n : Int} (h1 : ¬ (u = x ∧ v = y)) (h2 : ¬ (u = y ∧ v = x)) : pu c x y n u v = c u v := by
  unfold pu; rw [if_neg h1, if_neg h2]
theorem pu_anti {c : Nat → Nat → Int} {x y : Nat} {n : Int} (hne : x ≠ y) (u v : Nat) : pu c x y n u v + pu c x y n v u = c u v + c v u := by
  by_cases h1 : u = x ∧ v = y
  · obtain ⟨rfl, rfl⟩ := h1
    rw [pu_f, pu_b hne]; omega
  · by_cases h2 : u = y ∧ v = x
    · obtain ⟨rfl, rfl⟩ := h2
      rw [pu_f, pu_b hne]; omega
    · rw [pu_n h1 h2, pu_n (fun z => h2 ⟨z.2, z.1⟩) (fun z => h1 ⟨z.2, z.1⟩)]
theorem pu_sum {N x y : Nat} {c : Nat → Nat → Int} {n : Int} (hx : x < N) (hy : y < N) (hne : x ≠ y) (u : Nat) : sumI N (fun v => pu c x y n u v) = sumI N (fun v => c u v) - dl u x n + dl u y n := by
  by_cases e : u = x
  · have h1 : sumI N (fun v => pu c x y n u v) = sumI N (fun v => if v = y then c u y - n else c u v) := sumI_c N (fun v _ => by
      by_cases e2 : v = y
      · rw [if_pos e2, e, e2]; exact pu_f
      · rw [if_neg e2]; exact pu_n (fun z => e2 z.2) (fun z => hne (e.symm.trans z.1)))
    rw [h1, sumI_u (f := fun v => c u v) N hy, dl_t e, dl_n (show u ≠ y from fun z => hne (e.symm.trans z))]; omega
  · by_cases e2 : u = y
    · have h1 : sumI N (fun v => pu c x y n u v) = sumI N (fun v => if v = x then c u x + n else c u v) := sumI_c N (fun v _ => by
        by_cases e3 : v = x
        · rw [if_pos e3, e2, e3]; exact pu_b hne
        · rw [if_neg e3]; exact pu_n (fun z => e z.1) (fun z => e3 z.2))
      rw [h1, sumI_u (f := fun v => c u v) N hx, dl_n e, dl_t e2]; omega
    · rw [dl_n e, dl_n e2, sumI_c N (g := fun v => c u v) (fun v _ => pu_n (fun z => e z.1) (fun z => e2 z.1))]; omega
/-- n go along the way, from its end backwards -/
def puC (ch : Nat → Nat) (n : Int) (c : Nat → Nat → Int) : Nat → Nat → Nat → Int
  | 0 => c
  | k + 1 => pu (puC ch n c k) (ch (k + 1)) (ch k) n
theorem puC_anti {ch : Nat → Nat} {n : Int} {c : Nat → Nat → Int} : ∀ k, (∀ j, j < k → ch (j + 1) ≠ ch j) → ∀ u v, puC ch n c k u v + puC ch n c k v u = c u v + c v u
  | 0, _, _, _ => rfl
  | k + 1, h, u, v => (pu_anti (h k (by omega)) u v).trans (puC_anti k (fun j hj => h j (by omega)) u v)
theorem puC_sum {N : Nat} {ch : Nat → Nat} {n : Int} {c : Nat → Nat → Int} : ∀ k, (∀ j, j < k → ch (j + 1) < N ∧ ch j < N ∧ ch (j + 1) ≠ ch j) → ∀ u, sumI N (fun v => puC ch n c k u v) = sumI N (fun v => c u v) - dl u (ch k) n + dl u (ch 0) n
  | 0, _, u => by show sumI N (fun v => c u v) = _; omega
  | k + 1, h, u => by
    obtain ⟨h1, h2, h3⟩ := h k (by omega)
    have e := puC_sum (n := n) (c := c) k (fun j hj => h j (by omega)) u
    have e2 := pu_sum (c := puC ch n c k) (n := n) h1 h2 h3 u
    have e3 : sumI N (fun v => puC ch n c (k + 1) u v) = sumI N (fun v => pu (puC ch n c k) (ch (k + 1)) (ch k) n u v) := rfl
    omega
theorem puC_far {ch : Nat → Nat} {n : Int} {c : Nat → Nat → Int} {u v : Nat} : ∀ k, (∀ j, j < k → ¬ (u = ch (j + 1) ∧ v = ch j) ∧ ¬ (u = ch j ∧ v = ch (j + 1))) → puC ch n c k u v = c u v
  | 0, _ => rfl
  | k + 1, h => (pu_n (h k (by omega)).1 (h k (by omega)).2).trans (puC_far k (fun j hj => h j (by omega)))
/-- no node of the way is there twice -/
def injW (ch : Nat → Nat) (l : Nat) : Prop := ∀ a b, a ≤ l → b ≤ l → ch a = ch b → a = b
theorem puC_at {ch : Nat → Nat} {n : Int} {c : Nat → Nat → Int} {l k : Nat} (h : injW ch l) (hk : k < l) : puC ch n c k (ch (k + 1)) (ch k) = c (ch (k + 1)) (ch k) := puC_far k (fun j hj => ⟨fun z => by have := h (k + 1) (j + 1) (by omega) (by omega) z.1; omega, fun z => by have := h (k + 1) j (by omega) (by omega) z.1; omega⟩)
/-- each step is gone once, and where there was none nothing is taken -/
theorem puC_or {ch : Nat → Nat} {n : Int} {c : Nat → Nat → Int} {l : Nat} (h : injW ch l) (u v : Nat) : ∀ k, k ≤ l → puC ch n c k u v = c u v ∨ ((∃ j, j < k ∧ u = ch (j + 1) ∧ v = ch j) ∧ puC ch n c k u v = c u v - n) ∨ ((∃ j, j < k ∧ u = ch j ∧ v = ch (j + 1)) ∧ puC ch n c k u v = c u v + n)
  | 0, _ => Or.inl rfl
  | k + 1, hk => by
    have far : (u = ch (k + 1) ∧ v = ch k) ∨ (u = ch k ∧ v = ch (k + 1)) → puC ch n c k u v = c u v := fun z => puC_far k (fun j hj => by
      rcases z with ⟨z1, z2⟩ | ⟨z1, z2⟩
      · exact ⟨fun y => by have := h (k + 1) (j + 1) (by omega) (by omega) (z1.symm.trans y.1); omega, fun y => by have := h (k + 1) j (by omega) (by omega) (z1.symm.trans y.1); omega⟩
      · exact ⟨fun y => by have := h (k + 1) j (by omega) (by omega) (z2.symm.trans y.2); omega, fun y => by have := h (k + 1) (j + 1) (by omega) (by omega) (z2.symm.trans y.2); omega⟩)
    have hne : ch (k + 1) ≠ ch k := fun z => by have := h (k + 1) k (by omega) (by omega) z; omega
    show pu (puC ch n c k) (ch (k + 1)) (ch k) n u v = c u v ∨ _ ∧ pu (puC ch n c k) (ch (k + 1)) (ch k) n u v = c u v - n ∨ _ ∧ pu (puC ch n c k) (ch (k + 1)) (ch k) n u v = c u v + n
    by_cases h1 : u = ch (k + 1) ∧ v = ch k
    · refine Or.inr (Or.inl ⟨⟨k, by omega, h1⟩, ?_⟩)
      rw [← far (Or.inl h1), h1.1, h1.2]; exact pu_f
    · by_cases h2 : u = ch k ∧ v = ch (k + 1)
      · refine Or.inr (Or.inr ⟨⟨k, by omega, h2⟩, ?_⟩)
        rw [← far (Or.inr h2), h2.1, h2.2]; exact pu_b hne
      · rw [pu_n h1 h2]
        rcases puC_or (n := n) (c := c) h u v k (by omega) with q | ⟨⟨j, hj, q1⟩, q⟩ | ⟨⟨j, hj, q1⟩, q⟩
        · exact Or.inl q
        · exact Or.inr (Or.inl ⟨⟨j, by omega, q1⟩, q⟩)
        · exact Or.inr (Or.inr ⟨⟨j, by omega, q1⟩, q⟩)
theorem CH_inj {s bb : Nat → Int32} {u0 t0 : Nat} {L : Nat → Nat} (h : CH s u0 t0 bb L) : injW (chF bb t0) (L t0) := fun a b ha hb e => by
  have h1 := CH_lv h ha
  have h2 := CH_lv h hb
  rw [e] at h1
  omega
