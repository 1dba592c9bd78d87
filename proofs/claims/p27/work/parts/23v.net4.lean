noncomputable def pB (P : Prop) : Bool := @decide P (Classical.propDecidable P)
theorem pB_t {P : Prop} (h : P) : pB P = true := @decide_eq_true P (Classical.propDecidable P) h
theorem pB_f {P : Prop} (h : ¬ P) : pB P = false := @decide_eq_false P (Classical.propDecidable P) h
theorem pB_i {P : Prop} (h : pB P = true) : P := @of_decide_eq_true P (Classical.propDecidable P) h
theorem pB_c {P Q : Prop} (h : P ↔ Q) : pB P = pB Q := by
  by_cases c : P
  · rw [pB_t c, pB_t (h.mp c)]
  · rw [pB_f c, pB_f (fun z => c (h.mpr z))]
theorem eq_pB {b : Bool} {P : Prop} (h : b = true ↔ P) : b = pB P := by
  cases hb : b with
  | true => exact (pB_t (h.mp hb)).symm
  | false => exact (pB_f (fun z => by rw [h.mpr z] at hb; exact absurd hb (by decide))).symm
/-- in a row of whole numbers that are not below 0 each is at most the sum -/
theorem sumI_ge {f : Nat → Int} {k : Nat} : ∀ n, k < n → (∀ j, j < n → 0 ≤ f j) → f k ≤ sumI n f
  | 0, hk, _ => absurd hk (by omega)
  | n + 1, hk, h => by
    show f k ≤ sumI n f + f n
    have hn := h n (by omega)
    by_cases e : k = n
    · subst e
      have h0 : ∀ m, (∀ j, j < m → 0 ≤ f j) → 0 ≤ sumI m f := fun m => by
        induction m with
        | zero => intro _; exact Int.le_refl 0
        | succ m ih => intro g; have a := ih (fun j hj => g j (by omega)); have b := g m (by omega); show 0 ≤ sumI m f + f m; omega
      have := h0 k (fun j hj => h j (by omega))
      omega
    · have := sumI_ge (f := f) (k := k) n (by omega) (fun j hj => h j (by omega))
      omega
def rsum (N : Nat → Nat → Nat) (x : Nat) : Int := sumI 12 (fun y => (N x y : Int))
theorem agN_top {K : Nat → Nat → Bool} {Lo Hi N w : Nat → Nat → Nat} {x y : Nat} (h : agN K Lo Hi N w) (hx : x < 12) (hy : y < 12) : (w x y : Int) ≤ rsum N x := by
  have e := h.2.2.1 x hx
  have q := sumI_ge (f := fun y => (w x y : Int)) 12 hy (fun j _ => Int.natCast_nonneg _)
  unfold rsum
  rw [← e]; exact q
/-- bounds that say the same, for a row's sum -/
def bndE (K : Nat → Nat → Bool) (N Lo Hi Lo2 Hi2 : Nat → Nat → Nat) : Prop := ∀ x y, x < 12 → y < 12 → K x y = true → Lo x y = Lo2 x y ∧ (Hi x y = Hi2 x y ∨ (rsum N x ≤ (Hi x y : Int) ∧ rsum N x ≤ (Hi2 x y : Int)))
theorem agN_e {K K2 : Nat → Nat → Bool} {Lo Hi Lo2 Hi2 N N2 w : Nat → Nat → Nat} (h : agN K Lo Hi N w) (eK : ∀ x y, x < 12 → y < 12 → K2 x y = K x y) (eN : ∀ x y, x < 12 → y < 12 → N2 x y = N x y) (hb : bndE K N Lo Hi Lo2 Hi2) : agN K2 Lo2 Hi2 N2 w := by
  have top := fun x y hx hy => agN_top (x := x) (y := y) h hx hy
  obtain ⟨h1, h2, h3, h4⟩ := h
  refine ⟨fun x y hx hy hk => ?_, fun x y hx hy hk => ?_, fun x hx => ?_, fun y hy => ?_⟩
  · show _ = ((N2 x y : Nat) : Int)
    rw [eN x y hx hy]; exact h1 x y hx hy (by rw [← eK x y hx hy]; exact hk)
  · rw [eK x y hx hy] at hk
    have q := h2 x y hx hy hk
    have q1 : (Lo x y : Int) ≤ (w x y : Int) := q.1
    have q2 : (w x y : Int) ≤ (Hi x y : Int) := q.2
    have t := top x y hx hy
    obtain ⟨b1, b2⟩ := hb x y hx hy hk
    show ((Lo2 x y : Nat) : Int) ≤ ((w x y : Nat) : Int) ∧ ((w x y : Nat) : Int) ≤ ((Hi2 x y : Nat) : Int)
    rcases b2 with b2 | b2
    · rw [← b1, ← b2]; exact ⟨q1, q2⟩
    · rw [← b1]; exact ⟨q1, by omega⟩
  · exact (h3 x hx).trans (sumI_c 12 (fun y hy => by show ((N x y : Nat) : Int) = ((N2 x y : Nat) : Int); rw [eN x y hx hy]))
  · exact (h4 y hy).trans (sumI_c 12 (fun x hx => by show ((N x y : Nat) : Int) = ((N2 x y : Nat) : Int); rw [eN x y hx hy]))
theorem rsum_c {N N2 : Nat → Nat → Nat} {x : Nat} (hx : x < 12) (eN : ∀ x y, x < 12 → y < 12 → N2 x y = N x y) : rsum N2 x = rsum N x := sumI_c 12 (fun y hy => by show ((N2 x y : Nat) : Int) = ((N x y : Nat) : Int); rw [eN x y hx hy])
theorem bndE_s {K K2 : Nat → Nat → Bool} {Lo Hi Lo2 Hi2 N N2 : Nat → Nat → Nat} (eK : ∀ x y, x < 12 → y < 12 → K2 x y = K x y) (eN : ∀ x y, x < 12 → y < 12 → N2 x y = N x y) (hb : bndE K N Lo Hi Lo2 Hi2) : bndE K2 N2 Lo2 Hi2 Lo Hi := fun x y hx hy hk => by
  rw [eK x y hx hy] at hk
  obtain ⟨b1, b2⟩ := hb x y hx hy hk
  rw [rsum_c hx eN]
  exact ⟨b1.symm, b2.imp Eq.symm And.symm⟩
theorem SAFR_e {K K2 : Nat → Nat → Bool} {Lo Hi Lo2 Hi2 N N2 : Nat → Nat → Nat} {i j dn up : Nat} (hi : i < 12) (hj : j < 12) (eK : ∀ x y, x < 12 → y < 12 → K2 x y = K x y) (eN : ∀ x y, x < 12 → y < 12 → N2 x y = N x y) (hb : bndE K N Lo Hi Lo2 Hi2) (h : SAFR K Lo Hi N i j dn up) : SAFR K2 Lo2 Hi2 N2 i j dn up := by
  unfold SAFR at h ⊢
  rw [eK i j hi hj, eN i j hi hj]
  rcases h with ⟨h1, ⟨w, h2, h3⟩, w2, h4, h5⟩ | h
  · exact Or.inl ⟨h1, ⟨w, agN_e h2 eK eN hb, h3⟩, w2, agN_e h4 eK eN hb, h5⟩
  · exact Or.inr h
/-- more kept: what is safe stays so -/
theorem agN_m {K K2 : Nat → Nat → Bool} {Lo Hi N w : Nat → Nat → Nat} (h : agN K Lo Hi N w) (eK : ∀ x y, x < 12 → y < 12 → K x y = true → K2 x y = true) (hb : ∀ x y, x < 12 → y < 12 → K2 x y = true → Lo x y ≤ N x y ∧ N x y ≤ Hi x y) : agN K2 Lo Hi N w := by
  obtain ⟨h1, h2, h3, h4⟩ := h
  refine ⟨fun x y hx hy hk => h1 x y hx hy ?_, fun x y hx hy hk => ?_, h3, h4⟩
  · cases e : K x y with
    | false => rfl
    | true => rw [eK x y hx hy e] at hk; exact absurd hk (by decide)
  · cases e : K x y with
    | true => exact h2 x y hx hy e
    | false =>
      have q : ((w x y : Nat) : Int) = ((N x y : Nat) : Int) := h1 x y hx hy e
      have b := hb x y hx hy hk
      show ((Lo x y : Nat) : Int) ≤ ((w x y : Nat) : Int) ∧ ((w x y : Nat) : Int) ≤ ((Hi x y : Nat) : Int)
      omega
theorem SAFR_m {K K2 : Nat → Nat → Bool} {Lo Hi N : Nat → Nat → Nat} {i j dn up : Nat} (hk : K i j = true) (hi : i < 12) (hj : j < 12) (eK : ∀ x y, x < 12 → y < 12 → K x y = true → K2 x y = true) (hb : ∀ x y, x < 12 → y < 12 → K2 x y = true → Lo x y ≤ N x y ∧ N x y ≤ Hi x y) (h : SAFR K Lo Hi N i j dn up) : SAFR K2 Lo Hi N i j dn up := by
  obtain ⟨⟨w, h2, h3⟩, w2, h4, h5⟩ := (SAF_k hk).mp h
  exact (SAF_k (eK i j hi hj hk)).mpr ⟨⟨w, agN_m h2 eK hb, h3⟩, w2, agN_m h4 eK hb, h5⟩
/-! whole numbers in longs -/
def i64 (x : Int64) (n : Nat) : Prop := x.toInt = (n : Int)
theorem i64_b {z : Int} (h0 : 0 ≤ z) (h1 : z < 9223372036854775808) : z.bmod (2 ^ 64) = z := Int.bmod_eq_of_le (by omega) (by omega)
theorem i64_i {n : Nat} (h : n < 2147483648) : i64 (nI n).toInt64 n := by
  unfold i64; rw [Int32.toInt_toInt64, nI_toInt h]
theorem i64_m {x y : Int64} {a b : Nat} (h1 : i64 x a) (h2 : i64 y b) (h : a * b < 9223372036854775808) : i64 (x * y) (a * b) := by
  unfold i64 at *
  rw [Int64.toInt_mul, h1, h2, ← Int.natCast_mul]
  exact i64_b (Int.natCast_nonneg _) (by omega)
theorem i64_a {x y : Int64} {a b : Nat} (h1 : i64 x a) (h2 : i64 y b) (h : a + b < 9223372036854775808) : i64 (x + y) (a + b) := by
  unfold i64 at *
  rw [Int64.toInt_add, h1, h2, ← Int.natCast_add]
  exact i64_b (Int.natCast_nonneg _) (by omega)
theorem i64_s {x y : Int64} {a b : Nat} (h1 : i64 x a) (h2 : i64 y b) (h : b ≤ a) (ha : a < 9223372036854775808) : i64 (x - y) (a - b) := by
  unfold i64 at *
  rw [Int64.toInt_sub, h1, h2]
  have e : (a : Int) - (b : Int) = ((a - b : Nat) : Int) := by omega
  rw [e]
  exact i64_b (Int.natCast_nonneg _) (by omega)
theorem i64_d {x y : Int64} {a b : Nat} (h1 : i64 x a) (h2 : i64 y b) (ha : a < 9223372036854775808) : i64 (x / y) (a / b) := by
  unfold i64 at *
  rw [Int64.toInt_div, h1, h2]
  have e : (a : Int).tdiv (b : Int) = ((a / b : Nat) : Int) := by rw [Int.ofNat_tdiv]
  have hle : a / b ≤ a := Nat.div_le_self a b
  rw [e]
  exact i64_b (Int.natCast_nonneg _) (by omega)
theorem i64_32 {x : Int64} {n : Nat} (h : i64 x n) (hn : n < 2147483648) : x.toInt32 = nI n := by
  apply Int32.toInt_inj.mp
  unfold i64 at h
  rw [Int64.toInt_toInt32, h, nI_toInt hn]
  exact Int.bmod_eq_of_le (by omega) (by omega)
theorem i64_l1 : i64 1 1 := by unfold i64; decide
theorem i64_l999 : i64 999 999 := by unfold i64; decide
theorem i64_l1000 : i64 1000 1000 := by unfold i64; decide
def thN (n s : Nat) : Nat := 1000 * n / s
def loN (n s : Nat) : Nat := (thN n s * s + 999) / 1000
def hiN (n s : Nat) : Nat := ((thN n s + 1) * s - 1) / 1000
theorem th_le {n s : Nat} (h : n ≤ s) (hs : 0 < s) : thN n s ≤ 1000 := by
  unfold thN
  rw [Nat.div_le_iff_le_mul_add_pred hs]
  have : 1000 * n ≤ 1000 * s := Nat.mul_le_mul_left 1000 h
  have e : s * 1000 = 1000 * s := Nat.mul_comm _ _
  omega
theorem lo_le {n s : Nat} : loN n s ≤ n := by
  unfold loN thN
  have : 1000 * n / s * s ≤ 1000 * n := Nat.div_mul_le_self _ _
  omega
theorem hi_ge {n s : Nat} (hs : 0 < s) : n ≤ hiN n s := by
  unfold hiN thN
  have h : 1000 * n < (1000 * n / s + 1) * s := by
    have := Nat.lt_div_mul_add (a := 1000 * n) hs
    rw [Nat.add_mul, Nat.one_mul]; omega
  omega
theorem th_F {n s : Nat} (h : n ≤ s) (hs : 0 < s) (hS : s ≤ 12000000) : ((1000 : Int64) * (nI n).toInt64 / (nI s).toInt64).toInt32 = nI (thN n s) := by
  have a := i64_d (i64_m i64_l1000 (i64_i (n := n) (by omega)) (by omega)) (i64_i (n := s) (by omega)) (by omega)
  exact i64_32 a (by have := th_le h hs; omega)
theorem lo_F {n s : Nat} (h : n ≤ s) (hs : 0 < s) (hS : s ≤ 12000000) : (((nI (thN n s)).toInt64 * (nI s).toInt64 + 999) / 1000).toInt32 = nI (loN n s) := by
  have ht := th_le h hs
  have hm : thN n s * s ≤ 1000 * 12000000 := Nat.mul_le_mul ht hS
  have a := i64_d (i64_a (i64_m (i64_i (n := thN n s) (by omega)) (i64_i (n := s) (by omega)) (by omega)) i64_l999 (by omega)) i64_l1000 (by omega)
  exact i64_32 a (by unfold loN; omega)
theorem hi_F {n s : Nat} (h : n ≤ s) (hs : 0 < s) (hS : s ≤ 12000000) : ((((nI (thN n s)).toInt64 + 1) * (nI s).toInt64 - 1) / 1000).toInt32 = nI (hiN n s) := by
  have ht := th_le h hs
  have hm : (thN n s + 1) * s ≤ 1001 * 12000000 := Nat.mul_le_mul (by omega) hS
  have hp : 1 ≤ (thN n s + 1) * s := Nat.mul_le_mul (show 1 ≤ thN n s + 1 by omega) (show 1 ≤ s by omega)
  have a := i64_d (i64_s (i64_m (i64_a (i64_i (n := thN n s) (by omega)) i64_l1 (by omega)) (i64_i (n := s) (by omega)) (by omega)) i64_l1 hp (by omega)) i64_l1000 (by omega)
  exact i64_32 a (by unfold hiN; omega)
theorem hi_le {n s : Nat} (h : n ≤ s) (hs : 0 < s) (hS : s ≤ 12000000) : hiN n s ≤ 1073741824 := by
  have ht := th_le h hs
  have hm : (thN n s + 1) * s ≤ 1001 * 12000000 := Nat.mul_le_mul (by omega) hS
  unfold hiN; omega
