theorem NW_0 {cap : Nat → Int32} {T : Nat → Nat → Nat} {lo hi : Nat → Nat} (hz : ∀ n, n < 784 → cap n = 0) (u v : Nat) (hu : u < 28) (hv : v < 28) : cA cap u v = nW 0 (mkO T (12 * 0)) (mk9 lo 0) (mk9 hi 0) u v := by
  rw [nW_c (T := fun _ _ => 0) (lo := fun _ => 0) (hi := fun _ => 0) (T2 := mkO T (12 * 0)) (lo2 := mk9 lo 0) (hi2 := mk9 hi 0) (fun i j _ _ => if_neg (by omega)) (fun n _ => ⟨if_neg (by omega), if_neg (by omega)⟩) u v, nW_0]
  exact cA_e (a := 0) (hz _ (by omega)) (by omega)
theorem NW_t0 {cap : Nat → Int32} {T : Nat → Nat → Nat} {lo hi : Nat → Nat} {i j : Nat} (hi' : i < 12) (hj : j < 12) (hT : T i j = 0) (h : ∀ u v, u < 28 → v < 28 → cA cap u v = nW 0 (mkO T (12 * i + j)) lo hi u v) (u v : Nat) (hu : u < 28) (hv : v < 28) : cA cap u v = nW 0 (mkO T (12 * i + j + 1)) lo hi u v := by
  rw [h u v hu hv, nW_T hi' hj, hT]
  by_cases c : u = i ∧ v = 12 + j
  · rw [if_pos c]; omega
  · rw [if_neg c]; omega
theorem NW_t1 {cap : Nat → Int32} {T : Nat → Nat → Nat} {lo hi : Nat → Nat} {i j : Nat} (hi' : i < 12) (hj : j < 12) (hT : T i j = 1) (h : ∀ u v, u < 28 → v < 28 → cA cap u v = nW 0 (mkO T (12 * i + j)) lo hi u v) (u v : Nat) (hu : u < 28) (hv : v < 28) : cA (upd cap (28 * i + 12 + j) 1) u v = nW 0 (mkO T (12 * i + j + 1)) lo hi u v := by
  rw [nW_T hi' hj, hT]
  by_cases c : u = i ∧ v = 12 + j
  · rw [if_pos c, c.1, c.2, nW_rc hi' hj, show mkO T (12 * i + j) i j = 0 from if_neg (by omega)]
    refine (cA_e (a := 1) ?_ (by omega)).trans rfl
    rw [← Nat.add_assoc]; exact pk_us
  · rw [if_neg c, ← h u v hu hv]
    unfold cA
    rw [pk_un (by omega)]; omega
theorem mkO_row {T : Nat → Nat → Nat} {n k x y : Nat} (hy : y < 12) (hk : k ≤ 12) (hz : ∀ y, k ≤ y → y < 12 → T n y = 0) : mkO T (12 * (n + 1)) x y = mkO T (12 * n + k) x y := by
  unfold mkO
  by_cases c : 12 * x + y < 12 * n + k
  · rw [if_pos c, if_pos (by omega)]
  · rw [if_neg c]
    by_cases d : 12 * x + y < 12 * (n + 1)
    · rw [if_pos d]
      have e : x = n := by omega
      rw [e]; exact hz y (by omega) hy
    · rw [if_neg d]
theorem NW_row {cap cap2 : Nat → Int32} {T : Nat → Nat → Nat} {lo hi : Nat → Nat} {n k l h : Nat} (hn : n < 12) (hk : k ≤ 12) (hTz : ∀ y, k ≤ y → y < 12 → T n y = 0) (el : lo n = l) (eh : hi n = h) (hnw : ∀ u v, u < 28 → v < 28 → cA cap u v = nW 0 (mkO T (12 * n + k)) (mk9 lo n) (mk9 hi n) u v) (hbc : ∀ u v, u < 28 → v < 28 → cA cap2 u v = cA cap u v + (if u = 24 ∧ v = n then (h : Int) - (l : Int) else 0) + (if u = 26 ∧ v = n then (l : Int) else 0) + (if u = 24 ∧ v = 27 then (l : Int) else 0)) (u v : Nat) (hu : u < 28) (hv : v < 28) : cA cap2 u v = nW 0 (mkO T (12 * (n + 1))) (mk9 lo (n + 1)) (mk9 hi (n + 1)) u v := by
  rw [hbc u v hu hv, hnw u v hu hv, nW_bR hn u v, el, eh, nW_c (T := mkO T (12 * n + k)) (lo := mk9 lo n) (hi := mk9 hi n) (fun i j _ hj => mkO_row hj hk hTz) (fun _ _ => ⟨rfl, rfl⟩) u v]
theorem NW_skip {cap : Nat → Int32} {T : Nat → Nat → Nat} {lo hi : Nat → Nat} {n : Nat} (hn : n < 12) (hTz : ∀ y, 0 ≤ y → y < 12 → T n y = 0) (el : lo n = 0) (eh : hi n = 0) (hnw : ∀ u v, u < 28 → v < 28 → cA cap u v = nW 0 (mkO T (12 * n)) (mk9 lo n) (mk9 hi n) u v) : ∀ u v, u < 28 → v < 28 → cA cap u v = nW 0 (mkO T (12 * (n + 1))) (mk9 lo (n + 1)) (mk9 hi (n + 1)) u v := NW_row (k := 0) hn (by omega) hTz el eh hnw (fun u v _ _ => by
  have z : ∀ (p : Prop) [Decidable p], (if p then (((0 : Nat) : Int) - ((0 : Nat) : Int)) else 0) = 0 := fun p _ => by split <;> rfl
  have z2 : ∀ (p : Prop) [Decidable p], (if p then ((0 : Nat) : Int) else 0) = 0 := fun p _ => by split <;> rfl
  rw [z, z2, z2]; omega)
theorem NW_col {cap cap2 : Nat → Int32} {T : Nat → Nat → Nat} {lo hi : Nat → Nat} {c l h : Nat} (hc : c < 12) (el : lo (12 + c) = l) (eh : hi (12 + c) = h) (hnw : ∀ u v, u < 28 → v < 28 → cA cap u v = nW 0 T (mk9 lo (12 + c)) (mk9 hi (12 + c)) u v) (hbc : ∀ u v, u < 28 → v < 28 → cA cap2 u v = cA cap u v + (if u = 12 + c ∧ v = 25 then (h : Int) - (l : Int) else 0) + (if u = 26 ∧ v = 25 then (l : Int) else 0) + (if u = 12 + c ∧ v = 27 then (l : Int) else 0)) (u v : Nat) (hu : u < 28) (hv : v < 28) : cA cap2 u v = nW 0 T (mk9 lo (12 + (c + 1))) (mk9 hi (12 + (c + 1))) u v := by
  rw [hbc u v hu hv, hnw u v hu hv]
  refine Eq.trans ?_ (nW_bC (M := 0) (T := T) (lo := lo) (hi := hi) hc u v).symm
  rw [el, eh]
theorem NW_M {cap : Nat → Int32} {T T2 : Nat → Nat → Nat} {lo hi lo2 hi2 : Nat → Nat} (h1 : ∀ i j, i < 12 → j < 12 → T i j = T2 i j) (h2 : ∀ n, n < 24 → lo n = lo2 n ∧ hi n = hi2 n) (hnw : ∀ u v, u < 28 → v < 28 → cA cap u v = nW 0 T2 lo2 hi2 u v) (u v : Nat) (hu : u < 28) (hv : v < 28) : cA (upd cap 724 1000000000) u v = nW 1000000000 T lo hi u v := by
  rw [nW_c h1 h2 u v, nW_M]
  by_cases c : u = 25 ∧ v = 24
  · have h := hnw 25 24 (by omega) (by omega)
    rw [nW_54] at h
    rw [if_pos c, c.1, c.2, nW_54]
    exact (cA_e (a := 1000000000) pk_us (by omega)).trans rfl
  · rw [if_neg c, ← hnw u v hu hv]
    unfold cA
    rw [pk_un (by omega)]; omega
theorem sum_end {f : Nat → Int} {k : Nat} (hk : k ≤ 12) (hz : ∀ c, k ≤ c → c < 12 → f c = 0) : sumI 12 f = sumI k f := by
  have h := sumI_split (f := f) k (12 - k)
  rw [show k + (12 - k) = 12 by omega, sumI_z (f := fun q => f (k + q)) (12 - k) (fun q hq => hz (k + q) (by omega) (by omega))] at h
  omega
theorem row_end {X : Nat → Nat → Nat} {i k a N : Nat} (hi : i < 12) (hk : k ≤ 12) (hz : ∀ c, k ≤ c → c < 12 → X i c = 0) (h : (a : Int) = sumI k (fun c => (X i c : Int))) (hN : (N : Int) = rS X i) : a = N := by
  have h1 : rS X i = sumI 12 (fun c => (X i c : Int)) := ndI_r hi
  have h2 := sum_end (f := fun c => (X i c : Int)) hk (fun c h3 h4 => by show (X i c : Int) = 0; rw [hz c h3 h4]; rfl)
  omega
theorem col_end {X : Nat → Nat → Nat} {j k a N : Nat} (hk : k ≤ 12) (hz : ∀ c, k ≤ c → c < 12 → X c j = 0) (h : (a : Int) = sumI k (fun c => (X c j : Int))) (hN : (N : Int) = rS X (12 + j)) : a = N := by
  have h1 : rS X (12 + j) = sumI 12 (fun c => (X c j : Int)) := ndI_c
  have h2 := sum_end (f := fun c => (X c j : Int)) hk (fun c h3 h4 => by show (X c j : Int) = 0; rw [hz c h3 h4]; rfl)
  omega
theorem mx_sub {v2 v3 : Int32} {p q : Nat} (hp : p ≤ 1000000) (hq : q ≤ 1000000) (e2 : v2 = nI p - nI q) (e3 : v3 = if 0 < v2 then v2 else 0) : v3 = nI (p - q) := by
  have k2 : v2.toInt = (p : Int) - q := by rw [e2, Int32.toInt_sub, nI_toInt (by omega), nI_toInt (by omega)]; exact Int.bmod_eq_of_le (by omega) (by omega)
  by_cases c : q < p
  · have e := pk_sub (show q ≤ p by omega)
    have h0 : 0 < v2 := Int32.lt_iff_toInt_lt.mpr (by rw [k2, show (0 : Int32).toInt = 0 by decide]; omega)
    rw [e3, if_pos h0, e2, e]
  · have h0 : ¬ 0 < v2 := fun z => by have := Int32.lt_iff_toInt_lt.mp z; rw [k2, show (0 : Int32).toInt = 0 by decide] at this; omega
    rw [e3, if_neg h0, show p - q = 0 by omega]; rfl
theorem ge_sub {v : Int32} {p q : Nat} (hp : p ≤ 1000000) (hq : q ≤ 1000000) (e : v = nI p - nI q) : (0 ≤ v → q ≤ p ∧ v = nI (p - q)) ∧ (¬ 0 ≤ v → p < q) := by
  have k2 : v.toInt = (p : Int) - q := by rw [e, Int32.toInt_sub, nI_toInt (by omega), nI_toInt (by omega)]; exact Int.bmod_eq_of_le (by omega) (by omega)
  refine ⟨fun h => ?_, fun h => ?_⟩
  · have h1 := Int32.le_iff_toInt_le.mp h
    rw [k2, show (0 : Int32).toInt = 0 by decide] at h1
    have h2 : q ≤ p := by omega
    exact ⟨h2, by rw [e, pk_sub h2]⟩
  · refine Nat.not_le.mp (fun z => h (Int32.le_iff_toInt_le.mpr ?_))
    rw [k2, show (0 : Int32).toInt = 0 by decide]; omega
