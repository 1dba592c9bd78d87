def rS (X : Nat → Nat → Nat) (n : Nat) : Int := ndI (fun i j => (X i j : Int)) n
def cRd (on : Nat → Nat → Bool) (X : Nat → Nat → Nat) (U fe mo : Nat → Nat) (u v : Nat) : Int := cI 1 on (fun i j => (X i j : Int)) (fun n => (U n : Int)) (fun n => (fe n : Int)) (fun n => (mo n : Int)) u v
def SYU (on : Nat → Nat → Bool) (X : Nat → Nat → Nat) (U fe mo : Nat → Nat) (s : Nat → Int32) : Prop := ∀ u v, u < 25 → v < 25 → bt (s u) v = decide (0 < cRd on X U fe mo u v)
/-- a table of cells that go up: sums of rows and columns next to those of what is over -/
def FEAS (O : Nat → Nat → Nat) (B : Nat) (X : Nat → Nat → Nat) : Prop := (∀ i j, i < 12 → j < 12 → X i j ≤ 1 ∧ (O i j = 0 → X i j = 0)) ∧ ∀ n, n < 24 → rS O n < (B : Int) * rS X n + B ∧ (B : Int) * rS X n < rS O n + B
/-- each cell below n that goes up must, as those before it are -/
def RLX (O : Nat → Nat → Nat) (B : Nat) (X : Nat → Nat → Nat) (n : Nat) : Prop := ∀ i j, i < 12 → j < 12 → 12 * i + j < n → X i j = 1 → ∀ Y, FEAS O B Y → (∀ a b, a < 12 → b < 12 → 12 * a + b < 12 * i + j → Y a b = X a b) → Y i j = 1
def fN (n : Nat) : Nat := if n < 12 then n else 24
def tN (n : Nat) : Nat := if n < 12 then 24 else n
theorem fN_r {n : Nat} (h : n < 12) : fN n = n := if_pos h
theorem fN_c {n : Nat} (h : ¬ n < 12) : fN n = 24 := if_neg h
theorem tN_r {n : Nat} (h : n < 12) : tN n = 24 := if_pos h
theorem tN_c {n : Nat} (h : ¬ n < 12) : tN n = n := if_neg h
theorem ft_lt {n : Nat} (hn : n < 24) : fN n < 25 ∧ tN n < 25 ∧ tN n ≠ fN n := by
  by_cases c : n < 12
  · rw [fN_r c, tN_r c]; omega
  · rw [fN_c c, tN_c c]; omega
section CN
variable {on : Nat → Nat → Bool} {O X X2 Y : Nat → Nat → Nat} {U U2 fe mo : Nat → Nat} {s bb : Nat → Int32} {rc : Int32} {B n : Nat}
theorem cRd_ft (hn : n < 24) : cRd on X U fe mo (fN n) (tN n) = (U n : Int) - fe n ∧ cRd on X U fe mo (tN n) (fN n) = (mo n : Int) - U n := by
  by_cases c : n < 12
  · rw [fN_r c, tN_r c]; exact ⟨cI_ro c, cI_or c⟩
  · obtain ⟨j, hj, rfl⟩ : ∃ j, j < 12 ∧ n = 12 + j := ⟨n - 12, by omega, by omega⟩
    rw [fN_c c, tN_c c]; exact ⟨cI_oc hj, cI_co hj⟩
theorem sumI_mul {b : Int} {f : Nat → Int} : ∀ m, sumI m (fun k => b * f k) = b * sumI m f
  | 0 => (Int.mul_zero b).symm
  | m + 1 => by
    show sumI m (fun k => b * f k) + b * f m = b * (sumI m f + f m)
    rw [sumI_mul m, Int.mul_add]
theorem ndI_mul {b : Int} {Z : Nat → Nat → Int} : ndI (fun i j => b * Z i j) n = b * ndI Z n := by
  unfold ndI
  by_cases c : n < 12
  · rw [if_pos c, if_pos c]; exact sumI_mul 12
  · rw [if_neg c, if_neg c]; exact sumI_mul 12
theorem cl_np {u0 t0 u v : Nat} (hS : SYU on X U fe mo s) (hC : CLO s u0 t0 rc) (hu : u < 25) (hv : v < 25) (h1 : bt rc u = true) (h2 : bt rc v = false) : cRd on X U fe mo u v ≤ 0 := by
  have e : ¬ bt (s u) v = true := fun z => by rw [hC.2.2 u v hu hv h1 z] at h2; exact absurd h2 (by decide)
  rw [hS u v hu hv] at e
  have e2 : ¬ 0 < cRd on X U fe mo u v := fun z => e (decide_eq_true z)
  omega
/-- a node that has too little: there is a way -/
theorem rf_no (hB : 0 < B) (hn : n < 24) (hO : ∀ i j, i < 12 → j < 12 → O i j < B) (hon : ∀ i j, i < 12 → j < 12 → on i j = false → O i j = 0 ∧ X i j = 0) (hbal : ∀ k, k < 24 → rS X k = (U k : Int)) (hfe : ∀ k, k < 24 → (B : Int) * fe k ≤ rS O k) (hmo : ∀ k, k < 24 → rS O k ≤ (B : Int) * mo k) (hS : SYU on X U fe mo s) (hC : CLO s (fN n) (tN n) rc) (hlt : U n < fe n) : False := by
  obtain ⟨b1, b2, b3⟩ := ft_lt hn
  have d1 : bt rc (fN n) = true := hC.1
  have d2 : bt rc (tN n) = false := by cases hh : bt rc (tN n) with
    | false => rfl
    | true => exact absurd (hC.2.1 hh) b3
  have cB : ∀ u v, u < 25 → v < 25 → cI (B : Int) on (fun i j => (B : Int) * (X i j : Int)) (fun k => (B : Int) * (U k : Int)) (fun k => (B : Int) * (fe k : Int)) (fun k => (B : Int) * (mo k : Int)) u v = (B : Int) * cRd on X U fe mo u v := fun u v hu hv => cI_mul (X := fun i j => (X i j : Int)) (U := fun k => (U k : Int)) (fe := fun k => (fe k : Int)) (mo := fun k => (mo k : Int)) u v hu hv
  have cF : ∀ u v, u < 25 → v < 25 → 0 ≤ cI (B : Int) on (fun i j => (O i j : Int)) (rS O) (fun k => (B : Int) * (fe k : Int)) (fun k => (B : Int) * (mo k : Int)) u v := cI_nn (fun i j hi hj => by have := hO i j hi hj; show 0 ≤ (O i j : Int) ∧ (O i j : Int) ≤ (B : Int); omega) (fun k hk => ⟨hfe k hk, hmo k hk⟩)
  have hb1 : ∀ k, k < 24 → ndI (fun i j => (B : Int) * (X i j : Int)) k = (B : Int) * (U k : Int) := fun k hk => by
    rw [ndI_mul (Z := fun i j => (X i j : Int)), show ndI (fun i j => (X i j : Int)) k = (U k : Int) from hbal k hk]
  have hout := out_one (K := (B : Int)) (on := on) (X := fun i j => (B : Int) * (X i j : Int)) (X2 := fun i j => (O i j : Int)) (U := fun k => (B : Int) * (U k : Int)) (U2 := rS O) (fe := fun k => (B : Int) * (fe k : Int)) (mo := fun k => (B : Int) * (mo k : Int)) (r0 := 0) (c0 := 0) (e := 0) (by omega) (by omega) hb1 (fun k _ => rfl) (fun i j hi hj => by
    show (if on i j = true then (0 : Int) else (B : Int) * (X i j : Int) - (O i j : Int)) = if i = 0 ∧ j = 0 then 0 else 0
    rw [show (if i = 0 ∧ j = 0 then (0 : Int) else 0) = 0 by split <;> rfl]
    by_cases e : on i j = true
    · exact if_pos e
    · have e2 : on i j = false := by cases hh : on i j with
        | true => exact absurd hh e
        | false => rfl
      obtain ⟨z1, z2⟩ := hon i j hi hj e2
      rw [if_neg e, z1, z2]; simp)
  have hd : ∀ u v, u < 25 → v < 25 → cI (B : Int) on (fun i j => (B : Int) * (X i j : Int)) (fun k => (B : Int) * (U k : Int)) (fun k => (B : Int) * (fe k : Int)) (fun k => (B : Int) * (mo k : Int)) u v - cI (B : Int) on (fun i j => (O i j : Int)) (rS O) (fun k => (B : Int) * (fe k : Int)) (fun k => (B : Int) * (mo k : Int)) u v ≤ (B : Int) * cRd on X U fe mo u v := fun u v hu hv => by
    have h1 := cB u v hu hv
    have h2 := cF u v hu hv
    omega
  have key := net_cut (S := fun u => bt rc u) (r0 := 0) (t0 := 12 + 0) (e := 0) (by omega) (by omega) (fun u v hu hv => by
    have := cI_anti (K := (B : Int)) (on := on) (X := fun i j => (B : Int) * (X i j : Int)) (X2 := fun i j => (O i j : Int)) (U := fun k => (B : Int) * (U k : Int)) (U2 := rS O) (fe := fun k => (B : Int) * (fe k : Int)) (mo := fun k => (B : Int) * (mo k : Int)) u v hu hv
    show (cI (B : Int) on (fun i j => (B : Int) * (X i j : Int)) (fun k => (B : Int) * (U k : Int)) (fun k => (B : Int) * (fe k : Int)) (fun k => (B : Int) * (mo k : Int)) u v - cI (B : Int) on (fun i j => (O i j : Int)) (rS O) (fun k => (B : Int) * (fe k : Int)) (fun k => (B : Int) * (mo k : Int)) u v) + (cI (B : Int) on (fun i j => (B : Int) * (X i j : Int)) (fun k => (B : Int) * (U k : Int)) (fun k => (B : Int) * (fe k : Int)) (fun k => (B : Int) * (mo k : Int)) v u - cI (B : Int) on (fun i j => (O i j : Int)) (rS O) (fun k => (B : Int) * (fe k : Int)) (fun k => (B : Int) * (mo k : Int)) v u) = 0
    omega) hout
  have hlt0 := brd_lt (N := 25) (p := fN n) (q := tN n) (d := fun u v => cI (B : Int) on (fun i j => (B : Int) * (X i j : Int)) (fun k => (B : Int) * (U k : Int)) (fun k => (B : Int) * (fe k : Int)) (fun k => (B : Int) * (mo k : Int)) u v - cI (B : Int) on (fun i j => (O i j : Int)) (rS O) (fun k => (B : Int) * (fe k : Int)) (fun k => (B : Int) * (mo k : Int)) u v) (S := fun u => bt rc u) b1 b2 (fun u v hu hv h1 h2 => by
    have g1 := hd u v hu hv
    have g2 := Int.mul_le_mul_of_nonneg_left (cl_np hS hC hu hv h1 h2) (show (0 : Int) ≤ (B : Int) by omega)
    rw [Int.mul_zero] at g2
    exact Int.le_trans g1 g2) d1 d2 (by
    have g1 := hd (fN n) (tN n) b1 b2
    have g2 := Int.mul_le_mul_of_nonneg_left (show cRd on X U fe mo (fN n) (tN n) ≤ -1 by rw [(cRd_ft hn).1]; omega) (show (0 : Int) ≤ (B : Int) by omega)
    refine Int.lt_of_le_of_lt (Int.le_trans g1 g2) ?_
    omega)
  have k2 : (if bt rc 0 = true then (0 : Int) else 0) - (if bt rc (12 + 0) = true then (0 : Int) else 0) = 0 := by split <;> split <;> rfl
  exact absurd hlt0 (Int.not_lt.mpr (Int.le_of_eq (k2.symm.trans key)))
/-- a rounding's nodes lie between fe and mo -/
theorem FE_n (hB : 0 < B) (hY : FEAS O B Y) (hfe : ∀ k, k < 24 → (B : Int) * fe k ≤ rS O k) (hmo : ∀ k, k < 24 → rS O k ≤ (B : Int) * mo k) (k : Nat) (hk : k < 24) : (fe k : Int) ≤ rS Y k ∧ rS Y k ≤ (mo k : Int) := by
  have h := hY.2 k hk
  have h1 := hfe k hk
  have h2 := hmo k hk
  exact ⟨mul_lt_s (B := (B : Int)) (by omega) (by omega), mul_lt_s (B := (B : Int)) (by omega) (by omega)⟩
/-- a cell that can't go down: no rounding that is as this one is on the cells before has it down -/
theorem bd_no {r c : Nat} (hB : 0 < B) (hr : r < 12) (hc : c < 12) (hbal : ∀ k, k < 24 → rS X k = (U k : Int)) (hfe : ∀ k, k < 24 → (B : Int) * fe k ≤ rS O k) (hmo : ∀ k, k < 24 → rS O k ≤ (B : Int) * mo k) (hS : SYU on X U fe mo s) (hC : CLO s r (12 + c) rc) (hY : FEAS O B Y) (hoff : ∀ i j, i < 12 → j < 12 → on i j = false → ¬ (i = r ∧ j = c) → X i j = Y i j) (hon : on r c = false) (hX : X r c = 1) : Y r c = 1 := by
  refine Classical.byContradiction (fun hne => ?_)
  have hY0 : Y r c = 0 := by have := (hY.1 r c hr hc).1; omega
  have d2 : bt rc (12 + c) = false := by cases hh : bt rc (12 + c) with
    | false => rfl
    | true => exact absurd (hC.2.1 hh) (by omega)
  have cY : ∀ u v, u < 25 → v < 25 → 0 ≤ cI 1 on (fun i j => (Y i j : Int)) (rS Y) (fun k => (fe k : Int)) (fun k => (mo k : Int)) u v := cI_nn (fun i j hi hj => by have := (hY.1 i j hi hj).1; show 0 ≤ (Y i j : Int) ∧ (Y i j : Int) ≤ 1; omega) (fun k hk => FE_n hB hY hfe hmo k hk)
  have hout := out_one (K := 1) (on := on) (X := fun i j => (X i j : Int)) (X2 := fun i j => (Y i j : Int)) (U := fun k => (U k : Int)) (U2 := rS Y) (fe := fun k => (fe k : Int)) (mo := fun k => (mo k : Int)) (r0 := r) (c0 := c) (e := 1) hr hc hbal (fun k _ => rfl) (fun i j hi hj => by
    show (if on i j = true then (0 : Int) else (X i j : Int) - (Y i j : Int)) = if i = r ∧ j = c then 1 else 0
    by_cases q : i = r ∧ j = c
    · obtain ⟨rfl, rfl⟩ := q
      rw [if_neg (by rw [hon]; decide), if_pos ⟨rfl, rfl⟩, hX, hY0]; rfl
    · rw [if_neg q]
      by_cases e : on i j = true
      · exact if_pos e
      · have e2 : on i j = false := by cases hh : on i j with
          | true => exact absurd hh e
          | false => rfl
        rw [if_neg e, hoff i j hi hj e2 q]; omega)
  have key := net_cut (S := fun u => bt rc u) (r0 := r) (t0 := 12 + c) (e := 1) (by omega) (by omega) (fun u v hu hv => by
    have := cI_anti (K := 1) (on := on) (X := fun i j => (X i j : Int)) (X2 := fun i j => (Y i j : Int)) (U := fun k => (U k : Int)) (U2 := rS Y) (fe := fun k => (fe k : Int)) (mo := fun k => (mo k : Int)) u v hu hv
    show (cI 1 on (fun i j => (X i j : Int)) (fun k => (U k : Int)) (fun k => (fe k : Int)) (fun k => (mo k : Int)) u v - cI 1 on (fun i j => (Y i j : Int)) (rS Y) (fun k => (fe k : Int)) (fun k => (mo k : Int)) u v) + (cI 1 on (fun i j => (X i j : Int)) (fun k => (U k : Int)) (fun k => (fe k : Int)) (fun k => (mo k : Int)) v u - cI 1 on (fun i j => (Y i j : Int)) (rS Y) (fun k => (fe k : Int)) (fun k => (mo k : Int)) v u) = 0
    omega) hout
  have hle := brd_le (N := 25) (d := fun u v => cI 1 on (fun i j => (X i j : Int)) (fun k => (U k : Int)) (fun k => (fe k : Int)) (fun k => (mo k : Int)) u v - cI 1 on (fun i j => (Y i j : Int)) (rS Y) (fun k => (fe k : Int)) (fun k => (mo k : Int)) u v) (S := fun u => bt rc u) (fun u v hu hv h1 h2 => by
    have g1 : cI 1 on (fun i j => (X i j : Int)) (fun k => (U k : Int)) (fun k => (fe k : Int)) (fun k => (mo k : Int)) u v ≤ 0 := cl_np hS hC hu hv h1 h2
    have g2 := cY u v hu hv
    show cI 1 on (fun i j => (X i j : Int)) (fun k => (U k : Int)) (fun k => (fe k : Int)) (fun k => (mo k : Int)) u v - cI 1 on (fun i j => (Y i j : Int)) (rS Y) (fun k => (fe k : Int)) (fun k => (mo k : Int)) u v ≤ 0
    omega)
  have k2 : (if bt rc r = true then (1 : Int) else 0) - (if bt rc (12 + c) = true then (1 : Int) else 0) = 1 := by
    rw [if_pos hC.1, if_neg (by rw [d2]; decide)]; rfl
  exact absurd (Int.le_trans (Int.le_of_eq (k2.symm.trans key)) hle) (by decide)
/-- behind a way: what the nodes hold -/
theorem sh_bal {ch : Nat → Nat} {l : Nat} (hj : ∀ j, j < l → ch (j + 1) < 25 ∧ ch j < 25 ∧ ch (j + 1) ≠ ch j) (hpu : ∀ u v, u < 25 → v < 25 → cRd on X2 U2 fe mo u v = puC ch 1 (cRd on X U fe mo) l u v) (hoff : ∀ i j, i < 12 → j < 12 → on i j = false → X2 i j = X i j) : (∀ i, i < 12 → rS X2 i - (U2 i : Int) = rS X i - (U i : Int) + dl i (ch l) 1 - dl i (ch 0) 1) ∧ ∀ j, j < 12 → rS X2 (12 + j) - (U2 (12 + j) : Int) = rS X (12 + j) - (U (12 + j) : Int) - dl (12 + j) (ch l) 1 + dl (12 + j) (ch 0) 1 := by
  have tot : ∀ u, u < 25 → sumI 25 (fun v => cI 1 on (fun i j => (X i j : Int)) (fun n => (U n : Int)) (fun n => (fe n : Int)) (fun n => (mo n : Int)) u v - cI 1 on (fun i j => (X2 i j : Int)) (fun n => (U2 n : Int)) (fun n => (fe n : Int)) (fun n => (mo n : Int)) u v) = dl u (ch l) 1 - dl u (ch 0) 1 := fun u hu => by
    have e1 : sumI 25 (fun v => cRd on X2 U2 fe mo u v) = sumI 25 (fun v => puC ch 1 (cRd on X U fe mo) l u v) := sumI_c 25 (fun v hv => hpu u v hu hv)
    have e2 := puC_sum (n := 1) (c := cRd on X U fe mo) l hj u
    have e3 : sumI 25 (fun v => cRd on X U fe mo u v - cRd on X2 U2 fe mo u v) = sumI 25 (fun v => cRd on X U fe mo u v) - sumI 25 (fun v => cRd on X2 U2 fe mo u v) := sumI_sub 25
    show sumI 25 (fun v => cRd on X U fe mo u v - cRd on X2 U2 fe mo u v) = _
    omega
  have off : ∀ i j, i < 12 → j < 12 → (if on i j = true then (0 : Int) else (X i j : Int) - (X2 i j : Int)) = 0 := fun i j hi hj => by
    by_cases e : on i j = true
    · exact if_pos e
    · have e2 : on i j = false := by cases hh : on i j with
        | true => exact absurd hh e
        | false => rfl
      rw [if_neg e, hoff i j hi hj e2]; omega
  refine ⟨fun i hi => ?_, fun j hj' => ?_⟩
  · have h1 := out_row (K := 1) (on := on) (X := fun i j => (X i j : Int)) (X2 := fun i j => (X2 i j : Int)) (U := fun n => (U n : Int)) (U2 := fun n => (U2 n : Int)) (fe := fun n => (fe n : Int)) (mo := fun n => (mo n : Int)) hi
    rw [tot i (by omega), sumI_z (f := fun j => if on i j = true then (0 : Int) else (X i j : Int) - (X2 i j : Int)) 12 (fun j hj => off i j hi hj)] at h1
    have h2 : dl i (ch l) 1 - dl i (ch 0) 1 = ((U i : Int) - rS X i) - ((U2 i : Int) - rS X2 i) + 0 := h1
    omega
  · have h1 := out_col (K := 1) (on := on) (X := fun i j => (X i j : Int)) (X2 := fun i j => (X2 i j : Int)) (U := fun n => (U n : Int)) (U2 := fun n => (U2 n : Int)) (fe := fun n => (fe n : Int)) (mo := fun n => (mo n : Int)) hj'
    rw [tot (12 + j) (by omega), sumI_z (f := fun i => if on i j = true then (0 : Int) else (X i j : Int) - (X2 i j : Int)) 12 (fun i hi => off i j hi hj')] at h1
    have h2 : dl (12 + j) (ch l) 1 - dl (12 + j) (ch 0) 1 = (rS X (12 + j) - (U (12 + j) : Int)) - (rS X2 (12 + j) - (U2 (12 + j) : Int)) - 0 := h1
    omega
theorem sh_U {u0 t0 : Nat} {L : Nat → Nat} (hS : SYU on X U fe mo s) (h : CH s u0 t0 bb L) (hpu : ∀ u v, u < 25 → v < 25 → cRd on X2 U2 fe mo u v = puC (chF bb t0) 1 (cRd on X U fe mo) (L t0) u v) (hn : n < 24) : (fe n ≤ U n → fe n ≤ U2 n) ∧ (U n ≤ fe n → U n ≤ U2 n) ∧ (U n ≤ mo n → U2 n ≤ mo n) := by
  obtain ⟨b1, b2, b3⟩ := ft_lt hn
  have pos : ∀ u v, u < 25 → v < 25 → (∃ j, j < L t0 ∧ u = chF bb t0 (j + 1) ∧ v = chF bb t0 j) → 0 < cRd on X U fe mo u v := fun u v hu hv ⟨j, hj, e1, e2⟩ => by
    have q := (h.2.2.2.2 j hj).2.2.2.2.1
    rw [← e1, ← e2, hS u v hu hv] at q
    exact of_decide_eq_true q
  have a1 := hpu (fN n) (tN n) b1 b2
  have a2 := hpu (tN n) (fN n) b2 b1
  have c1 := cRd_ft (on := on) (X := X) (U := U) (fe := fe) (mo := mo) hn
  have c2 := cRd_ft (on := on) (X := X2) (U := U2) (fe := fe) (mo := mo) hn
  rw [c2.1] at a1
  rw [c2.2] at a2
  have p1 := pos (fN n) (tN n) b1 b2
  have p2 := pos (tN n) (fN n) b2 b1
  rw [c1.1] at p1
  rw [c1.2] at p2
  refine ⟨?_, ?_, ?_⟩
  · rcases puC_or (n := 1) (c := cRd on X U fe mo) (CH_inj h) (fN n) (tN n) (L t0) (Nat.le_refl _) with q | ⟨q1, q⟩ | ⟨_, q⟩
    · rw [q, c1.1] at a1; omega
    · rw [q, c1.1] at a1; have := p1 q1; omega
    · rw [q, c1.1] at a1; omega
  · rcases puC_or (n := 1) (c := cRd on X U fe mo) (CH_inj h) (fN n) (tN n) (L t0) (Nat.le_refl _) with q | ⟨q1, q⟩ | ⟨_, q⟩
    · rw [q, c1.1] at a1; omega
    · rw [q, c1.1] at a1; have := p1 q1; omega
    · rw [q, c1.1] at a1; omega
  · rcases puC_or (n := 1) (c := cRd on X U fe mo) (CH_inj h) (tN n) (fN n) (L t0) (Nat.le_refl _) with q | ⟨q1, q⟩ | ⟨_, q⟩
    · rw [q, c1.2] at a2; omega
    · rw [q, c1.2] at a2; have := p2 q1; omega
    · rw [q, c1.2] at a2; omega
/-! steps laid anew -/
theorem bb_t {p : Prop} [Decidable p] (h : p) : (!decide ((1 : Int32) = 0)) = decide p := by rw [decide_eq_true h]; rfl
theorem bb_f {p : Prop} [Decidable p] (h : ¬ p) : (!decide ((0 : Int32) = 0)) = decide p := by rw [decide_eq_false h]; rfl
theorem SYU_0 {s9 : Nat → Int32} : SYU (fun _ _ => false) (fun _ _ => 0) (fun _ => 0) (fun _ => 0) (fun _ => 0) (flF s9 0 25) := fun u v hu hv => by
  have e : cRd (fun _ _ => false) (fun _ _ => 0) (fun _ => 0) (fun _ => 0) (fun _ => 0) u v = 0 := by
    rcases nd_case u v hu hv with ⟨i, j, hi, hj, rfl, rfl⟩ | ⟨i, j, hi, hj, rfl, rfl⟩ | ⟨rfl, h⟩ | ⟨rfl, h⟩ | ⟨rfl, j, h, rfl⟩ | ⟨rfl, j, h, rfl⟩ | z
    · exact (cI_rc hi hj).trans rfl
    · exact (cI_cr hi hj).trans rfl
    · exact (cI_or h).trans rfl
    · exact (cI_ro h).trans rfl
    · exact (cI_co h).trans rfl
    · exact (cI_oc h).trans rfl
    · exact (z _ _ _ _ _ _).1
  rw [e]
  unfold flF
  rw [if_pos hu, b_0]; rfl
theorem SYU_nR {U0 fe0 mo0 : Nat → Nat} {fo ba : Int32} (hn : n < 12) (hag : ∀ k, k < 24 → k ≠ n → U k = U0 k ∧ fe k = fe0 k ∧ mo k = mo0 k) (h : SYU on X U0 fe0 mo0 s) (hf : (!decide (fo = 0)) = decide (U n < mo n)) (hb : (!decide (ba = 0)) = decide (fe n < U n)) : SYU on X U fe mo (jnF s 24 n fo ba) := fun u v hu hv => by
  rw [jn_bit (by omega) (by omega) (by omega) hu hv]
  by_cases c1 : u = 24 ∧ v = n
  · rw [if_pos c1, hf, c1.1, c1.2, show cRd on X U fe mo 24 n = (mo n : Int) - (U n : Int) from cI_or hn]
    exact decide_eq_decide.mpr ⟨fun z => by omega, fun z => by omega⟩
  · by_cases c2 : u = n ∧ v = 24
    · rw [if_neg c1, if_pos c2, hb, c2.1, c2.2, show cRd on X U fe mo n 24 = (U n : Int) - (fe n : Int) from cI_ro hn]
      exact decide_eq_decide.mpr ⟨fun z => by omega, fun z => by omega⟩
    · rw [if_neg c1, if_neg c2, h u v hu hv]
      have e : cRd on X U fe mo u v = cRd on X U0 fe0 mo0 u v := cI_nU (n := n) (fun k hk hne => by obtain ⟨a, b, c⟩ := hag k hk hne; exact ⟨congrArg _ a, congrArg _ b, congrArg _ c⟩) u v hu hv c1 c2
      rw [e]
theorem SYU_nC {U0 fe0 mo0 : Nat → Nat} {fo ba : Int32} (hn : 12 ≤ n) (hn2 : n < 24) (hag : ∀ k, k < 24 → k ≠ n → U k = U0 k ∧ fe k = fe0 k ∧ mo k = mo0 k) (h : SYU on X U0 fe0 mo0 s) (hf : (!decide (fo = 0)) = decide (U n < mo n)) (hb : (!decide (ba = 0)) = decide (fe n < U n)) : SYU on X U fe mo (jnF s n 24 fo ba) := fun u v hu hv => by
  obtain ⟨j, hj, rfl⟩ : ∃ j, j < 12 ∧ n = 12 + j := ⟨n - 12, by omega, by omega⟩
  rw [jn_bit (by omega) (by omega) (by omega) hu hv]
  by_cases c1 : u = 12 + j ∧ v = 24
  · rw [if_pos c1, hf, c1.1, c1.2, show cRd on X U fe mo (12 + j) 24 = (mo (12 + j) : Int) - (U (12 + j) : Int) from cI_co hj]
    exact decide_eq_decide.mpr ⟨fun z => by omega, fun z => by omega⟩
  · by_cases c2 : u = 24 ∧ v = 12 + j
    · rw [if_neg c1, if_pos c2, hb, c2.1, c2.2, show cRd on X U fe mo 24 (12 + j) = (U (12 + j) : Int) - (fe (12 + j) : Int) from cI_oc hj]
      exact decide_eq_decide.mpr ⟨fun z => by omega, fun z => by omega⟩
    · rw [if_neg c1, if_neg c2, h u v hu hv]
      have e : cRd on X U fe mo u v = cRd on X U0 fe0 mo0 u v := cI_nU (n := 12 + j) (fun k hk hne => by obtain ⟨a, b, c⟩ := hag k hk hne; exact ⟨congrArg _ a, congrArg _ b, congrArg _ c⟩) u v hu hv c2 c1
      rw [e]
theorem SYU_ce {on2 : Nat → Nat → Bool} {fo ba : Int32} {i j : Nat} (hi : i < 12) (hj : j < 12) (hag : ∀ a b, a < 12 → b < 12 → ¬ (a = i ∧ b = j) → X2 a b = X a b ∧ on2 a b = on a b) (h : SYU on X U fe mo s) (hf : (!decide (fo = 0)) = decide (on2 i j = true ∧ X2 i j = 0)) (hb : (!decide (ba = 0)) = decide (on2 i j = true ∧ 0 < X2 i j)) : SYU on2 X2 U fe mo (jnF s i (12 + j) fo ba) := fun u v hu hv => by
  rw [jn_bit (by omega) (by omega) (by omega) hu hv]
  by_cases c1 : u = i ∧ v = 12 + j
  · rw [if_pos c1, hf, c1.1, c1.2, show cRd on2 X2 U fe mo i (12 + j) = if on2 i j = true then 1 - (X2 i j : Int) else 0 from cI_rc hi hj]
    refine decide_eq_decide.mpr ⟨fun z => by rw [if_pos z.1]; omega, fun z => ?_⟩
    by_cases e : on2 i j = true
    · rw [if_pos e] at z; exact ⟨e, by omega⟩
    · rw [if_neg e] at z; omega
  · by_cases c2 : u = 12 + j ∧ v = i
    · rw [if_neg c1, if_pos c2, hb, c2.1, c2.2, show cRd on2 X2 U fe mo (12 + j) i = if on2 i j = true then (X2 i j : Int) else 0 from cI_cr hi hj]
      refine decide_eq_decide.mpr ⟨fun z => by rw [if_pos z.1]; omega, fun z => ?_⟩
      by_cases e : on2 i j = true
      · rw [if_pos e] at z; exact ⟨e, by omega⟩
      · rw [if_neg e] at z; omega
    · rw [if_neg c1, if_neg c2, h u v hu hv]
      have e : cRd on2 X2 U fe mo u v = cRd on X U fe mo u v := cI_nX (i0 := i) (j0 := j) (fun a b ha hb hne => ⟨congrArg _ (hag a b ha hb hne).1, (hag a b ha hb hne).2⟩) u v hu hv c1 c2
      rw [e]
/-! one step is one unit -/
theorem cRd_up (hn : n < 24) (a b : Nat) (ha : a < 25) (hb : b < 25) : cRd on X (upL U n (U n + 1)) fe mo a b = pu (cRd on X U fe mo) (tN n) (fN n) 1 a b := by
  obtain ⟨_, _, b3⟩ := ft_lt hn
  have c1 := cRd_ft (on := on) (X := X) (U := U) (fe := fe) (mo := mo) hn
  have c2 := cRd_ft (on := on) (X := X) (U := upL U n (U n + 1)) (fe := fe) (mo := mo) hn
  rw [upL_o] at c2
  by_cases d1 : a = tN n ∧ b = fN n
  · rw [d1.1, d1.2, pu_f, c1.2, c2.2]; omega
  · by_cases d2 : a = fN n ∧ b = tN n
    · rw [d2.1, d2.2, pu_b b3, c1.1, c2.1]; omega
    · rw [pu_n d1 d2]
      refine cI_nU (n := n) (fun k hk hne => ⟨congrArg _ (upL_n hne), rfl, rfl⟩) a b ha hb (fun z => ?_) (fun z => ?_)
      · by_cases c : n < 12
        · exact d1 ⟨by rw [tN_r c]; exact z.1, by rw [fN_r c]; exact z.2⟩
        · exact d2 ⟨by rw [fN_c c]; exact z.1, by rw [tN_c c]; exact z.2⟩
      · by_cases c : n < 12
        · exact d2 ⟨by rw [fN_r c]; exact z.1, by rw [tN_r c]; exact z.2⟩
        · exact d1 ⟨by rw [tN_c c]; exact z.1, by rw [fN_c c]; exact z.2⟩
theorem cRd_dn (hn : n < 24) (hU : 0 < U n) (a b : Nat) (ha : a < 25) (hb : b < 25) : cRd on X (upL U n (U n - 1)) fe mo a b = pu (cRd on X U fe mo) (fN n) (tN n) 1 a b := by
  obtain ⟨_, _, b3⟩ := ft_lt hn
  have c1 := cRd_ft (on := on) (X := X) (U := U) (fe := fe) (mo := mo) hn
  have c2 := cRd_ft (on := on) (X := X) (U := upL U n (U n - 1)) (fe := fe) (mo := mo) hn
  rw [upL_o] at c2
  by_cases d1 : a = fN n ∧ b = tN n
  · rw [d1.1, d1.2, pu_f, c1.1, c2.1]; omega
  · by_cases d2 : a = tN n ∧ b = fN n
    · rw [d2.1, d2.2, pu_b (fun z => b3 z.symm), c1.2, c2.2]; omega
    · rw [pu_n d1 d2]
      refine cI_nU (n := n) (fun k hk hne => ⟨congrArg _ (upL_n hne), rfl, rfl⟩) a b ha hb (fun z => ?_) (fun z => ?_)
      · by_cases c : n < 12
        · exact d2 ⟨by rw [tN_r c]; exact z.1, by rw [fN_r c]; exact z.2⟩
        · exact d1 ⟨by rw [fN_c c]; exact z.1, by rw [tN_c c]; exact z.2⟩
      · by_cases c : n < 12
        · exact d1 ⟨by rw [fN_r c]; exact z.1, by rw [tN_r c]; exact z.2⟩
        · exact d2 ⟨by rw [tN_c c]; exact z.1, by rw [fN_c c]; exact z.2⟩
theorem cRd_on {i j : Nat} (hi : i < 12) (hj : j < 12) (ho : on i j = true) (hX : X i j = 0) (a b : Nat) (ha : a < 25) (hb : b < 25) : cRd on (upT X i j 1) U fe mo a b = pu (cRd on X U fe mo) i (12 + j) 1 a b := by
  have e1 : cRd on X U fe mo i (12 + j) = 1 := (cI_rc hi hj).trans (by rw [if_pos ho, hX]; rfl)
  have e2 : cRd on X U fe mo (12 + j) i = 0 := (cI_cr hi hj).trans (by rw [if_pos ho, hX]; rfl)
  have e3 : cRd on (upT X i j 1) U fe mo i (12 + j) = 0 := (cI_rc hi hj).trans (by rw [if_pos ho, upT_s]; rfl)
  have e4 : cRd on (upT X i j 1) U fe mo (12 + j) i = 1 := (cI_cr hi hj).trans (by rw [if_pos ho, upT_s]; rfl)
  by_cases d1 : a = i ∧ b = 12 + j
  · rw [d1.1, d1.2, pu_f, e1, e3]; rfl
  · by_cases d2 : a = 12 + j ∧ b = i
    · rw [d2.1, d2.2, pu_b (by omega), e2, e4]; rfl
    · rw [pu_n d1 d2]
      exact cI_nX (i0 := i) (j0 := j) (fun x y _ _ hne => ⟨congrArg _ (upT_n hne), rfl⟩) a b ha hb d1 d2
theorem cRd_off {i j : Nat} (hi : i < 12) (hj : j < 12) (ho : on i j = true) (hX : X i j = 1) (a b : Nat) (ha : a < 25) (hb : b < 25) : cRd on (upT X i j 0) U fe mo a b = pu (cRd on X U fe mo) (12 + j) i 1 a b := by
  have e1 : cRd on X U fe mo i (12 + j) = 0 := (cI_rc hi hj).trans (by rw [if_pos ho, hX]; rfl)
  have e2 : cRd on X U fe mo (12 + j) i = 1 := (cI_cr hi hj).trans (by rw [if_pos ho, hX]; rfl)
  have e3 : cRd on (upT X i j 0) U fe mo i (12 + j) = 1 := (cI_rc hi hj).trans (by rw [if_pos ho, upT_s]; rfl)
  have e4 : cRd on (upT X i j 0) U fe mo (12 + j) i = 0 := (cI_cr hi hj).trans (by rw [if_pos ho, upT_s]; rfl)
  by_cases d1 : a = 12 + j ∧ b = i
  · rw [d1.1, d1.2, pu_f, e2, e4]; rfl
  · by_cases d2 : a = i ∧ b = 12 + j
    · rw [d2.1, d2.2, pu_b (by omega), e1, e3]; rfl
    · rw [pu_n d1 d2]
      exact cI_nX (i0 := i) (j0 := j) (fun x y _ _ hne => ⟨congrArg _ (upT_n hne), rfl⟩) a b ha hb d2 d1
/-- what a step that there is says -/
theorem cRd_pos {u v : Nat} (hu : u < 25) (hv : v < 25) (hX : ∀ i j, i < 12 → j < 12 → X i j ≤ 1) (h : 0 < cRd on X U fe mo u v) : (u < 12 ∧ 12 ≤ v ∧ v < 24 ∧ on u (v - 12) = true ∧ X u (v - 12) = 0) ∨ (v < 12 ∧ 12 ≤ u ∧ u < 24 ∧ on v (u - 12) = true ∧ X v (u - 12) = 1) ∨ (∃ n, n < 24 ∧ u = tN n ∧ v = fN n ∧ U n < mo n) ∨ ∃ n, n < 24 ∧ u = fN n ∧ v = tN n ∧ fe n < U n := by
  rcases nd_case u v hu hv with ⟨i, j, hi, hj, rfl, rfl⟩ | ⟨i, j, hi, hj, rfl, rfl⟩ | ⟨rfl, q⟩ | ⟨rfl, q⟩ | ⟨rfl, j, q, rfl⟩ | ⟨rfl, j, q, rfl⟩ | z
  · have e : cRd on X U fe mo u (12 + j) = if on u j = true then 1 - (X u j : Int) else 0 := cI_rc hi hj
    rw [e] at h
    by_cases c : on u j = true
    · rw [if_pos c] at h
      exact Or.inl ⟨hi, by omega, by omega, by rw [show 12 + j - 12 = j by omega]; exact c, by rw [show 12 + j - 12 = j by omega]; omega⟩
    · rw [if_neg c] at h; omega
  · have e : cRd on X U fe mo (12 + j) v = if on v j = true then (X v j : Int) else 0 := cI_cr hi hj
    rw [e] at h
    have := hX v j hi hj
    by_cases c : on v j = true
    · rw [if_pos c] at h
      exact Or.inr (Or.inl ⟨hi, by omega, by omega, by rw [show 12 + j - 12 = j by omega]; exact c, by rw [show 12 + j - 12 = j by omega]; omega⟩)
    · rw [if_neg c] at h; omega
  · have e : cRd on X U fe mo 24 v = (mo v : Int) - (U v : Int) := cI_or q
    rw [e] at h
    exact Or.inr (Or.inr (Or.inl ⟨v, by omega, (tN_r q).symm, (fN_r q).symm, by omega⟩))
  · have e : cRd on X U fe mo u 24 = (U u : Int) - (fe u : Int) := cI_ro q
    rw [e] at h
    exact Or.inr (Or.inr (Or.inr ⟨u, by omega, (fN_r q).symm, (tN_r q).symm, by omega⟩))
  · have e : cRd on X U fe mo (12 + j) 24 = (mo (12 + j) : Int) - (U (12 + j) : Int) := cI_co q
    rw [e] at h
    exact Or.inr (Or.inr (Or.inl ⟨12 + j, by omega, (tN_c (by omega)).symm, (fN_c (by omega)).symm, by omega⟩))
  · have e : cRd on X U fe mo 24 (12 + j) = (U (12 + j) : Int) - (fe (12 + j) : Int) := cI_oc q
    rw [e] at h
    exact Or.inr (Or.inr (Or.inr ⟨12 + j, by omega, (fN_c (by omega)).symm, (tN_c (by omega)).symm, by omega⟩))
  · have e : cRd on X U fe mo u v = 0 := (z 1 on _ _ _ _).1
    rw [e] at h; omega
end CN
