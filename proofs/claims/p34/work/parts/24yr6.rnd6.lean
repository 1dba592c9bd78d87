
/-- what is over, of the cells of one class -/
def oR (so cs : Nat → Int32) (rw cl B : Nat) (NT : Nat → Nat → Nat) (cc : Int32) (x y : Nat) : Nat := if dmR so cs rw cl cc x y = true then NT x y % B else 0
def mkO (O : Nat → Nat → Nat) (n x y : Nat) : Nat := if 12 * x + y < n then O x y else 0
def onL (O : Nat → Nat → Nat) (n x y : Nat) : Bool := decide (12 * x + y < n) && !decide (O x y = 0)
/-- cells laid below n -/
def LST (dm : Nat → Nat → Bool) (O : Nat → Nat → Nat) (n : Nat) (q1 q2 q3 s : Nat → Int32) : Prop := (∀ x y, x < 12 → y < 12 → dm x y = true → 12 * x + y < n → q1 (x * 12 + y) = nI (O x y) ∧ q2 (x * 12 + y) = 0) ∧ (∃ OS : Nat → Nat, ∀ k, k < 24 → q3 k = nI (OS k) ∧ (OS k : Int) = rS (mkO O n) k) ∧ SYU (onL O n) (fun _ _ => 0) (fun _ => 0) (fun _ => 0) (fun _ => 0) s
theorem rS_c {X Y : Nat → Nat → Nat} (h : ∀ i j, i < 12 → j < 12 → X i j = Y i j) (k : Nat) (hk : k < 24) : rS X k = rS Y k := by
  unfold rS ndI
  by_cases c : k < 12
  · rw [if_pos c, if_pos c]; exact sumI_c 12 (fun j hj => congrArg _ (h k j c hj))
  · rw [if_neg c, if_neg c]; exact sumI_c 12 (fun i hi => congrArg _ (h i (k - 12) hi (by omega)))
theorem rS_0 (k : Nat) : rS (fun _ _ => 0) k = 0 := by
  unfold rS ndI
  split
  · exact sumI_z 12 (fun _ _ => rfl)
  · exact sumI_z 12 (fun _ _ => rfl)
theorem LST_0 {dm : Nat → Nat → Bool} {O : Nat → Nat → Nat} {q1 q2 q3 s : Nat → Int32} : LST dm O (12 * 0) q1 q2 (flF q3 0 25) (flF s 0 25) := by
  refine ⟨fun x y _ _ _ h => absurd h (by omega), ⟨fun _ => 0, fun k hk => ⟨?_, ?_⟩⟩, SYU_c SYU_0 (fun i j _ _ => ⟨?_, fun _ => rfl⟩) (fun _ _ => ⟨rfl, rfl, rfl⟩)⟩
  · unfold flF; rw [if_pos (by omega)]; rfl
  · rw [rS_c (X := mkO O (12 * 0)) (Y := fun _ _ => 0) (fun i j _ _ => if_neg (by omega)) k hk, rS_0]; rfl
  · unfold onL; rw [decide_eq_false (by omega)]; rfl
theorem mkO_s {O : Nat → Nat → Nat} {i j x y : Nat} (hy : y < 12) (hj : j < 12) : mkO O (12 * i + j + 1) x y = upT (mkO O (12 * i + j)) i j (O i j) x y := by
  by_cases q : x = i ∧ y = j
  · obtain ⟨rfl, rfl⟩ := q
    rw [upT_s]; exact if_pos (by omega)
  · rw [upT_n q]
    unfold mkO
    by_cases c : 12 * x + y < 12 * i + j
    · rw [if_pos c, if_pos (by omega)]
    · rw [if_neg c, if_neg (by omega)]
theorem LST_s {dm : Nat → Nat → Bool} {O : Nat → Nat → Nat} {q1 q2 q3 s s2 : Nat → Int32} {i j o : Nat} {OS : Nat → Nat} (hi : i < 12) (hj : j < 12) (h : LST dm O (12 * i + j) q1 q2 q3 s) (eo : O i j = o) (hOS : ∀ k, k < 24 → q3 k = nI (OS k) ∧ (OS k : Int) = rS (mkO O (12 * i + j)) k) (hs : (o = 0 ∧ s2 = s) ∨ (0 < o ∧ s2 = jnF s i (12 + j) 1 0)) : LST dm O (12 * i + j + 1) (upd q1 (i * 12 + j) (nI o)) (upd q2 (i * 12 + j) 0) (upd (upd q3 i (nI (OS i + o))) (12 + j) (nI (OS (12 + j) + o))) s2 := by
  obtain ⟨h1, _, h3⟩ := h
  refine ⟨fun x y hx hy hd hl => ?_, ⟨upL (upL OS i (OS i + o)) (12 + j) (OS (12 + j) + o), fun k hk => ?_⟩, ?_⟩
  · by_cases q : x = i ∧ y = j
    · obtain ⟨rfl, rfl⟩ := q
      rw [pk_us, pk_us, eo]; exact ⟨rfl, rfl⟩
    · rw [pk_un (by omega), pk_un (by omega)]; exact h1 x y hx hy hd (by omega)
  · have e0 : mkO O (12 * i + j) i j = 0 := if_neg (by omega)
    have e1 : rS (mkO O (12 * i + j + 1)) k = rS (upT (mkO O (12 * i + j)) i j (O i j)) k := rS_c (fun x y _ hy => mkO_s hy hj) k hk
    obtain ⟨u1, u2⟩ := rS_up (X := mkO O (12 * i + j)) (x := O i j) hi hj k
    rw [e0, eo] at u1 u2
    rw [eo] at e1
    by_cases c1 : k = i
    · have g := (hOS i (by omega)).2
      have u := u1 (by omega)
      rw [dl_t c1, ← e1] at u
      rw [c1] at u ⊢
      refine ⟨by rw [pk_un (by omega), pk_us, upL_n (by omega), upL_o], ?_⟩
      rw [upL_n (by omega), upL_o]; omega
    · by_cases c2 : k = 12 + j
      · have g := (hOS (12 + j) (by omega)).2
        have u := u2 j c2
        rw [dl_s, ← e1] at u
        rw [c2] at u ⊢
        refine ⟨by rw [pk_us, upL_o], ?_⟩
        rw [upL_o]; omega
      · have g := hOS k hk
        refine ⟨by rw [pk_un c2, pk_un c1, upL_n c2, upL_n c1]; exact g.1, ?_⟩
        rw [upL_n c2, upL_n c1, e1, g.2]
        by_cases c3 : k < 12
        · have u := u1 c3
          rw [dl_n c1] at u; omega
        · have u := u2 (k - 12) (by omega)
          rw [dl_n (show k - 12 ≠ j by omega)] at u; omega
  · have on_n : ∀ a b, b < 12 → ¬ (a = i ∧ b = j) → onL O (12 * i + j + 1) a b = onL O (12 * i + j) a b := fun a b hb hne => by
      unfold onL
      by_cases c : 12 * a + b < 12 * i + j
      · rw [decide_eq_true c, decide_eq_true (show 12 * a + b < 12 * i + j + 1 by omega)]
      · rw [decide_eq_false c, decide_eq_false (show ¬ 12 * a + b < 12 * i + j + 1 by omega)]
    have off : onL O (12 * i + j) i j = false := by unfold onL; rw [decide_eq_false (by omega)]; rfl
    rcases hs with ⟨z, rfl⟩ | ⟨z, rfl⟩
    · refine SYU_c h3 (fun a b _ hb => ⟨?_, fun _ => rfl⟩) (fun _ _ => ⟨rfl, rfl, rfl⟩)
      by_cases q : a = i ∧ b = j
      · rw [q.1, q.2, off]
        unfold onL; rw [eo, z]; simp
      · exact on_n a b hb q
    · refine SYU_ce hi hj (fun a b _ hb hne => ⟨rfl, on_n a b hb hne⟩) h3 (bb_t ⟨?_, rfl⟩) (bb_f (fun w => absurd w.2 (by decide)))
      unfold onL
      rw [decide_eq_true (show 12 * i + j < 12 * i + j + 1 by omega), decide_eq_false (show ¬ O i j = 0 by omega)]; rfl
theorem LST_c {dm : Nat → Nat → Bool} {O : Nat → Nat → Nat} {q1 q2 q3 s : Nat → Int32} {n m : Nat} (hnm : n ≤ m) (h : LST dm O n q1 q2 q3 s) (hz : ∀ x y, x < 12 → y < 12 → n ≤ 12 * x + y → 12 * x + y < m → dm x y = false ∧ O x y = 0) : LST dm O m q1 q2 q3 s := by
  obtain ⟨h1, ⟨OS, h2⟩, h3⟩ := h
  refine ⟨fun x y hx hy hd hl => ?_, ⟨OS, fun k hk => ⟨(h2 k hk).1, (h2 k hk).2.trans (rS_c (fun x y hx hy => ?_) k hk)⟩⟩, SYU_c h3 (fun x y hx hy => ⟨?_, fun _ => rfl⟩) (fun _ _ => ⟨rfl, rfl, rfl⟩)⟩
  · by_cases c : 12 * x + y < n
    · exact h1 x y hx hy hd c
    · rw [(hz x y hx hy (by omega) hl).1] at hd; exact absurd hd (by decide)
  · unfold mkO
    by_cases c : 12 * x + y < n
    · rw [if_pos c, if_pos (by omega)]
    · rw [if_neg c]
      by_cases d : 12 * x + y < m
      · rw [if_pos d, (hz x y hx hy (by omega) d).2]
      · rw [if_neg d]
  · unfold onL
    by_cases c : 12 * x + y < n
    · rw [decide_eq_true c, decide_eq_true (show 12 * x + y < m by omega)]
    · rw [decide_eq_false c]
      by_cases d : 12 * x + y < m
      · rw [decide_eq_true d, decide_eq_true (hz x y hx hy (by omega) d).2]; rfl
      · rw [decide_eq_false d]
/-! floors and ceilings -/
theorem fl_1 (a : Nat) {b : Nat} (hb : 0 < b) : (b : Int) * ((a / b : Nat) : Int) ≤ (a : Int) ∧ (a : Int) < (b : Int) * ((a / b : Nat) : Int) + b := by
  have h1 := Nat.div_add_mod a b
  have h2 := Nat.mod_lt a hb
  have h3 : ((b * (a / b) + a % b : Nat) : Int) = (a : Int) := congrArg _ h1
  rw [Int.natCast_add, Int.natCast_mul] at h3
  omega
theorem fl_2 (a : Nat) {b : Nat} (hb : 0 < b) : (a : Int) ≤ (b : Int) * (((a + b - 1) / b : Nat) : Int) ∧ (b : Int) * (((a + b - 1) / b : Nat) : Int) < (a : Int) + b := by
  have h := fl_1 (a + b - 1) hb
  omega
theorem fl_3 {a b : Nat} (h : a ≤ (b - 1) * 12) (hb : 0 < b) : a / b ≤ 11 := by
  have : a / b < 12 := Nat.div_lt_of_lt_mul (by omega)
  omega
theorem fl_4 {a b : Nat} (h : a ≤ (b - 1) * 12) (hb : 0 < b) : (a + b - 1) / b ≤ 1000 := by
  have : (a + b - 1) / b < 13 := Nat.div_lt_of_lt_mul (by omega)
  omega
theorem fl_5 (a : Nat) {b : Nat} (hb : 0 < b) : a / b ≤ (a + b - 1) / b := Nat.div_le_div_right (by omega)
theorem rS_b {O : Nat → Nat → Nat} {B : Nat} (hO : ∀ i j, i < 12 → j < 12 → O i j < B) (k : Nat) (hk : k < 24) : rS O k ≤ ((B : Int) - 1) * 12 := by
  unfold rS ndI
  by_cases c : k < 12
  · rw [if_pos c]; exact sumI_ub (B := (B : Int) - 1) 12 (fun j hj => by have := hO k j c hj; show ((O k j : Nat) : Int) ≤ (B : Int) - 1; omega)
  · rw [if_neg c]; exact sumI_ub (B := (B : Int) - 1) 12 (fun i hi => by have := hO i (k - 12) hi (by omega); show ((O i (k - 12) : Nat) : Int) ≤ (B : Int) - 1; omega)
def mk9 (A : Nat → Nat) (n m : Nat) : Nat := if m < n then A m else 0
theorem mk9_ag {A : Nat → Nat} {n k : Nat} (h : k ≠ n) : mk9 A (n + 1) k = mk9 A n k := by
  unfold mk9
  by_cases c : k < n
  · rw [if_pos c, if_pos (by omega)]
  · rw [if_neg c, if_neg (by omega)]
theorem mk9_s {A : Nat → Nat} {n : Nat} : mk9 A (n + 1) n = A n := if_pos (by omega)
theorem mk9_l {A : Nat → Nat} {n k : Nat} (h : k < n) : mk9 A n k = A k := if_pos h
/-- the rounding of one class, as the rows hold it -/
def CLS (so cs : Nat → Int32) (rw cl B : Nat) (NT : Nat → Nat → Nat) (cc : Int32) (q1 q2 : Nat → Int32) : Prop := ∃ Z, FEAS (oR so cs rw cl B NT cc) B Z ∧ RLX (oR so cs rw cl B NT cc) B Z 144 ∧ ∀ x y, x < 12 → y < 12 → dmR so cs rw cl cc x y = true → q1 (x * 12 + y) = nI (NT x y % B) ∧ q2 (x * 12 + y) = nI (Z x y)
theorem CLS_k {so cs : Nat → Int32} {rw cl B : Nat} {NT : Nat → Nat → Nat} {cc c2 : Int32} {q1 q2 p1 p2 : Nat → Int32} (h : CLS so cs rw cl B NT cc q1 q2) (hne : ¬ cc = c2) (hk : ∀ x y, x < 12 → y < 12 → dmR so cs rw cl c2 x y = false → p1 (x * 12 + y) = q1 (x * 12 + y) ∧ p2 (x * 12 + y) = q2 (x * 12 + y)) : CLS so cs rw cl B NT cc p1 p2 := by
  obtain ⟨Z, h1, h2, h3⟩ := h
  refine ⟨Z, h1, h2, fun x y hx hy hd => ?_⟩
  have hf : dmR so cs rw cl c2 x y = false := by
    rcases bo (dmR so cs rw cl c2 x y) with e | e
    · exact absurd ((dmR_of hd).2.2.2.symm.trans (dmR_of e).2.2.2) hne
    · exact e
  obtain ⟨a, b⟩ := hk x y hx hy hf
  rw [a, b]; exact h3 x y hx hy hd
theorem oR_lt {so cs : Nat → Int32} {rw cl B : Nat} {NT : Nat → Nat → Nat} {cc : Int32} (hB : 0 < B) (x y : Nat) : oR so cs rw cl B NT cc x y < B := by
  unfold oR
  split
  · exact Nat.mod_lt _ hB
  · exact hB
theorem oR_z {so cs : Nat → Int32} {rw cl B : Nat} {NT : Nat → Nat → Nat} {cc : Int32} {x y : Nat} (h : dmR so cs rw cl cc x y = false) : oR so cs rw cl B NT cc x y = 0 := if_neg (by rw [h]; decide)
theorem oR_t {so cs : Nat → Int32} {rw cl B : Nat} {NT : Nat → Nat → Nat} {cc : Int32} {x y : Nat} (h : dmR so cs rw cl cc x y = true) : oR so cs rw cl B NT cc x y = NT x y % B := if_pos h
theorem dmR_ro {so cs : Nat → Int32} {rw cl : Nat} {cc : Int32} {x y : Nat} (h : ¬ (¬ so x = 0 ∧ cs x = cc)) : dmR so cs rw cl cc x y = false := by
  rcases bo (dmR so cs rw cl cc x y) with e | e
  · exact absurd ⟨(dmR_of e).2.2.1, (dmR_of e).2.2.2⟩ h
  · exact e
theorem dmR_co {so cs : Nat → Int32} {rw cl : Nat} {cc : Int32} {x y : Nat} (h : ¬ (x < rw ∧ y < cl)) : dmR so cs rw cl cc x y = false := by
  rcases bo (dmR so cs rw cl cc x y) with e | e
  · exact absurd ⟨(dmR_of e).1, (dmR_of e).2.1⟩ h
  · exact e
/-- when the nodes are laid, the search for the fewest begins -/
theorem RFI_0 {dm : Nat → Nat → Bool} {O : Nat → Nat → Nat} {q1 q2 q3 q4 q5 q6 s : Nat → Int32} {B : Nat} {OS : Nat → Nat} (hB : 0 < B) (hB9 : B ≤ 1000) (hO : ∀ i j, i < 12 → j < 12 → O i j < B) (hz : ∀ i j, i < 12 → j < 12 → dm i j = false → O i j = 0) (h1 : ∀ x y, x < 12 → y < 12 → dm x y = true → 12 * x + y < 144 → q1 (x * 12 + y) = nI (O x y) ∧ q2 (x * 12 + y) = 0) (hOS : ∀ k, k < 24 → q3 k = nI (OS k) ∧ (OS k : Int) = rS O k) (h4 : ∀ k, k < 24 → q4 k = 0) (h56 : ∀ m, m < 24 → q5 m = nI (OS m / B) ∧ q6 m = nI ((OS m + B - 1) / B)) (hS : SYU (onL O 144) (fun _ _ => 0) (fun _ => 0) (mk9 (fun m => OS m / B) 24) (mk9 (fun m => (OS m + B - 1) / B) 24) s) : RFI dm (onB O (12 * 0)) O 0 (fun _ _ => 0) (fun _ => 0) (fun m => OS m / B) (fun m => (OS m + B - 1) / B) q1 q2 q4 q5 q6 s := by
  have hb : ∀ k, k < 24 → OS k ≤ (B - 1) * 12 := fun k hk => by
    have g := (hOS k hk).2
    have g2 := rS_b hO k hk
    omega
  refine ⟨⟨fun i j hi hj hd => h1 i j hi hj hd (by omega), fun i j hi hj => ⟨Nat.zero_le _, by have := hO i j hi hj; omega, fun e => ?_⟩, fun k hk => ⟨h4 k hk, (h56 k hk).1, (h56 k hk).2, Nat.zero_le _, Nat.le_trans (fl_3 (hb k hk) hB) (by omega), fl_4 (hb k hk) hB⟩, SYU_c hS (fun i j hi hj => ⟨?_, fun _ => rfl⟩) (fun k hk => ⟨rfl, (mk9_l (A := fun m => OS m / B) hk).symm, (mk9_l (A := fun m => (OS m + B - 1) / B) hk).symm⟩)⟩, fun i j hi hj e => ⟨(onB_f.mp e).elim (fun z => absurd z (by omega)) (fun z => z), rfl⟩, fun k _ => rS_0 k, fun _ _ => Nat.zero_le _, fun k hk => absurd hk (by omega)⟩
  · rcases bo (dm i j) with d | d
    · exact d
    · rw [onB_f.mpr (Or.inr (hz i j hi hj d))] at e; exact absurd e (by decide)
  · unfold onB onL
    rw [decide_eq_true (show 12 * 0 ≤ 12 * i + j by omega), decide_eq_true (show 12 * i + j < 144 by omega)]
theorem BDN_0 {dm : Nat → Nat → Bool} {O X : Nat → Nat → Nat} {U fe mo : Nat → Nat} {q1 q2 q4 q5 q6 s : Nat → Int32} {B : Nat} (h : RFI dm (onB O (12 * 0)) O 24 X U fe mo q1 q2 q4 q5 q6 s) : BDN dm O B (12 * 0) X U fe mo q1 q2 q4 q5 q6 s := ⟨h.1, h.2.2.1, fun k hk => ⟨h.2.2.2.2 k hk, h.2.2.2.1 k hk⟩, fun i j hi hj e => (h.2.1 i j hi hj (onB_f.mpr (Or.inr e))).2, fun i j _ _ hm => absurd hm (by omega)⟩
theorem CLS_of {so cs : Nat → Int32} {rw cl B : Nat} {NT : Nat → Nat → Nat} {cc : Int32} {X : Nat → Nat → Nat} {U OS : Nat → Nat} {q1 q2 q4 q5 q6 s : Nat → Int32} (hB : 0 < B) (hrw : rw ≤ 12) (hOS : ∀ k, k < 24 → (OS k : Int) = rS (oR so cs rw cl B NT cc) k) (h : BDN (dmR so cs rw cl cc) (oR so cs rw cl B NT cc) B (12 * rw) X U (fun m => OS m / B) (fun m => (OS m + B - 1) / B) q1 q2 q4 q5 q6 s) : CLS so cs rw cl B NT cc q1 q2 := by
  obtain ⟨h1, h2, h3, h4, h5⟩ := h
  refine ⟨X, ⟨fun i j hi hj => ⟨(h1.2.1 i j hi hj).1, h4 i j hi hj⟩, fun n hn => ?_⟩, fun i j hi hj _ hx => ?_, fun x y hx hy hd => ?_⟩
  · have a := fl_1 (OS n) hB
    have b := fl_2 (OS n) hB
    obtain ⟨c, d⟩ := h3 n hn
    have c2 : ((OS n / B : Nat) : Int) ≤ (U n : Int) := Int.ofNat_le.mpr c
    have d2 : (U n : Int) ≤ (((OS n + B - 1) / B : Nat) : Int) := Int.ofNat_le.mpr d
    have e1 := Int.mul_le_mul_of_nonneg_left c2 (show (0 : Int) ≤ (B : Int) by omega)
    have e2 := Int.mul_le_mul_of_nonneg_left d2 (show (0 : Int) ≤ (B : Int) by omega)
    rw [h2 n hn, ← hOS n hn]
    omega
  · by_cases c : 12 * i + j < 12 * rw
    · exact h5 i j hi hj c hx
    · rw [h4 i j hi hj (oR_z (dmR_co (by omega)))] at hx; exact absurd hx (by decide)
  · have g := h1.1 x y hx hy hd
    rw [oR_t hd] at g; exact g
set_option maxHeartbeats 4000000 in
set_option maxRecDepth 100000 in
theorem r_X3_isFirstOfClass (l : Launch) (G : GG) (ua a b la : Nat → Nat) (uf f lf : Nat → Int32) (ur r lr : Nat → Nat → Int32) (i : Nat) (hi : i < 12) : RdI l yX3_isFirstOfClass cX3_isFirstOfClass 4 (some .boolean) ({ frames := 0, cells := 0, slots := 0, locals := 0 }) G (uM G ua a b la uf f lf ur r lr) [.ref (ua 0), .ref (a 15), .int (nI i)] (fun q => ((q = 1 ∧ (∀ x, x < i → ¬ (r 6) x = 0 → ¬ (r 7) x = (r 7) i)) ∨ (q = 0 ∧ ¬ (∀ x, x < i → ¬ (r 6) x = 0 → ¬ (r 7) x = (r 7) i)))) := by
  refine rd_entry (by decide +kernel) (Nat.le_of_ble_eq_true rfl) ?_
  intro p e s m below meth c C0 hP hK ls hl
  have hS : va_S (fun q => s.heap.size ≤ q) s.heap s.heap [] := va_S.rf
  have hA : ∀ q, s.heap.size ≤ q → (fun q => s.heap.size ≤ q) q := fun _ h => h
  obtain ⟨hx, hb, hml, hown, hts, hr, hlocks, hin⟩ := C0
  have hown : s.vm.findClass RX3 = some m.cls := hown
  have hl : lv_has ls 4 [(0, .ref (ua 0)), (1, .ref (a 15)), (2, .int (nI i))] := hl
  refine lv_iconst (v := 0) hx hb dX3_isFirstOfClass_0 (by decide) ?_
  refine lv_istore_n (lv' := [(3, .int 0), (0, .ref (ua 0)), (1, .ref (a 15)), (2, .int (nI i))]) hx hb dX3_isFirstOfClass_1 rfl hl (by decide) rfl (fun ls hl => ?_)
  have loop2 : ∀ (k1 j : Nat) , j ≤ i → i < j + k1 → (∀ x, x < j → ¬ (r 6) x = 0 → ¬ (r 7) x = (r 7) i) → ∀ (H : Heap) (locs : List Loc) (ls : Array Slot), PP G (uM G ua a b la uf f lf ur r lr) H → va_S (fun q => s.heap.size ≤ q) s.heap H locs → lv_has ls 4 [(3, .int (nI j)), (1, .ref (a 15)), (2, .int (nI i))] → W p l e ({ frames := 0, cells := 0, slots := 0, locals := 0 }) s m ([.ref (ua 0), .ref (a 15), .int (nI i)] : List Value).toArray below meth c H locs 0 0 (MQ below (QrI (fun q => ((q = 1 ∧ (∀ x, x < i → ¬ (r 6) x = 0 → ¬ (r 7) x = (r 7) i)) ∨ (q = 0 ∧ ¬ (∀ x, x < i → ¬ (r 6) x = 0 → ¬ (r 7) x = (r 7) i)))) (fun q => s.heap.size ≤ q)) ([.ref (ua 0), .ref (a 15), .int (nI i)] : List Value).toArray s 0 0 (fun q => s.heap.size ≤ q)) (F0 m 2 ls []) := by
    intro k1
    induction k1 with
    | zero => intro j  h1 h2; exact absurd h1 (by omega)
    | succ k1 ih2k1 =>
      intro j  hi_j hk_j hno H locs ls hP hS hl
      refine lv_iload_n hx hb dX3_isFirstOfClass_2 rfl (lv_at hl 0 rfl) ?_
      refine lv_iload_n hx hb dX3_isFirstOfClass_3 rfl (lv_at hl 2 rfl) ?_
      refine lv_icmp_ge (tgt := 39) hx hb dX3_isFirstOfClass_4 (by decide) (fun c2 => ?_) (fun c2 => ?_)
      · have b4 := qge_t (a := j) (b := i) (by omega) (by omega) c2
        refine lv_iconst (v := 1) hx hb dX3_isFirstOfClass_39 (by decide) ?_
        exact rd_zret hx hb hr hlocks (Or.inr rfl) hS ((Or.inl ⟨rfl, fun x h9 => hno x (by omega)⟩)) dX3_isFirstOfClass_40
      · have b4 := qge_f (a := j) (b := i) (by omega) (by omega) c2
        refine lv_aload_n hx hb dX3_isFirstOfClass_7 rfl (lv_at hl 1 rfl) ?_
        refine va_get (D := G.1) (ci := 2) (v := .ref (a 6)) (C := RX2) (T := TX2) (N := 15) hx hb hts inX2 hown hK.1 hP 12 rfl rfl 6 (by decide) (hts _ mf_X3_47) (fun _ h9 => h9) rfl dX3_isFirstOfClass_8 ?_
        refine lv_iload_n hx hb dX3_isFirstOfClass_11 rfl (lv_at hl 0 rfl) ?_
        refine xzald (f := (r 6)) hx hb hK hP 13 (j) (rfl) (by omega) (by decide) rfl dX3_isFirstOfClass_12 ?_
        refine lv_topi (fun v3 ev3 => ?_)
        refine lv_if_eq (tgt := 33) hx hb dX3_isFirstOfClass_13 (by decide) (fun c4 => ?_) (fun c4 => ?_)
        · obtain ⟨v5, ev5⟩ : ∃ y9 : Int32, y9 = (nI j) + Int32.ofInt (1) := ⟨_, rfl⟩
          refine lv_iinc (v := v5) (lv' := [(3, .int v5), (1, .ref (a 15)), (2, .int (nI i))]) hx hb dX3_isFirstOfClass_33 hl (k := 0) rfl ev5.symm (by decide) rfl (fun ls hl => ?_)
          obtain rfl : v5 = nI (j + 1) := nI_plus (i := j) (j := 1) ev5 rfl (by decide)
          refine lv_goto (tgt := 2) hx hb dX3_isFirstOfClass_36 (by decide) ?_
          exact ih2k1 (j + 1) (by omega) (by omega) (fun x hx => if c9 : x = j then (by rw [c9]; exact fun z8 => absurd (by rw [← ev3]; exact c4) z8) else hno x (by omega)) _ _ _ hP hS (lv_sub hl [0, 1, 2] rfl)
        · refine lv_aload_n hx hb dX3_isFirstOfClass_16 rfl (lv_at hl 1 rfl) ?_
          refine va_get (D := G.1) (ci := 2) (v := .ref (a 7)) (C := RX2) (T := TX2) (N := 15) hx hb hts inX2 hown hK.1 hP 12 rfl rfl 7 (by decide) (hts _ mf_X3_54) (fun _ h9 => h9) rfl dX3_isFirstOfClass_17 ?_
          refine lv_iload_n hx hb dX3_isFirstOfClass_20 rfl (lv_at hl 0 rfl) ?_
          refine xiald (f := (r 7)) hx hb hK hP 14 (j) (rfl) (by omega) (by decide) rfl dX3_isFirstOfClass_21 ?_
          refine lv_topi (fun v6 ev6 => ?_)
          refine lv_aload_n hx hb dX3_isFirstOfClass_22 rfl (lv_at hl 1 rfl) ?_
          refine va_get (D := G.1) (ci := 2) (v := .ref (a 7)) (C := RX2) (T := TX2) (N := 15) hx hb hts inX2 hown hK.1 hP 12 rfl rfl 7 (by decide) (hts _ mf_X3_54) (fun _ h9 => h9) rfl dX3_isFirstOfClass_23 ?_
          refine lv_iload_n hx hb dX3_isFirstOfClass_26 rfl (lv_at hl 2 rfl) ?_
          refine xiald (f := (r 7)) hx hb hK hP 14 (i) (rfl) (by omega) (by decide) rfl dX3_isFirstOfClass_27 ?_
          refine lv_topi (fun v7 ev7 => ?_)
          refine lv_icmp_ne (tgt := 33) hx hb dX3_isFirstOfClass_28 (by decide) (fun c8 => ?_) (fun c8 => ?_)
          · obtain ⟨v9, ev9⟩ : ∃ y9 : Int32, y9 = (nI j) + Int32.ofInt (1) := ⟨_, rfl⟩
            refine lv_iinc (v := v9) (lv' := [(3, .int v9), (1, .ref (a 15)), (2, .int (nI i))]) hx hb dX3_isFirstOfClass_33 hl (k := 0) rfl ev9.symm (by decide) rfl (fun ls hl => ?_)
            obtain rfl : v9 = nI (j + 1) := nI_plus (i := j) (j := 1) ev9 rfl (by decide)
            refine lv_goto (tgt := 2) hx hb dX3_isFirstOfClass_36 (by decide) ?_
            exact ih2k1 (j + 1) (by omega) (by omega) (fun x hx => if c9 : x = j then (by rw [c9]; exact fun _ z8 => c8 (by rw [ev6, ev7]; exact z8)) else hno x (by omega)) _ _ _ hP hS (lv_sub hl [0, 1, 2] rfl)
          · refine lv_iconst (v := 0) hx hb dX3_isFirstOfClass_31 (by decide) ?_
            exact rd_zret hx hb hr hlocks (Or.inl rfl) hS ((Or.inr ⟨rfl, fun z9 => z9 j (by omega) (by rw [← ev3]; exact c4) (by rw [← ev6, ← ev7]; exact c8)⟩)) dX3_isFirstOfClass_32
  exact loop2 (i + 1) 0 (by omega) (by omega) (fun x h9 => absurd h9 (by omega)) _ _ _ hP hS (lv_sub hl [0, 2, 3] rfl)
set_option maxHeartbeats 4000000 in
set_option maxRecDepth 100000 in
theorem r_X3_layRow (l : Launch) (G : GG) (ua a b la : Nat → Nat) (uf f lf : Nat → Int32) (ur r lr : Nat → Nat → Int32) (i : Nat) (ba : Nat) (rw : Nat) (cl : Nat) (dm : Nat → Nat → Bool) (O : Nat → Nat → Nat) (NT : Nat → Nat → Nat) (hrw : rw ≤ 12) (hcl : cl ≤ 12) (h0 : (f 0) = nI rw) (h1 : (f 1) = nI cl) (hb1 : 2 ≤ ba) (hb9 : ba ≤ 1000) (hi : i < 12) (hdm : ∀ y, y < cl → dm i y = true ∧ O i y = NT i y % ba ∧ (r 9) (i * 12 + y) = nI (NT i y) ∧ NT i y ≤ 1000000) (hls : LST dm O (12 * i) (ur 1) (ur 2) (ur 3) (ur 20)) : WrV l yX3_layRow cX3_layRow 6 ({ frames := 1, cells := 0, slots := 0, locals := 26 }) G (uM G ua a b la uf f lf ur r lr) [.ref (ua 0), .ref (a 15), .int (nI i), .int (nI ba)] (fun w => ∃ (n_ur_1 : Nat → Int32) (n_ur_2 : Nat → Int32) (n_ur_3 : Nat → Int32) (n_ur_20 : Nat → Int32), w = uM G ua a b la uf f lf (up2 (up2 (up2 (up2 ur 1 n_ur_1) 2 n_ur_2) 3 n_ur_3) 20 n_ur_20) r lr ∧ (LST dm O (12 * i + cl) n_ur_1 n_ur_2 n_ur_3 n_ur_20) ∧ (∀ a b, a < 12 → b < 12 → dm a b = false → n_ur_1 (a * 12 + b) = (ur 1) (a * 12 + b) ∧ n_ur_2 (a * 12 + b) = (ur 2) (a * 12 + b))) := by
  refine wr_entryV (by decide +kernel) (Nat.le_of_ble_eq_true rfl) ?_
  intro p e s m below meth c A C0 hP hK hD hA ls hl
  have hS : va_S A s.heap s.heap [] := va_S.rf
  obtain ⟨hx, hb, hml, hown, hts, hr, hlocks, hin⟩ := C0
  have hown : s.vm.findClass RX3 = some m.cls := hown
  have hDD : ∀ uf' f' lf' ur' r' lr', va_D A (uM G ua a b la uf' f' lf' ur' r' lr') := fun uf' f' lf' ur' r' lr' => D_same hD rfl
  have hl : lv_has ls 6 [(0, .ref (ua 0)), (1, .ref (a 15)), (2, .int (nI i)), (3, .int (nI ba))] := hl
  refine lv_iconst (v := 0) hx hb dX3_layRow_0 (by decide) ?_
  refine lv_istore (lv' := [(4, .int 0), (0, .ref (ua 0)), (1, .ref (a 15)), (2, .int (nI i)), (3, .int (nI ba))]) hx hb dX3_layRow_1 hl (by decide) rfl (fun ls hl => ?_)
  have loop3 : ∀ (k1 j : Nat) (x2 : Nat → Int32) (x3 : Nat → Int32) (x4 : Nat → Int32) (x5 : Nat → Int32), j ≤ cl → cl < j + k1 → (LST dm O (12 * i + j) x2 x3 x4 x5) → (∀ a b, a < 12 → b < 12 → dm a b = false → x2 (a * 12 + b) = (ur 1) (a * 12 + b) ∧ x3 (a * 12 + b) = (ur 2) (a * 12 + b)) → ∀ (H : Heap) (locs : List Loc) (ls : Array Slot), PP G (uM G ua a b la uf f lf (up2 (up2 (up2 (up2 ur 1 x2) 2 x3) 3 x4) 20 x5) r lr) H → va_S A s.heap H locs → lv_has ls 6 [(4, .int (nI j)), (0, .ref (ua 0)), (1, .ref (a 15)), (2, .int (nI i)), (3, .int (nI ba))] → W p l e ({ frames := 1, cells := 0, slots := 0, locals := 26 }) s m ([.ref (ua 0), .ref (a 15), .int (nI i), .int (nI ba)] : List Value).toArray below meth c H locs 0 0 (MQ below (QwV G (fun w => ∃ (n_ur_1 : Nat → Int32) (n_ur_2 : Nat → Int32) (n_ur_3 : Nat → Int32) (n_ur_20 : Nat → Int32), w = uM G ua a b la uf f lf (up2 (up2 (up2 (up2 ur 1 n_ur_1) 2 n_ur_2) 3 n_ur_3) 20 n_ur_20) r lr ∧ (LST dm O (12 * i + cl) n_ur_1 n_ur_2 n_ur_3 n_ur_20) ∧ (∀ a b, a < 12 → b < 12 → dm a b = false → n_ur_1 (a * 12 + b) = (ur 1) (a * 12 + b) ∧ n_ur_2 (a * 12 + b) = (ur 2) (a * 12 + b))) A) ([.ref (ua 0), .ref (a 15), .int (nI i), .int (nI ba)] : List Value).toArray s 0 0 A) (F0 m 3 ls []) := by
    intro k1
    induction k1 with
    | zero => intro j x2 x3 x4 x5 h1 h2; exact absurd h1 (by omega)
    | succ k1 ih3k1 =>
      intro j x2 x3 x4 x5 hi_j hk_j hls hkq H locs ls hP hS hl
      refine lv_iload hx hb dX3_layRow_3 (lv_at hl 0 rfl) ?_
      refine lv_aload_n hx hb dX3_layRow_5 rfl (lv_at hl 2 rfl) ?_
      refine va_get (D := G.1) (ci := 2) (v := .int (f 1)) (C := RX2) (T := TX2) (N := 15) hx hb hts inX2 hown hK.1 hP 12 rfl rfl 1 (by decide) (hts _ mf_X3_68) (fun _ h9 => h9) rfl dX3_layRow_6 ?_
      rw [show (f 1) = nI (cl) from h1]
      refine lv_icmp_ge (tgt := 119) hx hb dX3_layRow_9 (by decide) (fun c6 => ?_) (fun c6 => ?_)
      · have b9 := qge_t (a := j) (b := (cl)) (by omega) (by omega) c6
        exact wr_vret hx hb hr hlocks hS hP ⟨x2, x3, x4, x5, rfl, (by rw [show cl = j by omega]; exact hls), hkq⟩ dX3_layRow_119
      · have b9 := qge_f (a := j) (b := (cl)) (by omega) (by omega) c6
        obtain ⟨qa, qb, qc, qd⟩ := hdm j (by omega)
        obtain ⟨OS, hOS⟩ := hls.2.1
        refine lv_iload_n hx hb dX3_layRow_12 rfl (lv_at hl 3 rfl) ?_
        refine lv_iload hx hb dX3_layRow_13 (lv_at hl 0 rfl) ?_
        refine rdSN (rest := []) ⟨hx, hb, hml, hown, hts⟩ (c_X6_spotOf l G ((nI i)) ((nI j))) mi_yX6_spotOf mst_yX6_spotOf (by decide +kernel) ⟨rfl, rfl, Nat.le_of_ble_eq_true rfl, Nat.le_of_ble_eq_true rfl⟩ hK (fun k q h => by simp at h) rfl hl.1 rfl (Nat.le_of_ble_eq_true rfl) dX3_layRow_15 ⟨Nat.zero_le _, Nat.zero_le _⟩ hS hA hP (fun r7 H locs hr7 hP hS => ?_)
        obtain rfl : r7 = nI (i * 12 + j) := spot_eq hr7
        refine lv_istore (lv' := [(5, .int (nI (i * 12 + j))), (4, .int (nI j)), (0, .ref (ua 0)), (1, .ref (a 15)), (2, .int (nI i)), (3, .int (nI ba))]) hx hb dX3_layRow_18 hl (by decide) rfl (fun ls hl => ?_)
        refine lv_aload_n hx hb dX3_layRow_20 rfl (lv_at hl 2 rfl) ?_
        refine va_get (D := G.1) (ci := 3) (v := .ref (ua 1)) (C := RX3) (T := TX3) (N := 8) hx hb hts inX3 hown hK.1 hP 0 rfl rfl 1 (by decide) (hts _ mf_X3_18) (fun _ h9 => h9) rfl dX3_layRow_21 ?_
        refine lv_iload hx hb dX3_layRow_24 (lv_at hl 0 rfl) ?_
        refine lv_iload_n hx hb dX3_layRow_26 rfl (lv_at hl 5 rfl) ?_
        refine lv_if_le (tgt := 42) hx hb dX3_layRow_27 (by decide) (fun c8 => ?_) (fun c8 => ?_)
        · have b27 := qle_t (a := ba) (b := 0) (by omega) (by omega) c8
          exact absurd b27 (by omega)
        · have b27 := qle_f (a := ba) (b := 0) (by omega) (by omega) c8
          refine lv_aload_n hx hb dX3_layRow_30 rfl (lv_at hl 3 rfl) ?_
          refine va_get (D := G.1) (ci := 2) (v := .ref (a 9)) (C := RX2) (T := TX2) (N := 15) hx hb hts inX2 hown hK.1 hP 12 rfl rfl 9 (by decide) (hts _ mf_X3_76) (fun _ h9 => h9) rfl dX3_layRow_31 ?_
          refine lv_iload hx hb dX3_layRow_34 (lv_at hl 0 rfl) ?_
          refine xiald (f := (r 9)) hx hb hK hP 16 ((i * 12 + j)) (rfl) (by omega) (by decide) rfl dX3_layRow_36 ?_
          refine lv_topi (fun v9 ev9 => ?_)
          obtain rfl : v9 = nI ((NT i j)) := ev9.trans (qc)
          refine lv_iload_n hx hb dX3_layRow_37 rfl (lv_at hl 5 rfl) ?_
          refine lv_irem hx hb dX3_layRow_38 (nI_ne0 (by omega) (by omega)) ?_
          refine lv_topi (fun v10 ev10 => ?_)
          obtain rfl : v10 = nI (((NT i j)) % ba) := nI_mod ev10 rfl rfl (by omega) (by omega) (by omega)
          refine lv_goto (tgt := 43) hx hb dX3_layRow_39 (by decide) ?_
          refine xiast (f := x2) (x := (nI (((NT i j)) % ba))) hx hb hK hP (hDD _ _ _ _ _ _) hS 1 ((i * 12 + j)) (rfl) (by omega) (by decide) rfl dX3_layRow_43 (fun H locs hP _ hS => ?_)
          have hP : PP G (uM G ua a b la uf f lf (up2 (up2 (up2 (up2 ur 1 (upd x2 ((i * 12 + j)) ((nI (((NT i j)) % ba))))) 2 x3) 3 x4) 20 x5) r lr) H := hP
          refine lv_aload_n hx hb dX3_layRow_44 rfl (lv_at hl 2 rfl) ?_
          refine va_get (D := G.1) (ci := 3) (v := .ref (ua 2)) (C := RX3) (T := TX3) (N := 8) hx hb hts inX3 hown hK.1 hP 0 rfl rfl 2 (by decide) (hts _ mf_X3_22) (fun _ h9 => h9) rfl dX3_layRow_45 ?_
          refine lv_iload hx hb dX3_layRow_48 (lv_at hl 0 rfl) ?_
          refine lv_iconst (v := 0) hx hb dX3_layRow_50 (by decide) ?_
          refine xzast (f := x3) (x := 0) hx hb hK hP (hDD _ _ _ _ _ _) hS 2 ((i * 12 + j)) (rfl) (by omega) (by decide) (Or.inl rfl) rfl dX3_layRow_51 (fun H locs hP _ hS => ?_)
          have hP : PP G (uM G ua a b la uf f lf (up2 (up2 (up2 (up2 ur 1 (upd x2 ((i * 12 + j)) ((nI (((NT i j)) % ba))))) 2 (upd x3 ((i * 12 + j)) (0))) 3 x4) 20 x5) r lr) H := hP
          refine lv_aload_n hx hb dX3_layRow_52 rfl (lv_at hl 2 rfl) ?_
          refine va_get (D := G.1) (ci := 3) (v := .ref (ua 3)) (C := RX3) (T := TX3) (N := 8) hx hb hts inX3 hown hK.1 hP 0 rfl rfl 3 (by decide) (hts _ mf_X3_26) (fun _ h9 => h9) rfl dX3_layRow_53 ?_
          refine lv_iload_n hx hb dX3_layRow_56 rfl (lv_at hl 4 rfl) ?_
          refine lv_dup2_11 hx hb dX3_layRow_57 rfl rfl ?_
          refine xiald (f := x4) hx hb hK hP 3 (i) (rfl) (by omega) (by decide) rfl dX3_layRow_58 ?_
          refine lv_topi (fun v11 ev11 => ?_)
          obtain rfl : v11 = nI ((OS i)) := ev11.trans ((hOS i (by omega)).1)
          refine lv_aload_n hx hb dX3_layRow_59 rfl (lv_at hl 2 rfl) ?_
          refine va_get (D := G.1) (ci := 3) (v := .ref (ua 1)) (C := RX3) (T := TX3) (N := 8) hx hb hts inX3 hown hK.1 hP 0 rfl rfl 1 (by decide) (hts _ mf_X3_18) (fun _ h9 => h9) rfl dX3_layRow_60 ?_
          refine lv_iload hx hb dX3_layRow_63 (lv_at hl 0 rfl) ?_
          refine xiald (f := (upd x2 ((i * 12 + j)) ((nI (((NT i j)) % ba))))) hx hb hK hP 1 ((i * 12 + j)) (rfl) (by omega) (by decide) rfl dX3_layRow_65 ?_
          refine lv_topi (fun v12 ev12 => ?_)
          obtain rfl : v12 = nI (((NT i j) % ba)) := ev12.trans (pk_us)
          refine lv_iadd hx hb dX3_layRow_66 ?_
          refine lv_topi (fun v13 ev13 => ?_)
          obtain rfl : v13 = nI (((OS i)) + (((NT i j) % ba))) := nI_plus ev13 rfl rfl
          refine xiast (f := x4) (x := (nI (((OS i)) + (((NT i j) % ba))))) hx hb hK hP (hDD _ _ _ _ _ _) hS 3 (i) (rfl) (by omega) (by decide) rfl dX3_layRow_67 (fun H locs hP _ hS => ?_)
          have hP : PP G (uM G ua a b la uf f lf (up2 (up2 (up2 (up2 ur 1 (upd x2 ((i * 12 + j)) ((nI (((NT i j)) % ba))))) 2 (upd x3 ((i * 12 + j)) (0))) 3 (upd x4 (i) ((nI (((OS i)) + (((NT i j) % ba))))))) 20 x5) r lr) H := hP
          refine lv_aload_n hx hb dX3_layRow_68 rfl (lv_at hl 2 rfl) ?_
          refine va_get (D := G.1) (ci := 3) (v := .ref (ua 3)) (C := RX3) (T := TX3) (N := 8) hx hb hts inX3 hown hK.1 hP 0 rfl rfl 3 (by decide) (hts _ mf_X3_26) (fun _ h9 => h9) rfl dX3_layRow_69 ?_
          refine lv_bipush (v := 12) hx hb dX3_layRow_72 (by decide) ?_
          refine lv_iload hx hb dX3_layRow_74 (lv_at hl 1 rfl) ?_
          refine lv_iadd hx hb dX3_layRow_76 ?_
          refine lv_topi (fun v14 ev14 => ?_)
          obtain rfl : v14 = nI (12 + j) := nI_plus ev14 rfl rfl
          refine lv_dup2_11 hx hb dX3_layRow_77 rfl rfl ?_
          refine xiald (f := (upd x4 (i) ((nI (((OS i)) + (((NT i j) % ba))))))) hx hb hK hP 3 ((12 + j)) (rfl) (by omega) (by decide) rfl dX3_layRow_78 ?_
          refine lv_topi (fun v15 ev15 => ?_)
          obtain rfl : v15 = nI ((OS (12 + j))) := ev15.trans ((pk_un (by omega)).trans (hOS (12 + j) (by omega)).1)
          refine lv_aload_n hx hb dX3_layRow_79 rfl (lv_at hl 2 rfl) ?_
          refine va_get (D := G.1) (ci := 3) (v := .ref (ua 1)) (C := RX3) (T := TX3) (N := 8) hx hb hts inX3 hown hK.1 hP 0 rfl rfl 1 (by decide) (hts _ mf_X3_18) (fun _ h9 => h9) rfl dX3_layRow_80 ?_
          refine lv_iload hx hb dX3_layRow_83 (lv_at hl 0 rfl) ?_
          refine xiald (f := (upd x2 ((i * 12 + j)) ((nI (((NT i j)) % ba))))) hx hb hK hP 1 ((i * 12 + j)) (rfl) (by omega) (by decide) rfl dX3_layRow_85 ?_
          refine lv_topi (fun v16 ev16 => ?_)
          obtain rfl : v16 = nI (((NT i j) % ba)) := ev16.trans (pk_us)
          refine lv_iadd hx hb dX3_layRow_86 ?_
          refine lv_topi (fun v17 ev17 => ?_)
          obtain rfl : v17 = nI (((OS (12 + j))) + (((NT i j) % ba))) := nI_plus ev17 rfl rfl
          refine xiast (f := (upd x4 (i) ((nI (((OS i)) + (((NT i j) % ba))))))) (x := (nI (((OS (12 + j))) + (((NT i j) % ba))))) hx hb hK hP (hDD _ _ _ _ _ _) hS 3 ((12 + j)) (rfl) (by omega) (by decide) rfl dX3_layRow_87 (fun H locs hP _ hS => ?_)
          have hP : PP G (uM G ua a b la uf f lf (up2 (up2 (up2 (up2 ur 1 (upd x2 ((i * 12 + j)) ((nI (((NT i j)) % ba))))) 2 (upd x3 ((i * 12 + j)) (0))) 3 (upd (upd x4 (i) ((nI (((OS i)) + (((NT i j) % ba)))))) ((12 + j)) ((nI (((OS (12 + j))) + (((NT i j) % ba))))))) 20 x5) r lr) H := hP
          refine lv_aload_n hx hb dX3_layRow_88 rfl (lv_at hl 2 rfl) ?_
          refine va_get (D := G.1) (ci := 3) (v := .ref (ua 1)) (C := RX3) (T := TX3) (N := 8) hx hb hts inX3 hown hK.1 hP 0 rfl rfl 1 (by decide) (hts _ mf_X3_18) (fun _ h9 => h9) rfl dX3_layRow_89 ?_
          refine lv_iload hx hb dX3_layRow_92 (lv_at hl 0 rfl) ?_
          have hml9 := Nat.mod_lt (NT i j) (show 0 < ba by omega)
          refine xiald (f := (upd x2 ((i * 12 + j)) ((nI (((NT i j)) % ba))))) hx hb hK hP 1 ((i * 12 + j)) (rfl) (by omega) (by decide) rfl dX3_layRow_94 ?_
          refine lv_topi (fun v18 ev18 => ?_)
          obtain rfl : v18 = nI (((NT i j) % ba)) := ev18.trans (pk_us)
          refine lv_if_le (tgt := 113) hx hb dX3_layRow_95 (by decide) (fun c19 => ?_) (fun c19 => ?_)
          · have b95 := qle_t (a := (((NT i j) % ba))) (b := 0) (by omega) (by omega) c19
            obtain ⟨v20, ev20⟩ : ∃ y9 : Int32, y9 = (nI j) + Int32.ofInt (1) := ⟨_, rfl⟩
            refine lv_iinc (v := v20) (lv' := [(4, .int v20), (5, .int (nI (i * 12 + j))), (0, .ref (ua 0)), (1, .ref (a 15)), (2, .int (nI i)), (3, .int (nI ba))]) hx hb dX3_layRow_113 hl (k := 1) rfl ev20.symm (by decide) rfl (fun ls hl => ?_)
            obtain rfl : v20 = nI (j + 1) := nI_plus (i := j) (j := 1) ev20 rfl (by decide)
            refine lv_goto (tgt := 3) hx hb dX3_layRow_116 (by decide) ?_
            exact ih3k1 (j + 1) (upd x2 ((i * 12 + j)) ((nI (((NT i j)) % ba)))) (upd x3 ((i * 12 + j)) (0)) (upd (upd x4 (i) ((nI (((OS i)) + (((NT i j) % ba)))))) ((12 + j)) ((nI (((OS (12 + j))) + (((NT i j) % ba)))))) x5 (by omega) (by omega) (LST_s hi (by omega) hls qb hOS (Or.inl ⟨by omega, rfl⟩)) (fun a b ha hb e9 => by obtain ⟨f8, f9⟩ := hkq a b ha hb e9; rw [pk_un (fun z9 => ne_of_dm qa e9 ⟨by omega, by omega⟩), pk_un (fun z9 => ne_of_dm qa e9 ⟨by omega, by omega⟩)]; exact ⟨f8, f9⟩) _ _ _ hP hS (lv_sub hl [0, 2, 3, 4, 5] rfl)
          · have b95 := qle_f (a := (((NT i j) % ba))) (b := 0) (by omega) (by omega) c19
            refine lv_aload_n hx hb dX3_layRow_98 rfl (lv_at hl 2 rfl) ?_
            refine va_get (D := G.1) (ci := 3) (v := .ref (ua 23)) (C := RX3) (T := TX3) (N := 8) hx hb hts inX3 hown hK.1 hP 0 rfl rfl 0 (by decide) (hts _ mf_X3_12) (fun _ h9 => h9) rfl dX3_layRow_99 ?_
            refine lv_iload_n hx hb dX3_layRow_102 rfl (lv_at hl 4 rfl) ?_
            refine lv_bipush (v := 12) hx hb dX3_layRow_103 (by decide) ?_
            refine lv_iload hx hb dX3_layRow_105 (lv_at hl 1 rfl) ?_
            refine lv_iadd hx hb dX3_layRow_107 ?_
            refine lv_topi (fun v21 ev21 => ?_)
            obtain rfl : v21 = nI (12 + j) := nI_plus ev21 rfl rfl
            refine lv_iconst (v := 1) hx hb dX3_layRow_108 (by decide) ?_
            refine lv_iconst (v := 0) hx hb dX3_layRow_109 (by decide) ?_
            refine wrVV (rest := []) (q0 := 0) ⟨hx, hb, hml, hown, hts⟩ (c_X5_join l G (fun k => ua (20 + k)) (fun k => (up2 (up2 (up2 (up2 ur 1 (upd x2 ((i * 12 + j)) ((nI (((NT i j)) % ba))))) 2 (upd x3 ((i * 12 + j)) (0))) 3 (upd (upd x4 (i) ((nI (((OS i)) + (((NT i j) % ba)))))) ((12 + j)) ((nI (((OS (12 + j))) + (((NT i j) % ba))))))) 20 x5) (20 + k)) (uf 3) i (12 + j) 1 0 (by omega) (by omega)) mi_yX5_join mv_yX5_join ml_X3_105 ⟨rfl, rfl, Nat.le_of_ble_eq_true rfl, Nat.le_of_ble_eq_true rfl⟩ hK hP (hDD _ _ _ _ _ _) [8, 9, 10, 11] rfl (by decide) rfl rfl rfl hl.1 rfl (Nat.le_of_ble_eq_true rfl) dX3_layRow_110 ⟨Nat.zero_le _, Nat.zero_le _⟩ hS hA (fun w23 H locs hw23 hP hS => ?_)
            obtain rfl := hw23
            have hP : PP G (uM G ua a b la uf f lf (up2 (up2 (up2 (up2 ur 1 (upd x2 ((i * 12 + j)) ((nI (((NT i j)) % ba))))) 2 (upd x3 ((i * 12 + j)) (0))) 3 (upd (upd x4 (i) ((nI (((OS i)) + (((NT i j) % ba)))))) ((12 + j)) ((nI (((OS (12 + j))) + (((NT i j) % ba))))))) 20 (jnF x5 i (12 + j) 1 0)) r lr) H := hP rfl
            obtain ⟨v24, ev24⟩ : ∃ y9 : Int32, y9 = (nI j) + Int32.ofInt (1) := ⟨_, rfl⟩
            refine lv_iinc (v := v24) (lv' := [(4, .int v24), (5, .int (nI (i * 12 + j))), (0, .ref (ua 0)), (1, .ref (a 15)), (2, .int (nI i)), (3, .int (nI ba))]) hx hb dX3_layRow_113 hl (k := 1) rfl ev24.symm (by decide) rfl (fun ls hl => ?_)
            obtain rfl : v24 = nI (j + 1) := nI_plus (i := j) (j := 1) ev24 rfl (by decide)
            refine lv_goto (tgt := 3) hx hb dX3_layRow_116 (by decide) ?_
            exact ih3k1 (j + 1) (upd x2 ((i * 12 + j)) ((nI (((NT i j)) % ba)))) (upd x3 ((i * 12 + j)) (0)) (upd (upd x4 (i) ((nI (((OS i)) + (((NT i j) % ba)))))) ((12 + j)) ((nI (((OS (12 + j))) + (((NT i j) % ba)))))) (jnF x5 i (12 + j) 1 0) (by omega) (by omega) (LST_s hi (by omega) hls qb hOS (Or.inr ⟨by omega, rfl⟩)) (fun a b ha hb e9 => by obtain ⟨f8, f9⟩ := hkq a b ha hb e9; rw [pk_un (fun z9 => ne_of_dm qa e9 ⟨by omega, by omega⟩), pk_un (fun z9 => ne_of_dm qa e9 ⟨by omega, by omega⟩)]; exact ⟨f8, f9⟩) _ _ _ hP hS (lv_sub hl [0, 2, 3, 4, 5] rfl)
  exact loop3 (cl + 1) 0 (ur 1) (ur 2) (ur 3) (ur 20) (by omega) (by omega) (hls) (fun _ _ _ _ _ => ⟨rfl, rfl⟩) _ _ _ hP hS (lv_sub hl [0, 1, 2, 3, 4] rfl)
set_option maxHeartbeats 4000000 in
set_option maxRecDepth 100000 in
theorem r_X3_roundClass (l : Launch) (G : GG) (ua a b la : Nat → Nat) (uf f lf : Nat → Int32) (ur r lr : Nat → Nat → Int32) (wt : Int32) (ba : Nat) (rw : Nat) (cl : Nat) (NT : Nat → Nat → Nat) (hrw : rw ≤ 12) (hcl : cl ≤ 12) (h0 : (f 0) = nI rw) (h1 : (f 1) = nI cl) (hb1 : 2 ≤ ba) (hb9 : ba ≤ 1000) (hNN : ∀ x y, x < rw → y < cl → ¬ (r 6) x = 0 → (r 9) (x * 12 + y) = nI (NT x y) ∧ NT x y ≤ 1000000) : WrV l yX3_roundClass cX3_roundClass 5 ({ frames := 5, cells := 0, slots := 0, locals := 123 }) G (uM G ua a b la uf f lf ur r lr) [.ref (ua 0), .ref (a 15), .int wt, .int (nI ba)] (fun w => ∃ (n_uf_3 : Int32) (n_ur_1 : Nat → Int32) (n_ur_2 : Nat → Int32) (n_ur_3 : Nat → Int32) (n_ur_4 : Nat → Int32) (n_ur_5 : Nat → Int32) (n_ur_6 : Nat → Int32) (n_ur_7 : Nat → Int32) (n_ur_20 : Nat → Int32) (n_ur_21 : Nat → Int32) (n_ur_22 : Nat → Int32), w = uM G ua a b la (upd uf 3 n_uf_3) f lf (up2 (up2 (up2 (up2 (up2 (up2 (up2 (up2 (up2 (up2 ur 1 n_ur_1) 2 n_ur_2) 3 n_ur_3) 4 n_ur_4) 5 n_ur_5) 6 n_ur_6) 7 n_ur_7) 20 n_ur_20) 21 n_ur_21) 22 n_ur_22) r lr ∧ (CLS (r 6) (r 7) rw cl ba NT wt n_ur_1 n_ur_2) ∧ (∀ a b, a < 12 → b < 12 → dmR (r 6) (r 7) rw cl wt a b = false → n_ur_1 (a * 12 + b) = (ur 1) (a * 12 + b) ∧ n_ur_2 (a * 12 + b) = (ur 2) (a * 12 + b))) := by
  refine wr_entryV (by decide +kernel) (Nat.le_of_ble_eq_true rfl) ?_
  intro p e s m below meth c A C0 hP hK hD hA ls hl
  have hS : va_S A s.heap s.heap [] := va_S.rf
  obtain ⟨hx, hb, hml, hown, hts, hr, hlocks, hin⟩ := C0
  have hown : s.vm.findClass RX3 = some m.cls := hown
  have hDD : ∀ uf' f' lf' ur' r' lr', va_D A (uM G ua a b la uf' f' lf' ur' r' lr') := fun uf' f' lf' ur' r' lr' => D_same hD rfl
  have hl : lv_has ls 5 [(0, .ref (ua 0)), (1, .ref (a 15)), (2, .int wt), (3, .int (nI ba))] := hl
  have hOz : ∀ x y, (dmR (r 6) (r 7) rw cl wt) x y = false → (oR (r 6) (r 7) rw cl ba NT wt) x y = 0 := fun x y h9 => oR_z h9
  refine lv_aload_n hx hb dX3_roundClass_0 rfl (lv_at hl 0 rfl) ?_
  refine va_get (D := G.1) (ci := 3) (v := .ref (ua 23)) (C := RX3) (T := TX3) (N := 8) hx hb hts inX3 hown hK.1 hP 0 rfl rfl 0 (by decide) (hts _ mf_X3_12) (fun _ h9 => h9) rfl dX3_roundClass_1 ?_
  refine wrVV (rest := []) (q0 := 0) ⟨hx, hb, hml, hown, hts⟩ (c_X5_wipe l G (fun k => ua (20 + k)) (fun k => ur (20 + k)) (uf 3)) mi_yX5_wipe mv_yX5_wipe ml_X3_82 ⟨rfl, rfl, Nat.le_of_ble_eq_true rfl, Nat.le_of_ble_eq_true rfl⟩ hK hP (hDD _ _ _ _ _ _) [8, 9, 10, 11] rfl (by decide) rfl rfl rfl hl.1 rfl (Nat.le_of_ble_eq_true rfl) dX3_roundClass_4 ⟨Nat.zero_le _, Nat.zero_le _⟩ hS hA (fun w2 H locs hw2 hP hS => ?_)
  obtain rfl := hw2
  have hP : PP G (uM G ua a b la uf f lf (up2 ur 20 (flF (ur 20) 0 25)) r lr) H := hP rfl
  refine lv_aload_n hx hb dX3_roundClass_7 rfl (lv_at hl 0 rfl) ?_
  refine va_get (D := G.1) (ci := 3) (v := .ref (ua 4)) (C := RX3) (T := TX3) (N := 8) hx hb hts inX3 hown hK.1 hP 0 rfl rfl 4 (by decide) (hts _ mf_X3_29) (fun _ h9 => h9) rfl dX3_roundClass_8 ?_
  refine lv_iconst (v := 0) hx hb dX3_roundClass_11 (by decide) ?_
  refine wrSV (rest := []) ⟨hx, hb, hml, hown, hts⟩ (c_J7_fill_53178 l G (ua 4) 25 (ur 4) 0 (by decide)) mi_yJ7_fill_53178 mst_yJ7_fill_53178 ml_X3_85 ⟨rfl, rfl, Nat.le_of_ble_eq_true rfl, Nat.le_of_ble_eq_true rfl⟩ hK hP (hDD _ _ _ _ _ _) [4] rfl (by decide) rfl hl.1 rfl (Nat.le_of_ble_eq_true rfl) dX3_roundClass_12 ⟨Nat.zero_le _, Nat.zero_le _⟩ hS hA (fun w4 H locs hw4 hP hS => ?_)
  obtain rfl := hw4
  have hP : PP G (uM G ua a b la uf f lf (up2 (up2 ur 4 (flF (ur 4) 0 25)) 20 (flF (ur 20) 0 25)) r lr) H := hP rfl
  refine lv_aload_n hx hb dX3_roundClass_15 rfl (lv_at hl 0 rfl) ?_
  refine va_get (D := G.1) (ci := 3) (v := .ref (ua 3)) (C := RX3) (T := TX3) (N := 8) hx hb hts inX3 hown hK.1 hP 0 rfl rfl 3 (by decide) (hts _ mf_X3_26) (fun _ h9 => h9) rfl dX3_roundClass_16 ?_
  refine lv_iconst (v := 0) hx hb dX3_roundClass_19 (by decide) ?_
  refine wrSV (rest := []) ⟨hx, hb, hml, hown, hts⟩ (c_J7_fill_53178 l G (ua 3) 25 (ur 3) 0 (by decide)) mi_yJ7_fill_53178 mst_yJ7_fill_53178 ml_X3_85 ⟨rfl, rfl, Nat.le_of_ble_eq_true rfl, Nat.le_of_ble_eq_true rfl⟩ hK hP (hDD _ _ _ _ _ _) [3] rfl (by decide) rfl hl.1 rfl (Nat.le_of_ble_eq_true rfl) dX3_roundClass_20 ⟨Nat.zero_le _, Nat.zero_le _⟩ hS hA (fun w6 H locs hw6 hP hS => ?_)
  obtain rfl := hw6
  have hP : PP G (uM G ua a b la uf f lf (up2 (up2 (up2 ur 3 (flF (ur 3) 0 25)) 4 (flF (ur 4) 0 25)) 20 (flF (ur 20) 0 25)) r lr) H := hP rfl
  refine lv_iconst (v := 0) hx hb dX3_roundClass_23 (by decide) ?_
  refine lv_istore (lv' := [(4, .int 0), (0, .ref (ua 0)), (1, .ref (a 15)), (2, .int wt), (3, .int (nI ba))]) hx hb dX3_roundClass_24 hl (by decide) rfl (fun ls hl => ?_)
  have loop26 : ∀ (k7 i : Nat) (x8 : Nat → Int32) (x9 : Nat → Int32) (x10 : Nat → Int32) (x11 : Nat → Int32) (x12 : Nat → Int32), i ≤ rw → rw < i + k7 → (LST (dmR (r 6) (r 7) rw cl wt) (oR (r 6) (r 7) rw cl ba NT wt) (12 * i) x8 x9 x10 x12) → (∀ x, x < i → (¬ x11 x = 0 ↔ (¬ (r 6) x = 0 ∧ (r 7) x = wt))) → (∀ a b, a < 12 → b < 12 → dmR (r 6) (r 7) rw cl wt a b = false → x8 (a * 12 + b) = (ur 1) (a * 12 + b) ∧ x9 (a * 12 + b) = (ur 2) (a * 12 + b)) → ∀ (H : Heap) (locs : List Loc) (ls : Array Slot), PP G (uM G ua a b la uf f lf (up2 (up2 (up2 (up2 (up2 (up2 ur 1 x8) 2 x9) 3 x10) 4 (flF (ur 4) 0 25)) 7 x11) 20 x12) r lr) H → va_S A s.heap H locs → lv_has ls 5 [(4, .int (nI i)), (0, .ref (ua 0)), (1, .ref (a 15)), (2, .int wt), (3, .int (nI ba))] → W p l e ({ frames := 5, cells := 0, slots := 0, locals := 123 }) s m ([.ref (ua 0), .ref (a 15), .int wt, .int (nI ba)] : List Value).toArray below meth c H locs 0 0 (MQ below (QwV G (fun w => ∃ (n_uf_3 : Int32) (n_ur_1 : Nat → Int32) (n_ur_2 : Nat → Int32) (n_ur_3 : Nat → Int32) (n_ur_4 : Nat → Int32) (n_ur_5 : Nat → Int32) (n_ur_6 : Nat → Int32) (n_ur_7 : Nat → Int32) (n_ur_20 : Nat → Int32) (n_ur_21 : Nat → Int32) (n_ur_22 : Nat → Int32), w = uM G ua a b la (upd uf 3 n_uf_3) f lf (up2 (up2 (up2 (up2 (up2 (up2 (up2 (up2 (up2 (up2 ur 1 n_ur_1) 2 n_ur_2) 3 n_ur_3) 4 n_ur_4) 5 n_ur_5) 6 n_ur_6) 7 n_ur_7) 20 n_ur_20) 21 n_ur_21) 22 n_ur_22) r lr ∧ (CLS (r 6) (r 7) rw cl ba NT wt n_ur_1 n_ur_2) ∧ (∀ a b, a < 12 → b < 12 → dmR (r 6) (r 7) rw cl wt a b = false → n_ur_1 (a * 12 + b) = (ur 1) (a * 12 + b) ∧ n_ur_2 (a * 12 + b) = (ur 2) (a * 12 + b))) A) ([.ref (ua 0), .ref (a 15), .int wt, .int (nI ba)] : List Value).toArray s 0 0 A) (F0 m 26 ls []) := by
    intro k7
    induction k7 with
    | zero => intro i x8 x9 x10 x11 x12 h1 h2; exact absurd h1 (by omega)
    | succ k7 ih26k7 =>
      intro i x8 x9 x10 x11 x12 hi_i hk_i hls hic hkq H locs ls hP hS hl
      refine lv_iload hx hb dX3_roundClass_26 (lv_at hl 0 rfl) ?_
      refine lv_aload_n hx hb dX3_roundClass_28 rfl (lv_at hl 2 rfl) ?_
      refine va_get (D := G.1) (ci := 2) (v := .int (f 0)) (C := RX2) (T := TX2) (N := 15) hx hb hts inX2 hown hK.1 hP 12 rfl rfl 0 (by decide) (hts _ mf_X3_41) (fun _ h9 => h9) rfl dX3_roundClass_29 ?_
      rw [show (f 0) = nI (rw) from h0]
      refine lv_icmp_ge (tgt := 92) hx hb dX3_roundClass_32 (by decide) (fun c13 => ?_) (fun c13 => ?_)
      · have b32 := qge_t (a := i) (b := (rw)) (by omega) (by omega) c13
        have hl9 := LST_c (m := 144) (by omega) hls (fun x y hx hy h8 h9 => ⟨dmR_co (by omega), oR_z (dmR_co (by omega))⟩)
        obtain ⟨hl1, ⟨OS, hOS0⟩, hl3⟩ := hl9
        have hO : ∀ i j, i < 12 → j < 12 → (oR (r 6) (r 7) rw cl ba NT wt) i j < ba := fun i j _ _ => oR_lt (by omega) i j
        have hOS : ∀ k, k < 24 → x10 k = nI (OS k) ∧ (OS k : Int) = rS (oR (r 6) (r 7) rw cl ba NT wt) k := fun k hk => ⟨(hOS0 k hk).1, (hOS0 k hk).2.trans (rS_c (fun x y hx hy => if_pos (by omega)) k hk)⟩
        have hOb : ∀ k, k < 24 → OS k ≤ (ba - 1) * 12 := fun k hk => by have h8 := (hOS k hk).2; have h9 := rS_b hO k hk; omega
        have hic9 := hic
        refine lv_iconst (v := 0) hx hb dX3_roundClass_92 (by decide) ?_
        refine lv_istore (lv' := [(4, .int 0), (0, .ref (ua 0)), (1, .ref (a 15)), (2, .int wt), (3, .int (nI ba))]) hx hb dX3_roundClass_93 hl (by decide) rfl (fun ls hl => ?_)
        have loop95 : ∀ (k14 n : Nat) (x15 : Nat → Int32) (x16 : Nat → Int32) (x17 : Nat → Int32), n ≤ 24 → 24 < n + k14 → (SYU (onL (oR (r 6) (r 7) rw cl ba NT wt) 144) (fun _ _ => 0) (fun _ => 0) (mk9 (fun m => OS m / ba) n) (mk9 (fun m => (OS m + ba - 1) / ba) n) x17) → (∀ m, m < n → x15 m = nI (OS m / ba) ∧ x16 m = nI ((OS m + ba - 1) / ba)) → ∀ (H : Heap) (locs : List Loc) (ls : Array Slot), PP G (uM G ua a b la uf f lf (up2 (up2 (up2 (up2 (up2 (up2 (up2 (up2 ur 1 x8) 2 x9) 3 x10) 4 (flF (ur 4) 0 25)) 5 x15) 6 x16) 7 x11) 20 x17) r lr) H → va_S A s.heap H locs → lv_has ls 5 [(4, .int (nI n)), (0, .ref (ua 0)), (1, .ref (a 15)), (3, .int (nI ba))] → W p l e ({ frames := 5, cells := 0, slots := 0, locals := 123 }) s m ([.ref (ua 0), .ref (a 15), .int wt, .int (nI ba)] : List Value).toArray below meth c H locs 0 0 (MQ below (QwV G (fun w => ∃ (n_uf_3 : Int32) (n_ur_1 : Nat → Int32) (n_ur_2 : Nat → Int32) (n_ur_3 : Nat → Int32) (n_ur_4 : Nat → Int32) (n_ur_5 : Nat → Int32) (n_ur_6 : Nat → Int32) (n_ur_7 : Nat → Int32) (n_ur_20 : Nat → Int32) (n_ur_21 : Nat → Int32) (n_ur_22 : Nat → Int32), w = uM G ua a b la (upd uf 3 n_uf_3) f lf (up2 (up2 (up2 (up2 (up2 (up2 (up2 (up2 (up2 (up2 ur 1 n_ur_1) 2 n_ur_2) 3 n_ur_3) 4 n_ur_4) 5 n_ur_5) 6 n_ur_6) 7 n_ur_7) 20 n_ur_20) 21 n_ur_21) 22 n_ur_22) r lr ∧ (CLS (r 6) (r 7) rw cl ba NT wt n_ur_1 n_ur_2) ∧ (∀ a b, a < 12 → b < 12 → dmR (r 6) (r 7) rw cl wt a b = false → n_ur_1 (a * 12 + b) = (ur 1) (a * 12 + b) ∧ n_ur_2 (a * 12 + b) = (ur 2) (a * 12 + b))) A) ([.ref (ua 0), .ref (a 15), .int wt, .int (nI ba)] : List Value).toArray s 0 0 A) (F0 m 95 ls []) := by
          intro k14
          induction k14 with
          | zero => intro n x15 x16 x17 h1 h2; exact absurd h1 (by omega)
          | succ k14 ih95k14 =>
            intro n x15 x16 x17 hi_n hk_n hsy0 hfm H locs ls hP hS hl
            refine lv_iload hx hb dX3_roundClass_95 (lv_at hl 0 rfl) ?_
            refine lv_bipush (v := 24) hx hb dX3_roundClass_97 (by decide) ?_
            refine lv_icmp_ge (tgt := 166) hx hb dX3_roundClass_99 (by decide) (fun c18 => ?_) (fun c18 => ?_)
            · have b99 := qge_t (a := n) (b := 24) (by omega) (by omega) c18
              have hri := RFI_0 (dm := (dmR (r 6) (r 7) rw cl wt)) (show 0 < ba by omega) hb9 hO (fun i j _ _ h9 => hOz i j h9) hl1 hOS (fun k hk => (if_pos (by omega) : (flF (ur 4) 0 25) k = 0)) (fun m hm => hfm m (by omega)) (by have h9 := hsy0; rw [show n = 24 by omega] at h9; exact h9)
              have hfe : ∀ k, k < 24 → (ba : Int) * (((fun m => OS m / ba) k : Nat) : Int) ≤ rS (oR (r 6) (r 7) rw cl ba NT wt) k := fun k hk => by rw [← (hOS k hk).2]; exact (fl_1 (OS k) (show 0 < ba by omega)).1
              have hmo : ∀ k, k < 24 → rS (oR (r 6) (r 7) rw cl ba NT wt) k ≤ (ba : Int) * (((fun m => (OS m + ba - 1) / ba) k : Nat) : Int) := fun k hk => by rw [← (hOS k hk).2]; exact (fl_2 (OS k) (show 0 < ba by omega)).1
              refine lv_aload_n hx hb dX3_roundClass_166 rfl (lv_at hl 1 rfl) ?_
              refine wrVVa (rest := []) (q0 := 0) ⟨hx, hb, hml, hown, hts⟩ (r_X3_reachFewest l G ua a b la uf f lf (up2 (up2 (up2 (up2 (up2 (up2 (up2 (up2 ur 1 x8) 2 x9) 3 x10) 4 (flF (ur 4) 0 25)) 5 x15) 6 x16) 7 x11) 20 x17) r lr  (dmR (r 6) (r 7) rw cl wt) (onB (oR (r 6) (r 7) rw cl ba NT wt) (12 * 0)) (oR (r 6) (r 7) rw cl ba NT wt) (fun _ _ => 0) (fun _ => 0) (fun m => OS m / ba) (fun m => (OS m + ba - 1) / ba) ba (by omega) hfe hmo hO (fun k hk => fl_3 (hOb k hk) (show 0 < ba by omega)) (fun k _ => fl_5 (OS k) (show 0 < ba by omega)) hri) mi_yX3_reachFewest mv_yX3_reachFewest ml_X3_98 ⟨rfl, rfl, Nat.le_of_ble_eq_true rfl, Nat.le_of_ble_eq_true rfl⟩ hK hP (hDD _ _ _ _ _ _) rfl rfl rfl hl.1 rfl (Nat.le_of_ble_eq_true rfl) dX3_roundClass_167 ⟨Nat.zero_le _, Nat.zero_le _⟩ hS hA (fun w20 H locs hw20 hP hS => ?_)
              obtain ⟨x21, x22, x23, x24, x25, x26, X2, U2, rfl, hri, hkp⟩ := hw20
              have hP : PP G (uM G ua a b la (upd uf 3 x21) f lf (up2 (up2 (up2 (up2 (up2 (up2 (up2 (up2 (up2 (up2 ur 1 x8) 2 x22) 3 x10) 4 x23) 5 x15) 6 x16) 7 x11) 20 x24) 21 x25) 22 x26) r lr) H := hP
              have hri : RFI (dmR (r 6) (r 7) rw cl wt) (onB (oR (r 6) (r 7) rw cl ba NT wt) (12 * 0)) (oR (r 6) (r 7) rw cl ba NT wt) 24 X2 U2 (fun m => OS m / ba) (fun m => (OS m + ba - 1) / ba) x8 x22 x23 x15 x16 x24 := hri
              have hkp : ∀ a b, a < 12 → b < 12 → (dmR (r 6) (r 7) rw cl wt) a b = false → x22 (a * 12 + b) = x9 (a * 12 + b) := hkp
              refine lv_iconst (v := 0) hx hb dX3_roundClass_170 (by decide) ?_
              refine lv_istore (lv' := [(4, .int 0), (0, .ref (ua 0)), (1, .ref (a 15)), (3, .int (nI ba))]) hx hb dX3_roundClass_171 hl (by decide) rfl (fun ls hl => ?_)
              have loop173 : ∀ (k27 i2 : Nat) (Xb : Nat → Nat → Nat) (Ub : Nat → Nat) (x28 : Int32) (x29 : Nat → Int32) (x30 : Nat → Int32) (x31 : Nat → Int32) (x32 : Nat → Int32) (x33 : Nat → Int32), i2 ≤ rw → rw < i2 + k27 → (BDN (dmR (r 6) (r 7) rw cl wt) (oR (r 6) (r 7) rw cl ba NT wt) ba (12 * i2) Xb Ub (fun m => OS m / ba) (fun m => (OS m + ba - 1) / ba) x8 x29 x30 x15 x16 x31) → (∀ a b, a < 12 → b < 12 → dmR (r 6) (r 7) rw cl wt a b = false → x8 (a * 12 + b) = (ur 1) (a * 12 + b) ∧ x29 (a * 12 + b) = (ur 2) (a * 12 + b)) → ∀ (H : Heap) (locs : List Loc) (ls : Array Slot), PP G (uM G ua a b la (upd uf 3 x28) f lf (up2 (up2 (up2 (up2 (up2 (up2 (up2 (up2 (up2 (up2 ur 1 x8) 2 x29) 3 x10) 4 x30) 5 x15) 6 x16) 7 x11) 20 x31) 21 x32) 22 x33) r lr) H → va_S A s.heap H locs → lv_has ls 5 [(4, .int (nI i2)), (0, .ref (ua 0)), (1, .ref (a 15))] → W p l e ({ frames := 5, cells := 0, slots := 0, locals := 123 }) s m ([.ref (ua 0), .ref (a 15), .int wt, .int (nI ba)] : List Value).toArray below meth c H locs 0 0 (MQ below (QwV G (fun w => ∃ (n_uf_3 : Int32) (n_ur_1 : Nat → Int32) (n_ur_2 : Nat → Int32) (n_ur_3 : Nat → Int32) (n_ur_4 : Nat → Int32) (n_ur_5 : Nat → Int32) (n_ur_6 : Nat → Int32) (n_ur_7 : Nat → Int32) (n_ur_20 : Nat → Int32) (n_ur_21 : Nat → Int32) (n_ur_22 : Nat → Int32), w = uM G ua a b la (upd uf 3 n_uf_3) f lf (up2 (up2 (up2 (up2 (up2 (up2 (up2 (up2 (up2 (up2 ur 1 n_ur_1) 2 n_ur_2) 3 n_ur_3) 4 n_ur_4) 5 n_ur_5) 6 n_ur_6) 7 n_ur_7) 20 n_ur_20) 21 n_ur_21) 22 n_ur_22) r lr ∧ (CLS (r 6) (r 7) rw cl ba NT wt n_ur_1 n_ur_2) ∧ (∀ a b, a < 12 → b < 12 → dmR (r 6) (r 7) rw cl wt a b = false → n_ur_1 (a * 12 + b) = (ur 1) (a * 12 + b) ∧ n_ur_2 (a * 12 + b) = (ur 2) (a * 12 + b))) A) ([.ref (ua 0), .ref (a 15), .int wt, .int (nI ba)] : List Value).toArray s 0 0 A) (F0 m 173 ls []) := by
                intro k27
                induction k27 with
                | zero => intro i2 Xb Ub x28 x29 x30 x31 x32 x33 h1 h2; exact absurd h1 (by omega)
                | succ k27 ih173k27 =>
                  intro i2 Xb Ub x28 x29 x30 x31 x32 x33 hi_i2 hk_i2 hbd hkq H locs ls hP hS hl
                  refine lv_iload hx hb dX3_roundClass_173 (lv_at hl 0 rfl) ?_
                  refine lv_aload_n hx hb dX3_roundClass_175 rfl (lv_at hl 2 rfl) ?_
                  refine va_get (D := G.1) (ci := 2) (v := .int (f 0)) (C := RX2) (T := TX2) (N := 15) hx hb hts inX2 hown hK.1 hP 12 rfl rfl 0 (by decide) (hts _ mf_X3_41) (fun _ h9 => h9) rfl dX3_roundClass_176 ?_
                  rw [show (f 0) = nI (rw) from h0]
                  refine lv_icmp_ge (tgt := 208) hx hb dX3_roundClass_179 (by decide) (fun c34 => ?_) (fun c34 => ?_)
                  · have b179 := qge_t (a := i2) (b := (rw)) (by omega) (by omega) c34
                    exact wr_vret hx hb hr hlocks hS hP ⟨x28, x8, x29, x10, x30, x15, x16, x11, x31, x32, x33, rfl, (CLS_of (U := Ub) (show 0 < ba by omega) hrw (fun k hk => (hOS k hk).2) (show BDN _ _ _ (12 * rw) _ _ _ _ _ _ _ _ _ _ from (show 12 * i2 = 12 * rw by omega) ▸ hbd)), hkq⟩ dX3_roundClass_208
                  · have b179 := qge_f (a := i2) (b := (rw)) (by omega) (by omega) c34
                    refine lv_aload_n hx hb dX3_roundClass_182 rfl (lv_at hl 1 rfl) ?_
                    refine va_get (D := G.1) (ci := 3) (v := .ref (ua 7)) (C := RX3) (T := TX3) (N := 8) hx hb hts inX3 hown hK.1 hP 0 rfl rfl 7 (by decide) (hts _ mf_X3_38) (fun _ h9 => h9) rfl dX3_roundClass_183 ?_
                    refine lv_iload hx hb dX3_roundClass_186 (lv_at hl 0 rfl) ?_
                    refine xzald (f := x11) hx hb hK hP 7 (i2) (rfl) (by omega) (by decide) rfl dX3_roundClass_188 ?_
                    refine lv_topi (fun v35 ev35 => ?_)
                    refine lv_if_eq (tgt := 202) hx hb dX3_roundClass_189 (by decide) (fun c36 => ?_) (fun c36 => ?_)
                    · have hin9 : ¬ (¬ (r 6) i2 = 0 ∧ (r 7) i2 = wt) := fun z9 => (hic9 i2 (by omega)).mpr z9 (by rw [← ev35]; exact c36)
                      obtain ⟨v37, ev37⟩ : ∃ y9 : Int32, y9 = (nI i2) + Int32.ofInt (1) := ⟨_, rfl⟩
                      refine lv_iinc (v := v37) (lv' := [(4, .int v37), (0, .ref (ua 0)), (1, .ref (a 15))]) hx hb dX3_roundClass_202 hl (k := 0) rfl ev37.symm (by decide) rfl (fun ls hl => ?_)
                      obtain rfl : v37 = nI (i2 + 1) := nI_plus (i := i2) (j := 1) ev37 rfl (by decide)
                      refine lv_goto (tgt := 173) hx hb dX3_roundClass_205 (by decide) ?_
                      exact ih173k27 (i2 + 1) Xb Ub x28 x29 x30 x31 x32 x33 (by omega) (by omega) (bd_row (cl := 0) (by omega) (by omega) (fun y _ _ => oR_z (dmR_ro hin9)) hbd) (hkq) _ _ _ hP hS (lv_sub hl [0, 1, 2] rfl)
                    · have hin9 := (hic9 i2 (by omega)).mp (by rw [← ev35]; exact c36)
                      refine lv_aload_n hx hb dX3_roundClass_192 rfl (lv_at hl 1 rfl) ?_
                      refine lv_iload hx hb dX3_roundClass_193 (lv_at hl 0 rfl) ?_
                      refine lv_aload_n hx hb dX3_roundClass_195 rfl (lv_at hl 2 rfl) ?_
                      refine va_get (D := G.1) (ci := 2) (v := .int (f 1)) (C := RX2) (T := TX2) (N := 15) hx hb hts inX2 hown hK.1 hP 12 rfl rfl 1 (by decide) (hts _ mf_X3_68) (fun _ h9 => h9) rfl dX3_roundClass_196 ?_
                      rw [show (f 1) = nI (cl) from h1]
                      refine wrVVa (rest := []) (q0 := 0) ⟨hx, hb, hml, hown, hts⟩ (r_X3_bringDown l G ua a b la (upd uf 3 x28) f lf (up2 (up2 (up2 (up2 (up2 (up2 (up2 (up2 (up2 (up2 ur 1 x8) 2 x29) 3 x10) 4 x30) 5 x15) 6 x16) 7 x11) 20 x31) 21 x32) 22 x33) r lr i2 (cl) (dmR (r 6) (r 7) rw cl wt) (oR (r 6) (r 7) rw cl ba NT wt) Xb Ub (fun m => OS m / ba) (fun m => (OS m + ba - 1) / ba) ba (by omega) (by omega) (by omega) hfe hmo (fun y hy => dmR_mk (by omega) hy hin9.1 hin9.2) (fun y h8 _ => oR_z (dmR_co (by omega))) hbd) mi_yX3_bringDown mv_yX3_bringDown ml_X3_101 ⟨rfl, rfl, Nat.le_of_ble_eq_true rfl, Nat.le_of_ble_eq_true rfl⟩ hK hP (hDD _ _ _ _ _ _) rfl rfl rfl hl.1 rfl (Nat.le_of_ble_eq_true rfl) dX3_roundClass_199 ⟨Nat.zero_le _, Nat.zero_le _⟩ hS hA (fun w39 H locs hw39 hP hS => ?_)
                      obtain ⟨x40, x41, x42, x43, x44, x45, X2, U2, rfl, hbd, hkp⟩ := hw39
                      have hP : PP G (uM G ua a b la (upd uf 3 x40) f lf (up2 (up2 (up2 (up2 (up2 (up2 (up2 (up2 (up2 (up2 ur 1 x8) 2 x41) 3 x10) 4 x42) 5 x15) 6 x16) 7 x11) 20 x43) 21 x44) 22 x45) r lr) H := hP
                      have hbd : BDN (dmR (r 6) (r 7) rw cl wt) (oR (r 6) (r 7) rw cl ba NT wt) ba (12 * (i2 + 1)) X2 U2 (fun m => OS m / ba) (fun m => (OS m + ba - 1) / ba) x8 x41 x42 x15 x16 x43 := hbd
                      have hkp : ∀ a b, a < 12 → b < 12 → (dmR (r 6) (r 7) rw cl wt) a b = false → x41 (a * 12 + b) = x29 (a * 12 + b) := hkp
                      obtain ⟨v46, ev46⟩ : ∃ y9 : Int32, y9 = (nI i2) + Int32.ofInt (1) := ⟨_, rfl⟩
                      refine lv_iinc (v := v46) (lv' := [(4, .int v46), (0, .ref (ua 0)), (1, .ref (a 15))]) hx hb dX3_roundClass_202 hl (k := 0) rfl ev46.symm (by decide) rfl (fun ls hl => ?_)
                      obtain rfl : v46 = nI (i2 + 1) := nI_plus (i := i2) (j := 1) ev46 rfl (by decide)
                      refine lv_goto (tgt := 173) hx hb dX3_roundClass_205 (by decide) ?_
                      exact ih173k27 (i2 + 1) X2 U2 x40 x41 x42 x43 x44 x45 (by omega) (by omega) (hbd) (fun a b ha hb e9 => ⟨(hkq a b ha hb e9).1, (hkp a b ha hb e9).trans (hkq a b ha hb e9).2⟩) _ _ _ hP hS (lv_sub hl [0, 1, 2] rfl)
              exact loop173 (rw + 1) 0 X2 U2 x21 x22 x23 x24 x25 x26 (by omega) (by omega) (BDN_0 hri) (fun a b ha hb e9 => ⟨(hkq a b ha hb e9).1, (hkp a b ha hb e9).trans (hkq a b ha hb e9).2⟩) _ _ _ hP hS (lv_sub hl [0, 1, 2] rfl)
            · have b99 := qge_f (a := n) (b := 24) (by omega) (by omega) c18
              have hob := hOb n (by omega)
              refine lv_aload_n hx hb dX3_roundClass_102 rfl (lv_at hl 1 rfl) ?_
              refine va_get (D := G.1) (ci := 3) (v := .ref (ua 5)) (C := RX3) (T := TX3) (N := 8) hx hb hts inX3 hown hK.1 hP 0 rfl rfl 5 (by decide) (hts _ mf_X3_32) (fun _ h9 => h9) rfl dX3_roundClass_103 ?_
              refine lv_iload hx hb dX3_roundClass_106 (lv_at hl 0 rfl) ?_
              refine lv_iload_n hx hb dX3_roundClass_108 rfl (lv_at hl 3 rfl) ?_
              refine lv_if_le (tgt := 124) hx hb dX3_roundClass_109 (by decide) (fun c47 => ?_) (fun c47 => ?_)
              · have b109 := qle_t (a := ba) (b := 0) (by omega) (by omega) c47
                exact absurd b109 (by omega)
              · have b109 := qle_f (a := ba) (b := 0) (by omega) (by omega) c47
                refine lv_aload_n hx hb dX3_roundClass_112 rfl (lv_at hl 1 rfl) ?_
                refine va_get (D := G.1) (ci := 3) (v := .ref (ua 3)) (C := RX3) (T := TX3) (N := 8) hx hb hts inX3 hown hK.1 hP 0 rfl rfl 3 (by decide) (hts _ mf_X3_26) (fun _ h9 => h9) rfl dX3_roundClass_113 ?_
                refine lv_iload hx hb dX3_roundClass_116 (lv_at hl 0 rfl) ?_
                refine xiald (f := x10) hx hb hK hP 3 (n) (rfl) (by omega) (by decide) rfl dX3_roundClass_118 ?_
                refine lv_topi (fun v48 ev48 => ?_)
                obtain rfl : v48 = nI ((OS n)) := ev48.trans ((hOS n (by omega)).1)
                refine lv_iload_n hx hb dX3_roundClass_119 rfl (lv_at hl 3 rfl) ?_
                refine lv_idiv hx hb dX3_roundClass_120 (nI_ne0 (by omega) (by omega)) ?_
                refine lv_topi (fun v49 ev49 => ?_)
                obtain rfl : v49 = nI (((OS n)) / ba) := nI_quo ev49 rfl rfl (by omega) (by omega) (by omega)
                refine lv_goto (tgt := 125) hx hb dX3_roundClass_121 (by decide) ?_
                refine xiast (f := x15) (x := (nI (((OS n)) / ba))) hx hb hK hP (hDD _ _ _ _ _ _) hS 5 (n) (rfl) (by omega) (by decide) rfl dX3_roundClass_125 (fun H locs hP _ hS => ?_)
                have hP : PP G (uM G ua a b la uf f lf (up2 (up2 (up2 (up2 (up2 (up2 (up2 (up2 ur 1 x8) 2 x9) 3 x10) 4 (flF (ur 4) 0 25)) 5 (upd x15 (n) ((nI (((OS n)) / ba))))) 6 x16) 7 x11) 20 x17) r lr) H := hP
                refine lv_aload_n hx hb dX3_roundClass_126 rfl (lv_at hl 1 rfl) ?_
                refine va_get (D := G.1) (ci := 3) (v := .ref (ua 6)) (C := RX3) (T := TX3) (N := 8) hx hb hts inX3 hown hK.1 hP 0 rfl rfl 6 (by decide) (hts _ mf_X3_35) (fun _ h9 => h9) rfl dX3_roundClass_127 ?_
                refine lv_iload hx hb dX3_roundClass_130 (lv_at hl 0 rfl) ?_
                refine lv_iload_n hx hb dX3_roundClass_132 rfl (lv_at hl 3 rfl) ?_
                refine lv_if_le (tgt := 152) hx hb dX3_roundClass_133 (by decide) (fun c50 => ?_) (fun c50 => ?_)
                · have b133 := qle_t (a := ba) (b := 0) (by omega) (by omega) c50
                  exact absurd b133 (by omega)
                · have b133 := qle_f (a := ba) (b := 0) (by omega) (by omega) c50
                  refine lv_aload_n hx hb dX3_roundClass_136 rfl (lv_at hl 1 rfl) ?_
                  refine va_get (D := G.1) (ci := 3) (v := .ref (ua 3)) (C := RX3) (T := TX3) (N := 8) hx hb hts inX3 hown hK.1 hP 0 rfl rfl 3 (by decide) (hts _ mf_X3_26) (fun _ h9 => h9) rfl dX3_roundClass_137 ?_
                  refine lv_iload hx hb dX3_roundClass_140 (lv_at hl 0 rfl) ?_
                  refine xiald (f := x10) hx hb hK hP 3 (n) (rfl) (by omega) (by decide) rfl dX3_roundClass_142 ?_
                  refine lv_topi (fun v51 ev51 => ?_)
                  obtain rfl : v51 = nI ((OS n)) := ev51.trans ((hOS n (by omega)).1)
                  refine lv_iload_n hx hb dX3_roundClass_143 rfl (lv_at hl 3 rfl) ?_
                  refine lv_iadd hx hb dX3_roundClass_144 ?_
                  refine lv_topi (fun v52 ev52 => ?_)
                  obtain rfl : v52 = nI (((OS n)) + ba) := nI_plus ev52 rfl rfl
                  refine lv_iconst (v := 1) hx hb dX3_roundClass_145 (by decide) ?_
                  refine lv_isub hx hb dX3_roundClass_146 ?_
                  refine lv_topi (fun v53 ev53 => ?_)
                  obtain rfl : v53 = nI ((((OS n)) + ba) - 1) := nI_minus ev53 rfl rfl (by omega)
                  refine lv_iload_n hx hb dX3_roundClass_147 rfl (lv_at hl 3 rfl) ?_
                  refine lv_idiv hx hb dX3_roundClass_148 (nI_ne0 (by omega) (by omega)) ?_
                  refine lv_topi (fun v54 ev54 => ?_)
                  obtain rfl : v54 = nI (((((OS n)) + ba) - 1) / ba) := nI_quo ev54 rfl rfl (by omega) (by omega) (by omega)
                  refine lv_goto (tgt := 153) hx hb dX3_roundClass_149 (by decide) ?_
                  refine xiast (f := x16) (x := (nI (((((OS n)) + ba) - 1) / ba))) hx hb hK hP (hDD _ _ _ _ _ _) hS 6 (n) (rfl) (by omega) (by decide) rfl dX3_roundClass_153 (fun H locs hP _ hS => ?_)
                  have hP : PP G (uM G ua a b la uf f lf (up2 (up2 (up2 (up2 (up2 (up2 (up2 (up2 ur 1 x8) 2 x9) 3 x10) 4 (flF (ur 4) 0 25)) 5 (upd x15 (n) ((nI (((OS n)) / ba))))) 6 (upd x16 (n) ((nI (((((OS n)) + ba) - 1) / ba))))) 7 x11) 20 x17) r lr) H := hP
                  refine lv_aload_n hx hb dX3_roundClass_154 rfl (lv_at hl 1 rfl) ?_
                  refine lv_iload hx hb dX3_roundClass_155 (lv_at hl 0 rfl) ?_
                  refine wrVVa (rest := []) (q0 := 0) ⟨hx, hb, hml, hown, hts⟩ (r_X3_refreshNode l G ua a b la uf f lf (up2 (up2 (up2 (up2 (up2 (up2 (up2 (up2 ur 1 x8) 2 x9) 3 x10) 4 (flF (ur 4) 0 25)) 5 (upd x15 (n) ((nI (((OS n)) / ba))))) 6 (upd x16 (n) ((nI (((((OS n)) + ba) - 1) / ba))))) 7 x11) 20 x17) r lr n (onL (oR (r 6) (r 7) rw cl ba NT wt) 144) (fun _ _ => 0) (fun _ => 0) (mk9 (fun m => OS m / ba) (n + 1)) (mk9 (fun m => (OS m + ba - 1) / ba) (n + 1)) (fun _ => 0) (mk9 (fun m => OS m / ba) n) (mk9 (fun m => (OS m + ba - 1) / ba) n) (by omega) (fun k _ hne => ⟨rfl, mk9_ag hne, mk9_ag hne⟩) hsy0 (⟨by have h9 : (flF (ur 4) 0 25) n = 0 := if_pos (by omega); exact h9, pk_us.trans (congrArg nI (mk9_s (A := fun m => OS m / ba)).symm), pk_us.trans (congrArg nI (mk9_s (A := fun m => (OS m + ba - 1) / ba)).symm), Nat.zero_le _, by rw [mk9_s]; have := fl_3 hob (show 0 < ba by omega); omega, by rw [mk9_s]; exact fl_4 hob (show 0 < ba by omega)⟩)) mi_yX3_refreshNode mv_yX3_refreshNode ml_X3_94 ⟨rfl, rfl, Nat.le_of_ble_eq_true rfl, Nat.le_of_ble_eq_true rfl⟩ hK hP (hDD _ _ _ _ _ _) rfl rfl rfl hl.1 rfl (Nat.le_of_ble_eq_true rfl) dX3_roundClass_157 ⟨Nat.zero_le _, Nat.zero_le _⟩ hS hA (fun w56 H locs hw56 hP hS => ?_)
                  obtain ⟨x57, rfl, hsy0⟩ := hw56
                  have hP : PP G (uM G ua a b la uf f lf (up2 (up2 (up2 (up2 (up2 (up2 (up2 (up2 ur 1 x8) 2 x9) 3 x10) 4 (flF (ur 4) 0 25)) 5 (upd x15 (n) ((nI (((OS n)) / ba))))) 6 (upd x16 (n) ((nI (((((OS n)) + ba) - 1) / ba))))) 7 x11) 20 x57) r lr) H := hP
                  obtain ⟨v58, ev58⟩ : ∃ y9 : Int32, y9 = (nI n) + Int32.ofInt (1) := ⟨_, rfl⟩
                  refine lv_iinc (v := v58) (lv' := [(4, .int v58), (0, .ref (ua 0)), (1, .ref (a 15)), (3, .int (nI ba))]) hx hb dX3_roundClass_160 hl (k := 0) rfl ev58.symm (by decide) rfl (fun ls hl => ?_)
                  obtain rfl : v58 = nI (n + 1) := nI_plus (i := n) (j := 1) ev58 rfl (by decide)
                  refine lv_goto (tgt := 95) hx hb dX3_roundClass_163 (by decide) ?_
                  exact ih95k14 (n + 1) (upd x15 (n) ((nI (((OS n)) / ba)))) (upd x16 (n) ((nI (((((OS n)) + ba) - 1) / ba)))) x57 (by omega) (by omega) (hsy0) (fun m hm => if c9 : m = n then (by rw [c9, pk_us, pk_us]; exact ⟨rfl, rfl⟩) else (by rw [pk_un c9, pk_un c9]; exact hfm m (by omega))) _ _ _ hP hS (lv_sub hl [0, 1, 2, 3] rfl)
        exact loop95 (24 + 1) 0 (ur 5) (ur 6) x12 (by omega) (by omega) (SYU_c hl3 (fun _ _ _ _ => ⟨rfl, fun _ => rfl⟩) (fun k _ => ⟨rfl, if_neg (by omega), if_neg (by omega)⟩)) (fun m h9 => absurd h9 (by omega)) _ _ _ hP hS (lv_sub hl [0, 1, 2, 4] rfl)
      · have b32 := qge_f (a := i) (b := (rw)) (by omega) (by omega) c13
        refine lv_aload_n hx hb dX3_roundClass_35 rfl (lv_at hl 1 rfl) ?_
        refine va_get (D := G.1) (ci := 3) (v := .ref (ua 7)) (C := RX3) (T := TX3) (N := 8) hx hb hts inX3 hown hK.1 hP 0 rfl rfl 7 (by decide) (hts _ mf_X3_38) (fun _ h9 => h9) rfl dX3_roundClass_36 ?_
        refine lv_iload hx hb dX3_roundClass_39 (lv_at hl 0 rfl) ?_
        refine lv_aload_n hx hb dX3_roundClass_41 rfl (lv_at hl 2 rfl) ?_
        refine va_get (D := G.1) (ci := 2) (v := .ref (a 6)) (C := RX2) (T := TX2) (N := 15) hx hb hts inX2 hown hK.1 hP 12 rfl rfl 6 (by decide) (hts _ mf_X3_47) (fun _ h9 => h9) rfl dX3_roundClass_42 ?_
        refine lv_iload hx hb dX3_roundClass_45 (lv_at hl 0 rfl) ?_
        refine xzald (f := (r 6)) hx hb hK hP 13 (i) (rfl) (by omega) (by decide) rfl dX3_roundClass_47 ?_
        refine lv_topi (fun v59 ev59 => ?_)
        refine lv_if_eq (tgt := 66) hx hb dX3_roundClass_48 (by decide) (fun c60 => ?_) (fun c60 => ?_)
        · have hin9 : ¬ (¬ (r 6) i = 0 ∧ (r 7) i = wt) := fun z9 => z9.1 (by rw [← ev59]; exact c60)
          refine lv_iconst (v := 0) hx hb dX3_roundClass_66 (by decide) ?_
          refine xzast (f := x11) (x := 0) hx hb hK hP (hDD _ _ _ _ _ _) hS 7 (i) (rfl) (by omega) (by decide) (Or.inl rfl) rfl dX3_roundClass_67 (fun H locs hP _ hS => ?_)
          have hP : PP G (uM G ua a b la uf f lf (up2 (up2 (up2 (up2 (up2 (up2 ur 1 x8) 2 x9) 3 x10) 4 (flF (ur 4) 0 25)) 7 (upd x11 (i) (0))) 20 x12) r lr) H := hP
          refine lv_aload_n hx hb dX3_roundClass_68 rfl (lv_at hl 1 rfl) ?_
          refine va_get (D := G.1) (ci := 3) (v := .ref (ua 7)) (C := RX3) (T := TX3) (N := 8) hx hb hts inX3 hown hK.1 hP 0 rfl rfl 7 (by decide) (hts _ mf_X3_38) (fun _ h9 => h9) rfl dX3_roundClass_69 ?_
          refine lv_iload hx hb dX3_roundClass_72 (lv_at hl 0 rfl) ?_
          refine xzald (f := (upd x11 (i) (0))) hx hb hK hP 7 (i) (rfl) (by omega) (by decide) rfl dX3_roundClass_74 ?_
          refine lv_topi (fun v61 ev61 => ?_)
          obtain rfl : v61 = 0 := ev61.trans (pk_us)
          refine lv_if_eq (tgt := 86) hx hb dX3_roundClass_75 (by decide) (fun c62 => ?_) (fun c62 => absurd (by decide) c62)
          obtain ⟨v63, ev63⟩ : ∃ y9 : Int32, y9 = (nI i) + Int32.ofInt (1) := ⟨_, rfl⟩
          refine lv_iinc (v := v63) (lv' := [(4, .int v63), (0, .ref (ua 0)), (1, .ref (a 15)), (2, .int wt), (3, .int (nI ba))]) hx hb dX3_roundClass_86 hl (k := 0) rfl ev63.symm (by decide) rfl (fun ls hl => ?_)
          obtain rfl : v63 = nI (i + 1) := nI_plus (i := i) (j := 1) ev63 rfl (by decide)
          refine lv_goto (tgt := 26) hx hb dX3_roundClass_89 (by decide) ?_
          exact ih26k7 (i + 1) x8 x9 x10 (upd x11 (i) (0)) x12 (by omega) (by omega) (LST_c (by omega) hls (fun x y hx hy h8 h9 => (by have e8 : x = i := (by omega); rw [e8]; exact ⟨dmR_ro hin9, oR_z (dmR_ro hin9)⟩))) (fun x hx => if c9 : x = i then (by rw [c9, pk_us]; exact ⟨fun z9 => absurd rfl z9, fun z9 => absurd z9 hin9⟩) else (by rw [pk_un c9]; exact hic x (by omega))) (hkq) _ _ _ hP hS (lv_sub hl [0, 1, 2, 3, 4] rfl)
        · refine lv_aload_n hx hb dX3_roundClass_51 rfl (lv_at hl 2 rfl) ?_
          refine va_get (D := G.1) (ci := 2) (v := .ref (a 7)) (C := RX2) (T := TX2) (N := 15) hx hb hts inX2 hown hK.1 hP 12 rfl rfl 7 (by decide) (hts _ mf_X3_54) (fun _ h9 => h9) rfl dX3_roundClass_52 ?_
          refine lv_iload hx hb dX3_roundClass_55 (lv_at hl 0 rfl) ?_
          refine xiald (f := (r 7)) hx hb hK hP 14 (i) (rfl) (by omega) (by decide) rfl dX3_roundClass_57 ?_
          refine lv_topi (fun v64 ev64 => ?_)
          refine lv_iload_n hx hb dX3_roundClass_58 rfl (lv_at hl 3 rfl) ?_
          refine lv_icmp_ne (tgt := 66) hx hb dX3_roundClass_59 (by decide) (fun c65 => ?_) (fun c65 => ?_)
          · have hin9 : ¬ (¬ (r 6) i = 0 ∧ (r 7) i = wt) := fun z9 => c65 (by rw [ev64]; exact z9.2)
            refine lv_iconst (v := 0) hx hb dX3_roundClass_66 (by decide) ?_
            refine xzast (f := x11) (x := 0) hx hb hK hP (hDD _ _ _ _ _ _) hS 7 (i) (rfl) (by omega) (by decide) (Or.inl rfl) rfl dX3_roundClass_67 (fun H locs hP _ hS => ?_)
            have hP : PP G (uM G ua a b la uf f lf (up2 (up2 (up2 (up2 (up2 (up2 ur 1 x8) 2 x9) 3 x10) 4 (flF (ur 4) 0 25)) 7 (upd x11 (i) (0))) 20 x12) r lr) H := hP
            refine lv_aload_n hx hb dX3_roundClass_68 rfl (lv_at hl 1 rfl) ?_
            refine va_get (D := G.1) (ci := 3) (v := .ref (ua 7)) (C := RX3) (T := TX3) (N := 8) hx hb hts inX3 hown hK.1 hP 0 rfl rfl 7 (by decide) (hts _ mf_X3_38) (fun _ h9 => h9) rfl dX3_roundClass_69 ?_
            refine lv_iload hx hb dX3_roundClass_72 (lv_at hl 0 rfl) ?_
            refine xzald (f := (upd x11 (i) (0))) hx hb hK hP 7 (i) (rfl) (by omega) (by decide) rfl dX3_roundClass_74 ?_
            refine lv_topi (fun v66 ev66 => ?_)
            obtain rfl : v66 = 0 := ev66.trans (pk_us)
            refine lv_if_eq (tgt := 86) hx hb dX3_roundClass_75 (by decide) (fun c67 => ?_) (fun c67 => absurd (by decide) c67)
            obtain ⟨v68, ev68⟩ : ∃ y9 : Int32, y9 = (nI i) + Int32.ofInt (1) := ⟨_, rfl⟩
            refine lv_iinc (v := v68) (lv' := [(4, .int v68), (0, .ref (ua 0)), (1, .ref (a 15)), (2, .int wt), (3, .int (nI ba))]) hx hb dX3_roundClass_86 hl (k := 0) rfl ev68.symm (by decide) rfl (fun ls hl => ?_)
            obtain rfl : v68 = nI (i + 1) := nI_plus (i := i) (j := 1) ev68 rfl (by decide)
            refine lv_goto (tgt := 26) hx hb dX3_roundClass_89 (by decide) ?_
            exact ih26k7 (i + 1) x8 x9 x10 (upd x11 (i) (0)) x12 (by omega) (by omega) (LST_c (by omega) hls (fun x y hx hy h8 h9 => (by have e8 : x = i := (by omega); rw [e8]; exact ⟨dmR_ro hin9, oR_z (dmR_ro hin9)⟩))) (fun x hx => if c9 : x = i then (by rw [c9, pk_us]; exact ⟨fun z9 => absurd rfl z9, fun z9 => absurd z9 hin9⟩) else (by rw [pk_un c9]; exact hic x (by omega))) (hkq) _ _ _ hP hS (lv_sub hl [0, 1, 2, 3, 4] rfl)
          · have hin9 : ¬ (r 6) i = 0 ∧ (r 7) i = wt := ⟨by rw [← ev59]; exact c60, by rw [← ev64]; exact c65⟩
            refine lv_iconst (v := 1) hx hb dX3_roundClass_62 (by decide) ?_
            refine lv_goto (tgt := 67) hx hb dX3_roundClass_63 (by decide) ?_
            refine xzast (f := x11) (x := 1) hx hb hK hP (hDD _ _ _ _ _ _) hS 7 (i) (rfl) (by omega) (by decide) (Or.inr rfl) rfl dX3_roundClass_67 (fun H locs hP _ hS => ?_)
            have hP : PP G (uM G ua a b la uf f lf (up2 (up2 (up2 (up2 (up2 (up2 ur 1 x8) 2 x9) 3 x10) 4 (flF (ur 4) 0 25)) 7 (upd x11 (i) (1))) 20 x12) r lr) H := hP
            refine lv_aload_n hx hb dX3_roundClass_68 rfl (lv_at hl 1 rfl) ?_
            refine va_get (D := G.1) (ci := 3) (v := .ref (ua 7)) (C := RX3) (T := TX3) (N := 8) hx hb hts inX3 hown hK.1 hP 0 rfl rfl 7 (by decide) (hts _ mf_X3_38) (fun _ h9 => h9) rfl dX3_roundClass_69 ?_
            refine lv_iload hx hb dX3_roundClass_72 (lv_at hl 0 rfl) ?_
            refine xzald (f := (upd x11 (i) (1))) hx hb hK hP 7 (i) (rfl) (by omega) (by decide) rfl dX3_roundClass_74 ?_
            refine lv_topi (fun v69 ev69 => ?_)
            obtain rfl : v69 = 1 := ev69.trans (pk_us)
            refine lv_if_eq (tgt := 86) hx hb dX3_roundClass_75 (by decide) (fun c70 => absurd c70 (by decide)) (fun c70 => ?_)
            refine lv_aload_n hx hb dX3_roundClass_78 rfl (lv_at hl 1 rfl) ?_
            refine lv_aload_n hx hb dX3_roundClass_79 rfl (lv_at hl 2 rfl) ?_
            refine lv_iload hx hb dX3_roundClass_80 (lv_at hl 0 rfl) ?_
            refine lv_iload_n hx hb dX3_roundClass_82 rfl (lv_at hl 4 rfl) ?_
            refine wrVVa (rest := []) (q0 := 0) ⟨hx, hb, hml, hown, hts⟩ (r_X3_layRow l G ua a b la uf f lf (up2 (up2 (up2 (up2 (up2 (up2 ur 1 x8) 2 x9) 3 x10) 4 (flF (ur 4) 0 25)) 7 (upd x11 (i) (1))) 20 x12) r lr i ba rw cl (dmR (r 6) (r 7) rw cl wt) (oR (r 6) (r 7) rw cl ba NT wt) NT (by omega) (by omega) h0 h1 (by omega) (by omega) (by omega) (fun y hy => by have h9 := dmR_mk (rw := rw) (cl := cl) (so := r 6) (cs := r 7) (show i < rw by omega) hy hin9.1 hin9.2; obtain ⟨f8, f9⟩ := hNN i y (by omega) hy hin9.1; exact ⟨h9, oR_t h9, f8, f9⟩) hls) mi_yX3_layRow mv_yX3_layRow ml_X3_91 ⟨rfl, rfl, Nat.le_of_ble_eq_true rfl, Nat.le_of_ble_eq_true rfl⟩ hK hP (hDD _ _ _ _ _ _) rfl rfl rfl hl.1 rfl (Nat.le_of_ble_eq_true rfl) dX3_roundClass_83 ⟨Nat.zero_le _, Nat.zero_le _⟩ hS hA (fun w72 H locs hw72 hP hS => ?_)
            obtain ⟨x73, x74, x75, x76, rfl, hls, hk2⟩ := hw72
            have hP : PP G (uM G ua a b la uf f lf (up2 (up2 (up2 (up2 (up2 (up2 ur 1 x73) 2 x74) 3 x75) 4 (flF (ur 4) 0 25)) 7 (upd x11 (i) (1))) 20 x76) r lr) H := hP
            have hls : LST (dmR (r 6) (r 7) rw cl wt) (oR (r 6) (r 7) rw cl ba NT wt) (12 * i + cl) x73 x74 x75 x76 := hls
            have hk2 : ∀ a b, a < 12 → b < 12 → (dmR (r 6) (r 7) rw cl wt) a b = false → x73 (a * 12 + b) = x8 (a * 12 + b) ∧ x74 (a * 12 + b) = x9 (a * 12 + b) := hk2
            obtain ⟨v77, ev77⟩ : ∃ y9 : Int32, y9 = (nI i) + Int32.ofInt (1) := ⟨_, rfl⟩
            refine lv_iinc (v := v77) (lv' := [(4, .int v77), (0, .ref (ua 0)), (1, .ref (a 15)), (2, .int wt), (3, .int (nI ba))]) hx hb dX3_roundClass_86 hl (k := 0) rfl ev77.symm (by decide) rfl (fun ls hl => ?_)
            obtain rfl : v77 = nI (i + 1) := nI_plus (i := i) (j := 1) ev77 rfl (by decide)
            refine lv_goto (tgt := 26) hx hb dX3_roundClass_89 (by decide) ?_
            exact ih26k7 (i + 1) x73 x74 x75 (upd x11 (i) (1)) x76 (by omega) (by omega) (LST_c (by omega) hls (fun x y hx hy h8 h9 => ⟨dmR_co (by omega), oR_z (dmR_co (by omega))⟩)) (fun x hx => if c9 : x = i then (by rw [c9, pk_us]; exact ⟨fun _ => hin9, fun _ => by decide⟩) else (by rw [pk_un c9]; exact hic x (by omega))) (fun a b ha hb e9 => ⟨(hk2 a b ha hb e9).1.trans (hkq a b ha hb e9).1, (hk2 a b ha hb e9).2.trans (hkq a b ha hb e9).2⟩) _ _ _ hP hS (lv_sub hl [0, 1, 2, 3, 4] rfl)
  exact loop26 (rw + 1) 0 (ur 1) (ur 2) (flF (ur 3) 0 25) (ur 7) (flF (ur 20) 0 25) (by omega) (by omega) (LST_0) (fun x h9 => absurd h9 (by omega)) (fun _ _ _ _ _ => ⟨rfl, rfl⟩) _ _ _ hP hS (lv_sub hl [0, 1, 2, 3, 4] rfl)
