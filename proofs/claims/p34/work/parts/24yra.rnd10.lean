def dmG (gr : Nat → Int32) (rw cl : Nat) (its : Int32) (x y : Nat) : Bool := decide (x < rw) && decide (y < cl) && decide (gr x = its)
theorem dmG_of {gr : Nat → Int32} {rw cl x y : Nat} {its : Int32} (h : dmG gr rw cl its x y = true) : x < rw ∧ y < cl ∧ gr x = its := by
  unfold dmG at h
  simp only [Bool.and_eq_true, decide_eq_true_eq] at h
  exact ⟨h.1.1, h.1.2, h.2⟩
theorem dmG_mk {gr : Nat → Int32} {rw cl x y : Nat} {its : Int32} (h1 : x < rw) (h2 : y < cl) (h3 : gr x = its) : dmG gr rw cl its x y = true := by
  unfold dmG; rw [decide_eq_true h1, decide_eq_true h2, decide_eq_true h3]; rfl
theorem dmG_no {gr : Nat → Int32} {rw cl x y : Nat} {its : Int32} (h : ¬ (x < rw ∧ y < cl ∧ gr x = its)) : dmG gr rw cl its x y = false := by
  rcases bo (dmG gr rw cl its x y) with e | e
  · exact absurd (dmG_of e) h
  · exact e
def oG (dm : Nat → Nat → Bool) (NM : Nat → Nat → Nat) (B x y : Nat) : Nat := if dm x y = true then NM x y % B else 0
/-- the cells of one side -/
def sG (dm : Nat → Nat → Bool) (SD : Nat → Nat → Nat) (k x y : Nat) : Nat := if dm x y = true ∧ SD x y = k then 1 else 0
theorem sG_le {dm : Nat → Nat → Bool} {SD : Nat → Nat → Nat} {k : Nat} (x y : Nat) : sG dm SD k x y ≤ 1 := by unfold sG; split <;> omega
theorem sG_t {dm : Nat → Nat → Bool} {SD : Nat → Nat → Nat} {k x y : Nat} (h : dm x y = true) (e : SD x y = k) : sG dm SD k x y = 1 := if_pos ⟨h, e⟩
theorem sG_n {dm : Nat → Nat → Bool} {SD : Nat → Nat → Nat} {k x y : Nat} (e : ¬ SD x y = k) : sG dm SD k x y = 0 := if_neg (fun z => e z.2)
theorem sG_f {dm : Nat → Nat → Bool} {SD : Nat → Nat → Nat} {k x y : Nat} (h : dm x y = false) : sG dm SD k x y = 0 := if_neg (fun z => by rw [h] at z; exact absurd z.1 (by decide))
/-- a rounding that keeps to the sides told so far -/
def EXS (dm : Nat → Nat → Bool) (O SD : Nat → Nat → Nat) (B : Nat) : Prop := ∃ Y, FEAS O B Y ∧ ∀ x y, x < 12 → y < 12 → dm x y = true → (SD x y = 1 → Y x y = 1) ∧ (SD x y = 0 → Y x y = 0)
theorem rS_add {X Y Z : Nat → Nat → Nat} (h : ∀ i j, i < 12 → j < 12 → X i j = Y i j + Z i j) (k : Nat) (hk : k < 24) : rS X k = rS Y k + rS Z k := by
  unfold rS ndI
  by_cases c : k < 12
  · rw [if_pos c, if_pos c, if_pos c, ← sumI_add (f := fun j => (Y k j : Int)) (g := fun j => (Z k j : Int))]
    exact sumI_c 12 (fun j hj => by have := h k j c hj; show (X k j : Int) = (Y k j : Int) + (Z k j : Int); omega)
  · rw [if_neg c, if_neg c, if_neg c, ← sumI_add (f := fun i => (Y i (k - 12) : Int)) (g := fun i => (Z i (k - 12) : Int))]
    exact sumI_c 12 (fun i hi => by have := h i (k - 12) hi (by omega); show (X i (k - 12) : Int) = (Y i (k - 12) : Int) + (Z i (k - 12) : Int); omega)
theorem rS_nn (X : Nat → Nat → Nat) (k : Nat) : 0 ≤ rS X k := by
  unfold rS ndI
  split
  · have := sumI_le (f := fun _ => 0) (g := fun j => (X k j : Int)) 12 (fun j _ => Int.natCast_nonneg _); rw [sumI_0] at this; exact this
  · have := sumI_le (f := fun _ => 0) (g := fun i => (X i (k - 12) : Int)) 12 (fun i _ => Int.natCast_nonneg _); rw [sumI_0] at this; exact this
theorem FE_fc {O Y : Nat → Nat → Nat} {B k s : Nat} (hB : 0 < B) (hY : FEAS O B Y) (hk : k < 24) (hs : (s : Int) = rS O k) : ((s / B : Nat) : Int) ≤ rS Y k ∧ rS Y k ≤ (((s + B - 1) / B : Nat) : Int) := by
  have h := hY.2 k hk
  have a := fl_1 s hB
  have b := fl_2 s hB
  exact ⟨mul_lt_s (B := (B : Int)) (by omega) (by omega), mul_lt_s (B := (B : Int)) (by omega) (by omega)⟩
section EX
variable {dm : Nat → Nat → Bool} {NM SD : Nat → Nat → Nat} {B : Nat} {NS NA : Nat → Nat}
theorem EX_no {n : Nat} (hB : 0 < B) (hn : n < 24) (hS : ∀ k, k < 24 → (NS k : Int) = rS (oG dm NM B) k) (hA : ∀ k, k < 24 → (NA k : Int) = rS (sG dm SD 1) k) (h : (NS n + B - 1) / B < NA n) : ¬ EXS dm (oG dm NM B) SD B := by
  rintro ⟨Y, hY, hs⟩
  have h1 := (FE_fc hB hY hn (hS n hn)).2
  have h2 := rS_add (X := Y) (Y := sG dm SD 1) (Z := fun x y => Y x y - sG dm SD 1 x y) (fun i j hi hj => by
    show Y i j = sG dm SD 1 i j + (Y i j - sG dm SD 1 i j)
    by_cases c : dm i j = true ∧ SD i j = 1
    · rw [sG_t c.1 c.2, (hs i j hi hj c.1).1 c.2]
    · rw [show sG dm SD 1 i j = 0 from if_neg c]; omega) n hn
  have h3 := rS_nn (fun x y => Y x y - sG dm SD 1 x y) n
  have h4 := hA n hn
  omega
theorem EX_iff (hB : 0 < B) (hSD : ∀ x y, x < 12 → y < 12 → dm x y = true → SD x y ≤ 2 ∧ (NM x y % B = 0 → SD x y = 0)) (hS : ∀ k, k < 24 → (NS k : Int) = rS (oG dm NM B) k) (hA : ∀ k, k < 24 → (NA k : Int) = rS (sG dm SD 1) k) (hc : ∀ k, k < 24 → NA k ≤ (NS k + B - 1) / B) : (∃ Z, BTW (sG dm SD 2) (fun k => NS k / B - NA k) (fun k => (NS k + B - 1) / B - NA k) Z) ↔ EXS dm (oG dm NM B) SD B := by
  constructor
  · rintro ⟨Z, h1, h2⟩
    have cs : ∀ x y, x < 12 → y < 12 → Z x y + sG dm SD 1 x y ≤ 1 ∧ (oG dm NM B x y = 0 → Z x y + sG dm SD 1 x y = 0) := fun x y hx hy => by
      have g := h1 x y hx hy
      rcases bo (dm x y) with d | d
      · obtain ⟨s1, s2⟩ := hSD x y hx hy d
        by_cases c2 : SD x y = 2
        · rw [sG_t d c2] at g
          rw [sG_n (k := 1) (by omega)]
          refine ⟨by omega, fun e => ?_⟩
          unfold oG at e
          rw [if_pos d] at e
          have := s2 e
          omega
        · rw [sG_n c2] at g
          have := sG_le (dm := dm) (SD := SD) (k := 1) x y
          refine ⟨by omega, fun e => ?_⟩
          unfold oG at e
          rw [if_pos d] at e
          rw [sG_n (k := 1) (by have := s2 e; omega)]; omega
      · rw [sG_f d] at g
        rw [sG_f d]
        exact ⟨by omega, fun _ => by omega⟩
    refine ⟨fun x y => Z x y + sG dm SD 1 x y, ⟨cs, fun n hn => ?_⟩, fun x y hx hy d => ⟨fun e => ?_, fun e => ?_⟩⟩
    · have a := fl_1 (NS n) hB
      have b := fl_2 (NS n) hB
      have r := rS_add (X := fun x y => Z x y + sG dm SD 1 x y) (Y := Z) (Z := sG dm SD 1) (fun _ _ _ _ => rfl) n hn
      have z := h2 n hn
      have z0 := rS_nn Z n
      have sa := hA n hn
      have sc := hc n hn
      have l1 : ((NS n / B : Nat) : Int) ≤ rS (fun x y => Z x y + sG dm SD 1 x y) n := by
        rw [r, ← sa]
        have z1 : ((NS n / B - NA n : Nat) : Int) ≤ rS Z n := z.1
        generalize NS n / B = fl at z1 ⊢
        omega
      have l2 : rS (fun x y => Z x y + sG dm SD 1 x y) n ≤ (((NS n + B - 1) / B : Nat) : Int) := by
        rw [r, ← sa]
        have z1 : rS Z n ≤ (((NS n + B - 1) / B - NA n : Nat) : Int) := z.2
        generalize (NS n + B - 1) / B = ce at z1 sc ⊢
        omega
      have e1 := Int.mul_le_mul_of_nonneg_left l1 (show (0 : Int) ≤ (B : Int) by omega)
      have e2 := Int.mul_le_mul_of_nonneg_left l2 (show (0 : Int) ≤ (B : Int) by omega)
      rw [← hS n hn]
      omega
    · have g := h1 x y hx hy
      rw [sG_n (k := 2) (by omega)] at g
      show Z x y + sG dm SD 1 x y = 1
      rw [sG_t d e]; omega
    · have g := h1 x y hx hy
      rw [sG_n (k := 2) (by omega)] at g
      show Z x y + sG dm SD 1 x y = 0
      rw [sG_n (k := 1) (by omega)]; omega
  · rintro ⟨Y, hY, hs⟩
    have key : ∀ x y, x < 12 → y < 12 → Y x y = (if dm x y = true ∧ SD x y = 2 then Y x y else 0) + sG dm SD 1 x y := fun x y hx hy => by
      rcases bo (dm x y) with d | d
      · obtain ⟨s1, s2⟩ := hSD x y hx hy d
        obtain ⟨t1, t2⟩ := hs x y hx hy d
        by_cases c2 : SD x y = 2
        · rw [if_pos ⟨d, c2⟩, sG_n (k := 1) (by omega)]; rfl
        · rw [if_neg (fun z => c2 z.2)]
          by_cases c1 : SD x y = 1
          · rw [sG_t d c1, t1 c1]
          · rw [sG_n c1, t2 (by omega)]
      · rw [if_neg (fun z => by rw [d] at z; exact absurd z.1 (by decide)), sG_f d]
        exact (hY.1 x y hx hy).2 (if_neg (by rw [d]; decide))
    refine ⟨fun x y => if dm x y = true ∧ SD x y = 2 then Y x y else 0, fun x y hx hy => ?_, fun n hn => ?_⟩
    · show (if dm x y = true ∧ SD x y = 2 then Y x y else 0) ≤ sG dm SD 2 x y
      by_cases c : dm x y = true ∧ SD x y = 2
      · rw [if_pos c, sG_t c.1 c.2]; exact (hY.1 x y hx hy).1
      · rw [if_neg c]; exact Nat.zero_le _
    · obtain ⟨f1, f2⟩ := FE_fc hB hY hn (hS n hn)
      have r := rS_add (X := Y) (Y := fun x y => if dm x y = true ∧ SD x y = 2 then Y x y else 0) (Z := sG dm SD 1) key n hn
      have z0 := rS_nn (fun x y => if dm x y = true ∧ SD x y = 2 then Y x y else 0) n
      have sa := hA n hn
      have sc := hc n hn
      show ((NS n / B - NA n : Nat) : Int) ≤ rS (fun x y => if dm x y = true ∧ SD x y = 2 then Y x y else 0) n ∧ rS (fun x y => if dm x y = true ∧ SD x y = 2 then Y x y else 0) n ≤ (((NS n + B - 1) / B - NA n : Nat) : Int)
      rw [r, ← sa] at f1 f2
      generalize NS n / B = fl at f1 ⊢
      generalize (NS n + B - 1) / B = ce at f2 sc ⊢
      omega
end EX
/-! the network as it is laid -/
theorem cA_add {cap : Nat → Int32} {p q c k : Nat} (hq : q < 28) (e : cap (28 * p + q) = nI c) (hc : c + k ≤ 2000000000) (u v : Nat) (hv : v < 28) : cA (upd cap (28 * p + q) (nI (c + k))) u v = cA cap u v + (if u = p ∧ v = q then (k : Int) else 0) := by
  by_cases h : u = p ∧ v = q
  · rw [if_pos h, h.1, h.2, cA_e pk_us hc, cA_e e (by omega)]; omega
  · rw [if_neg h]
    unfold cA
    rw [pk_un (by omega)]; omega
theorem eq8 {a b c d e f g h a2 b2 c2 d2 e2 f2 g2 h2 : Int} (h1 : a = a2) (q2 : b = b2) (h3 : c = c2) (h4 : d = d2) (h5 : e = e2) (h6 : f = f2) (h7 : g = g2) (h8 : h = h2) : a + b + c + d + e + f + g + h = a2 + b2 + c2 + d2 + e2 + f2 + g2 + h2 := by omega
theorem it_c {p : Prop} [Decidable p] {x y : Int} (h : p → x = y) : (if p then x else 0) = (if p then y else 0) := by
  by_cases c : p
  · rw [if_pos c, if_pos c]; exact h c
  · rw [if_neg c, if_neg c]
theorem it_a {p q : Prop} [Decidable p] [Decidable q] {x y z : Int} (h1 : p → q → x = y + z) (h2 : p → ¬ q → x = y) (h3 : q → p) : (if p then x else 0) = (if p then y else 0) + (if q then z else 0) := by
  by_cases c : p
  · rw [if_pos c, if_pos c]
    by_cases d : q
    · rw [if_pos d]; exact h1 c d
    · rw [if_neg d, h2 c d]; omega
  · rw [if_neg c, if_neg c, if_neg (fun d => c (h3 d))]; rfl
theorem nW_c {M : Int} {T T2 : Nat → Nat → Nat} {lo hi lo2 hi2 : Nat → Nat} (h1 : ∀ i j, i < 12 → j < 12 → T2 i j = T i j) (h2 : ∀ n, n < 24 → lo2 n = lo n ∧ hi2 n = hi n) (u v : Nat) : nW M T2 lo2 hi2 u v = nW M T lo hi u v := eq8 (it_c (fun c => by rw [h1 u (v - 12) c.1 (by omega)])) (it_c (fun c => by obtain ⟨a, b⟩ := h2 v (by omega); rw [a, b])) (it_c (fun c => by rw [(h2 v (by omega)).1])) (it_c (fun _ => sumI_c 12 (fun k hk => by rw [(h2 k (by omega)).1]))) (it_c (fun c => by obtain ⟨a, b⟩ := h2 u (by omega); rw [a, b])) (it_c (fun _ => sumI_c 12 (fun k hk => by rw [(h2 (12 + k) (by omega)).1]))) (it_c (fun c => by rw [(h2 u (by omega)).1])) (it_c (fun _ => rfl))
theorem nW_0 (u v : Nat) : nW 0 (fun _ _ => 0) (fun _ => 0) (fun _ => 0) u v = 0 := by
  have h1 := nW_nn (M := 0) (T := fun _ _ => 0) (lo := fun _ => 0) (hi := fun _ => 0) (Int.le_refl 0) (fun _ _ => Nat.le_refl 0) u v
  have h2 : nW 0 (fun _ _ => 0) (fun _ => 0) (fun _ => 0) u v ≤ 0 := by
    have s1 : SR (fun _ => 0) = 0 := sumI_z 12 (fun _ _ => rfl)
    have s2 : SC (fun _ => 0) = 0 := sumI_z 12 (fun _ _ => rfl)
    unfold nW
    rw [s1, s2]
    have i0 : ∀ (p : Prop) [Decidable p] (x : Int), x = 0 → (if p then x else 0) ≤ 0 := fun p _ x e => by
      split
      · exact Int.le_of_eq e
      · exact Int.le_refl 0
    have g1 := i0 (u < 12 ∧ 12 ≤ v ∧ v < 24) (((fun _ _ => 0 : Nat → Nat → Nat) u (v - 12) : Nat) : Int) rfl
    have g2 := i0 (u = 24 ∧ v < 12) ((((fun _ => 0 : Nat → Nat) v : Nat) : Int) - (((fun _ => 0 : Nat → Nat) v : Nat) : Int)) rfl
    have g3 := i0 (u = 26 ∧ v < 12) (((fun _ => 0 : Nat → Nat) v : Nat) : Int) rfl
    have g4 := i0 (u = 24 ∧ v = 27) 0 rfl
    have g5 := i0 (12 ≤ u ∧ u < 24 ∧ v = 25) ((((fun _ => 0 : Nat → Nat) u : Nat) : Int) - (((fun _ => 0 : Nat → Nat) u : Nat) : Int)) rfl
    have g6 := i0 (u = 26 ∧ v = 25) 0 rfl
    have g7 := i0 (12 ≤ u ∧ u < 24 ∧ v = 27) (((fun _ => 0 : Nat → Nat) u : Nat) : Int) rfl
    have g8 := i0 (u = 25 ∧ v = 24) 0 rfl
    exact Int.le_trans (le8 g1 g2 g3 g4 g5 g6 g7 g8) (by decide)
  omega
theorem SR_s {lo : Nat → Nat} {n : Nat} (hn : n < 12) : SR (mk9 lo (n + 1)) = SR (mk9 lo n) + (lo n : Int) ∧ SC (mk9 lo (n + 1)) = SC (mk9 lo n) := by
  refine ⟨?_, sumI_c 12 (fun k _ => by rw [mk9_ag (show 12 + k ≠ n by omega)])⟩
  have h : SR (mk9 lo (n + 1)) = sumI 12 (fun k => if k = n then (lo n : Int) else (mk9 lo n k : Int)) := sumI_c 12 (fun k _ => by
    by_cases e : k = n
    · rw [if_pos e, e, mk9_s]
    · rw [if_neg e, mk9_ag e])
  rw [h, sumI_u (f := fun k => (mk9 lo n k : Int)) 12 hn, show mk9 lo n n = 0 from if_neg (Nat.lt_irrefl n)]
  show SR (mk9 lo n) + ((lo n : Int) - ((0 : Nat) : Int)) = _
  omega
theorem SC_s {lo : Nat → Nat} {c : Nat} (hc : c < 12) : SR (mk9 lo (12 + c + 1)) = SR (mk9 lo (12 + c)) ∧ SC (mk9 lo (12 + c + 1)) = SC (mk9 lo (12 + c)) + (lo (12 + c) : Int) := by
  refine ⟨sumI_c 12 (fun k _ => by rw [mk9_ag (show k ≠ 12 + c by omega)]), ?_⟩
  have h : SC (mk9 lo (12 + c + 1)) = sumI 12 (fun k => if k = c then (lo (12 + c) : Int) else (mk9 lo (12 + c) (12 + k) : Int)) := sumI_c 12 (fun k _ => by
    by_cases e : k = c
    · rw [if_pos e, e, mk9_s]
    · rw [if_neg e, mk9_ag (show 12 + k ≠ 12 + c by omega)])
  rw [h, sumI_u (f := fun k => (mk9 lo (12 + c) (12 + k) : Int)) 12 hc, show mk9 lo (12 + c) (12 + c) = 0 from if_neg (Nat.lt_irrefl _)]
  show SC (mk9 lo (12 + c)) + ((lo (12 + c) : Int) - ((0 : Nat) : Int)) = _
  omega
theorem nW_bR {M : Int} {T : Nat → Nat → Nat} {lo hi : Nat → Nat} {n : Nat} (hn : n < 12) (u v : Nat) : nW M T (mk9 lo (n + 1)) (mk9 hi (n + 1)) u v = nW M T (mk9 lo n) (mk9 hi n) u v + (if u = 24 ∧ v = n then (hi n : Int) - (lo n : Int) else 0) + (if u = 26 ∧ v = n then (lo n : Int) else 0) + (if u = 24 ∧ v = 27 then (lo n : Int) else 0) := by
  have z0 : ∀ A : Nat → Nat, mk9 A n n = 0 := fun A => if_neg (Nat.lt_irrefl n)
  have g2 := it_a (p := u = 24 ∧ v < 12) (q := u = 24 ∧ v = n) (x := (mk9 hi (n + 1) v : Int) - (mk9 lo (n + 1) v : Int)) (y := (mk9 hi n v : Int) - (mk9 lo n v : Int)) (z := (hi n : Int) - (lo n : Int)) (fun _ d => by rw [d.2, mk9_s, mk9_s, z0, z0]; omega) (fun c d => by rw [mk9_ag (fun e => d ⟨c.1, e⟩), mk9_ag (fun e => d ⟨c.1, e⟩)]) (fun d => ⟨d.1, by omega⟩)
  have g3 := it_a (p := u = 26 ∧ v < 12) (q := u = 26 ∧ v = n) (x := (mk9 lo (n + 1) v : Int)) (y := (mk9 lo n v : Int)) (z := (lo n : Int)) (fun _ d => by rw [d.2, mk9_s, z0]; omega) (fun c d => by rw [mk9_ag (fun e => d ⟨c.1, e⟩)]) (fun d => ⟨d.1, by omega⟩)
  have g4 := it_a (p := u = 24 ∧ v = 27) (q := u = 24 ∧ v = 27) (x := SR (mk9 lo (n + 1))) (y := SR (mk9 lo n)) (z := (lo n : Int)) (fun _ _ => (SR_s hn).1) (fun c d => absurd c d) (fun d => d)
  have g5 := it_c (p := 12 ≤ u ∧ u < 24 ∧ v = 25) (x := (mk9 hi (n + 1) u : Int) - (mk9 lo (n + 1) u : Int)) (y := (mk9 hi n u : Int) - (mk9 lo n u : Int)) (fun c => by rw [mk9_ag (show u ≠ n by omega), mk9_ag (show u ≠ n by omega)])
  have g6 := it_c (p := u = 26 ∧ v = 25) (x := SC (mk9 lo (n + 1))) (y := SC (mk9 lo n)) (fun _ => (SR_s hn).2)
  have g7 := it_c (p := 12 ≤ u ∧ u < 24 ∧ v = 27) (x := (mk9 lo (n + 1) u : Int)) (y := (mk9 lo n u : Int)) (fun c => by rw [mk9_ag (show u ≠ n by omega)])
  unfold nW
  rw [g2, g3, g4, g5, g6, g7]
  omega
theorem nW_bC {M : Int} {T : Nat → Nat → Nat} {lo hi : Nat → Nat} {c : Nat} (hc : c < 12) (u v : Nat) : nW M T (mk9 lo (12 + c + 1)) (mk9 hi (12 + c + 1)) u v = nW M T (mk9 lo (12 + c)) (mk9 hi (12 + c)) u v + (if u = 12 + c ∧ v = 25 then (hi (12 + c) : Int) - (lo (12 + c) : Int) else 0) + (if u = 26 ∧ v = 25 then (lo (12 + c) : Int) else 0) + (if u = 12 + c ∧ v = 27 then (lo (12 + c) : Int) else 0) := by
  have z0 : ∀ A : Nat → Nat, mk9 A (12 + c) (12 + c) = 0 := fun A => if_neg (Nat.lt_irrefl _)
  have g2 := it_c (p := u = 24 ∧ v < 12) (x := (mk9 hi (12 + c + 1) v : Int) - (mk9 lo (12 + c + 1) v : Int)) (y := (mk9 hi (12 + c) v : Int) - (mk9 lo (12 + c) v : Int)) (fun d => by rw [mk9_ag (show v ≠ 12 + c by omega), mk9_ag (show v ≠ 12 + c by omega)])
  have g3 := it_c (p := u = 26 ∧ v < 12) (x := (mk9 lo (12 + c + 1) v : Int)) (y := (mk9 lo (12 + c) v : Int)) (fun d => by rw [mk9_ag (show v ≠ 12 + c by omega)])
  have g4 := it_c (p := u = 24 ∧ v = 27) (x := SR (mk9 lo (12 + c + 1))) (y := SR (mk9 lo (12 + c))) (fun _ => (SC_s hc).1)
  have g5 := it_a (p := 12 ≤ u ∧ u < 24 ∧ v = 25) (q := u = 12 + c ∧ v = 25) (x := (mk9 hi (12 + c + 1) u : Int) - (mk9 lo (12 + c + 1) u : Int)) (y := (mk9 hi (12 + c) u : Int) - (mk9 lo (12 + c) u : Int)) (z := (hi (12 + c) : Int) - (lo (12 + c) : Int)) (fun _ d => by rw [d.1, mk9_s, mk9_s, z0, z0]; omega) (fun d e => by rw [mk9_ag (fun z => e ⟨z, d.2.2⟩), mk9_ag (fun z => e ⟨z, d.2.2⟩)]) (fun d => ⟨by omega, by omega, d.2⟩)
  have g6 := it_a (p := u = 26 ∧ v = 25) (q := u = 26 ∧ v = 25) (x := SC (mk9 lo (12 + c + 1))) (y := SC (mk9 lo (12 + c))) (z := (lo (12 + c) : Int)) (fun _ _ => (SC_s hc).2) (fun d e => absurd d e) (fun d => d)
  have g7 := it_a (p := 12 ≤ u ∧ u < 24 ∧ v = 27) (q := u = 12 + c ∧ v = 27) (x := (mk9 lo (12 + c + 1) u : Int)) (y := (mk9 lo (12 + c) u : Int)) (z := (lo (12 + c) : Int)) (fun _ d => by rw [d.1, mk9_s, z0]; omega) (fun d e => by rw [mk9_ag (fun z => e ⟨z, d.2.2⟩)]) (fun d => ⟨by omega, by omega, d.2⟩)
  unfold nW
  rw [g2, g3, g4, g5, g6, g7]
  omega
theorem nW_T {M : Int} {T : Nat → Nat → Nat} {lo hi : Nat → Nat} {i j : Nat} (hi' : i < 12) (hj : j < 12) (u v : Nat) : nW M (mkO T (12 * i + j + 1)) lo hi u v = nW M (mkO T (12 * i + j)) lo hi u v + (if u = i ∧ v = 12 + j then (T i j : Int) else 0) := by
  have g1 := it_a (p := u < 12 ∧ 12 ≤ v ∧ v < 24) (q := u = i ∧ v = 12 + j) (x := (mkO T (12 * i + j + 1) u (v - 12) : Int)) (y := (mkO T (12 * i + j) u (v - 12) : Int)) (z := (T i j : Int)) (fun _ d => by rw [d.1, d.2, show 12 + j - 12 = j by omega, mkO_s hj hj, upT_s, show mkO T (12 * i + j) i j = 0 from if_neg (by omega)]; omega) (fun c d => by rw [mkO_s (by omega) hj, upT_n (fun z => d ⟨z.1, by omega⟩)]) (fun d => ⟨by omega, by omega, by omega⟩)
  unfold nW
  rw [g1]
  omega
theorem nW_M {M : Int} {T : Nat → Nat → Nat} {lo hi : Nat → Nat} (u v : Nat) : nW M T lo hi u v = nW 0 T lo hi u v + (if u = 25 ∧ v = 24 then M else 0) := by
  have g : (if u = 25 ∧ v = 24 then (0 : Int) else 0) = 0 := by split <;> rfl
  unfold nW
  rw [g]; omega
