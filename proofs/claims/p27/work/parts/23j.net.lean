/-! steps as they must be: a cell that is kept, of a row of the class, not taken out, has a step forth where it may grow, a step back where it may fall -/
theorem jb_eq {x fo : Int32} {v i : Nat} (hv : v < 25) (hi : i < 25) : bt (jb x v fo) i = if i = v then !decide (fo = 0) else bt x i := by
  unfold jb
  by_cases c : fo = 0
  · rw [if_pos c, b_and, b_xor, b_m1 i (by omega), b_sh1 (by omega) (by omega), decide_eq_true c]
    by_cases e : i = v
    · rw [if_pos e, decide_eq_true e]; cases bt x i <;> rfl
    · rw [if_neg e, decide_eq_false e]; cases bt x i <;> rfl
  · rw [if_neg c, b_or, b_sh1 (by omega) (by omega), decide_eq_false c]
    by_cases e : i = v
    · rw [if_pos e, decide_eq_true e]; cases bt x i <;> rfl
    · rw [if_neg e, decide_eq_false e]; cases bt x i <;> rfl
theorem jn_bit {s : Nat → Int32} {u v a b : Nat} {fo ba : Int32} (hu : u < 25) (hv : v < 25) (hne : u ≠ v) (ha : a < 25) (hb : b < 25) : bt (jnF s u v fo ba a) b = if a = u ∧ b = v then !decide (fo = 0) else if a = v ∧ b = u then !decide (ba = 0) else bt (s a) b := by
  unfold jnF
  by_cases e : a = v
  · subst e
    rw [pk_us, jb_eq hu hb, pk_un (fun z => hne z.symm)]
    by_cases e2 : b = u
    · rw [if_pos e2, if_neg (fun z => hne z.1.symm), if_pos ⟨rfl, e2⟩]
    · rw [if_neg e2, if_neg (fun z => hne z.1.symm), if_neg (fun z => e2 z.2)]
  · rw [pk_un e]
    by_cases e1 : a = u
    · subst e1
      rw [pk_us, jb_eq hv hb]
      by_cases e2 : b = v
      · rw [if_pos e2, if_pos ⟨rfl, e2⟩]
      · rw [if_neg e2, if_neg (fun z => e2 z.2), if_neg (fun z => e z.1)]
    · rw [pk_un e1, if_neg (fun z => e1 z.1), if_neg (fun z => e z.1)]
/-- what steps a cell has: kp kept, V its value, in its bounds; on: whether it has any -/
def gof (kp : Nat → Nat → Bool) (V Hi : Nat → Nat → Nat) (on : Nat → Nat → Bool) (i j : Nat) : Bool := on i j && kp i j && decide (V i j < Hi i j)
def gob (kp : Nat → Nat → Bool) (V Lo : Nat → Nat → Nat) (on : Nat → Nat → Bool) (i j : Nat) : Bool := on i j && kp i j && decide (Lo i j < V i j)
def stE (kp : Nat → Nat → Bool) (V Lo Hi : Nat → Nat → Nat) (on : Nat → Nat → Bool) (u v : Nat) : Bool := if u < 12 ∧ 12 ≤ v ∧ v < 24 then gof kp V Hi on u (v - 12) else if v < 12 ∧ 12 ≤ u ∧ u < 24 then gob kp V Lo on v (u - 12) else false
def SYN (kp : Nat → Nat → Bool) (V Lo Hi : Nat → Nat → Nat) (on : Nat → Nat → Bool) (s : Nat → Int32) : Prop := ∀ u v, u < 25 → v < 25 → bt (s u) v = stE kp V Lo Hi on u v
theorem SYN_0 {kp : Nat → Nat → Bool} {V Lo Hi : Nat → Nat → Nat} {s : Nat → Int32} : SYN kp V Lo Hi (fun _ _ => false) (flF s 0 25) := fun u v hu hv => by
  unfold flF stE gof gob
  rw [if_pos hu, b_0]
  split
  · rfl
  · split <;> rfl
theorem stE_f {kp : Nat → Nat → Bool} {V Lo Hi : Nat → Nat → Nat} {on : Nat → Nat → Bool} {i j : Nat} (hi : i < 12) (hj : j < 12) : stE kp V Lo Hi on i (12 + j) = gof kp V Hi on i j := by
  unfold stE
  rw [if_pos ⟨hi, by omega, by omega⟩, show 12 + j - 12 = j by omega]
theorem stE_b {kp : Nat → Nat → Bool} {V Lo Hi : Nat → Nat → Nat} {on : Nat → Nat → Bool} {i j : Nat} (hi : i < 12) (hj : j < 12) : stE kp V Lo Hi on (12 + j) i = gob kp V Lo on i j := by
  unfold stE
  rw [if_neg (by omega), if_pos ⟨hi, by omega, by omega⟩, show 12 + j - 12 = j by omega]
/-- one cell's steps laid anew -/
theorem SYN_join {kp : Nat → Nat → Bool} {V V2 Lo Hi : Nat → Nat → Nat} {on on2 : Nat → Nat → Bool} {s : Nat → Int32} {i j : Nat} {fo ba : Int32} (h : SYN kp V Lo Hi on s) (hi : i < 12) (hj : j < 12) (hV : ∀ a b, ¬ (a = i ∧ b = j) → V2 a b = V a b) (hon : ∀ a b, ¬ (a = i ∧ b = j) → on2 a b = on a b) (hf : (!decide (fo = 0)) = gof kp V2 Hi on2 i j) (hb : (!decide (ba = 0)) = gob kp V2 Lo on2 i j) : SYN kp V2 Lo Hi on2 (jnF s i (12 + j) fo ba) := fun u v hu hv => by
  rw [jn_bit (by omega) (by omega) (by omega) hu hv]
  by_cases c1 : u = i ∧ v = 12 + j
  · obtain ⟨rfl, rfl⟩ := c1
    rw [if_pos ⟨rfl, rfl⟩, stE_f hi hj]; exact hf
  · rw [if_neg c1]
    by_cases c2 : u = 12 + j ∧ v = i
    · obtain ⟨rfl, rfl⟩ := c2
      rw [if_pos ⟨rfl, rfl⟩, stE_b hi hj]; exact hb
    · rw [if_neg c2, h u v hu hv]
      unfold stE
      split
      · rename_i q
        have hne : ¬ (u = i ∧ v - 12 = j) := fun z => c1 ⟨z.1, by omega⟩
        unfold gof
        rw [hV _ _ hne, hon _ _ hne]
      · split
        · rename_i q
          have hne : ¬ (v = i ∧ u - 12 = j) := fun z => c2 ⟨by omega, z.1⟩
          unfold gob
          rw [hV _ _ hne, hon _ _ hne]
        · rfl
