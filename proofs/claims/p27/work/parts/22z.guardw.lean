/-- what a hand told of the places is the same -/
def hb1 (td td2 : Nat → Int32) : Prop := ∀ p, td2 p &&& 1 = td p &&& 1
theorem bit1_or (x : Int32) : (x ||| 2) &&& 1 = x &&& 1 := b_ext (fun i hi => by
  rw [b_and, b_and, b_or, b_1 i hi]
  by_cases h : i = 0
  · subst h; rw [show bt 2 0 = false from by decide]; simp
  · rw [decide_eq_false h]; simp)
theorem bit1_an (x : Int32) : (x &&& ((2 : Int32) ^^^ (-1))) &&& 1 = x &&& 1 := b_ext (fun i hi => by
  rw [b_and, b_and, b_and, b_1 i hi]
  by_cases h : i = 0
  · subst h; rw [show bt ((2 : Int32) ^^^ (-1)) 0 = true from by decide]; simp
  · rw [decide_eq_false h]; simp)
theorem hb1_tell {td td2 : Nat → Int32} (h : hb1 td td2) (sp : Nat) (on : Int32) : hb1 td (upd td2 sp (if on = 0 then td2 sp &&& ((2 : Int32) ^^^ (-1)) else td2 sp ||| 2)) := by
  intro p
  by_cases e : p = sp
  · subst e; rw [pk_us]
    split
    · rw [bit1_an]; exact h p
    · rw [bit1_or]; exact h p
  · rw [pk_un e]; exact h p
