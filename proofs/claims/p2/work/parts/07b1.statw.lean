/-! what a call tells of its status: on a place, of a row, of a table -/
def sv (C A B : Prop) : Prop := (C ∧ A) ∨ (¬ C ∧ B)
def stW (S : Int32 → Prop) (row col : Int32) (K : Nat → Nat → Int32) (X : Nat → Nat → Int32 → Prop) (s : Int32) : Prop := (¬ s = 0 ∧ S s) ∨ (S 0 ∧ ∃ i k, i < 12 ∧ k < 12 ∧ row = nI i ∧ col = nI k ∧ ((¬ K i k = 0 ∧ s = K i k) ∨ (K i k = 0 ∧ X i k s)))
def srX (P : Prop) (rw row : Int32) (X : Nat → Int32 → Prop) (s : Int32) : Prop := (s = 1 ∧ ¬ P) ∨ (P ∧ ((s = 2 ∧ ¬ inR rw row) ∨ ∃ i, i < 12 ∧ row = nI i ∧ inR rw row ∧ X i s))
def ttX (P : Prop) (X : Int32 → Prop) (s : Int32) : Prop := (s = 1 ∧ ¬ P) ∨ (P ∧ X s)
def smW (op rs cs pl : Nat → Int32) (tb row col : Int32) (K : Nat → Nat → Nat → Int32) (X : Nat → Nat → Nat → Int32 → Prop) (s : Int32) : Prop := (¬ s = 0 ∧ plS op rs cs pl tb row col s) ∨ (plS op rs cs pl tb row col 0 ∧ ∃ t i k, t < 6 ∧ i < 12 ∧ k < 12 ∧ tb = nI t ∧ row = nI i ∧ col = nI k ∧ ((¬ K t i k = 0 ∧ s = K t i k) ∨ (K t i k = 0 ∧ X t i k s)))
def srM (op rs : Nat → Int32) (tb row : Int32) (X : Nat → Nat → Int32 → Prop) (s : Int32) : Prop := (s = 1 ∧ ¬ opn op tb) ∨ ∃ t, t < 6 ∧ tb = nI t ∧ ¬ op t = 0 ∧ ((s = 2 ∧ ¬ inR (rs t) row) ∨ ∃ i, i < 12 ∧ row = nI i ∧ inR (rs t) row ∧ X t i s)
def ttMs (op : Nat → Int32) (tb : Int32) (X : Nat → Int32 → Prop) (s : Int32) : Prop := (s = 1 ∧ ¬ opn op tb) ∨ ∃ t, t < 6 ∧ tb = nI t ∧ ¬ op t = 0 ∧ X t s
theorem st_1 {q : Int32} {P : Prop} (h : (q = 0 ∧ P) ∨ (q = 1 ∧ ¬ P)) (h0 : ¬ q = 0) : q = 1 ∧ ¬ P := h.elim (fun z => absurd z.1 h0) id
theorem ttX_n {q : Int32} {P : Prop} {X : Int32 → Prop} (h : (q = 0 ∧ P) ∨ (q = 1 ∧ ¬ P)) (h0 : ¬ q = 0) : ttX P X q := Or.inl (st_1 h h0)
