theorem bT {z : Int32} {A : Prop} (h : (z = 1 ∧ A) ∨ (z = 0 ∧ ¬ A)) (c : ¬ z = 0) : A := h.elim (fun q => q.2) (fun q => absurd q.1 c)
theorem bF {z : Int32} {A : Prop} (h : (z = 1 ∧ A) ∨ (z = 0 ∧ ¬ A)) (c : z = 0) : ¬ A := h.elim (fun q => absurd (q.1.symm.trans c) (by decide)) (fun q => q.2)
