/-! array rows with a Nat for the place; words' rows -/
section XA
variable {p : Program} {l : Launch} {e : Env} {R : Room} {s : State} {m : MethodId} {args : Array Value} {below : List Frame} {meth : Method} {c : Code} {H H0 : Heap} {locs : List Loc} {cells slots : Nat} {Q : State → Prop}
variable {cc : ByteArray} {pc a n : Nat} {ls : Array Slot} {rest : List Value} {A0 : Nat → Prop} {G : GG} {wa : va_W} {f : Nat → Int32} {g : Nat → Option Nat} {i x : Int32}
theorem xiald (hx : p.tables.exec = Jvm.exec) (hb : c.code = cc) (hK : KK G s) (hP : PP G wa H) (q0 j : Nat) (hi : i = nI j) (hj : j < n) (hn : n < 2147483648) (ha : wa[q0]? = some (a, .inl (G.2.1, n, .inl f))) (hdg : decode cc pc = .ok (.iaload, 1))
    (kk : W p l e R s m args below meth c H locs cells slots Q (F0 m (pc + 1) ls (.int (f j) :: rest))) : W p l e R s m args below meth c H locs cells slots Q (F0 m pc ls (.int i :: .ref a :: rest)) := by
  subst hi
  refine va_iald hx hb hK.1 hP q0 0 ha rfl (vp_in_nI hj hn) hdg ?_
  rw [nI_clamp (by omega)]; exact kk
theorem xzald (hx : p.tables.exec = Jvm.exec) (hb : c.code = cc) (hK : KK G s) (hP : PP G wa H) (q0 j : Nat) (hi : i = nI j) (hj : j < n) (hn : n < 2147483648) (ha : wa[q0]? = some (a, .inl (G.2.2.1, n, .inl f))) (hdg : decode cc pc = .ok (.baload, 1))
    (kk : W p l e R s m args below meth c H locs cells slots Q (F0 m (pc + 1) ls (.int (f j) :: rest))) : W p l e R s m args below meth c H locs cells slots Q (F0 m pc ls (.int i :: .ref a :: rest)) := by
  subst hi
  refine va_zald hx hb hK.1 hP q0 1 ha rfl (vp_in_nI hj hn) hdg ?_
  rw [nI_clamp (by omega)]; exact kk
theorem xaldT (hx : p.tables.exec = Jvm.exec) (hb : c.code = cc) (hK : KK G s) (hP : PP G wa H) (q0 j : Nat) {b : Nat} (hi : i = nI j) (hj : j < n) (hn : n < 2147483648) (ha : wa[q0]? = some (a, .inl (G.2.2.2.1, n, .inr (.inr (.inr (.inr g)))))) (hg : g j = some b) (hdg : decode cc pc = .ok (.aaload, 1))
    (kk : W p l e R s m args below meth c H locs cells slots Q (F0 m (pc + 1) ls (.ref b :: rest))) : W p l e R s m args below meth c H locs cells slots Q (F0 m pc ls (.int i :: .ref a :: rest)) := by
  subst hi
  refine va_aldq hx hb hK.1 hP q0 2 ha rfl (vp_in_nI hj hn) hdg ?_
  rw [nI_clamp (by omega), hg]; exact kk
theorem xaldL (hx : p.tables.exec = Jvm.exec) (hb : c.code = cc) (hK : KK G s) (hP : PP G wa H) (q0 j : Nat) {b : Nat} (hi : i = nI j) (hj : j < n) (hn : n < 2147483648) (ha : wa[q0]? = some (a, .inl (G.2.2.2.2, n, .inr (.inr (.inr (.inr g)))))) (hg : g j = some b) (hdg : decode cc pc = .ok (.aaload, 1))
    (kk : W p l e R s m args below meth c H locs cells slots Q (F0 m (pc + 1) ls (.ref b :: rest))) : W p l e R s m args below meth c H locs cells slots Q (F0 m pc ls (.int i :: .ref a :: rest)) := by
  subst hi
  refine va_aldq hx hb hK.1 hP q0 3 ha rfl (vp_in_nI hj hn) hdg ?_
  rw [nI_clamp (by omega), hg]; exact kk
theorem xiast (hx : p.tables.exec = Jvm.exec) (hb : c.code = cc) (hK : KK G s) (hP : PP G wa H) (hD : va_D A0 wa) (hS : va_S A0 H0 H locs) (q0 j : Nat) (hi : i = nI j) (hj : j < n) (hn : n < 2147483648) (ha : wa[q0]? = some (a, .inl (G.2.1, n, .inl f))) (hdg : decode cc pc = .ok (.iastore, 1))
    (kk : ∀ (H1 : Heap) (locs1 : List Loc), PP G (wa.set q0 (a, .inl (G.2.1, n, .inl (upd f j x)))) H1 → va_D A0 (wa.set q0 (a, .inl (G.2.1, n, .inl (upd f j x)))) → va_S A0 H0 H1 locs1 → W p l e R s m args below meth c H1 locs1 cells slots Q (F0 m (pc + 1) ls rest)) : W p l e R s m args below meth c H locs cells slots Q (F0 m pc ls (.int x :: .int i :: .ref a :: rest)) := by
  subst hi
  refine va_iast hx hb hK.1 hP hD hS q0 0 ha rfl (vp_in_nI hj hn) hdg ?_
  rw [nI_clamp (by omega)]; exact kk
theorem xzast (hx : p.tables.exec = Jvm.exec) (hb : c.code = cc) (hK : KK G s) (hP : PP G wa H) (hD : va_D A0 wa) (hS : va_S A0 H0 H locs) (q0 j : Nat) (hi : i = nI j) (hj : j < n) (hn : n < 2147483648) (hv : x = 0 ∨ x = 1) (ha : wa[q0]? = some (a, .inl (G.2.2.1, n, .inl f))) (hdg : decode cc pc = .ok (.bastore, 1))
    (kk : ∀ (H1 : Heap) (locs1 : List Loc), PP G (wa.set q0 (a, .inl (G.2.2.1, n, .inl (upd f j x)))) H1 → va_D A0 (wa.set q0 (a, .inl (G.2.2.1, n, .inl (upd f j x)))) → va_S A0 H0 H1 locs1 → W p l e R s m args below meth c H1 locs1 cells slots Q (F0 m (pc + 1) ls rest)) : W p l e R s m args below meth c H locs cells slots Q (F0 m pc ls (.int x :: .int i :: .ref a :: rest)) := by
  subst hi
  refine va_zast hx hb hK.1 hP hD hS q0 1 ha rfl (vp_in_nI hj hn) hdg ?_
  rw [nI_clamp (by omega), show vp_nar .boolean x = x by rcases hv with rfl | rfl <;> rfl]; exact kk
end XA
theorem lt_ix {x : Int32} {n : Nat} (hn : n < 2147483648) (h0 : ¬ x < 0) (h1 : ¬ nI n ≤ x) : ∃ j : Nat, j < n ∧ x = nI j := by
  rcases pk_ix x hn with h | h | h
  · exact absurd h h0
  · exact absurd h h1
  · exact h
