theorem mn_X6 : Cond.instantiable RX6 10 ∈ TB := TB_t1 13 rfl rfl
theorem mn_X7 : Cond.instantiable RX7 43 ∈ TB := TB_t4 95 rfl rfl
theorem nn_start {s : State} {args : Array Value} (h : ∀ w ∈ lw_tbl, w.before args s = true) : NN s := by
  refine ⟨?_, va_Nw.of rfl (h _ (LT_t1 209 (by decide +kernel))), va_AO.of (h _ (LT_t1 21 (by decide +kernel))), va_AO.of (h _ (LT_t1 203 (by decide +kernel)))⟩
  unfold NSm
  exact List.forall_mem_cons.mpr ⟨va_Nw.of rfl (h _ (LT_t1 24 (by decide +kernel))), List.forall_mem_cons.mpr ⟨va_Nw.of rfl (h _ (LT_t1 30 (by decide +kernel))), List.forall_mem_cons.mpr ⟨va_Nw.of rfl (h _ (LT_t1 112 (by decide +kernel))), List.forall_mem_cons.mpr ⟨va_Nw.of rfl (h _ (LT_t1 148 (by decide +kernel))), List.forall_mem_cons.mpr ⟨va_Nw.of rfl (h _ (LT_t1 153 (by decide +kernel))), List.forall_mem_cons.mpr ⟨va_Nw.of rfl (h _ (LT_t1 181 (by decide +kernel))), List.forall_mem_cons.mpr ⟨va_Nw.of rfl (h _ (LT_t1 205 (by decide +kernel))), List.forall_mem_cons.mpr ⟨va_Nw.of rfl (h _ (LT_t2 75 (by decide +kernel))), List.forall_mem_cons.mpr ⟨va_Nw.of rfl (h _ (LT_t3 45 (by decide +kernel))), List.forall_mem_cons.mpr ⟨va_Nw.of rfl (h _ (LT_t3 53 (by decide +kernel))), List.forall_mem_cons.mpr ⟨va_Nw.of rfl (h _ (LT_t3 154 (by decide +kernel))), List.forall_mem_cons.mpr ⟨va_Nw.of rfl (h _ (LT_t3 175 (by decide +kernel))), List.forall_mem_cons.mpr ⟨va_Nw.of rfl (h _ (LT_t4 38 (by decide +kernel))), fun _ h => absurd h List.not_mem_nil⟩⟩⟩⟩⟩⟩⟩⟩⟩⟩⟩⟩⟩
theorem kk_start {s : State} {args : Array Value} (h : ∀ w ∈ lw_tbl, w.before args s = true) : ∃ G : GG, KK G s := by
  have hts : ∀ w ∈ TB, w.before args s = true := fun w hw => h w (List.mem_filter.mp hw).1
  have hN := nn_start h
  obtain ⟨c0, i0, h0⟩ := u_known (C := RX0) (T := TX0) (N := 9) (n := 9) hts inX0 (hts _ mn_X0)
  obtain ⟨c1, i1, h1⟩ := u_known (C := RX1) (T := TX1) (N := 3) (n := 3) hts inX1 (hts _ mn_X1)
  obtain ⟨c2, i2, h2⟩ := u_known (C := RX2) (T := TX2) (N := 15) (n := 15) hts inX2 (hts _ mn_X2)
  obtain ⟨c3, i3, h3⟩ := u_known (C := RX3) (T := TX3) (N := 8) (n := 8) hts inX3 (hts _ mn_X3)
  obtain ⟨c4, i4, h4⟩ := u_known (C := RX4) (T := TX4) (N := 12) (n := 12) hts inX4 (hts _ mn_X4)
  obtain ⟨c5, i5, h5⟩ := u_known (C := RX5) (T := TX5) (N := 4) (n := 4) hts inX5 (hts _ mn_X5)
  obtain ⟨c6, i6, h6⟩ := u_known (C := RX6) (T := TX6) (N := 10) (n := 10) hts inX6 (hts _ mn_X6)
  obtain ⟨c7, i7, h7⟩ := u_known (C := RX7) (T := TX7) (N := 43) (n := 43) hts inX7 (hts _ mn_X7)
  obtain ⟨cI, kI, pI, f1, f2, f3⟩ := Cond.arrayClass_spec (hts _ mac_int)
  obtain ⟨cZ, kZ, pZ, g1, g2, g3⟩ := Cond.arrayClass_spec (hts _ mac_boolean)
  obtain ⟨pT, cT, kT, t1, t2, t3, t4, t5⟩ := Cond.arrayOver_spec hN.2.2.1
  obtain ⟨pL, cL, kL, l1, l2, l3, l4, l5⟩ := Cond.arrayOver_spec hN.2.2.2
  refine ⟨((fun k => match k with | 0 => c0 | 1 => c1 | 2 => c2 | 3 => c3 | 4 => c4 | 5 => c5 | 6 => c6 | _ => c7, fun k => match k with | 0 => i0 | 1 => i1 | 2 => i2 | 3 => i3 | 4 => i4 | 5 => i5 | 6 => i6 | _ => i7), cI, cZ, cT, cL), ⟨?_, ?_⟩, hN⟩
  · intro k q hq
    match k, hq with
    | 0, hq => cases hq; exact h0
    | 1, hq => cases hq; exact h1
    | 2, hq => cases hq; exact h2
    | 3, hq => cases hq; exact h3
    | 4, hq => cases hq; exact h4
    | 5, hq => cases hq; exact h5
    | 6, hq => cases hq; exact h6
    | 7, hq => cases hq; exact h7
    | k + 8, hq => simp [vwCl] at hq
  · intro k q hq
    match k, hq with
    | 0, hq => cases hq; exact ⟨fun n z => ⟨fun k h => (by cases h), kI, f2, pI, f3⟩, f1⟩
    | 1, hq => cases hq; exact ⟨fun n z => ⟨fun k h => (by cases h), kZ, g2, pZ, g3⟩, g1⟩
    | 2, hq => cases hq; exact ⟨fun n z => ⟨fun k h => (by cases h), kT, t3, pT, t4⟩, kT, pT, t3, t4, t1, t5⟩
    | 3, hq => cases hq; exact ⟨fun n z => ⟨fun k h => (by cases h), kL, l3, pL, l4⟩, kL, pL, l3, l4, l1, l5⟩
    | k + 4, hq => simp at hq
theorem st_start {s : State} {args : Array Value} {A : Nat → Prop} (h : ∀ w ∈ lw_tbl, w.before args s = true) (hgv : (Jvm.Cond.and given_1 narrow_1).before args s = true) (hA : ∀ a : Nat, a < s.heap.size → ¬ A a) : ST A s s.heap := by
  have hs := flat_of_before _ hgv
  have ruFr : ∃ t : Nat, va_Z "CellKeeper" "RULES_AT_FIRST" "[I" (.ref t) A s s.heap ∧ va_T .int t 6 ruF A s s.heap := by
    have e1 : (Cond.arrayOf (.static "CellKeeper" "RULES_AT_FIRST" "[I") .int).before args s = true := hs _ (by decide +kernel)
    have e2 : (Cond.eq (.length (.static "CellKeeper" "RULES_AT_FIRST" "[I")) (.int 6)).before args s = true := hs _ (by decide +kernel)
    have g0 : (Cond.eq (.elem (.static "CellKeeper" "RULES_AT_FIRST" "[I") (.int 0)) (.int 3)).before args s = true := hs _ (by decide +kernel)
    have g1 : (Cond.eq (.elem (.static "CellKeeper" "RULES_AT_FIRST" "[I") (.int 1)) (.int 2)).before args s = true := hs _ (by decide +kernel)
    have g2 : (Cond.eq (.elem (.static "CellKeeper" "RULES_AT_FIRST" "[I") (.int 2)) (.int 10)).before args s = true := hs _ (by decide +kernel)
    have g3 : (Cond.eq (.elem (.static "CellKeeper" "RULES_AT_FIRST" "[I") (.int 3)) (.int 1)).before args s = true := hs _ (by decide +kernel)
    have g4 : (Cond.eq (.elem (.static "CellKeeper" "RULES_AT_FIRST" "[I") (.int 4)) (.int 1)).before args s = true := hs _ (by decide +kernel)
    have g5 : (Cond.eq (.elem (.static "CellKeeper" "RULES_AT_FIRST" "[I") (.int 5)) (.int 0)).before args s = true := hs _ (by decide +kernel)
    obtain ⟨t, ht, hT⟩ := va_Tof (N := 6) (f := ruF) (A := A) (by decide) e1 (va_eqt e2) (fun j hj => by
      match j, hj with
      | 0, _ => exact va_eqt g0
      | 1, _ => exact va_eqt g1
      | 2, _ => exact va_eqt g2
      | 3, _ => exact va_eqt g3
      | 4, _ => exact va_eqt g4
      | 5, _ => exact va_eqt g5
      | j + 6, hj => omega) hA
    exact ⟨t, va_Zof (h _ (LT_t1 210 (by decide +kernel))) (h _ (LT_t1 1 (by decide +kernel))) ht hA, hT⟩
  have ruMr : ∃ t : Nat, va_Z "CellKeeper" "RULES_AT_MOST" "[I" (.ref t) A s s.heap ∧ va_T .int t 6 ruM A s s.heap := by
    have e1 : (Cond.arrayOf (.static "CellKeeper" "RULES_AT_MOST" "[I") .int).before args s = true := hs _ (by decide +kernel)
    have e2 : (Cond.eq (.length (.static "CellKeeper" "RULES_AT_MOST" "[I")) (.int 6)).before args s = true := hs _ (by decide +kernel)
    have g0 : (Cond.eq (.elem (.static "CellKeeper" "RULES_AT_MOST" "[I") (.int 0)) (.int 100)).before args s = true := hs _ (by decide +kernel)
    have g1 : (Cond.eq (.elem (.static "CellKeeper" "RULES_AT_MOST" "[I") (.int 1)) (.int 6)).before args s = true := hs _ (by decide +kernel)
    have g2 : (Cond.eq (.elem (.static "CellKeeper" "RULES_AT_MOST" "[I") (.int 2)) (.int 100)).before args s = true := hs _ (by decide +kernel)
    have g3 : (Cond.eq (.elem (.static "CellKeeper" "RULES_AT_MOST" "[I") (.int 3)) (.int 1000000)).before args s = true := hs _ (by decide +kernel)
    have g4 : (Cond.eq (.elem (.static "CellKeeper" "RULES_AT_MOST" "[I") (.int 4)) (.int 1000000)).before args s = true := hs _ (by decide +kernel)
    have g5 : (Cond.eq (.elem (.static "CellKeeper" "RULES_AT_MOST" "[I") (.int 5)) (.int 1)).before args s = true := hs _ (by decide +kernel)
    obtain ⟨t, ht, hT⟩ := va_Tof (N := 6) (f := ruM) (A := A) (by decide) e1 (va_eqt e2) (fun j hj => by
      match j, hj with
      | 0, _ => exact va_eqt g0
      | 1, _ => exact va_eqt g1
      | 2, _ => exact va_eqt g2
      | 3, _ => exact va_eqt g3
      | 4, _ => exact va_eqt g4
      | 5, _ => exact va_eqt g5
      | j + 6, hj => omega) hA
    exact ⟨t, va_Zof (h _ (LT_t2 95 (by decide +kernel))) (h _ (LT_t1 1 (by decide +kernel))) ht hA, hT⟩
  exact ⟨ruFr, ruMr⟩
