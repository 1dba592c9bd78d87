set_option maxRecDepth 20000 in
theorem inX6 : ∀ w ∈ u_ws RX6 TX6 10, w ∈ TB := by
  intro w hw
  obtain ⟨k, hk, rfl⟩ := List.mem_map.mp hw
  have hk := List.mem_range.mp hk
  match k, hk with
  | 0, _ => exact TB_t2 32 (by decide +kernel) (by decide +kernel)
  | 1, _ => exact TB_t2 34 (by decide +kernel) (by decide +kernel)
  | 2, _ => exact TB_t2 36 (by decide +kernel) (by decide +kernel)
  | 3, _ => exact TB_t2 38 (by decide +kernel) (by decide +kernel)
  | 4, _ => exact TB_t2 40 (by decide +kernel) (by decide +kernel)
  | 5, _ => exact TB_t2 42 (by decide +kernel) (by decide +kernel)
  | 6, _ => exact TB_t2 44 (by decide +kernel) (by decide +kernel)
  | 7, _ => exact TB_t2 46 (by decide +kernel) (by decide +kernel)
  | 8, _ => exact TB_t2 48 (by decide +kernel) (by decide +kernel)
  | 9, _ => exact TB_t2 50 (by decide +kernel) (by decide +kernel)
  | k + 10, hk => exact absurd hk (by omega)
theorem mf_X6_9 : Cond.fieldLink RX6 9 "CellKeeper" "status" "I" ∈ TB := TB_t2 22 (by decide +kernel) rfl
theorem mf_X6_15 : Cond.fieldLink RX6 15 "CellKeeper" "tables" "[LCellKeeper$Table;" ∈ TB := TB_t2 23 (by decide +kernel) rfl
set_option maxRecDepth 20000 in
theorem inX4 : ∀ w ∈ u_ws RX4 TX4 12, w ∈ TB := by
  intro w hw
  obtain ⟨k, hk, rfl⟩ := List.mem_map.mp hw
  have hk := List.mem_range.mp hk
  match k, hk with
  | 0, _ => exact TB_t1 237 (by decide +kernel) (by decide +kernel)
  | 1, _ => exact TB_t1 239 (by decide +kernel) (by decide +kernel)
  | 2, _ => exact TB_t2 1 (by decide +kernel) (by decide +kernel)
  | 3, _ => exact TB_t2 3 (by decide +kernel) (by decide +kernel)
  | 4, _ => exact TB_t2 5 (by decide +kernel) (by decide +kernel)
  | 5, _ => exact TB_t2 7 (by decide +kernel) (by decide +kernel)
  | 6, _ => exact TB_t2 9 (by decide +kernel) (by decide +kernel)
  | 7, _ => exact TB_t2 11 (by decide +kernel) (by decide +kernel)
  | 8, _ => exact TB_t2 13 (by decide +kernel) (by decide +kernel)
  | 9, _ => exact TB_t2 15 (by decide +kernel) (by decide +kernel)
  | 10, _ => exact TB_t2 17 (by decide +kernel) (by decide +kernel)
  | 11, _ => exact TB_t2 19 (by decide +kernel) (by decide +kernel)
  | k + 12, hk => exact absurd hk (by omega)
theorem mf_X6_61 : Cond.fieldLink RX6 61 "CellKeeper$Table" "isOpen" "Z" ∈ TB := TB_t1 212 (by decide +kernel) rfl
set_option maxRecDepth 20000 in
theorem inX7 : ∀ w ∈ u_ws RX7 TX7 43, w ∈ TB := by
  intro w hw
  obtain ⟨k, hk, rfl⟩ := List.mem_map.mp hw
  have hk := List.mem_range.mp hk
  match k, hk with
  | 0, _ => exact TB_t4 143 (by decide +kernel) (by decide +kernel)
  | 1, _ => exact TB_t4 145 (by decide +kernel) (by decide +kernel)
  | 2, _ => exact TB_t4 147 (by decide +kernel) (by decide +kernel)
  | 3, _ => exact TB_t4 149 (by decide +kernel) (by decide +kernel)
  | 4, _ => exact TB_t4 151 (by decide +kernel) (by decide +kernel)
  | 5, _ => exact TB_t4 153 (by decide +kernel) (by decide +kernel)
  | 6, _ => exact TB_t4 155 (by decide +kernel) (by decide +kernel)
  | 7, _ => exact TB_t4 157 (by decide +kernel) (by decide +kernel)
  | 8, _ => exact TB_t4 159 (by decide +kernel) (by decide +kernel)
  | 9, _ => exact TB_t4 161 (by decide +kernel) (by decide +kernel)
  | 10, _ => exact TB_t4 163 (by decide +kernel) (by decide +kernel)
  | 11, _ => exact TB_t4 165 (by decide +kernel) (by decide +kernel)
  | 12, _ => exact TB_t4 167 (by decide +kernel) (by decide +kernel)
  | 13, _ => exact TB_t4 169 (by decide +kernel) (by decide +kernel)
  | 14, _ => exact TB_t4 171 (by decide +kernel) (by decide +kernel)
  | 15, _ => exact TB_t4 173 (by decide +kernel) (by decide +kernel)
  | 16, _ => exact TB_t4 175 (by decide +kernel) (by decide +kernel)
  | 17, _ => exact TB_t4 177 (by decide +kernel) (by decide +kernel)
  | 18, _ => exact TB_t4 179 (by decide +kernel) (by decide +kernel)
  | 19, _ => exact TB_t4 181 (by decide +kernel) (by decide +kernel)
  | 20, _ => exact TB_t4 183 (by decide +kernel) (by decide +kernel)
  | 21, _ => exact TB_t4 185 (by decide +kernel) (by decide +kernel)
  | 22, _ => exact TB_t4 187 (by decide +kernel) (by decide +kernel)
  | 23, _ => exact TB_t4 189 (by decide +kernel) (by decide +kernel)
  | 24, _ => exact TB_t4 191 (by decide +kernel) (by decide +kernel)
  | 25, _ => exact TB_t4 193 (by decide +kernel) (by decide +kernel)
  | 26, _ => exact TB_t4 195 (by decide +kernel) (by decide +kernel)
  | 27, _ => exact TB_t4 197 (by decide +kernel) (by decide +kernel)
  | 28, _ => exact TB_t4 199 (by decide +kernel) (by decide +kernel)
  | 29, _ => exact TB_t4 201 (by decide +kernel) (by decide +kernel)
  | 30, _ => exact TB_t4 203 (by decide +kernel) (by decide +kernel)
  | 31, _ => exact TB_t4 205 (by decide +kernel) (by decide +kernel)
  | 32, _ => exact TB_t4 207 (by decide +kernel) (by decide +kernel)
  | 33, _ => exact TB_t4 209 (by decide +kernel) (by decide +kernel)
  | 34, _ => exact TB_t4 211 (by decide +kernel) (by decide +kernel)
  | 35, _ => exact TB_t4 213 (by decide +kernel) (by decide +kernel)
  | 36, _ => exact TB_t4 215 (by decide +kernel) (by decide +kernel)
  | 37, _ => exact TB_t4 217 (by decide +kernel) (by decide +kernel)
  | 38, _ => exact TB_t4 219 (by decide +kernel) (by decide +kernel)
  | 39, _ => exact TB_t4 221 (by decide +kernel) (by decide +kernel)
  | 40, _ => exact TB_t4 223 (by decide +kernel) (by decide +kernel)
  | 41, _ => exact TB_t4 225 (by decide +kernel) (by decide +kernel)
  | 42, _ => exact TB_t4 227 (by decide +kernel) (by decide +kernel)
  | k + 43, hk => exact absurd hk (by omega)
theorem mf_X7_7 : Cond.fieldLink RX7 7 "CellKeeperModel" "isOpen" "[Z" ∈ TB := TB_t4 101 (by decide +kernel) rfl
theorem mf_X7_116 : Cond.fieldLink RX7 116 "CellKeeperModel" "status" "I" ∈ TB := TB_t4 100 (by decide +kernel) rfl
theorem dX6_settled_0 : decode cX6_settled 0 = .ok (.aload_n 0, 1) := by decide +kernel
theorem dX6_settled_1 : decode cX6_settled 1 = .ok (.iload_n 1, 1) := by decide +kernel
theorem dX6_settled_2 : decode cX6_settled 2 = .ok (.putfield 9, 3) := by decide +kernel
theorem dX6_settled_5 : decode cX6_settled 5 = .ok (.iload_n 1, 1) := by decide +kernel
theorem dX6_settled_6 : decode cX6_settled 6 = .ok (.ifCond .ne 7, 3) := by decide +kernel
theorem dX6_settled_13 : decode cX6_settled 13 = .ok (.iconst 0, 1) := by decide +kernel
theorem dX6_settled_14 : decode cX6_settled 14 = .ok (.ireturn, 1) := by decide +kernel
theorem dX6_settled_9 : decode cX6_settled 9 = .ok (.iconst 1, 1) := by decide +kernel
theorem dX6_settled_10 : decode cX6_settled 10 = .ok (.goto 4, 3) := by decide +kernel
theorem dX6_refused_0 : decode cX6_refused 0 = .ok (.aload_n 0, 1) := by decide +kernel
theorem dX6_refused_1 : decode cX6_refused 1 = .ok (.iload_n 1, 1) := by decide +kernel
theorem dX6_refused_2 : decode cX6_refused 2 = .ok (.putfield 9, 3) := by decide +kernel
theorem dX6_refused_5 : decode cX6_refused 5 = .ok (.iconst (-1), 1) := by decide +kernel
theorem dX6_refused_6 : decode cX6_refused 6 = .ok (.ireturn, 1) := by decide +kernel
theorem dX6_tableStatus_0 : decode cX6_tableStatus 0 = .ok (.iload_n 1, 1) := by decide +kernel
theorem dX6_tableStatus_1 : decode cX6_tableStatus 1 = .ok (.ifCond .lt 25, 3) := by decide +kernel
theorem dX6_tableStatus_26 : decode cX6_tableStatus 26 = .ok (.iconst 1, 1) := by decide +kernel
theorem dX6_tableStatus_27 : decode cX6_tableStatus 27 = .ok (.ireturn, 1) := by decide +kernel
theorem dX6_tableStatus_4 : decode cX6_tableStatus 4 = .ok (.iload_n 1, 1) := by decide +kernel
theorem dX6_tableStatus_5 : decode cX6_tableStatus 5 = .ok (.bipush 6, 2) := by decide +kernel
theorem dX6_tableStatus_7 : decode cX6_tableStatus 7 = .ok (.if_icmp .ge 19, 3) := by decide +kernel
theorem dX6_tableStatus_10 : decode cX6_tableStatus 10 = .ok (.aload_n 0, 1) := by decide +kernel
theorem dX6_tableStatus_11 : decode cX6_tableStatus 11 = .ok (.getfield 15, 3) := by decide +kernel
theorem dX6_tableStatus_14 : decode cX6_tableStatus 14 = .ok (.iload_n 1, 1) := by decide +kernel
theorem dX6_tableStatus_15 : decode cX6_tableStatus 15 = .ok (.aaload, 1) := by decide +kernel
theorem dX6_tableStatus_16 : decode cX6_tableStatus 16 = .ok (.getfield 61, 3) := by decide +kernel
theorem dX6_tableStatus_19 : decode cX6_tableStatus 19 = .ok (.ifCond .eq 7, 3) := by decide +kernel
theorem dX6_tableStatus_22 : decode cX6_tableStatus 22 = .ok (.iconst 0, 1) := by decide +kernel
theorem dX6_tableStatus_23 : decode cX6_tableStatus 23 = .ok (.goto 4, 3) := by decide +kernel
theorem dX7_isTable_0 : decode cX7_isTable 0 = .ok (.iload_n 1, 1) := by decide +kernel
theorem dX7_isTable_1 : decode cX7_isTable 1 = .ok (.ifCond .lt 22, 3) := by decide +kernel
theorem dX7_isTable_23 : decode cX7_isTable 23 = .ok (.iconst 0, 1) := by decide +kernel
theorem dX7_isTable_24 : decode cX7_isTable 24 = .ok (.ireturn, 1) := by decide +kernel
theorem dX7_isTable_4 : decode cX7_isTable 4 = .ok (.iload_n 1, 1) := by decide +kernel
theorem dX7_isTable_5 : decode cX7_isTable 5 = .ok (.bipush 6, 2) := by decide +kernel
theorem dX7_isTable_7 : decode cX7_isTable 7 = .ok (.if_icmp .ge 16, 3) := by decide +kernel
theorem dX7_isTable_10 : decode cX7_isTable 10 = .ok (.aload_n 0, 1) := by decide +kernel
theorem dX7_isTable_11 : decode cX7_isTable 11 = .ok (.getfield 7, 3) := by decide +kernel
theorem dX7_isTable_14 : decode cX7_isTable 14 = .ok (.iload_n 1, 1) := by decide +kernel
theorem dX7_isTable_15 : decode cX7_isTable 15 = .ok (.baload, 1) := by decide +kernel
theorem dX7_isTable_16 : decode cX7_isTable 16 = .ok (.ifCond .eq 7, 3) := by decide +kernel
theorem dX7_isTable_19 : decode cX7_isTable 19 = .ok (.iconst 1, 1) := by decide +kernel
theorem dX7_isTable_20 : decode cX7_isTable 20 = .ok (.goto 4, 3) := by decide +kernel
theorem dX7_refuse_0 : decode cX7_refuse 0 = .ok (.aload_n 0, 1) := by decide +kernel
theorem dX7_refuse_1 : decode cX7_refuse 1 = .ok (.iload_n 1, 1) := by decide +kernel
theorem dX7_refuse_2 : decode cX7_refuse 2 = .ok (.putfield 116, 3) := by decide +kernel
theorem dX7_refuse_5 : decode cX7_refuse 5 = .ok (.iconst 0, 1) := by decide +kernel
theorem dX7_refuse_6 : decode cX7_refuse 6 = .ok (.ireturn, 1) := by decide +kernel
theorem dX7_good_0 : decode cX7_good 0 = .ok (.aload_n 0, 1) := by decide +kernel
theorem dX7_good_1 : decode cX7_good 1 = .ok (.iconst 0, 1) := by decide +kernel
theorem dX7_good_2 : decode cX7_good 2 = .ok (.putfield 116, 3) := by decide +kernel
theorem dX7_good_5 : decode cX7_good 5 = .ok (.iconst 1, 1) := by decide +kernel
theorem dX7_good_6 : decode cX7_good 6 = .ok (.ireturn, 1) := by decide +kernel
/-! the worlds of a fresh object: xW the class's, mW the reference's -/
abbrev xW (G : GG) (x : Nat) (a : Nat → Nat) (ad : Nat → Nat → Nat) (tf : Nat → Nat → Int32) (st cn gv : Int32) : va_W := [(x, .inr (6, [.int st, .ref (a 1), .ref (a 2), .ref (a 3), .ref (a 4), .ref (a 5), .ref (a 6), .int cn, .ref (a 8), .int gv])), ((a 1), .inl (G.2.2.2.1, 6, .inr (.inr (.inr (.inr (fun j => some (ad j 0))))))), ((ad 0 0), .inr (4, [.int (tf 0 0), .int (tf 0 1), .int (tf 0 2), .int (tf 0 3), .ref (ad 0 4), .ref (ad 0 5), .ref (ad 0 6), .ref (ad 0 7), .ref (ad 0 8), .ref (ad 0 9), .ref (ad 0 10), .ref (ad 0 11)])), ((ad 1 0), .inr (4, [.int (tf 1 0), .int (tf 1 1), .int (tf 1 2), .int (tf 1 3), .ref (ad 1 4), .ref (ad 1 5), .ref (ad 1 6), .ref (ad 1 7), .ref (ad 1 8), .ref (ad 1 9), .ref (ad 1 10), .ref (ad 1 11)])), ((ad 2 0), .inr (4, [.int (tf 2 0), .int (tf 2 1), .int (tf 2 2), .int (tf 2 3), .ref (ad 2 4), .ref (ad 2 5), .ref (ad 2 6), .ref (ad 2 7), .ref (ad 2 8), .ref (ad 2 9), .ref (ad 2 10), .ref (ad 2 11)])), ((ad 3 0), .inr (4, [.int (tf 3 0), .int (tf 3 1), .int (tf 3 2), .int (tf 3 3), .ref (ad 3 4), .ref (ad 3 5), .ref (ad 3 6), .ref (ad 3 7), .ref (ad 3 8), .ref (ad 3 9), .ref (ad 3 10), .ref (ad 3 11)])), ((ad 4 0), .inr (4, [.int (tf 4 0), .int (tf 4 1), .int (tf 4 2), .int (tf 4 3), .ref (ad 4 4), .ref (ad 4 5), .ref (ad 4 6), .ref (ad 4 7), .ref (ad 4 8), .ref (ad 4 9), .ref (ad 4 10), .ref (ad 4 11)])), ((ad 5 0), .inr (4, [.int (tf 5 0), .int (tf 5 1), .int (tf 5 2), .int (tf 5 3), .ref (ad 5 4), .ref (ad 5 5), .ref (ad 5 6), .ref (ad 5 7), .ref (ad 5 8), .ref (ad 5 9), .ref (ad 5 10), .ref (ad 5 11)]))]
abbrev mO (y : Nat) (b : Nat → Nat) (mf : Nat → Int32) : Nat × va_E := (y, .inr (7, [.int (mf 0), .ref (b 1), .ref (b 2), .ref (b 3), .ref (b 4), .ref (b 5), .ref (b 6), .ref (b 7), .ref (b 8), .ref (b 9), .ref (b 10), .ref (b 11), .ref (b 12), .ref (b 13), .ref (b 14), .ref (b 15), .ref (b 16), .ref (b 17), .ref (b 18), .ref (b 19), .int (mf 20), .int (mf 21), .ref (b 22), .ref (b 23), .ref (b 24), .ref (b 25), .ref (b 26), .int (mf 27), .int (mf 28), .ref (b 29), .ref (b 30), .ref (b 31), .ref (b 32), .ref (b 33), .int (mf 34), .int (mf 35), .ref (b 36), .ref (b 37), .ref (b 38), .ref (b 39), .ref (b 40), .ref (b 41), .int (mf 42)]))
abbrev mW (G : GG) (y : Nat) (b : Nat → Nat) (mf : Nat → Int32) (op : Nat → Int32) : va_W := [mO y b mf, (b 1, .inl (G.2.2.1, 6, .inl op))]
theorem xW_t (G : GG) (x : Nat) (a : Nat → Nat) (ad : Nat → Nat → Nat) (tf : Nat → Nat → Int32) (st cn gv : Int32) {j : Nat} (hj : j < 6) : (xW G x a ad tf st cn gv)[2 + j]? = some ((ad j 0), .inr (4, [.int (tf j 0), .int (tf j 1), .int (tf j 2), .int (tf j 3), .ref (ad j 4), .ref (ad j 5), .ref (ad j 6), .ref (ad j 7), .ref (ad j 8), .ref (ad j 9), .ref (ad j 10), .ref (ad j 11)])) := by
  rcases (show j = 0 ∨ j = 1 ∨ j = 2 ∨ j = 3 ∨ j = 4 ∨ j = 5 by omega) with rfl | rfl | rfl | rfl | rfl | rfl <;> rfl
theorem ts_one {tf : Nat → Nat → Int32} {t r : Int32} (h : (∃ j, j < 6 ∧ t = nI j ∧ ¬ tf j 0 = 0 ∧ r = 0) ∨ (r = 1 ∧ ∀ j, j < 6 → t = nI j → tf j 0 = 0)) (hcl : ∀ j, j < 6 → tf j 0 = 0) : r = 1 := h.elim (fun ⟨j, hj, _, hn, _⟩ => absurd (hcl j hj) hn) (fun h => h.1)
theorem it_zero {op : Nat → Int32} {t r : Int32} (h : (∃ j, j < 6 ∧ t = nI j ∧ ¬ op j = 0 ∧ r = 1) ∨ (r = 0 ∧ ∀ j, j < 6 → t = nI j → op j = 0)) (hcl : ∀ j, j < 6 → op j = 0) : r = 0 := h.elim (fun ⟨j, hj, _, hn, _⟩ => absurd (hcl j hj) hn) (fun h => h.1)
set_option maxHeartbeats 4000000 in
set_option maxRecDepth 100000 in
theorem c_X6_settled (l : Launch) (G : GG) (x : Nat) (a : Nat → Nat) (st cn gv v : Int32) : WrI l yX6_settled cX6_settled 2 (some .boolean) ({ frames := 0, cells := 0, slots := 0, locals := 0 }) G ([(x, .inr (6, [.int st, .ref (a 1), .ref (a 2), .ref (a 3), .ref (a 4), .ref (a 5), .ref (a 6), .int cn, .ref (a 8), .int gv]))]) [.ref x, .int v] (fun r w => r = (if v = 0 then 1 else 0) ∧ w = [(x, .inr (6, [.int v, .ref (a 1), .ref (a 2), .ref (a 3), .ref (a 4), .ref (a 5), .ref (a 6), .int cn, .ref (a 8), .int gv]))]) := by
  refine wr_entryI (by decide +kernel) (Nat.le_of_ble_eq_true rfl) ?_
  intro p e s m below meth c A C0 hP hK hD hA ls hl
  have hS : va_S A s.heap s.heap [] := va_S.rf
  obtain ⟨hx, hb, hml, hown, hts, hr, hlocks, hin⟩ := C0
  have hown : s.vm.findClass RX6 = some m.cls := hown
  have hl : lv_has ls 2 [(0, .ref x), (1, .int v)] := hl
  refine lv_aload_n hx hb dX6_settled_0 rfl (lv_at hl 0 rfl) ?_
  refine lv_iload_n hx hb dX6_settled_1 rfl (lv_at hl 1 rfl) ?_
  refine va_put (D := G.1) (ci := 6) (v := .int v) (C := RX6) (T := TX6) (N := 10) hx hb hts inX6 tyX6 tyX6_ok nmX6 hown hK.1 hP hD hS 0 rfl rfl 0 (by decide) (hts _ mf_X6_9) (fun _ h9 => h9) rfl (tyX6_ok 0 (by decide)) (rfl) (rfl) (Nat.le_of_ble_eq_true rfl) dX6_settled_2 (fun H locs hP hD hS => ?_)
  have hP : PP G [(x, .inr (6, [.int v, .ref (a 1), .ref (a 2), .ref (a 3), .ref (a 4), .ref (a 5), .ref (a 6), .int cn, .ref (a 8), .int gv]))] H := hP
  have hD : va_D A [(x, .inr (6, [.int v, .ref (a 1), .ref (a 2), .ref (a 3), .ref (a 4), .ref (a 5), .ref (a 6), .int cn, .ref (a 8), .int gv]))] := hD
  refine lv_iload_n hx hb dX6_settled_5 rfl (lv_at hl 1 rfl) ?_
  refine lv_if_ne (tgt := 13) hx hb dX6_settled_6 (by decide) (fun c1 => ?_) (fun c1 => ?_)
  · refine lv_iconst (v := 0) hx hb dX6_settled_13 (by decide) ?_
    exact wr_zret hx hb hr hlocks (Or.inl rfl) hS hP ⟨by rw [if_neg c1], rfl⟩ dX6_settled_14
  · refine lv_iconst (v := 1) hx hb dX6_settled_9 (by decide) ?_
    refine lv_goto (tgt := 14) hx hb dX6_settled_10 (by decide) ?_
    exact wr_zret hx hb hr hlocks (Or.inr rfl) hS hP ⟨by rw [if_pos c1], rfl⟩ dX6_settled_14
set_option maxHeartbeats 4000000 in
set_option maxRecDepth 100000 in
theorem c_X6_refused (l : Launch) (G : GG) (x : Nat) (a : Nat → Nat) (st cn gv v : Int32) : WrI l yX6_refused cX6_refused 2 (some .int) ({ frames := 0, cells := 0, slots := 0, locals := 0 }) G ([(x, .inr (6, [.int st, .ref (a 1), .ref (a 2), .ref (a 3), .ref (a 4), .ref (a 5), .ref (a 6), .int cn, .ref (a 8), .int gv]))]) [.ref x, .int v] (fun r w => r = -1 ∧ w = [(x, .inr (6, [.int v, .ref (a 1), .ref (a 2), .ref (a 3), .ref (a 4), .ref (a 5), .ref (a 6), .int cn, .ref (a 8), .int gv]))]) := by
  refine wr_entryI (by decide +kernel) (Nat.le_of_ble_eq_true rfl) ?_
  intro p e s m below meth c A C0 hP hK hD hA ls hl
  have hS : va_S A s.heap s.heap [] := va_S.rf
  obtain ⟨hx, hb, hml, hown, hts, hr, hlocks, hin⟩ := C0
  have hown : s.vm.findClass RX6 = some m.cls := hown
  have hl : lv_has ls 2 [(0, .ref x), (1, .int v)] := hl
  refine lv_aload_n hx hb dX6_refused_0 rfl (lv_at hl 0 rfl) ?_
  refine lv_iload_n hx hb dX6_refused_1 rfl (lv_at hl 1 rfl) ?_
  refine va_put (D := G.1) (ci := 6) (v := .int v) (C := RX6) (T := TX6) (N := 10) hx hb hts inX6 tyX6 tyX6_ok nmX6 hown hK.1 hP hD hS 0 rfl rfl 0 (by decide) (hts _ mf_X6_9) (fun _ h9 => h9) rfl (tyX6_ok 0 (by decide)) (rfl) (rfl) (Nat.le_of_ble_eq_true rfl) dX6_refused_2 (fun H locs hP hD hS => ?_)
  have hP : PP G [(x, .inr (6, [.int v, .ref (a 1), .ref (a 2), .ref (a 3), .ref (a 4), .ref (a 5), .ref (a 6), .int cn, .ref (a 8), .int gv]))] H := hP
  have hD : va_D A [(x, .inr (6, [.int v, .ref (a 1), .ref (a 2), .ref (a 3), .ref (a 4), .ref (a 5), .ref (a 6), .int cn, .ref (a 8), .int gv]))] := hD
  refine lv_iconst (v := -1) hx hb dX6_refused_5 (by decide) ?_
  exact wr_iret hx hb hr hlocks hS hP ⟨rfl, rfl⟩ dX6_refused_6
set_option maxHeartbeats 4000000 in
set_option maxRecDepth 100000 in
theorem c_X6_tableStatus (l : Launch) (G : GG) (x : Nat) (a : Nat → Nat) (ad : Nat → Nat → Nat) (tf : Nat → Nat → Int32) (st cn gv : Int32) (t : Int32) : RdI l yX6_tableStatus cX6_tableStatus 2 (some .int) ({ frames := 0, cells := 0, slots := 0, locals := 0 }) G (xW G x a ad tf st cn gv) [.ref x, .int t] (fun r => (∃ j, j < 6 ∧ t = nI j ∧ ¬ tf j 0 = 0 ∧ r = 0) ∨ (r = 1 ∧ ∀ j, j < 6 → t = nI j → tf j 0 = 0)) := by
  refine rd_entry (by decide +kernel) (Nat.le_of_ble_eq_true rfl) ?_
  intro p e s m below meth c C0 hP hK ls hl
  have hS : va_S (fun q => s.heap.size ≤ q) s.heap s.heap [] := va_S.rf
  have hA : ∀ q, s.heap.size ≤ q → (fun q => s.heap.size ≤ q) q := fun _ h => h
  obtain ⟨hx, hb, hml, hown, hts, hr, hlocks, hin⟩ := C0
  have hown : s.vm.findClass RX6 = some m.cls := hown
  have hl : lv_has ls 2 [(0, .ref x), (1, .int t)] := hl
  refine lv_iload_n hx hb dX6_tableStatus_0 rfl (lv_at hl 1 rfl) ?_
  refine lv_if_lt (tgt := 26) hx hb dX6_tableStatus_1 (by decide) (fun c1 => ?_) (fun c1 => ?_)
  · refine lv_iconst (v := 1) hx hb dX6_tableStatus_26 (by decide) ?_
    exact rd_iret hx hb hr hlocks hS (Or.inr ⟨rfl, fun j hj e => absurd (e ▸ c1) (nI_pos (by omega))⟩) dX6_tableStatus_27
  · refine lv_iload_n hx hb dX6_tableStatus_4 rfl (lv_at hl 1 rfl) ?_
    refine lv_bipush (v := 6) hx hb dX6_tableStatus_5 (by decide) ?_
    refine lv_icmp_ge (tgt := 26) hx hb dX6_tableStatus_7 (by decide) (fun c2 => ?_) (fun c2 => ?_)
    · refine lv_iconst (v := 1) hx hb dX6_tableStatus_26 (by decide) ?_
      exact rd_iret hx hb hr hlocks hS (Or.inr ⟨rfl, fun j hj e => absurd (e ▸ c2) (nI_ge hj (by decide))⟩) dX6_tableStatus_27
    · refine lv_aload_n hx hb dX6_tableStatus_10 rfl (lv_at hl 0 rfl) ?_
      refine va_get (D := G.1) (ci := 6) (v := .ref (a 1)) (C := RX6) (T := TX6) (N := 10) hx hb hts inX6 hown hK.1 hP 0 rfl rfl 1 (by decide) (hts _ mf_X6_15) (fun _ h9 => h9) rfl dX6_tableStatus_11 ?_
      refine lv_iload_n hx hb dX6_tableStatus_14 rfl (lv_at hl 1 rfl) ?_
      obtain ⟨j, hj, rfl⟩ := lt_ix (x := t) (n := 6) (by decide) c1 c2
      refine xaldT hx hb hK hP 1 j (b := ad j 0) rfl hj (by decide) rfl rfl dX6_tableStatus_15 ?_
      refine va_get (D := G.1) (ci := 4) (v := .int (tf j 0)) (C := RX4) (T := TX4) (N := 12) hx hb hts inX4 hown hK.1 hP (2 + j) (xW_t G x a ad tf st cn gv hj) rfl 0 (by decide) (hts _ mf_X6_61) (fun _ h9 => h9) rfl dX6_tableStatus_16 ?_
      refine lv_if_eq (tgt := 26) hx hb dX6_tableStatus_19 (by decide) (fun c3 => ?_) (fun c3 => ?_)
      · refine lv_iconst (v := 1) hx hb dX6_tableStatus_26 (by decide) ?_
        exact rd_iret hx hb hr hlocks hS (Or.inr ⟨rfl, fun i hi e => by have := (nI_eq (by omega) (by omega)).mp e; subst this; exact c3⟩) dX6_tableStatus_27
      · refine lv_iconst (v := 0) hx hb dX6_tableStatus_22 (by decide) ?_
        refine lv_goto (tgt := 27) hx hb dX6_tableStatus_23 (by decide) ?_
        exact rd_iret hx hb hr hlocks hS (Or.inl ⟨j, hj, rfl, c3, rfl⟩) dX6_tableStatus_27
set_option maxHeartbeats 4000000 in
set_option maxRecDepth 100000 in
theorem c_X7_isTable (l : Launch) (G : GG) (y : Nat) (b : Nat → Nat) (mf op : Nat → Int32) (t : Int32) : RdI l yX7_isTable cX7_isTable 2 (some .boolean) ({ frames := 0, cells := 0, slots := 0, locals := 0 }) G (mW G y b mf op) [.ref y, .int t] (fun r => (∃ j, j < 6 ∧ t = nI j ∧ ¬ op j = 0 ∧ r = 1) ∨ (r = 0 ∧ ∀ j, j < 6 → t = nI j → op j = 0)) := by
  refine rd_entry (by decide +kernel) (Nat.le_of_ble_eq_true rfl) ?_
  intro p e s m below meth c C0 hP hK ls hl
  have hS : va_S (fun q => s.heap.size ≤ q) s.heap s.heap [] := va_S.rf
  have hA : ∀ q, s.heap.size ≤ q → (fun q => s.heap.size ≤ q) q := fun _ h => h
  obtain ⟨hx, hb, hml, hown, hts, hr, hlocks, hin⟩ := C0
  have hown : s.vm.findClass RX7 = some m.cls := hown
  have hl : lv_has ls 2 [(0, .ref y), (1, .int t)] := hl
  refine lv_iload_n hx hb dX7_isTable_0 rfl (lv_at hl 1 rfl) ?_
  refine lv_if_lt (tgt := 23) hx hb dX7_isTable_1 (by decide) (fun c1 => ?_) (fun c1 => ?_)
  · refine lv_iconst (v := 0) hx hb dX7_isTable_23 (by decide) ?_
    exact rd_zret hx hb hr hlocks (Or.inl rfl) hS (Or.inr ⟨rfl, fun j hj e => absurd (e ▸ c1) (nI_pos (by omega))⟩) dX7_isTable_24
  · refine lv_iload_n hx hb dX7_isTable_4 rfl (lv_at hl 1 rfl) ?_
    refine lv_bipush (v := 6) hx hb dX7_isTable_5 (by decide) ?_
    refine lv_icmp_ge (tgt := 23) hx hb dX7_isTable_7 (by decide) (fun c2 => ?_) (fun c2 => ?_)
    · refine lv_iconst (v := 0) hx hb dX7_isTable_23 (by decide) ?_
      exact rd_zret hx hb hr hlocks (Or.inl rfl) hS (Or.inr ⟨rfl, fun j hj e => absurd (e ▸ c2) (nI_ge hj (by decide))⟩) dX7_isTable_24
    · refine lv_aload_n hx hb dX7_isTable_10 rfl (lv_at hl 0 rfl) ?_
      refine va_get (D := G.1) (ci := 7) (v := .ref (b 1)) (C := RX7) (T := TX7) (N := 43) hx hb hts inX7 hown hK.1 hP 0 rfl rfl 1 (by decide) (hts _ mf_X7_7) (fun _ h9 => h9) rfl dX7_isTable_11 ?_
      refine lv_iload_n hx hb dX7_isTable_14 rfl (lv_at hl 1 rfl) ?_
      obtain ⟨j, hj, rfl⟩ := lt_ix (x := t) (n := 6) (by decide) c1 c2
      refine xzald hx hb hK hP 1 j rfl hj (by decide) rfl dX7_isTable_15 ?_
      refine lv_if_eq (tgt := 23) hx hb dX7_isTable_16 (by decide) (fun c3 => ?_) (fun c3 => ?_)
      · refine lv_iconst (v := 0) hx hb dX7_isTable_23 (by decide) ?_
        exact rd_zret hx hb hr hlocks (Or.inl rfl) hS (Or.inr ⟨rfl, fun i hi e => by have := (nI_eq (by omega) (by omega)).mp e; subst this; exact c3⟩) dX7_isTable_24
      · refine lv_iconst (v := 1) hx hb dX7_isTable_19 (by decide) ?_
        refine lv_goto (tgt := 24) hx hb dX7_isTable_20 (by decide) ?_
        exact rd_zret hx hb hr hlocks (Or.inr rfl) hS (Or.inl ⟨j, hj, rfl, c3, rfl⟩) dX7_isTable_24
set_option maxHeartbeats 4000000 in
set_option maxRecDepth 100000 in
theorem c_X7_refuse (l : Launch) (G : GG) (y : Nat) (b : Nat → Nat) (mf : Nat → Int32) (v : Int32) : WrI l yX7_refuse cX7_refuse 2 (some .boolean) ({ frames := 0, cells := 0, slots := 0, locals := 0 }) G ([mO y b mf]) [.ref y, .int v] (fun r w => r = 0 ∧ w = [(y, .inr (7, [.int v, .ref (b 1), .ref (b 2), .ref (b 3), .ref (b 4), .ref (b 5), .ref (b 6), .ref (b 7), .ref (b 8), .ref (b 9), .ref (b 10), .ref (b 11), .ref (b 12), .ref (b 13), .ref (b 14), .ref (b 15), .ref (b 16), .ref (b 17), .ref (b 18), .ref (b 19), .int (mf 20), .int (mf 21), .ref (b 22), .ref (b 23), .ref (b 24), .ref (b 25), .ref (b 26), .int (mf 27), .int (mf 28), .ref (b 29), .ref (b 30), .ref (b 31), .ref (b 32), .ref (b 33), .int (mf 34), .int (mf 35), .ref (b 36), .ref (b 37), .ref (b 38), .ref (b 39), .ref (b 40), .ref (b 41), .int (mf 42)]))]) := by
  refine wr_entryI (by decide +kernel) (Nat.le_of_ble_eq_true rfl) ?_
  intro p e s m below meth c A C0 hP hK hD hA ls hl
  have hS : va_S A s.heap s.heap [] := va_S.rf
  obtain ⟨hx, hb, hml, hown, hts, hr, hlocks, hin⟩ := C0
  have hown : s.vm.findClass RX7 = some m.cls := hown
  have hl : lv_has ls 2 [(0, .ref y), (1, .int v)] := hl
  refine lv_aload_n hx hb dX7_refuse_0 rfl (lv_at hl 0 rfl) ?_
  refine lv_iload_n hx hb dX7_refuse_1 rfl (lv_at hl 1 rfl) ?_
  refine va_put (D := G.1) (ci := 7) (v := .int v) (C := RX7) (T := TX7) (N := 43) hx hb hts inX7 tyX7 tyX7_ok nmX7 hown hK.1 hP hD hS 0 rfl rfl 0 (by decide) (hts _ mf_X7_116) (fun _ h9 => h9) rfl (tyX7_ok 0 (by decide)) (rfl) (rfl) (Nat.le_of_ble_eq_true rfl) dX7_refuse_2 (fun H locs hP hD hS => ?_)
  have hP : PP G [(y, .inr (7, [.int v, .ref (b 1), .ref (b 2), .ref (b 3), .ref (b 4), .ref (b 5), .ref (b 6), .ref (b 7), .ref (b 8), .ref (b 9), .ref (b 10), .ref (b 11), .ref (b 12), .ref (b 13), .ref (b 14), .ref (b 15), .ref (b 16), .ref (b 17), .ref (b 18), .ref (b 19), .int (mf 20), .int (mf 21), .ref (b 22), .ref (b 23), .ref (b 24), .ref (b 25), .ref (b 26), .int (mf 27), .int (mf 28), .ref (b 29), .ref (b 30), .ref (b 31), .ref (b 32), .ref (b 33), .int (mf 34), .int (mf 35), .ref (b 36), .ref (b 37), .ref (b 38), .ref (b 39), .ref (b 40), .ref (b 41), .int (mf 42)]))] H := hP
  have hD : va_D A [(y, .inr (7, [.int v, .ref (b 1), .ref (b 2), .ref (b 3), .ref (b 4), .ref (b 5), .ref (b 6), .ref (b 7), .ref (b 8), .ref (b 9), .ref (b 10), .ref (b 11), .ref (b 12), .ref (b 13), .ref (b 14), .ref (b 15), .ref (b 16), .ref (b 17), .ref (b 18), .ref (b 19), .int (mf 20), .int (mf 21), .ref (b 22), .ref (b 23), .ref (b 24), .ref (b 25), .ref (b 26), .int (mf 27), .int (mf 28), .ref (b 29), .ref (b 30), .ref (b 31), .ref (b 32), .ref (b 33), .int (mf 34), .int (mf 35), .ref (b 36), .ref (b 37), .ref (b 38), .ref (b 39), .ref (b 40), .ref (b 41), .int (mf 42)]))] := hD
  refine lv_iconst (v := 0) hx hb dX7_refuse_5 (by decide) ?_
  exact wr_zret hx hb hr hlocks (Or.inl rfl) hS hP ⟨rfl, rfl⟩ dX7_refuse_6
set_option maxHeartbeats 4000000 in
set_option maxRecDepth 100000 in
theorem c_X7_good (l : Launch) (G : GG) (y : Nat) (b : Nat → Nat) (mf : Nat → Int32) : WrI l yX7_good cX7_good 1 (some .boolean) ({ frames := 0, cells := 0, slots := 0, locals := 0 }) G ([mO y b mf]) [.ref y] (fun r w => r = 1 ∧ w = [(y, .inr (7, [.int 0, .ref (b 1), .ref (b 2), .ref (b 3), .ref (b 4), .ref (b 5), .ref (b 6), .ref (b 7), .ref (b 8), .ref (b 9), .ref (b 10), .ref (b 11), .ref (b 12), .ref (b 13), .ref (b 14), .ref (b 15), .ref (b 16), .ref (b 17), .ref (b 18), .ref (b 19), .int (mf 20), .int (mf 21), .ref (b 22), .ref (b 23), .ref (b 24), .ref (b 25), .ref (b 26), .int (mf 27), .int (mf 28), .ref (b 29), .ref (b 30), .ref (b 31), .ref (b 32), .ref (b 33), .int (mf 34), .int (mf 35), .ref (b 36), .ref (b 37), .ref (b 38), .ref (b 39), .ref (b 40), .ref (b 41), .int (mf 42)]))]) := by
  refine wr_entryI (by decide +kernel) (Nat.le_of_ble_eq_true rfl) ?_
  intro p e s m below meth c A C0 hP hK hD hA ls hl
  have hS : va_S A s.heap s.heap [] := va_S.rf
  obtain ⟨hx, hb, hml, hown, hts, hr, hlocks, hin⟩ := C0
  have hown : s.vm.findClass RX7 = some m.cls := hown
  have hl : lv_has ls 1 [(0, .ref y)] := hl
  refine lv_aload_n hx hb dX7_good_0 rfl (lv_at hl 0 rfl) ?_
  refine lv_iconst (v := 0) hx hb dX7_good_1 (by decide) ?_
  refine va_put (D := G.1) (ci := 7) (v := .int 0) (C := RX7) (T := TX7) (N := 43) hx hb hts inX7 tyX7 tyX7_ok nmX7 hown hK.1 hP hD hS 0 rfl rfl 0 (by decide) (hts _ mf_X7_116) (fun _ h9 => h9) rfl (tyX7_ok 0 (by decide)) (rfl) (rfl) (Nat.le_of_ble_eq_true rfl) dX7_good_2 (fun H locs hP hD hS => ?_)
  have hP : PP G [(y, .inr (7, [.int 0, .ref (b 1), .ref (b 2), .ref (b 3), .ref (b 4), .ref (b 5), .ref (b 6), .ref (b 7), .ref (b 8), .ref (b 9), .ref (b 10), .ref (b 11), .ref (b 12), .ref (b 13), .ref (b 14), .ref (b 15), .ref (b 16), .ref (b 17), .ref (b 18), .ref (b 19), .int (mf 20), .int (mf 21), .ref (b 22), .ref (b 23), .ref (b 24), .ref (b 25), .ref (b 26), .int (mf 27), .int (mf 28), .ref (b 29), .ref (b 30), .ref (b 31), .ref (b 32), .ref (b 33), .int (mf 34), .int (mf 35), .ref (b 36), .ref (b 37), .ref (b 38), .ref (b 39), .ref (b 40), .ref (b 41), .int (mf 42)]))] H := hP
  have hD : va_D A [(y, .inr (7, [.int 0, .ref (b 1), .ref (b 2), .ref (b 3), .ref (b 4), .ref (b 5), .ref (b 6), .ref (b 7), .ref (b 8), .ref (b 9), .ref (b 10), .ref (b 11), .ref (b 12), .ref (b 13), .ref (b 14), .ref (b 15), .ref (b 16), .ref (b 17), .ref (b 18), .ref (b 19), .int (mf 20), .int (mf 21), .ref (b 22), .ref (b 23), .ref (b 24), .ref (b 25), .ref (b 26), .int (mf 27), .int (mf 28), .ref (b 29), .ref (b 30), .ref (b 31), .ref (b 32), .ref (b 33), .int (mf 34), .int (mf 35), .ref (b 36), .ref (b 37), .ref (b 38), .ref (b 39), .ref (b 40), .ref (b 41), .int (mf 42)]))] := hD
  refine lv_iconst (v := 1) hx hb dX7_good_5 (by decide) ?_
  exact wr_zret hx hb hr hlocks (Or.inr rfl) hS hP ⟨rfl, rfl⟩ dX7_good_6
