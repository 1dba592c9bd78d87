set_option maxRecDepth 20000 in
theorem inX6 : ∀ w ∈ u_ws RX6 TX6 10, w ∈ TB := by
  intro w hw
  obtain ⟨k, hk, rfl⟩ := List.mem_map.mp hw
  have hk := List.mem_range.mp hk
  match k, hk with
  | 0, _ => exact TB_t2 32 (by decide +kernel) (by decide +kernel)
  | 1, _ => exact TB_t2 34 (by decide +kernel) (by decide +kernel)
  | 2, _ => exact TB_t2 36 (by decide +kernel) (by decide +kernel)
  | 3, _ => exact TB_t2 38 (by decide +kernel) (by decide +kernel)
  | 4, _ => exact TB_t2 40 (by decide +kernel) (by decide +kernel)
  | 5, _ => exact TB_t2 42 (by decide +kernel) (by decide +kernel)
  | 6, _ => exact TB_t2 44 (by decide +kernel) (by decide +kernel)
  | 7, _ => exact TB_t2 46 (by decide +kernel) (by decide +kernel)
  | 8, _ => exact TB_t2 48 (by decide +kernel) (by decide +kernel)
  | 9, _ => exact TB_t2 50 (by decide +kernel) (by decide +kernel)
  | k + 10, hk => exact absurd hk (by omega)
theorem mf_X6_9 : Cond.fieldLink RX6 9 "CellKeeper" "status" "I" ∈ TB := TB_t2 22 (by decide +kernel) rfl
theorem mf_X6_15 : Cond.fieldLink RX6 15 "CellKeeper" "tables" "[LCellKeeper$Table;" ∈ TB := TB_t2 23 (by decide +kernel) rfl
set_option maxRecDepth 20000 in
theorem inX4 : ∀ w ∈ u_ws RX4 TX4 12, w ∈ TB := by
  intro w hw
  obtain ⟨k, hk, rfl⟩ := List.mem_map.mp hw
  have hk := List.mem_range.mp hk
  match k, hk with
  | 0, _ => exact TB_t1 237 (by decide +kernel) (by decide +kernel)
  | 1, _ => exact TB_t1 239 (by decide +kernel) (by decide +kernel)
  | 2, _ => exact TB_t2 1 (by decide +kernel) (by decide +kernel)
  | 3, _ => exact TB_t2 3 (by decide +kernel) (by decide +kernel)
  | 4, _ => exact TB_t2 5 (by decide +kernel) (by decide +kernel)
  | 5, _ => exact TB_t2 7 (by decide +kernel) (by decide +kernel)
  | 6, _ => exact TB_t2 9 (by decide +kernel) (by decide +kernel)
  | 7, _ => exact TB_t2 11 (by decide +kernel) (by decide +kernel)
  | 8, _ => exact TB_t2 13 (by decide +kernel) (by decide +kernel)
  | 9, _ => exact TB_t2 15 (by decide +kernel) (by decide +kernel)
  | 10, _ => exact TB_t2 17 (by decide +kernel) (by decide +kernel)
  | 11, _ => exact TB_t2 19 (by decide +kernel) (by decide +kernel)
  | k + 12, hk => exact absurd hk (by omega)
theorem mf_X6_61 : Cond.fieldLink RX6 61 "CellKeeper$Table" "isOpen" "Z" ∈ TB := TB_t1 212 (by decide +kernel) rfl
set_option maxRecDepth 20000 in
theorem inX7 : ∀ w ∈ u_ws RX7 TX7 43, w ∈ TB := by
  intro w hw
  obtain ⟨k, hk, rfl⟩ := List.mem_map.mp hw
  have hk := List.mem_range.mp hk
  match k, hk with
  | 0, _ => exact TB_t4 143 (by decide +kernel) (by decide +kernel)
  | 1, _ => exact TB_t4 145 (by decide +kernel) (by decide +kernel)
  | 2, _ => exact TB_t4 147 (by decide +kernel) (by decide +kernel)
  | 3, _ => exact TB_t4 149 (by decide +kernel) (by decide +kernel)
  | 4, _ => exact TB_t4 151 (by decide +kernel) (by decide +kernel)
  | 5, _ => exact TB_t4 153 (by decide +kernel) (by decide +kernel)
  | 6, _ => exact TB_t4 155 (by decide +kernel) (by decide +kernel)
  | 7, _ => exact TB_t4 157 (by decide +kernel) (by decide +kernel)
  | 8, _ => exact TB_t4 159 (by decide +kernel) (by decide +kernel)
  | 9, _ => exact TB_t4 161 (by decide +kernel) (by decide +kernel)
  | 10, _ => exact TB_t4 163 (by decide +kernel) (by decide +kernel)
  | 11, _ => exact TB_t4 165 (by decide +kernel) (by decide +kernel)
  | 12, _ => exact TB_t4 167 (by decide +kernel) (by decide +kernel)
  | 13, _ => exact TB_t4 169 (by decide +kernel) (by decide +kernel)
  | 14, _ => exact TB_t4 171 (by decide +kernel) (by decide +kernel)
  | 15, _ => exact TB_t4 173 (by decide +kernel) (by decide +kernel)
  | 16, _ => exact TB_t4 175 (by decide +kernel) (by decide +kernel)
  | 17, _ => exact TB_t4 177 (by decide +kernel) (by decide +kernel)
  | 18, _ => exact TB_t4 179 (by decide +kernel) (by decide +kernel)
  | 19, _ => exact TB_t4 181 (by decide +kernel) (by decide +kernel)
  | 20, _ => exact TB_t4 183 (by decide +kernel) (by decide +kernel)
  | 21, _ => exact TB_t4 185 (by decide +kernel) (by decide +kernel)
  | 22, _ => exact TB_t4 187 (by decide +kernel) (by decide +kernel)
  | 23, _ => exact TB_t4 189 (by decide +kernel) (by decide +kernel)
  | 24, _ => exact TB_t4 191 (by decide +kernel) (by decide +kernel)
  | 25, _ => exact TB_t4 193 (by decide +kernel) (by decide +kernel)
  | 26, _ => exact TB_t4 195 (by decide +kernel) (by decide +kernel)
  | 27, _ => exact TB_t4 197 (by decide +kernel) (by decide +kernel)
  | 28, _ => exact TB_t4 199 (by decide +kernel) (by decide +kernel)
  | 29, _ => exact TB_t4 201 (by decide +kernel) (by decide +kernel)
  | 30, _ => exact TB_t4 203 (by decide +kernel) (by decide +kernel)
  | 31, _ => exact TB_t4 205 (by decide +kernel) (by decide +kernel)
  | 32, _ => exact TB_t4 207 (by decide +kernel) (by decide +kernel)
  | 33, _ => exact TB_t4 209 (by decide +kernel) (by decide +kernel)
  | 34, _ => exact TB_t4 211 (by decide +kernel) (by decide +kernel)
  | 35, _ => exact TB_t4 213 (by decide +kernel) (by decide +kernel)
  | 36, _ => exact TB_t4 215 (by decide +kernel) (by decide +kernel)
  | 37, _ => exact TB_t4 217 (by decide +kernel) (by decide +kernel)
  | 38, _ => exact TB_t4 219 (by decide +kernel) (by decide +kernel)
  | 39, _ => exact TB_t4 221 (by decide +kernel) (by decide +kernel)
  | 40, _ => exact TB_t4 223 (by decide +kernel) (by decide +kernel)
  | 41, _ => exact TB_t4 225 (by decide +kernel) (by decide +kernel)
  | 42, _ => exact TB_t4 227 (by decide +kernel) (by decide +kernel)
  | k + 43, hk => exact absurd hk (by omega)
theorem mf_X7_7 : Cond.fieldLink RX7 7 "CellKeeperModel" "isOpen" "[Z" ∈ TB := TB_t4 101 (by decide +kernel) rfl
theorem mf_X7_116 : Cond.fieldLink RX7 116 "CellKeeperModel" "status" "I" ∈ TB := TB_t4 100 (by decide +kernel) rfl
theorem dX6_settled_0 : decode cX6_settled 0 = .ok (.aload_n 0, 1) := by decide +kernel
theorem dX6_settled_1 : decode cX6_settled 1 = .ok (.iload_n 1, 1) := by decide +kernel
theorem dX6_settled_2 : decode cX6_settled 2 = .ok (.putfield 9, 3) := by decide +kernel
theorem dX6_settled_5 : decode cX6_settled 5 = .ok (.iload_n 1, 1) := by decide +kernel
theorem dX6_settled_6 : decode cX6_settled 6 = .ok (.ifCond .ne 7, 3) := by decide +kernel
theorem dX6_settled_13 : decode cX6_settled 13 = .ok (.iconst 0, 1) := by decide +kernel
theorem dX6_settled_14 : decode cX6_settled 14 = .ok (.ireturn, 1) := by decide +kernel
theorem dX6_settled_9 : decode cX6_settled 9 = .ok (.iconst 1, 1) := by decide +kernel
theorem dX6_settled_10 : decode cX6_settled 10 = .ok (.goto 4, 3) := by decide +kernel
theorem dX6_refused_0 : decode cX6_refused 0 = .ok (.aload_n 0, 1) := by decide +kernel
theorem dX6_refused_1 : decode cX6_refused 1 = .ok (.iload_n 1, 1) := by decide +kernel
theorem dX6_refused_2 : decode cX6_refused 2 = .ok (.putfield 9, 3) := by decide +kernel
theorem dX6_refused_5 : decode cX6_refused 5 = .ok (.iconst (-1), 1) := by decide +kernel
theorem dX6_refused_6 : decode cX6_refused 6 = .ok (.ireturn, 1) := by decide +kernel
theorem dX6_tableStatus_0 : decode cX6_tableStatus 0 = .ok (.iload_n 1, 1) := by decide +kernel
theorem dX6_tableStatus_1 : decode cX6_tableStatus 1 = .ok (.ifCond .lt 25, 3) := by decide +kernel
theorem dX6_tableStatus_26 : decode cX6_tableStatus 26 = .ok (.iconst 1, 1) := by decide +kernel
theorem dX6_tableStatus_27 : decode cX6_tableStatus 27 = .ok (.ireturn, 1) := by decide +kernel
theorem dX6_tableStatus_4 : decode cX6_tableStatus 4 = .ok (.iload_n 1, 1) := by decide +kernel
theorem dX6_tableStatus_5 : decode cX6_tableStatus 5 = .ok (.bipush 6, 2) := by decide +kernel
theorem dX6_tableStatus_7 : decode cX6_tableStatus 7 = .ok (.if_icmp .ge 19, 3) := by decide +kernel
theorem dX6_tableStatus_10 : decode cX6_tableStatus 10 = .ok (.aload_n 0, 1) := by decide +kernel
theorem dX6_tableStatus_11 : decode cX6_tableStatus 11 = .ok (.getfield 15, 3) := by decide +kernel
theorem dX6_tableStatus_14 : decode cX6_tableStatus 14 = .ok (.iload_n 1, 1) := by decide +kernel
theorem dX6_tableStatus_15 : decode cX6_tableStatus 15 = .ok (.aaload, 1) := by decide +kernel
theorem dX6_tableStatus_16 : decode cX6_tableStatus 16 = .ok (.getfield 61, 3) := by decide +kernel
theorem dX6_tableStatus_19 : decode cX6_tableStatus 19 = .ok (.ifCond .eq 7, 3) := by decide +kernel
theorem dX6_tableStatus_22 : decode cX6_tableStatus 22 = .ok (.iconst 0, 1) := by decide +kernel
theorem dX6_tableStatus_23 : decode cX6_tableStatus 23 = .ok (.goto 4, 3) := by decide +kernel
theorem dX7_isTable_0 : decode cX7_isTable 0 = .ok (.iload_n 1, 1) := by decide +kernel
theorem dX7_isTable_1 : decode cX7_isTable 1 = .ok (.ifCond .lt 22, 3) := by decide +kernel
theorem dX7_isTable_23 : decode cX7_isTable 23 = .ok (.iconst 0, 1) := by decide +kernel
theorem dX7_isTable_24 : decode cX7_isTable 24 = .ok (.ireturn, 1) := by decide +kernel
theorem dX7_isTable_4 : decode cX7_isTable 4 = .ok (.iload_n 1, 1) := by decide +kernel
theorem dX7_isTable_5 : decode cX7_isTable 5 = .ok (.bipush 6, 2) := by decide +kernel
theorem dX7_isTable_7 : decode cX7_isTable 7 = .ok (.if_icmp .ge 16, 3) := by decide +kernel
theorem dX7_isTable_10 : decode cX7_isTable 10 = .ok (.aload_n 0, 1) := by decide +kernel
theorem dX7_isTable_11 : decode cX7_isTable 11 = .ok (.getfield 7, 3) := by decide +kernel
theorem dX7_isTable_14 : decode cX7_isTable 14 = .ok (.iload_n 1, 1) := by decide +kernel
theorem dX7_isTable_15 : decode cX7_isTable 15 = .ok (.baload, 1) := by decide +kernel
theorem dX7_isTable_16 : decode cX7_isTable 16 = .ok (.ifCond .eq 7, 3) := by decide +kernel
theorem dX7_isTable_19 : decode cX7_isTable 19 = .ok (.iconst 1, 1) := by decide +kernel
theorem dX7_isTable_20 : decode cX7_isTable 20 = .ok (.goto 4, 3) := by decide +kernel
theorem dX7_refuse_0 : decode cX7_refuse 0 = .ok (.aload_n 0, 1) := by decide +kernel
theorem dX7_refuse_1 : decode cX7_refuse 1 = .ok (.iload_n 1, 1) := by decide +kernel
theorem dX7_refuse_2 : decode cX7_refuse 2 = .ok (.putfield 116, 3) := by decide +kernel
theorem dX7_refuse_5 : decode cX7_refuse 5 = .ok (.iconst 0, 1) := by decide +kernel
theorem dX7_refuse_6 : decode cX7_refuse 6 = .ok (.ireturn, 1) := by decide +kernel
theorem dX7_good_0 : decode cX7_good 0 = .ok (.aload_n 0, 1) := by decide +kernel
theorem dX7_good_1 : decode cX7_good 1 = .ok (.iconst 0, 1) := by decide +kernel
theorem dX7_good_2 : decode cX7_good 2 = .ok (.putfield 116, 3) := by decide +kernel
theorem dX7_good_5 : decode cX7_good 5 = .ok (.iconst 1, 1) := by decide +kernel
theorem dX7_good_6 : decode cX7_good 6 = .ok (.ireturn, 1) := by decide +kernel