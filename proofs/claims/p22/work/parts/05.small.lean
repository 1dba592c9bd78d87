set_option maxRecDepth 20000 in
theorem inX6 : ∀ w ∈ u_ws RX6 TX6 10, w ∈ TB := by
  intro w hw
  obtain ⟨k, hk, rfl⟩ := List.mem_map.mp hw
  have hk := List.mem_range.mp hk
  match k, hk with
  | 0, _ => exact TB_t2 32 rfl rfl
  | 1, _ => exact TB_t2 34 rfl rfl
  | 2, _ => exact TB_t2 36 rfl rfl
  | 3, _ => exact TB_t2 38 rfl rfl
  | 4, _ => exact TB_t2 40 rfl rfl
  | 5, _ => exact TB_t2 42 rfl rfl
  | 6, _ => exact TB_t2 44 rfl rfl
  | 7, _ => exact TB_t2 46 rfl rfl
  | 8, _ => exact TB_t2 48 rfl rfl
  | 9, _ => exact TB_t2 50 rfl rfl
  | k + 10, hk => exact absurd hk (by omega)
theorem mf_X6_9 : Cond.fieldLink RX6 9 "CellKeeper" "status" "I" ∈ TB := TB_t2 22 rfl rfl
theorem mf_X6_15 : Cond.fieldLink RX6 15 "CellKeeper" "tables" "[LCellKeeper$Table;" ∈ TB := TB_t2 23 rfl rfl
set_option maxRecDepth 20000 in
theorem inX4 : ∀ w ∈ u_ws RX4 TX4 12, w ∈ TB := by
  intro w hw
  obtain ⟨k, hk, rfl⟩ := List.mem_map.mp hw
  have hk := List.mem_range.mp hk
  match k, hk with
  | 0, _ => exact TB_t1 237 rfl rfl
  | 1, _ => exact TB_t1 239 rfl rfl
  | 2, _ => exact TB_t2 1 rfl rfl
  | 3, _ => exact TB_t2 3 rfl rfl
  | 4, _ => exact TB_t2 5 rfl rfl
  | 5, _ => exact TB_t2 7 rfl rfl
  | 6, _ => exact TB_t2 9 rfl rfl
  | 7, _ => exact TB_t2 11 rfl rfl
  | 8, _ => exact TB_t2 13 rfl rfl
  | 9, _ => exact TB_t2 15 rfl rfl
  | 10, _ => exact TB_t2 17 rfl rfl
  | 11, _ => exact TB_t2 19 rfl rfl
  | k + 12, hk => exact absurd hk (by omega)
theorem mf_X6_61 : Cond.fieldLink RX6 61 "CellKeeper$Table" "isOpen" "Z" ∈ TB := TB_t1 212 rfl rfl
set_option maxRecDepth 20000 in
theorem inX7 : ∀ w ∈ u_ws RX7 TX7 43, w ∈ TB := by
  intro w hw
  obtain ⟨k, hk, rfl⟩ := List.mem_map.mp hw
  have hk := List.mem_range.mp hk
  match k, hk with
  | 0, _ => exact TB_t4 143 rfl rfl
  | 1, _ => exact TB_t4 145 rfl rfl
  | 2, _ => exact TB_t4 147 rfl rfl
  | 3, _ => exact TB_t4 149 rfl rfl
  | 4, _ => exact TB_t4 151 rfl rfl
  | 5, _ => exact TB_t4 153 rfl rfl
  | 6, _ => exact TB_t4 155 rfl rfl
  | 7, _ => exact TB_t4 157 rfl rfl
  | 8, _ => exact TB_t4 159 rfl rfl
  | 9, _ => exact TB_t4 161 rfl rfl
  | 10, _ => exact TB_t4 163 rfl rfl
  | 11, _ => exact TB_t4 165 rfl rfl
  | 12, _ => exact TB_t4 167 rfl rfl
  | 13, _ => exact TB_t4 169 rfl rfl
  | 14, _ => exact TB_t4 171 rfl rfl
  | 15, _ => exact TB_t4 173 rfl rfl
  | 16, _ => exact TB_t4 175 rfl rfl
  | 17, _ => exact TB_t4 177 rfl rfl
  | 18, _ => exact TB_t4 179 rfl rfl
  | 19, _ => exact TB_t4 181 rfl rfl
  | 20, _ => exact TB_t4 183 rfl rfl
  | 21, _ => exact TB_t4 185 rfl rfl
  | 22, _ => exact TB_t4 187 rfl rfl
  | 23, _ => exact TB_t4 189 rfl rfl
  | 24, _ => exact TB_t4 191 rfl rfl
  | 25, _ => exact TB_t4 193 rfl rfl
  | 26, _ => exact TB_t4 195 rfl rfl
  | 27, _ => exact TB_t4 197 rfl rfl
  | 28, _ => exact TB_t4 199 rfl rfl
  | 29, _ => exact TB_t4 201 rfl rfl
  | 30, _ => exact TB_t4 203 rfl rfl
  | 31, _ => exact TB_t4 205 rfl rfl
  | 32, _ => exact TB_t4 207 rfl rfl
  | 33, _ => exact TB_t4 209 rfl rfl
  | 34, _ => exact TB_t4 211 rfl rfl
  | 35, _ => exact TB_t4 213 rfl rfl
  | 36, _ => exact TB_t4 215 rfl rfl
  | 37, _ => exact TB_t4 217 rfl rfl
  | 38, _ => exact TB_t4 219 rfl rfl
  | 39, _ => exact TB_t4 221 rfl rfl
  | 40, _ => exact TB_t4 223 rfl rfl
  | 41, _ => exact TB_t4 225 rfl rfl
  | 42, _ => exact TB_t4 227 rfl rfl
  | k + 43, hk => exact absurd hk (by omega)
theorem mf_X7_7 : Cond.fieldLink RX7 7 "CellKeeperModel" "isOpen" "[Z" ∈ TB := TB_t4 101 rfl rfl
theorem mf_X7_116 : Cond.fieldLink RX7 116 "CellKeeperModel" "status" "I" ∈ TB := TB_t4 100 rfl rfl
theorem kcX6_settled_0 : CHb cX6_settled 0 [42, 27, 181, 0, 9, 27, 154, 0, 7, 4, 167, 0, 4, 3, 172] := CHb_of (by decide +kernel)
theorem dX6_settled_0 : decode cX6_settled 0 = .ok (.aload_n 0, 1) := dw_42 (kcX6_settled_0 0 42 rfl)
theorem dX6_settled_1 : decode cX6_settled 1 = .ok (.iload_n 1, 1) := dw_27 (kcX6_settled_0 1 27 rfl)
theorem dX6_settled_2 : decode cX6_settled 2 = .ok (.putfield 9, 3) := dw_181 (kcX6_settled_0 2 181 rfl) (kcX6_settled_0 3 0 rfl) (kcX6_settled_0 4 9 rfl) rfl
theorem dX6_settled_5 : decode cX6_settled 5 = .ok (.iload_n 1, 1) := dw_27 (kcX6_settled_0 5 27 rfl)
theorem dX6_settled_6 : decode cX6_settled 6 = .ok (.ifCond .ne 7, 3) := dw_154 (kcX6_settled_0 6 154 rfl) (kcX6_settled_0 7 0 rfl) (kcX6_settled_0 8 7 rfl) rfl
theorem dX6_settled_13 : decode cX6_settled 13 = .ok (.iconst 0, 1) := dw_3 (kcX6_settled_0 13 3 rfl)
theorem dX6_settled_14 : decode cX6_settled 14 = .ok (.ireturn, 1) := dw_172 (kcX6_settled_0 14 172 rfl)
theorem dX6_settled_9 : decode cX6_settled 9 = .ok (.iconst 1, 1) := dw_4 (kcX6_settled_0 9 4 rfl)
theorem dX6_settled_10 : decode cX6_settled 10 = .ok (.goto 4, 3) := dw_167 (kcX6_settled_0 10 167 rfl) (kcX6_settled_0 11 0 rfl) (kcX6_settled_0 12 4 rfl) rfl
theorem kcX6_refused_0 : CHb cX6_refused 0 [42, 27, 181, 0, 9, 2, 172] := CHb_of (by decide +kernel)
theorem dX6_refused_0 : decode cX6_refused 0 = .ok (.aload_n 0, 1) := dw_42 (kcX6_refused_0 0 42 rfl)
theorem dX6_refused_1 : decode cX6_refused 1 = .ok (.iload_n 1, 1) := dw_27 (kcX6_refused_0 1 27 rfl)
theorem dX6_refused_2 : decode cX6_refused 2 = .ok (.putfield 9, 3) := dw_181 (kcX6_refused_0 2 181 rfl) (kcX6_refused_0 3 0 rfl) (kcX6_refused_0 4 9 rfl) rfl
theorem dX6_refused_5 : decode cX6_refused 5 = .ok (.iconst (-1), 1) := dw_2 (kcX6_refused_0 5 2 rfl)
theorem dX6_refused_6 : decode cX6_refused 6 = .ok (.ireturn, 1) := dw_172 (kcX6_refused_0 6 172 rfl)
theorem kcX6_tableStatus_0 : CHb cX6_tableStatus 0 [27, 155, 0, 25, 27, 16, 6, 162, 0, 19, 42, 180, 0, 15, 27, 50, 180, 0, 61, 153, 0, 7, 3, 167, 0, 4, 4, 172] := CHb_of (by decide +kernel)
theorem dX6_tableStatus_0 : decode cX6_tableStatus 0 = .ok (.iload_n 1, 1) := dw_27 (kcX6_tableStatus_0 0 27 rfl)
theorem dX6_tableStatus_1 : decode cX6_tableStatus 1 = .ok (.ifCond .lt 25, 3) := dw_155 (kcX6_tableStatus_0 1 155 rfl) (kcX6_tableStatus_0 2 0 rfl) (kcX6_tableStatus_0 3 25 rfl) rfl
theorem dX6_tableStatus_26 : decode cX6_tableStatus 26 = .ok (.iconst 1, 1) := dw_4 (kcX6_tableStatus_0 26 4 rfl)
theorem dX6_tableStatus_27 : decode cX6_tableStatus 27 = .ok (.ireturn, 1) := dw_172 (kcX6_tableStatus_0 27 172 rfl)
theorem dX6_tableStatus_4 : decode cX6_tableStatus 4 = .ok (.iload_n 1, 1) := dw_27 (kcX6_tableStatus_0 4 27 rfl)
theorem dX6_tableStatus_5 : decode cX6_tableStatus 5 = .ok (.bipush 6, 2) := dw_16 (kcX6_tableStatus_0 5 16 rfl) (kcX6_tableStatus_0 6 6 rfl) rfl
theorem dX6_tableStatus_7 : decode cX6_tableStatus 7 = .ok (.if_icmp .ge 19, 3) := dw_162 (kcX6_tableStatus_0 7 162 rfl) (kcX6_tableStatus_0 8 0 rfl) (kcX6_tableStatus_0 9 19 rfl) rfl
theorem dX6_tableStatus_10 : decode cX6_tableStatus 10 = .ok (.aload_n 0, 1) := dw_42 (kcX6_tableStatus_0 10 42 rfl)
theorem dX6_tableStatus_11 : decode cX6_tableStatus 11 = .ok (.getfield 15, 3) := dw_180 (kcX6_tableStatus_0 11 180 rfl) (kcX6_tableStatus_0 12 0 rfl) (kcX6_tableStatus_0 13 15 rfl) rfl
theorem dX6_tableStatus_14 : decode cX6_tableStatus 14 = .ok (.iload_n 1, 1) := dw_27 (kcX6_tableStatus_0 14 27 rfl)
theorem dX6_tableStatus_15 : decode cX6_tableStatus 15 = .ok (.aaload, 1) := dw_50 (kcX6_tableStatus_0 15 50 rfl)
theorem dX6_tableStatus_16 : decode cX6_tableStatus 16 = .ok (.getfield 61, 3) := dw_180 (kcX6_tableStatus_0 16 180 rfl) (kcX6_tableStatus_0 17 0 rfl) (kcX6_tableStatus_0 18 61 rfl) rfl
theorem dX6_tableStatus_19 : decode cX6_tableStatus 19 = .ok (.ifCond .eq 7, 3) := dw_153 (kcX6_tableStatus_0 19 153 rfl) (kcX6_tableStatus_0 20 0 rfl) (kcX6_tableStatus_0 21 7 rfl) rfl
theorem dX6_tableStatus_22 : decode cX6_tableStatus 22 = .ok (.iconst 0, 1) := dw_3 (kcX6_tableStatus_0 22 3 rfl)
theorem dX6_tableStatus_23 : decode cX6_tableStatus 23 = .ok (.goto 4, 3) := dw_167 (kcX6_tableStatus_0 23 167 rfl) (kcX6_tableStatus_0 24 0 rfl) (kcX6_tableStatus_0 25 4 rfl) rfl
theorem kcX7_isTable_0 : CHb cX7_isTable 0 [27, 155, 0, 22, 27, 16, 6, 162, 0, 16, 42, 180, 0, 7, 27, 51, 153, 0, 7, 4, 167, 0, 4, 3, 172] := CHb_of (by decide +kernel)
theorem dX7_isTable_0 : decode cX7_isTable 0 = .ok (.iload_n 1, 1) := dw_27 (kcX7_isTable_0 0 27 rfl)
theorem dX7_isTable_1 : decode cX7_isTable 1 = .ok (.ifCond .lt 22, 3) := dw_155 (kcX7_isTable_0 1 155 rfl) (kcX7_isTable_0 2 0 rfl) (kcX7_isTable_0 3 22 rfl) rfl
theorem dX7_isTable_23 : decode cX7_isTable 23 = .ok (.iconst 0, 1) := dw_3 (kcX7_isTable_0 23 3 rfl)
theorem dX7_isTable_24 : decode cX7_isTable 24 = .ok (.ireturn, 1) := dw_172 (kcX7_isTable_0 24 172 rfl)
theorem dX7_isTable_4 : decode cX7_isTable 4 = .ok (.iload_n 1, 1) := dw_27 (kcX7_isTable_0 4 27 rfl)
theorem dX7_isTable_5 : decode cX7_isTable 5 = .ok (.bipush 6, 2) := dw_16 (kcX7_isTable_0 5 16 rfl) (kcX7_isTable_0 6 6 rfl) rfl
theorem dX7_isTable_7 : decode cX7_isTable 7 = .ok (.if_icmp .ge 16, 3) := dw_162 (kcX7_isTable_0 7 162 rfl) (kcX7_isTable_0 8 0 rfl) (kcX7_isTable_0 9 16 rfl) rfl
theorem dX7_isTable_10 : decode cX7_isTable 10 = .ok (.aload_n 0, 1) := dw_42 (kcX7_isTable_0 10 42 rfl)
theorem dX7_isTable_11 : decode cX7_isTable 11 = .ok (.getfield 7, 3) := dw_180 (kcX7_isTable_0 11 180 rfl) (kcX7_isTable_0 12 0 rfl) (kcX7_isTable_0 13 7 rfl) rfl
theorem dX7_isTable_14 : decode cX7_isTable 14 = .ok (.iload_n 1, 1) := dw_27 (kcX7_isTable_0 14 27 rfl)
theorem dX7_isTable_15 : decode cX7_isTable 15 = .ok (.baload, 1) := dw_51 (kcX7_isTable_0 15 51 rfl)
theorem dX7_isTable_16 : decode cX7_isTable 16 = .ok (.ifCond .eq 7, 3) := dw_153 (kcX7_isTable_0 16 153 rfl) (kcX7_isTable_0 17 0 rfl) (kcX7_isTable_0 18 7 rfl) rfl
theorem dX7_isTable_19 : decode cX7_isTable 19 = .ok (.iconst 1, 1) := dw_4 (kcX7_isTable_0 19 4 rfl)
theorem dX7_isTable_20 : decode cX7_isTable 20 = .ok (.goto 4, 3) := dw_167 (kcX7_isTable_0 20 167 rfl) (kcX7_isTable_0 21 0 rfl) (kcX7_isTable_0 22 4 rfl) rfl
theorem kcX7_refuse_0 : CHb cX7_refuse 0 [42, 27, 181, 0, 116, 3, 172] := CHb_of (by decide +kernel)
theorem dX7_refuse_0 : decode cX7_refuse 0 = .ok (.aload_n 0, 1) := dw_42 (kcX7_refuse_0 0 42 rfl)
theorem dX7_refuse_1 : decode cX7_refuse 1 = .ok (.iload_n 1, 1) := dw_27 (kcX7_refuse_0 1 27 rfl)
theorem dX7_refuse_2 : decode cX7_refuse 2 = .ok (.putfield 116, 3) := dw_181 (kcX7_refuse_0 2 181 rfl) (kcX7_refuse_0 3 0 rfl) (kcX7_refuse_0 4 116 rfl) rfl
theorem dX7_refuse_5 : decode cX7_refuse 5 = .ok (.iconst 0, 1) := dw_3 (kcX7_refuse_0 5 3 rfl)
theorem dX7_refuse_6 : decode cX7_refuse 6 = .ok (.ireturn, 1) := dw_172 (kcX7_refuse_0 6 172 rfl)
theorem kcX7_good_0 : CHb cX7_good 0 [42, 3, 181, 0, 116, 4, 172] := CHb_of (by decide +kernel)
theorem dX7_good_0 : decode cX7_good 0 = .ok (.aload_n 0, 1) := dw_42 (kcX7_good_0 0 42 rfl)
theorem dX7_good_1 : decode cX7_good 1 = .ok (.iconst 0, 1) := dw_3 (kcX7_good_0 1 3 rfl)
theorem dX7_good_2 : decode cX7_good 2 = .ok (.putfield 116, 3) := dw_181 (kcX7_good_0 2 181 rfl) (kcX7_good_0 3 0 rfl) (kcX7_good_0 4 116 rfl) rfl
theorem dX7_good_5 : decode cX7_good 5 = .ok (.iconst 1, 1) := dw_4 (kcX7_good_0 5 4 rfl)
theorem dX7_good_6 : decode cX7_good 6 = .ok (.ireturn, 1) := dw_172 (kcX7_good_0 6 172 rfl)