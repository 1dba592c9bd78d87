theorem mf_X7_189 : Cond.fieldLink RX7 189 "CellKeeperModel" "netRows" "I" ∈ TB := TB_t4 120 rfl rfl
theorem mf_X7_192 : Cond.fieldLink RX7 192 "CellKeeperModel" "netColumns" "I" ∈ TB := TB_t4 121 rfl rfl
theorem mf_X7_62 : Cond.fieldLink RX7 62 "CellKeeperModel" "group" "[I" ∈ TB := TB_t4 118 rfl rfl
theorem mf_X7_53 : Cond.fieldLink RX7 53 "CellKeeperModel" "now" "[I" ∈ TB := TB_t4 115 rfl rfl
theorem mf_X7_65 : Cond.fieldLink RX7 65 "CellKeeperModel" "moves" "[Z" ∈ TB := TB_t4 119 rfl rfl
theorem mf_X7_56 : Cond.fieldLink RX7 56 "CellKeeperModel" "low" "[I" ∈ TB := TB_t4 116 rfl rfl
theorem mf_X7_59 : Cond.fieldLink RX7 59 "CellKeeperModel" "high" "[I" ∈ TB := TB_t4 117 rfl rfl
theorem mk_X7_195 : Cond.constant RX7 195 (1000000000) ∈ TB := TB_t5 164 rfl rfl
theorem mkl_X7_196 : Cond.constantLong RX7 196 (999) ∈ TB := TB_t5 165 rfl rfl
theorem mf_X7_68 : Cond.fieldLink RX7 68 "CellKeeperModel" "from" "[I" ∈ TB := TB_t4 122 rfl rfl
theorem mf_X7_71 : Cond.fieldLink RX7 71 "CellKeeperModel" "queue" "[I" ∈ TB := TB_t4 123 rfl rfl
theorem ml_X7_198 : Cond.methodLink RX7 198 yX7_isNode ∈ TB := TB_t5 178 rfl rfl
theorem mcode_yX7_isNode : Cond.code yX7_isNode cX7_isNode 3 (some .boolean) ∈ TB := TB_t5 181 rfl rfl
theorem mi_yX7_isNode : MI yX7_isNode cX7_isNode 3 (some .boolean) 2 := ⟨mz_RX7, mcode_yX7_isNode, by decide +kernel, by decide +kernel, by decide +kernel⟩
theorem mim_yX7_isNode : Cond.instanceMethod yX7_isNode ∈ TB := TB_t5 180 rfl rfl
theorem msel_yX7_isNode : Cond.selects yX7_isNode.cls yX7_isNode yX7_isNode ∈ TB := TB_s (n := 43) 64 (by decide +kernel)
theorem mv_yX7_isNode : Cond.instanceMethod yX7_isNode ∈ TB ∧ Cond.selects yX7_isNode.cls yX7_isNode yX7_isNode ∈ TB := ⟨mim_yX7_isNode, msel_yX7_isNode⟩
theorem ml_X7_201 : Cond.methodLink RX7 201 yX7_room ∈ TB := TB_t5 182 rfl rfl
theorem mcode_yX7_room : Cond.code yX7_room cX7_room 4 (some .int) ∈ TB := TB_t5 185 rfl rfl
theorem mi_yX7_room : MI yX7_room cX7_room 4 (some .int) 2 := ⟨mz_RX7, mcode_yX7_room, by decide +kernel, by decide +kernel, by decide +kernel⟩
theorem mim_yX7_room : Cond.instanceMethod yX7_room ∈ TB := TB_t5 184 rfl rfl
theorem msel_yX7_room : Cond.selects yX7_room.cls yX7_room yX7_room ∈ TB := TB_s (n := 43) 65 (by decide +kernel)
theorem mv_yX7_room : Cond.instanceMethod yX7_room ∈ TB ∧ Cond.selects yX7_room.cls yX7_room yX7_room ∈ TB := ⟨mim_yX7_room, msel_yX7_room⟩
theorem ml_X7_204 : Cond.methodLink RX7 204 yX7_way ∈ TB := TB_t5 174 rfl rfl
theorem mcode_yX7_way : Cond.code yX7_way cX7_way 9 (some .boolean) ∈ TB := TB_t5 177 rfl rfl
theorem mi_yX7_way : MI yX7_way cX7_way 9 (some .boolean) 3 := ⟨mz_RX7, mcode_yX7_way, by decide +kernel, by decide +kernel, by decide +kernel⟩
theorem mim_yX7_way : Cond.instanceMethod yX7_way ∈ TB := TB_t5 176 rfl rfl
theorem msel_yX7_way : Cond.selects yX7_way.cls yX7_way yX7_way ∈ TB := TB_s (n := 43) 63 (by decide +kernel)
theorem mv_yX7_way : Cond.instanceMethod yX7_way ∈ TB ∧ Cond.selects yX7_way.cls yX7_way yX7_way ∈ TB := ⟨mim_yX7_way, msel_yX7_way⟩
theorem ml_X7_207 : Cond.methodLink RX7 207 yJ9_min_7cf53 ∈ TB := TB_t5 186 rfl rfl
theorem mst_yJ9_min_7cf53 : Cond.static yJ9_min_7cf53 ∈ TB := TB_t3 98 rfl rfl
theorem mz_RJ9 : Cond.initialized RJ9 ∈ TB := TB_t1 11 rfl rfl
theorem mcode_yJ9_min_7cf53 : Cond.code yJ9_min_7cf53 cJ9_min_7cf53 2 (some .int) ∈ TB := TB_t3 99 rfl rfl
theorem ml_X7_212 : Cond.methodLink RX7 212 yX7_push ∈ TB := TB_t5 170 rfl rfl
theorem mcode_yX7_push : Cond.code yX7_push cX7_push 10 (some .int) ∈ TB := TB_t5 173 rfl rfl
theorem mi_yX7_push : MI yX7_push cX7_push 10 (some .int) 4 := ⟨mz_RX7, mcode_yX7_push, by decide +kernel, by decide +kernel, by decide +kernel⟩
theorem mim_yX7_push : Cond.instanceMethod yX7_push ∈ TB := TB_t5 172 rfl rfl
theorem msel_yX7_push : Cond.selects yX7_push.cls yX7_push yX7_push ∈ TB := TB_s (n := 43) 62 (by decide +kernel)
theorem mv_yX7_push : Cond.instanceMethod yX7_push ∈ TB ∧ Cond.selects yX7_push.cls yX7_push yX7_push ∈ TB := ⟨mim_yX7_push, msel_yX7_push⟩
theorem ml_X7_216 : Cond.methodLink RX7 216 yX7_lay ∈ TB := TB_t5 160 rfl rfl
theorem mcode_yX7_lay : Cond.code yX7_lay cX7_lay 10 none ∈ TB := TB_t5 163 rfl rfl
theorem mi_yX7_lay : MI yX7_lay cX7_lay 10 none 1 := ⟨mz_RX7, mcode_yX7_lay, by decide +kernel, by decide +kernel, by decide +kernel⟩
theorem mim_yX7_lay : Cond.instanceMethod yX7_lay ∈ TB := TB_t5 162 rfl rfl
theorem msel_yX7_lay : Cond.selects yX7_lay.cls yX7_lay yX7_lay ∈ TB := TB_s (n := 43) 60 (by decide +kernel)
theorem mv_yX7_lay : Cond.instanceMethod yX7_lay ∈ TB ∧ Cond.selects yX7_lay.cls yX7_lay yX7_lay ∈ TB := ⟨mim_yX7_lay, msel_yX7_lay⟩
theorem ml_X7_219 : Cond.methodLink RX7 219 yX7_settle ∈ TB := TB_t5 166 rfl rfl
theorem mcode_yX7_settle : Cond.code yX7_settle cX7_settle 6 none ∈ TB := TB_t5 169 rfl rfl
theorem mi_yX7_settle : MI yX7_settle cX7_settle 6 none 3 := ⟨mz_RX7, mcode_yX7_settle, by decide +kernel, by decide +kernel, by decide +kernel⟩
theorem mim_yX7_settle : Cond.instanceMethod yX7_settle ∈ TB := TB_t5 168 rfl rfl
theorem msel_yX7_settle : Cond.selects yX7_settle.cls yX7_settle yX7_settle ∈ TB := TB_s (n := 43) 61 (by decide +kernel)
theorem mv_yX7_settle : Cond.instanceMethod yX7_settle ∈ TB ∧ Cond.selects yX7_settle.cls yX7_settle yX7_settle ∈ TB := ⟨mim_yX7_settle, msel_yX7_settle⟩
theorem ml_X7_223 : Cond.methodLink RX7 223 yX7_endOf ∈ TB := TB_t5 156 rfl rfl
theorem mcode_yX7_endOf : Cond.code yX7_endOf cX7_endOf 5 (some .int) ∈ TB := TB_t5 159 rfl rfl
theorem mi_yX7_endOf : MI yX7_endOf cX7_endOf 5 (some .int) 4 := ⟨mz_RX7, mcode_yX7_endOf, by decide +kernel, by decide +kernel, by decide +kernel⟩
theorem mim_yX7_endOf : Cond.instanceMethod yX7_endOf ∈ TB := TB_t5 158 rfl rfl
theorem msel_yX7_endOf : Cond.selects yX7_endOf.cls yX7_endOf yX7_endOf ∈ TB := TB_s (n := 43) 59 (by decide +kernel)
theorem mv_yX7_endOf : Cond.instanceMethod yX7_endOf ∈ TB ∧ Cond.selects yX7_endOf.cls yX7_endOf yX7_endOf ∈ TB := ⟨mim_yX7_endOf, msel_yX7_endOf⟩
theorem ml_X7_227 : Cond.methodLink RX7 227 yX7_isSafe ∈ TB := TB_t5 195 rfl rfl
theorem mcode_yX7_isSafe : Cond.code yX7_isSafe cX7_isSafe 6 (some .boolean) ∈ TB := TB_t5 198 rfl rfl
theorem mi_yX7_isSafe : MI yX7_isSafe cX7_isSafe 6 (some .boolean) 3 := ⟨mz_RX7, mcode_yX7_isSafe, by decide +kernel, by decide +kernel, by decide +kernel⟩
theorem mim_yX7_isSafe : Cond.instanceMethod yX7_isSafe ∈ TB := TB_t5 197 rfl rfl
theorem msel_yX7_isSafe : Cond.selects yX7_isSafe.cls yX7_isSafe yX7_isSafe ∈ TB := TB_s (n := 43) 66 (by decide +kernel)
theorem mv_yX7_isSafe : Cond.instanceMethod yX7_isSafe ∈ TB ∧ Cond.selects yX7_isSafe.cls yX7_isSafe yX7_isSafe ∈ TB := ⟨mim_yX7_isSafe, msel_yX7_isSafe⟩
theorem ml_X7_230 : Cond.methodLink RX7 230 yX7_unsafeFrom ∈ TB := TB_t5 203 rfl rfl
theorem mcode_yX7_unsafeFrom : Cond.code yX7_unsafeFrom cX7_unsafeFrom 6 (some .int) ∈ TB := TB_t5 206 rfl rfl
theorem mi_yX7_unsafeFrom : MI yX7_unsafeFrom cX7_unsafeFrom 6 (some .int) 2 := ⟨mz_RX7, mcode_yX7_unsafeFrom, by decide +kernel, by decide +kernel, by decide +kernel⟩
theorem mim_yX7_unsafeFrom : Cond.instanceMethod yX7_unsafeFrom ∈ TB := TB_t5 205 rfl rfl
theorem msel_yX7_unsafeFrom : Cond.selects yX7_unsafeFrom.cls yX7_unsafeFrom yX7_unsafeFrom ∈ TB := TB_s (n := 43) 67 (by decide +kernel)
theorem mv_yX7_unsafeFrom : Cond.instanceMethod yX7_unsafeFrom ∈ TB ∧ Cond.selects yX7_unsafeFrom.cls yX7_unsafeFrom yX7_unsafeFrom ∈ TB := ⟨mim_yX7_unsafeFrom, msel_yX7_unsafeFrom⟩
theorem kcX7_lay_0 : CHb cX7_lay 0 [42, 42, 180, 0, 13, 27, 46, 181, 0, 189, 42, 42, 180, 0, 17, 27, 46, 181, 0, 192, 3, 61, 28, 42, 180, 0, 189, 162, 0, 232, 42, 27, 28, 182, 0, 161, 62, 42, 180, 0, 62, 28, 29, 153, 0, 12, 42, 27, 28, 182, 0, 168, 167, 0, 5, 16, 254, 79, 29, 153, 0, 12, 42, 27] := CHb_of (by decide +kernel)
theorem dX7_lay_0 : decode cX7_lay 0 = .ok (.aload_n 0, 1) := dw_42 (kcX7_lay_0 0 42 rfl)
theorem dX7_lay_1 : decode cX7_lay 1 = .ok (.aload_n 0, 1) := dw_42 (kcX7_lay_0 1 42 rfl)
theorem dX7_lay_2 : decode cX7_lay 2 = .ok (.getfield 13, 3) := dw_180 (kcX7_lay_0 2 180 rfl) (kcX7_lay_0 3 0 rfl) (kcX7_lay_0 4 13 rfl) rfl
theorem dX7_lay_5 : decode cX7_lay 5 = .ok (.iload_n 1, 1) := dw_27 (kcX7_lay_0 5 27 rfl)
theorem dX7_lay_6 : decode cX7_lay 6 = .ok (.iaload, 1) := dw_46 (kcX7_lay_0 6 46 rfl)
theorem dX7_lay_7 : decode cX7_lay 7 = .ok (.putfield 189, 3) := dw_181 (kcX7_lay_0 7 181 rfl) (kcX7_lay_0 8 0 rfl) (kcX7_lay_0 9 189 rfl) rfl
theorem dX7_lay_10 : decode cX7_lay 10 = .ok (.aload_n 0, 1) := dw_42 (kcX7_lay_0 10 42 rfl)
theorem dX7_lay_11 : decode cX7_lay 11 = .ok (.aload_n 0, 1) := dw_42 (kcX7_lay_0 11 42 rfl)
theorem dX7_lay_12 : decode cX7_lay 12 = .ok (.getfield 17, 3) := dw_180 (kcX7_lay_0 12 180 rfl) (kcX7_lay_0 13 0 rfl) (kcX7_lay_0 14 17 rfl) rfl
theorem dX7_lay_15 : decode cX7_lay 15 = .ok (.iload_n 1, 1) := dw_27 (kcX7_lay_0 15 27 rfl)
theorem dX7_lay_16 : decode cX7_lay 16 = .ok (.iaload, 1) := dw_46 (kcX7_lay_0 16 46 rfl)
theorem dX7_lay_17 : decode cX7_lay 17 = .ok (.putfield 192, 3) := dw_181 (kcX7_lay_0 17 181 rfl) (kcX7_lay_0 18 0 rfl) (kcX7_lay_0 19 192 rfl) rfl
theorem dX7_lay_20 : decode cX7_lay 20 = .ok (.iconst 0, 1) := dw_3 (kcX7_lay_0 20 3 rfl)
theorem dX7_lay_21 : decode cX7_lay 21 = .ok (.istore_n 2, 1) := dw_61 (kcX7_lay_0 21 61 rfl)
theorem dX7_lay_22 : decode cX7_lay 22 = .ok (.iload_n 2, 1) := dw_28 (kcX7_lay_0 22 28 rfl)
theorem dX7_lay_23 : decode cX7_lay 23 = .ok (.aload_n 0, 1) := dw_42 (kcX7_lay_0 23 42 rfl)
theorem dX7_lay_24 : decode cX7_lay 24 = .ok (.getfield 189, 3) := dw_180 (kcX7_lay_0 24 180 rfl) (kcX7_lay_0 25 0 rfl) (kcX7_lay_0 26 189 rfl) rfl
theorem dX7_lay_27 : decode cX7_lay 27 = .ok (.if_icmp .ge 232, 3) := dw_162 (kcX7_lay_0 27 162 rfl) (kcX7_lay_0 28 0 rfl) (kcX7_lay_0 29 232 rfl) rfl
theorem kcX7_lay_4 : CHb cX7_lay 256 [167, 255, 22, 177] := CHb_of (by decide +kernel)
theorem dX7_lay_259 : decode cX7_lay 259 = .ok (.return_, 1) := dw_177 (kcX7_lay_4 3 177 rfl)
theorem dX7_lay_30 : decode cX7_lay 30 = .ok (.aload_n 0, 1) := dw_42 (kcX7_lay_0 30 42 rfl)
theorem dX7_lay_31 : decode cX7_lay 31 = .ok (.iload_n 1, 1) := dw_27 (kcX7_lay_0 31 27 rfl)
theorem dX7_lay_32 : decode cX7_lay 32 = .ok (.iload_n 2, 1) := dw_28 (kcX7_lay_0 32 28 rfl)
theorem dX7_lay_33 : decode cX7_lay 33 = .ok (.invokevirtual 161, 3) := dw_182 (kcX7_lay_0 33 182 rfl) (kcX7_lay_0 34 0 rfl) (kcX7_lay_0 35 161 rfl) rfl
theorem dX7_lay_36 : decode cX7_lay 36 = .ok (.istore_n 3, 1) := dw_62 (kcX7_lay_0 36 62 rfl)
theorem dX7_lay_37 : decode cX7_lay 37 = .ok (.aload_n 0, 1) := dw_42 (kcX7_lay_0 37 42 rfl)
theorem dX7_lay_38 : decode cX7_lay 38 = .ok (.getfield 62, 3) := dw_180 (kcX7_lay_0 38 180 rfl) (kcX7_lay_0 39 0 rfl) (kcX7_lay_0 40 62 rfl) rfl
theorem dX7_lay_41 : decode cX7_lay 41 = .ok (.iload_n 2, 1) := dw_28 (kcX7_lay_0 41 28 rfl)
theorem dX7_lay_42 : decode cX7_lay 42 = .ok (.iload_n 3, 1) := dw_29 (kcX7_lay_0 42 29 rfl)
theorem dX7_lay_43 : decode cX7_lay 43 = .ok (.ifCond .eq 12, 3) := dw_153 (kcX7_lay_0 43 153 rfl) (kcX7_lay_0 44 0 rfl) (kcX7_lay_0 45 12 rfl) rfl
theorem dX7_lay_55 : decode cX7_lay 55 = .ok (.bipush (-2), 2) := dw_16 (kcX7_lay_0 55 16 rfl) (kcX7_lay_0 56 254 rfl) rfl
theorem dX7_lay_46 : decode cX7_lay 46 = .ok (.aload_n 0, 1) := dw_42 (kcX7_lay_0 46 42 rfl)
theorem dX7_lay_47 : decode cX7_lay 47 = .ok (.iload_n 1, 1) := dw_27 (kcX7_lay_0 47 27 rfl)
theorem dX7_lay_48 : decode cX7_lay 48 = .ok (.iload_n 2, 1) := dw_28 (kcX7_lay_0 48 28 rfl)
theorem dX7_lay_49 : decode cX7_lay 49 = .ok (.invokevirtual 168, 3) := dw_182 (kcX7_lay_0 49 182 rfl) (kcX7_lay_0 50 0 rfl) (kcX7_lay_0 51 168 rfl) rfl
theorem dX7_lay_52 : decode cX7_lay 52 = .ok (.goto 5, 3) := dw_167 (kcX7_lay_0 52 167 rfl) (kcX7_lay_0 53 0 rfl) (kcX7_lay_0 54 5 rfl) rfl
theorem dX7_lay_57 : decode cX7_lay 57 = .ok (.iastore, 1) := dw_79 (kcX7_lay_0 57 79 rfl)
theorem dX7_lay_58 : decode cX7_lay 58 = .ok (.iload_n 3, 1) := dw_29 (kcX7_lay_0 58 29 rfl)
theorem dX7_lay_59 : decode cX7_lay 59 = .ok (.ifCond .eq 12, 3) := dw_153 (kcX7_lay_0 59 153 rfl) (kcX7_lay_0 60 0 rfl) (kcX7_lay_0 61 12 rfl) rfl
theorem kcX7_lay_1 : CHb cX7_lay 64 [28, 182, 0, 164, 167, 0, 4, 3, 54, 4, 3, 54, 5, 21, 5, 42, 180, 0, 192, 162, 0, 170, 16, 12, 28, 104, 21, 5, 96, 54, 6, 27, 28, 21, 5, 184, 0, 147, 54, 7, 42, 180, 0, 53, 21, 6, 42, 180, 0, 26, 21, 7, 46, 79, 42, 180, 0, 65, 21, 6, 29, 153, 0, 17] := CHb_of (by decide +kernel)
theorem dX7_lay_71 : decode cX7_lay 71 = .ok (.iconst 0, 1) := dw_3 (kcX7_lay_1 7 3 rfl)
theorem dX7_lay_62 : decode cX7_lay 62 = .ok (.aload_n 0, 1) := dw_42 (kcX7_lay_0 62 42 rfl)
theorem dX7_lay_63 : decode cX7_lay 63 = .ok (.iload_n 1, 1) := dw_27 (kcX7_lay_0 63 27 rfl)
theorem dX7_lay_64 : decode cX7_lay 64 = .ok (.iload_n 2, 1) := dw_28 (kcX7_lay_1 0 28 rfl)
theorem dX7_lay_65 : decode cX7_lay 65 = .ok (.invokevirtual 164, 3) := dw_182 (kcX7_lay_1 1 182 rfl) (kcX7_lay_1 2 0 rfl) (kcX7_lay_1 3 164 rfl) rfl
theorem dX7_lay_68 : decode cX7_lay 68 = .ok (.goto 4, 3) := dw_167 (kcX7_lay_1 4 167 rfl) (kcX7_lay_1 5 0 rfl) (kcX7_lay_1 6 4 rfl) rfl
theorem dX7_lay_72 : decode cX7_lay 72 = .ok (.istore 4, 2) := dw_54 (kcX7_lay_1 8 54 rfl) (kcX7_lay_1 9 4 rfl)
theorem dX7_lay_74 : decode cX7_lay 74 = .ok (.iconst 0, 1) := dw_3 (kcX7_lay_1 10 3 rfl)
theorem dX7_lay_75 : decode cX7_lay 75 = .ok (.istore 5, 2) := dw_54 (kcX7_lay_1 11 54 rfl) (kcX7_lay_1 12 5 rfl)
theorem dX7_lay_77 : decode cX7_lay 77 = .ok (.iload 5, 2) := dw_21 (kcX7_lay_1 13 21 rfl) (kcX7_lay_1 14 5 rfl)
theorem dX7_lay_79 : decode cX7_lay 79 = .ok (.aload_n 0, 1) := dw_42 (kcX7_lay_1 15 42 rfl)
theorem dX7_lay_80 : decode cX7_lay 80 = .ok (.getfield 192, 3) := dw_180 (kcX7_lay_1 16 180 rfl) (kcX7_lay_1 17 0 rfl) (kcX7_lay_1 18 192 rfl) rfl
theorem dX7_lay_83 : decode cX7_lay 83 = .ok (.if_icmp .ge 170, 3) := dw_162 (kcX7_lay_1 19 162 rfl) (kcX7_lay_1 20 0 rfl) (kcX7_lay_1 21 170 rfl) rfl
theorem dX7_lay_86 : decode cX7_lay 86 = .ok (.bipush 12, 2) := dw_16 (kcX7_lay_1 22 16 rfl) (kcX7_lay_1 23 12 rfl) rfl
theorem dX7_lay_88 : decode cX7_lay 88 = .ok (.iload_n 2, 1) := dw_28 (kcX7_lay_1 24 28 rfl)
theorem dX7_lay_89 : decode cX7_lay 89 = .ok (.imul, 1) := dw_104 (kcX7_lay_1 25 104 rfl)
theorem dX7_lay_90 : decode cX7_lay 90 = .ok (.iload 5, 2) := dw_21 (kcX7_lay_1 26 21 rfl) (kcX7_lay_1 27 5 rfl)
theorem dX7_lay_92 : decode cX7_lay 92 = .ok (.iadd, 1) := dw_96 (kcX7_lay_1 28 96 rfl)
theorem dX7_lay_93 : decode cX7_lay 93 = .ok (.istore 6, 2) := dw_54 (kcX7_lay_1 29 54 rfl) (kcX7_lay_1 30 6 rfl)
theorem dX7_lay_95 : decode cX7_lay 95 = .ok (.iload_n 1, 1) := dw_27 (kcX7_lay_1 31 27 rfl)
theorem dX7_lay_96 : decode cX7_lay 96 = .ok (.iload_n 2, 1) := dw_28 (kcX7_lay_1 32 28 rfl)
theorem dX7_lay_97 : decode cX7_lay 97 = .ok (.iload 5, 2) := dw_21 (kcX7_lay_1 33 21 rfl) (kcX7_lay_1 34 5 rfl)
theorem dX7_lay_99 : decode cX7_lay 99 = .ok (.invokestatic 147, 3) := dw_184 (kcX7_lay_1 35 184 rfl) (kcX7_lay_1 36 0 rfl) (kcX7_lay_1 37 147 rfl) rfl
theorem dX7_lay_102 : decode cX7_lay 102 = .ok (.istore 7, 2) := dw_54 (kcX7_lay_1 38 54 rfl) (kcX7_lay_1 39 7 rfl)
theorem dX7_lay_104 : decode cX7_lay 104 = .ok (.aload_n 0, 1) := dw_42 (kcX7_lay_1 40 42 rfl)
theorem dX7_lay_105 : decode cX7_lay 105 = .ok (.getfield 53, 3) := dw_180 (kcX7_lay_1 41 180 rfl) (kcX7_lay_1 42 0 rfl) (kcX7_lay_1 43 53 rfl) rfl
theorem dX7_lay_108 : decode cX7_lay 108 = .ok (.iload 6, 2) := dw_21 (kcX7_lay_1 44 21 rfl) (kcX7_lay_1 45 6 rfl)
theorem dX7_lay_110 : decode cX7_lay 110 = .ok (.aload_n 0, 1) := dw_42 (kcX7_lay_1 46 42 rfl)
theorem dX7_lay_111 : decode cX7_lay 111 = .ok (.getfield 26, 3) := dw_180 (kcX7_lay_1 47 180 rfl) (kcX7_lay_1 48 0 rfl) (kcX7_lay_1 49 26 rfl) rfl
theorem dX7_lay_114 : decode cX7_lay 114 = .ok (.iload 7, 2) := dw_21 (kcX7_lay_1 50 21 rfl) (kcX7_lay_1 51 7 rfl)
theorem dX7_lay_116 : decode cX7_lay 116 = .ok (.iaload, 1) := dw_46 (kcX7_lay_1 52 46 rfl)
theorem dX7_lay_117 : decode cX7_lay 117 = .ok (.iastore, 1) := dw_79 (kcX7_lay_1 53 79 rfl)
theorem dX7_lay_118 : decode cX7_lay 118 = .ok (.aload_n 0, 1) := dw_42 (kcX7_lay_1 54 42 rfl)
theorem dX7_lay_119 : decode cX7_lay 119 = .ok (.getfield 65, 3) := dw_180 (kcX7_lay_1 55 180 rfl) (kcX7_lay_1 56 0 rfl) (kcX7_lay_1 57 65 rfl) rfl
theorem dX7_lay_122 : decode cX7_lay 122 = .ok (.iload 6, 2) := dw_21 (kcX7_lay_1 58 21 rfl) (kcX7_lay_1 59 6 rfl)
theorem dX7_lay_124 : decode cX7_lay 124 = .ok (.iload_n 3, 1) := dw_29 (kcX7_lay_1 60 29 rfl)
theorem dX7_lay_125 : decode cX7_lay 125 = .ok (.ifCond .eq 17, 3) := dw_153 (kcX7_lay_1 61 153 rfl) (kcX7_lay_1 62 0 rfl) (kcX7_lay_1 63 17 rfl) rfl
theorem kcX7_lay_2 : CHb cX7_lay 128 [42, 27, 21, 7, 182, 0, 181, 153, 0, 7, 4, 167, 0, 4, 3, 84, 42, 180, 0, 56, 21, 6, 3, 79, 42, 180, 0, 59, 21, 6, 18, 195, 79, 42, 180, 0, 23, 21, 7, 46, 6, 159, 0, 6, 167, 0, 75, 29, 153, 0, 15, 42, 27, 28, 21, 5, 182, 0, 186, 133, 167, 0, 4, 9] := CHb_of (by decide +kernel)
theorem dX7_lay_142 : decode cX7_lay 142 = .ok (.iconst 0, 1) := dw_3 (kcX7_lay_2 14 3 rfl)
theorem dX7_lay_128 : decode cX7_lay 128 = .ok (.aload_n 0, 1) := dw_42 (kcX7_lay_2 0 42 rfl)
theorem dX7_lay_129 : decode cX7_lay 129 = .ok (.iload_n 1, 1) := dw_27 (kcX7_lay_2 1 27 rfl)
theorem dX7_lay_130 : decode cX7_lay 130 = .ok (.iload 7, 2) := dw_21 (kcX7_lay_2 2 21 rfl) (kcX7_lay_2 3 7 rfl)
theorem dX7_lay_132 : decode cX7_lay 132 = .ok (.invokevirtual 181, 3) := dw_182 (kcX7_lay_2 4 182 rfl) (kcX7_lay_2 5 0 rfl) (kcX7_lay_2 6 181 rfl) rfl
theorem dX7_lay_135 : decode cX7_lay 135 = .ok (.ifCond .eq 7, 3) := dw_153 (kcX7_lay_2 7 153 rfl) (kcX7_lay_2 8 0 rfl) (kcX7_lay_2 9 7 rfl) rfl
theorem dX7_lay_138 : decode cX7_lay 138 = .ok (.iconst 1, 1) := dw_4 (kcX7_lay_2 10 4 rfl)
theorem dX7_lay_139 : decode cX7_lay 139 = .ok (.goto 4, 3) := dw_167 (kcX7_lay_2 11 167 rfl) (kcX7_lay_2 12 0 rfl) (kcX7_lay_2 13 4 rfl) rfl
theorem dX7_lay_143 : decode cX7_lay 143 = .ok (.bastore, 1) := dw_84 (kcX7_lay_2 15 84 rfl)
theorem dX7_lay_144 : decode cX7_lay 144 = .ok (.aload_n 0, 1) := dw_42 (kcX7_lay_2 16 42 rfl)
theorem dX7_lay_145 : decode cX7_lay 145 = .ok (.getfield 56, 3) := dw_180 (kcX7_lay_2 17 180 rfl) (kcX7_lay_2 18 0 rfl) (kcX7_lay_2 19 56 rfl) rfl
theorem dX7_lay_148 : decode cX7_lay 148 = .ok (.iload 6, 2) := dw_21 (kcX7_lay_2 20 21 rfl) (kcX7_lay_2 21 6 rfl)
theorem dX7_lay_150 : decode cX7_lay 150 = .ok (.iconst 0, 1) := dw_3 (kcX7_lay_2 22 3 rfl)
theorem dX7_lay_151 : decode cX7_lay 151 = .ok (.iastore, 1) := dw_79 (kcX7_lay_2 23 79 rfl)
theorem dX7_lay_152 : decode cX7_lay 152 = .ok (.aload_n 0, 1) := dw_42 (kcX7_lay_2 24 42 rfl)
theorem dX7_lay_153 : decode cX7_lay 153 = .ok (.getfield 59, 3) := dw_180 (kcX7_lay_2 25 180 rfl) (kcX7_lay_2 26 0 rfl) (kcX7_lay_2 27 59 rfl) rfl
theorem dX7_lay_156 : decode cX7_lay 156 = .ok (.iload 6, 2) := dw_21 (kcX7_lay_2 28 21 rfl) (kcX7_lay_2 29 6 rfl)
theorem dX7_lay_158 : decode cX7_lay 158 = .ok (.ldc 195, 2) := dw_18 (kcX7_lay_2 30 18 rfl) (kcX7_lay_2 31 195 rfl)
theorem dX7_lay_160 : decode cX7_lay 160 = .ok (.iastore, 1) := dw_79 (kcX7_lay_2 32 79 rfl)
theorem dX7_lay_161 : decode cX7_lay 161 = .ok (.aload_n 0, 1) := dw_42 (kcX7_lay_2 33 42 rfl)
theorem dX7_lay_162 : decode cX7_lay 162 = .ok (.getfield 23, 3) := dw_180 (kcX7_lay_2 34 180 rfl) (kcX7_lay_2 35 0 rfl) (kcX7_lay_2 36 23 rfl) rfl
theorem dX7_lay_165 : decode cX7_lay 165 = .ok (.iload 7, 2) := dw_21 (kcX7_lay_2 37 21 rfl) (kcX7_lay_2 38 7 rfl)
theorem dX7_lay_167 : decode cX7_lay 167 = .ok (.iaload, 1) := dw_46 (kcX7_lay_2 39 46 rfl)
theorem dX7_lay_168 : decode cX7_lay 168 = .ok (.iconst 3, 1) := dw_6 (kcX7_lay_2 40 6 rfl)
theorem dX7_lay_169 : decode cX7_lay 169 = .ok (.if_icmp .eq 6, 3) := dw_159 (kcX7_lay_2 41 159 rfl) (kcX7_lay_2 42 0 rfl) (kcX7_lay_2 43 6 rfl) rfl
theorem dX7_lay_175 : decode cX7_lay 175 = .ok (.iload_n 3, 1) := dw_29 (kcX7_lay_2 47 29 rfl)
theorem dX7_lay_176 : decode cX7_lay 176 = .ok (.ifCond .eq 15, 3) := dw_153 (kcX7_lay_2 48 153 rfl) (kcX7_lay_2 49 0 rfl) (kcX7_lay_2 50 15 rfl) rfl
theorem dX7_lay_191 : decode cX7_lay 191 = .ok (.lconst 0, 1) := by decide +kernel
theorem dX7_lay_179 : decode cX7_lay 179 = .ok (.aload_n 0, 1) := dw_42 (kcX7_lay_2 51 42 rfl)
theorem dX7_lay_180 : decode cX7_lay 180 = .ok (.iload_n 1, 1) := dw_27 (kcX7_lay_2 52 27 rfl)
theorem dX7_lay_181 : decode cX7_lay 181 = .ok (.iload_n 2, 1) := dw_28 (kcX7_lay_2 53 28 rfl)
theorem dX7_lay_182 : decode cX7_lay 182 = .ok (.iload 5, 2) := dw_21 (kcX7_lay_2 54 21 rfl) (kcX7_lay_2 55 5 rfl)
theorem dX7_lay_184 : decode cX7_lay 184 = .ok (.invokevirtual 186, 3) := dw_182 (kcX7_lay_2 56 182 rfl) (kcX7_lay_2 57 0 rfl) (kcX7_lay_2 58 186 rfl) rfl
theorem dX7_lay_187 : decode cX7_lay 187 = .ok (.i2l, 1) := dw_133 (kcX7_lay_2 59 133 rfl)
theorem dX7_lay_188 : decode cX7_lay 188 = .ok (.goto 4, 3) := dw_167 (kcX7_lay_2 60 167 rfl) (kcX7_lay_2 61 0 rfl) (kcX7_lay_2 62 4 rfl) rfl
theorem kcX7_lay_3 : CHb cX7_lay 192 [55, 8, 42, 180, 0, 56, 21, 6, 22, 8, 21, 4, 133, 105, 20, 0, 196, 97, 20, 0, 184, 109, 136, 79, 42, 180, 0, 59, 21, 6, 21, 4, 154, 0, 7, 3, 167, 0, 18, 22, 8, 10, 97, 21, 4, 133, 105, 10, 101, 20, 0, 184, 109, 136, 79, 132, 5, 1, 167, 255, 83, 132, 2, 1] := CHb_of (by decide +kernel)
theorem dX7_lay_192 : decode cX7_lay 192 = .ok (.lstore 8, 2) := dw_55 (kcX7_lay_3 0 55 rfl) (kcX7_lay_3 1 8 rfl)
theorem dX7_lay_194 : decode cX7_lay 194 = .ok (.aload_n 0, 1) := dw_42 (kcX7_lay_3 2 42 rfl)
theorem dX7_lay_195 : decode cX7_lay 195 = .ok (.getfield 56, 3) := dw_180 (kcX7_lay_3 3 180 rfl) (kcX7_lay_3 4 0 rfl) (kcX7_lay_3 5 56 rfl) rfl
theorem dX7_lay_198 : decode cX7_lay 198 = .ok (.iload 6, 2) := dw_21 (kcX7_lay_3 6 21 rfl) (kcX7_lay_3 7 6 rfl)
theorem dX7_lay_200 : decode cX7_lay 200 = .ok (.lload 8, 2) := dw_22 (kcX7_lay_3 8 22 rfl) (kcX7_lay_3 9 8 rfl)
theorem dX7_lay_202 : decode cX7_lay 202 = .ok (.iload 4, 2) := dw_21 (kcX7_lay_3 10 21 rfl) (kcX7_lay_3 11 4 rfl)
theorem dX7_lay_204 : decode cX7_lay 204 = .ok (.i2l, 1) := dw_133 (kcX7_lay_3 12 133 rfl)
theorem dX7_lay_205 : decode cX7_lay 205 = .ok (.lmul, 1) := dw_105 (kcX7_lay_3 13 105 rfl)
theorem dX7_lay_206 : decode cX7_lay 206 = .ok (.ldc2_w 196, 3) := dw_20 (kcX7_lay_3 14 20 rfl) (kcX7_lay_3 15 0 rfl) (kcX7_lay_3 16 196 rfl) rfl
theorem dX7_lay_209 : decode cX7_lay 209 = .ok (.ladd, 1) := dw_97 (kcX7_lay_3 17 97 rfl)
theorem dX7_lay_210 : decode cX7_lay 210 = .ok (.ldc2_w 184, 3) := dw_20 (kcX7_lay_3 18 20 rfl) (kcX7_lay_3 19 0 rfl) (kcX7_lay_3 20 184 rfl) rfl
theorem dX7_lay_213 : decode cX7_lay 213 = .ok (.ldiv, 1) := dw_109 (kcX7_lay_3 21 109 rfl)
theorem dX7_lay_214 : decode cX7_lay 214 = .ok (.l2i, 1) := dw_136 (kcX7_lay_3 22 136 rfl)
theorem dX7_lay_215 : decode cX7_lay 215 = .ok (.iastore, 1) := dw_79 (kcX7_lay_3 23 79 rfl)
theorem dX7_lay_216 : decode cX7_lay 216 = .ok (.aload_n 0, 1) := dw_42 (kcX7_lay_3 24 42 rfl)
theorem dX7_lay_217 : decode cX7_lay 217 = .ok (.getfield 59, 3) := dw_180 (kcX7_lay_3 25 180 rfl) (kcX7_lay_3 26 0 rfl) (kcX7_lay_3 27 59 rfl) rfl
theorem dX7_lay_220 : decode cX7_lay 220 = .ok (.iload 6, 2) := dw_21 (kcX7_lay_3 28 21 rfl) (kcX7_lay_3 29 6 rfl)
theorem dX7_lay_222 : decode cX7_lay 222 = .ok (.iload 4, 2) := dw_21 (kcX7_lay_3 30 21 rfl) (kcX7_lay_3 31 4 rfl)
theorem dX7_lay_224 : decode cX7_lay 224 = .ok (.ifCond .ne 7, 3) := dw_154 (kcX7_lay_3 32 154 rfl) (kcX7_lay_3 33 0 rfl) (kcX7_lay_3 34 7 rfl) rfl
theorem dX7_lay_231 : decode cX7_lay 231 = .ok (.lload 8, 2) := dw_22 (kcX7_lay_3 39 22 rfl) (kcX7_lay_3 40 8 rfl)
theorem dX7_lay_233 : decode cX7_lay 233 = .ok (.lconst 1, 1) := by decide +kernel
theorem dX7_lay_234 : decode cX7_lay 234 = .ok (.ladd, 1) := dw_97 (kcX7_lay_3 42 97 rfl)
theorem dX7_lay_235 : decode cX7_lay 235 = .ok (.iload 4, 2) := dw_21 (kcX7_lay_3 43 21 rfl) (kcX7_lay_3 44 4 rfl)
theorem dX7_lay_237 : decode cX7_lay 237 = .ok (.i2l, 1) := dw_133 (kcX7_lay_3 45 133 rfl)
theorem dX7_lay_238 : decode cX7_lay 238 = .ok (.lmul, 1) := dw_105 (kcX7_lay_3 46 105 rfl)
theorem dX7_lay_239 : decode cX7_lay 239 = .ok (.lconst 1, 1) := by decide +kernel
theorem dX7_lay_240 : decode cX7_lay 240 = .ok (.lsub, 1) := dw_101 (kcX7_lay_3 48 101 rfl)
theorem dX7_lay_241 : decode cX7_lay 241 = .ok (.ldc2_w 184, 3) := dw_20 (kcX7_lay_3 49 20 rfl) (kcX7_lay_3 50 0 rfl) (kcX7_lay_3 51 184 rfl) rfl
theorem dX7_lay_244 : decode cX7_lay 244 = .ok (.ldiv, 1) := dw_109 (kcX7_lay_3 52 109 rfl)
theorem dX7_lay_245 : decode cX7_lay 245 = .ok (.l2i, 1) := dw_136 (kcX7_lay_3 53 136 rfl)
theorem dX7_lay_227 : decode cX7_lay 227 = .ok (.iconst 0, 1) := dw_3 (kcX7_lay_3 35 3 rfl)
theorem dX7_lay_228 : decode cX7_lay 228 = .ok (.goto 18, 3) := dw_167 (kcX7_lay_3 36 167 rfl) (kcX7_lay_3 37 0 rfl) (kcX7_lay_3 38 18 rfl) rfl
theorem dX7_lay_246 : decode cX7_lay 246 = .ok (.iastore, 1) := dw_79 (kcX7_lay_3 54 79 rfl)
theorem dX7_lay_172 : decode cX7_lay 172 = .ok (.goto 75, 3) := dw_167 (kcX7_lay_2 44 167 rfl) (kcX7_lay_2 45 0 rfl) (kcX7_lay_2 46 75 rfl) rfl
theorem dX7_lay_247 : decode cX7_lay 247 = .ok (.iinc 5 1, 3) := dw_132 (kcX7_lay_3 55 132 rfl) (kcX7_lay_3 56 5 rfl) (kcX7_lay_3 57 1 rfl) rfl
theorem dX7_lay_250 : decode cX7_lay 250 = .ok (.goto (-173), 3) := dw_167 (kcX7_lay_3 58 167 rfl) (kcX7_lay_3 59 255 rfl) (kcX7_lay_3 60 83 rfl) rfl
theorem dX7_lay_253 : decode cX7_lay 253 = .ok (.iinc 2 1, 3) := dw_132 (kcX7_lay_3 61 132 rfl) (kcX7_lay_3 62 2 rfl) (kcX7_lay_3 63 1 rfl) rfl
theorem dX7_lay_256 : decode cX7_lay 256 = .ok (.goto (-234), 3) := dw_167 (kcX7_lay_4 0 167 rfl) (kcX7_lay_4 1 255 rfl) (kcX7_lay_4 2 22 rfl) rfl
theorem kcX7_room_0 : CHb cX7_room 0 [27, 16, 12, 162, 0, 15, 16, 12, 27, 104, 28, 96, 16, 12, 100, 167, 0, 12, 16, 12, 28, 104, 27, 96, 16, 12, 100, 62, 42, 180, 0, 65, 29, 51, 154, 0, 5, 3, 172, 27, 16, 12, 162, 0, 19, 42, 180, 0, 59, 29, 46, 42, 180, 0, 53, 29, 46, 100, 167, 0, 16, 42, 180, 0] := CHb_of (by decide +kernel)
theorem dX7_room_0 : decode cX7_room 0 = .ok (.iload_n 1, 1) := dw_27 (kcX7_room_0 0 27 rfl)
theorem dX7_room_1 : decode cX7_room 1 = .ok (.bipush 12, 2) := dw_16 (kcX7_room_0 1 16 rfl) (kcX7_room_0 2 12 rfl) rfl
theorem dX7_room_3 : decode cX7_room 3 = .ok (.if_icmp .ge 15, 3) := dw_162 (kcX7_room_0 3 162 rfl) (kcX7_room_0 4 0 rfl) (kcX7_room_0 5 15 rfl) rfl
theorem dX7_room_18 : decode cX7_room 18 = .ok (.bipush 12, 2) := dw_16 (kcX7_room_0 18 16 rfl) (kcX7_room_0 19 12 rfl) rfl
theorem dX7_room_20 : decode cX7_room 20 = .ok (.iload_n 2, 1) := dw_28 (kcX7_room_0 20 28 rfl)
theorem dX7_room_21 : decode cX7_room 21 = .ok (.imul, 1) := dw_104 (kcX7_room_0 21 104 rfl)
theorem dX7_room_22 : decode cX7_room 22 = .ok (.iload_n 1, 1) := dw_27 (kcX7_room_0 22 27 rfl)
theorem dX7_room_23 : decode cX7_room 23 = .ok (.iadd, 1) := dw_96 (kcX7_room_0 23 96 rfl)
theorem dX7_room_24 : decode cX7_room 24 = .ok (.bipush 12, 2) := dw_16 (kcX7_room_0 24 16 rfl) (kcX7_room_0 25 12 rfl) rfl
theorem dX7_room_26 : decode cX7_room 26 = .ok (.isub, 1) := dw_100 (kcX7_room_0 26 100 rfl)
theorem dX7_room_27 : decode cX7_room 27 = .ok (.istore_n 3, 1) := dw_62 (kcX7_room_0 27 62 rfl)
theorem dX7_room_28 : decode cX7_room 28 = .ok (.aload_n 0, 1) := dw_42 (kcX7_room_0 28 42 rfl)
theorem dX7_room_29 : decode cX7_room 29 = .ok (.getfield 65, 3) := dw_180 (kcX7_room_0 29 180 rfl) (kcX7_room_0 30 0 rfl) (kcX7_room_0 31 65 rfl) rfl
theorem dX7_room_32 : decode cX7_room 32 = .ok (.iload_n 3, 1) := dw_29 (kcX7_room_0 32 29 rfl)
theorem dX7_room_33 : decode cX7_room 33 = .ok (.baload, 1) := dw_51 (kcX7_room_0 33 51 rfl)
theorem dX7_room_34 : decode cX7_room 34 = .ok (.ifCond .ne 5, 3) := dw_154 (kcX7_room_0 34 154 rfl) (kcX7_room_0 35 0 rfl) (kcX7_room_0 36 5 rfl) rfl
theorem dX7_room_39 : decode cX7_room 39 = .ok (.iload_n 1, 1) := dw_27 (kcX7_room_0 39 27 rfl)
theorem dX7_room_40 : decode cX7_room 40 = .ok (.bipush 12, 2) := dw_16 (kcX7_room_0 40 16 rfl) (kcX7_room_0 41 12 rfl) rfl
theorem dX7_room_42 : decode cX7_room 42 = .ok (.if_icmp .ge 19, 3) := dw_162 (kcX7_room_0 42 162 rfl) (kcX7_room_0 43 0 rfl) (kcX7_room_0 44 19 rfl) rfl
theorem dX7_room_61 : decode cX7_room 61 = .ok (.aload_n 0, 1) := dw_42 (kcX7_room_0 61 42 rfl)
theorem kcX7_room_1 : CHb cX7_room 64 [53, 29, 46, 42, 180, 0, 56, 29, 46, 100, 172] := CHb_of (by decide +kernel)
theorem dX7_room_62 : decode cX7_room 62 = .ok (.getfield 53, 3) := dw_180 (kcX7_room_0 62 180 rfl) (kcX7_room_0 63 0 rfl) (kcX7_room_1 0 53 rfl) rfl
theorem dX7_room_65 : decode cX7_room 65 = .ok (.iload_n 3, 1) := dw_29 (kcX7_room_1 1 29 rfl)
theorem dX7_room_66 : decode cX7_room 66 = .ok (.iaload, 1) := dw_46 (kcX7_room_1 2 46 rfl)
theorem dX7_room_67 : decode cX7_room 67 = .ok (.aload_n 0, 1) := dw_42 (kcX7_room_1 3 42 rfl)
theorem dX7_room_68 : decode cX7_room 68 = .ok (.getfield 56, 3) := dw_180 (kcX7_room_1 4 180 rfl) (kcX7_room_1 5 0 rfl) (kcX7_room_1 6 56 rfl) rfl
theorem dX7_room_71 : decode cX7_room 71 = .ok (.iload_n 3, 1) := dw_29 (kcX7_room_1 7 29 rfl)
theorem dX7_room_72 : decode cX7_room 72 = .ok (.iaload, 1) := dw_46 (kcX7_room_1 8 46 rfl)
theorem dX7_room_73 : decode cX7_room 73 = .ok (.isub, 1) := dw_100 (kcX7_room_1 9 100 rfl)
theorem dX7_room_74 : decode cX7_room 74 = .ok (.ireturn, 1) := dw_172 (kcX7_room_1 10 172 rfl)
theorem dX7_room_37 : decode cX7_room 37 = .ok (.iconst 0, 1) := dw_3 (kcX7_room_0 37 3 rfl)
theorem dX7_room_38 : decode cX7_room 38 = .ok (.ireturn, 1) := dw_172 (kcX7_room_0 38 172 rfl)
theorem dX7_room_6 : decode cX7_room 6 = .ok (.bipush 12, 2) := dw_16 (kcX7_room_0 6 16 rfl) (kcX7_room_0 7 12 rfl) rfl
theorem dX7_room_8 : decode cX7_room 8 = .ok (.iload_n 1, 1) := dw_27 (kcX7_room_0 8 27 rfl)
theorem dX7_room_9 : decode cX7_room 9 = .ok (.imul, 1) := dw_104 (kcX7_room_0 9 104 rfl)
theorem dX7_room_10 : decode cX7_room 10 = .ok (.iload_n 2, 1) := dw_28 (kcX7_room_0 10 28 rfl)
theorem dX7_room_11 : decode cX7_room 11 = .ok (.iadd, 1) := dw_96 (kcX7_room_0 11 96 rfl)
theorem dX7_room_12 : decode cX7_room 12 = .ok (.bipush 12, 2) := dw_16 (kcX7_room_0 12 16 rfl) (kcX7_room_0 13 12 rfl) rfl
theorem dX7_room_14 : decode cX7_room 14 = .ok (.isub, 1) := dw_100 (kcX7_room_0 14 100 rfl)
theorem dX7_room_15 : decode cX7_room 15 = .ok (.goto 12, 3) := dw_167 (kcX7_room_0 15 167 rfl) (kcX7_room_0 16 0 rfl) (kcX7_room_0 17 12 rfl) rfl
theorem dX7_room_45 : decode cX7_room 45 = .ok (.aload_n 0, 1) := dw_42 (kcX7_room_0 45 42 rfl)
theorem dX7_room_46 : decode cX7_room 46 = .ok (.getfield 59, 3) := dw_180 (kcX7_room_0 46 180 rfl) (kcX7_room_0 47 0 rfl) (kcX7_room_0 48 59 rfl) rfl
theorem dX7_room_49 : decode cX7_room 49 = .ok (.iload_n 3, 1) := dw_29 (kcX7_room_0 49 29 rfl)
theorem dX7_room_50 : decode cX7_room 50 = .ok (.iaload, 1) := dw_46 (kcX7_room_0 50 46 rfl)
theorem dX7_room_51 : decode cX7_room 51 = .ok (.aload_n 0, 1) := dw_42 (kcX7_room_0 51 42 rfl)
theorem dX7_room_52 : decode cX7_room 52 = .ok (.getfield 53, 3) := dw_180 (kcX7_room_0 52 180 rfl) (kcX7_room_0 53 0 rfl) (kcX7_room_0 54 53 rfl) rfl
theorem dX7_room_55 : decode cX7_room 55 = .ok (.iload_n 3, 1) := dw_29 (kcX7_room_0 55 29 rfl)
theorem dX7_room_56 : decode cX7_room 56 = .ok (.iaload, 1) := dw_46 (kcX7_room_0 56 46 rfl)
theorem dX7_room_57 : decode cX7_room 57 = .ok (.isub, 1) := dw_100 (kcX7_room_0 57 100 rfl)
theorem dX7_room_58 : decode cX7_room 58 = .ok (.goto 16, 3) := dw_167 (kcX7_room_0 58 167 rfl) (kcX7_room_0 59 0 rfl) (kcX7_room_0 60 16 rfl) rfl
theorem kcX7_isNode_0 : CHb cX7_isNode 0 [27, 16, 12, 162, 0, 29, 27, 42, 180, 0, 189, 162, 0, 17, 42, 180, 0, 62, 27, 46, 28, 160, 0, 7, 4, 167, 0, 23, 3, 167, 0, 19, 27, 16, 12, 100, 42, 180, 0, 192, 162, 0, 7, 4, 167, 0, 4, 3, 172] := CHb_of (by decide +kernel)
theorem dX7_isNode_0 : decode cX7_isNode 0 = .ok (.iload_n 1, 1) := dw_27 (kcX7_isNode_0 0 27 rfl)
theorem dX7_isNode_1 : decode cX7_isNode 1 = .ok (.bipush 12, 2) := dw_16 (kcX7_isNode_0 1 16 rfl) (kcX7_isNode_0 2 12 rfl) rfl
theorem dX7_isNode_3 : decode cX7_isNode 3 = .ok (.if_icmp .ge 29, 3) := dw_162 (kcX7_isNode_0 3 162 rfl) (kcX7_isNode_0 4 0 rfl) (kcX7_isNode_0 5 29 rfl) rfl
theorem dX7_isNode_32 : decode cX7_isNode 32 = .ok (.iload_n 1, 1) := dw_27 (kcX7_isNode_0 32 27 rfl)
theorem dX7_isNode_33 : decode cX7_isNode 33 = .ok (.bipush 12, 2) := dw_16 (kcX7_isNode_0 33 16 rfl) (kcX7_isNode_0 34 12 rfl) rfl
theorem dX7_isNode_35 : decode cX7_isNode 35 = .ok (.isub, 1) := dw_100 (kcX7_isNode_0 35 100 rfl)
theorem dX7_isNode_36 : decode cX7_isNode 36 = .ok (.aload_n 0, 1) := dw_42 (kcX7_isNode_0 36 42 rfl)
theorem dX7_isNode_37 : decode cX7_isNode 37 = .ok (.getfield 192, 3) := dw_180 (kcX7_isNode_0 37 180 rfl) (kcX7_isNode_0 38 0 rfl) (kcX7_isNode_0 39 192 rfl) rfl
theorem dX7_isNode_40 : decode cX7_isNode 40 = .ok (.if_icmp .ge 7, 3) := dw_162 (kcX7_isNode_0 40 162 rfl) (kcX7_isNode_0 41 0 rfl) (kcX7_isNode_0 42 7 rfl) rfl
theorem dX7_isNode_47 : decode cX7_isNode 47 = .ok (.iconst 0, 1) := dw_3 (kcX7_isNode_0 47 3 rfl)
theorem dX7_isNode_48 : decode cX7_isNode 48 = .ok (.ireturn, 1) := dw_172 (kcX7_isNode_0 48 172 rfl)
theorem dX7_isNode_43 : decode cX7_isNode 43 = .ok (.iconst 1, 1) := dw_4 (kcX7_isNode_0 43 4 rfl)
theorem dX7_isNode_44 : decode cX7_isNode 44 = .ok (.goto 4, 3) := dw_167 (kcX7_isNode_0 44 167 rfl) (kcX7_isNode_0 45 0 rfl) (kcX7_isNode_0 46 4 rfl) rfl
theorem dX7_isNode_6 : decode cX7_isNode 6 = .ok (.iload_n 1, 1) := dw_27 (kcX7_isNode_0 6 27 rfl)
theorem dX7_isNode_7 : decode cX7_isNode 7 = .ok (.aload_n 0, 1) := dw_42 (kcX7_isNode_0 7 42 rfl)
theorem dX7_isNode_8 : decode cX7_isNode 8 = .ok (.getfield 189, 3) := dw_180 (kcX7_isNode_0 8 180 rfl) (kcX7_isNode_0 9 0 rfl) (kcX7_isNode_0 10 189 rfl) rfl
theorem dX7_isNode_11 : decode cX7_isNode 11 = .ok (.if_icmp .ge 17, 3) := dw_162 (kcX7_isNode_0 11 162 rfl) (kcX7_isNode_0 12 0 rfl) (kcX7_isNode_0 13 17 rfl) rfl
theorem dX7_isNode_28 : decode cX7_isNode 28 = .ok (.iconst 0, 1) := dw_3 (kcX7_isNode_0 28 3 rfl)
theorem dX7_isNode_29 : decode cX7_isNode 29 = .ok (.goto 19, 3) := dw_167 (kcX7_isNode_0 29 167 rfl) (kcX7_isNode_0 30 0 rfl) (kcX7_isNode_0 31 19 rfl) rfl
theorem dX7_isNode_14 : decode cX7_isNode 14 = .ok (.aload_n 0, 1) := dw_42 (kcX7_isNode_0 14 42 rfl)
theorem dX7_isNode_15 : decode cX7_isNode 15 = .ok (.getfield 62, 3) := dw_180 (kcX7_isNode_0 15 180 rfl) (kcX7_isNode_0 16 0 rfl) (kcX7_isNode_0 17 62 rfl) rfl
theorem dX7_isNode_18 : decode cX7_isNode 18 = .ok (.iload_n 1, 1) := dw_27 (kcX7_isNode_0 18 27 rfl)
theorem dX7_isNode_19 : decode cX7_isNode 19 = .ok (.iaload, 1) := dw_46 (kcX7_isNode_0 19 46 rfl)
theorem dX7_isNode_20 : decode cX7_isNode 20 = .ok (.iload_n 2, 1) := dw_28 (kcX7_isNode_0 20 28 rfl)
theorem dX7_isNode_21 : decode cX7_isNode 21 = .ok (.if_icmp .ne 7, 3) := dw_160 (kcX7_isNode_0 21 160 rfl) (kcX7_isNode_0 22 0 rfl) (kcX7_isNode_0 23 7 rfl) rfl
theorem dX7_isNode_24 : decode cX7_isNode 24 = .ok (.iconst 1, 1) := dw_4 (kcX7_isNode_0 24 4 rfl)
theorem dX7_isNode_25 : decode cX7_isNode 25 = .ok (.goto 23, 3) := dw_167 (kcX7_isNode_0 25 167 rfl) (kcX7_isNode_0 26 0 rfl) (kcX7_isNode_0 27 23 rfl) rfl
theorem kcX7_way_0 : CHb cX7_way 0 [3, 54, 4, 21, 4, 16, 24, 162, 0, 17, 42, 180, 0, 68, 21, 4, 2, 79, 132, 4, 1, 167, 255, 238, 42, 180, 0, 68, 27, 27, 79, 42, 180, 0, 71, 3, 27, 79, 4, 54, 4, 3, 54, 5, 21, 5, 21, 4, 162, 0, 119, 42, 180, 0, 68, 28, 46, 2, 160, 0, 109, 42, 180, 0] := CHb_of (by decide +kernel)
theorem dX7_way_0 : decode cX7_way 0 = .ok (.iconst 0, 1) := dw_3 (kcX7_way_0 0 3 rfl)
theorem dX7_way_1 : decode cX7_way 1 = .ok (.istore 4, 2) := dw_54 (kcX7_way_0 1 54 rfl) (kcX7_way_0 2 4 rfl)
theorem dX7_way_3 : decode cX7_way 3 = .ok (.iload 4, 2) := dw_21 (kcX7_way_0 3 21 rfl) (kcX7_way_0 4 4 rfl)
theorem dX7_way_5 : decode cX7_way 5 = .ok (.bipush 24, 2) := dw_16 (kcX7_way_0 5 16 rfl) (kcX7_way_0 6 24 rfl) rfl
theorem dX7_way_7 : decode cX7_way 7 = .ok (.if_icmp .ge 17, 3) := dw_162 (kcX7_way_0 7 162 rfl) (kcX7_way_0 8 0 rfl) (kcX7_way_0 9 17 rfl) rfl
theorem dX7_way_10 : decode cX7_way 10 = .ok (.aload_n 0, 1) := dw_42 (kcX7_way_0 10 42 rfl)
theorem dX7_way_11 : decode cX7_way 11 = .ok (.getfield 68, 3) := dw_180 (kcX7_way_0 11 180 rfl) (kcX7_way_0 12 0 rfl) (kcX7_way_0 13 68 rfl) rfl
theorem dX7_way_14 : decode cX7_way 14 = .ok (.iload 4, 2) := dw_21 (kcX7_way_0 14 21 rfl) (kcX7_way_0 15 4 rfl)
theorem dX7_way_16 : decode cX7_way 16 = .ok (.iconst (-1), 1) := dw_2 (kcX7_way_0 16 2 rfl)
theorem dX7_way_17 : decode cX7_way 17 = .ok (.iastore, 1) := dw_79 (kcX7_way_0 17 79 rfl)
theorem dX7_way_18 : decode cX7_way 18 = .ok (.iinc 4 1, 3) := dw_132 (kcX7_way_0 18 132 rfl) (kcX7_way_0 19 4 rfl) (kcX7_way_0 20 1 rfl) rfl
theorem dX7_way_21 : decode cX7_way 21 = .ok (.goto (-18), 3) := dw_167 (kcX7_way_0 21 167 rfl) (kcX7_way_0 22 255 rfl) (kcX7_way_0 23 238 rfl) rfl
theorem dX7_way_24 : decode cX7_way 24 = .ok (.aload_n 0, 1) := dw_42 (kcX7_way_0 24 42 rfl)
theorem dX7_way_25 : decode cX7_way 25 = .ok (.getfield 68, 3) := dw_180 (kcX7_way_0 25 180 rfl) (kcX7_way_0 26 0 rfl) (kcX7_way_0 27 68 rfl) rfl
theorem dX7_way_28 : decode cX7_way 28 = .ok (.iload_n 1, 1) := dw_27 (kcX7_way_0 28 27 rfl)
theorem dX7_way_29 : decode cX7_way 29 = .ok (.iload_n 1, 1) := dw_27 (kcX7_way_0 29 27 rfl)
theorem dX7_way_30 : decode cX7_way 30 = .ok (.iastore, 1) := dw_79 (kcX7_way_0 30 79 rfl)
theorem dX7_way_31 : decode cX7_way 31 = .ok (.aload_n 0, 1) := dw_42 (kcX7_way_0 31 42 rfl)
theorem dX7_way_32 : decode cX7_way 32 = .ok (.getfield 71, 3) := dw_180 (kcX7_way_0 32 180 rfl) (kcX7_way_0 33 0 rfl) (kcX7_way_0 34 71 rfl) rfl
theorem dX7_way_35 : decode cX7_way 35 = .ok (.iconst 0, 1) := dw_3 (kcX7_way_0 35 3 rfl)
theorem dX7_way_36 : decode cX7_way 36 = .ok (.iload_n 1, 1) := dw_27 (kcX7_way_0 36 27 rfl)
theorem dX7_way_37 : decode cX7_way 37 = .ok (.iastore, 1) := dw_79 (kcX7_way_0 37 79 rfl)
theorem dX7_way_38 : decode cX7_way 38 = .ok (.iconst 1, 1) := dw_4 (kcX7_way_0 38 4 rfl)
theorem dX7_way_39 : decode cX7_way 39 = .ok (.istore 4, 2) := dw_54 (kcX7_way_0 39 54 rfl) (kcX7_way_0 40 4 rfl)
theorem dX7_way_41 : decode cX7_way 41 = .ok (.iconst 0, 1) := dw_3 (kcX7_way_0 41 3 rfl)
theorem dX7_way_42 : decode cX7_way 42 = .ok (.istore 5, 2) := dw_54 (kcX7_way_0 42 54 rfl) (kcX7_way_0 43 5 rfl)
theorem dX7_way_44 : decode cX7_way 44 = .ok (.iload 5, 2) := dw_21 (kcX7_way_0 44 21 rfl) (kcX7_way_0 45 5 rfl)
theorem dX7_way_46 : decode cX7_way 46 = .ok (.iload 4, 2) := dw_21 (kcX7_way_0 46 21 rfl) (kcX7_way_0 47 4 rfl)
theorem dX7_way_48 : decode cX7_way 48 = .ok (.if_icmp .ge 119, 3) := dw_162 (kcX7_way_0 48 162 rfl) (kcX7_way_0 49 0 rfl) (kcX7_way_0 50 119 rfl) rfl
theorem kcX7_way_2 : CHb cX7_way 128 [157, 0, 6, 167, 0, 24, 42, 180, 0, 68, 21, 8, 21, 6, 79, 42, 180, 0, 71, 21, 4, 21, 8, 79, 132, 4, 1, 132, 8, 1, 167, 255, 187, 132, 5, 1, 167, 255, 136, 42, 180, 0, 68, 28, 46, 2, 159, 0, 7, 4, 167, 0, 4, 3, 172] := CHb_of (by decide +kernel)
theorem dX7_way_167 : decode cX7_way 167 = .ok (.aload_n 0, 1) := dw_42 (kcX7_way_2 39 42 rfl)
theorem dX7_way_168 : decode cX7_way 168 = .ok (.getfield 68, 3) := dw_180 (kcX7_way_2 40 180 rfl) (kcX7_way_2 41 0 rfl) (kcX7_way_2 42 68 rfl) rfl
theorem dX7_way_171 : decode cX7_way 171 = .ok (.iload_n 2, 1) := dw_28 (kcX7_way_2 43 28 rfl)
theorem dX7_way_172 : decode cX7_way 172 = .ok (.iaload, 1) := dw_46 (kcX7_way_2 44 46 rfl)
theorem dX7_way_173 : decode cX7_way 173 = .ok (.iconst (-1), 1) := dw_2 (kcX7_way_2 45 2 rfl)
theorem dX7_way_174 : decode cX7_way 174 = .ok (.if_icmp .eq 7, 3) := dw_159 (kcX7_way_2 46 159 rfl) (kcX7_way_2 47 0 rfl) (kcX7_way_2 48 7 rfl) rfl
theorem dX7_way_181 : decode cX7_way 181 = .ok (.iconst 0, 1) := dw_3 (kcX7_way_2 53 3 rfl)
theorem dX7_way_182 : decode cX7_way 182 = .ok (.ireturn, 1) := dw_172 (kcX7_way_2 54 172 rfl)
theorem dX7_way_177 : decode cX7_way 177 = .ok (.iconst 1, 1) := dw_4 (kcX7_way_2 49 4 rfl)
theorem dX7_way_178 : decode cX7_way 178 = .ok (.goto 4, 3) := dw_167 (kcX7_way_2 50 167 rfl) (kcX7_way_2 51 0 rfl) (kcX7_way_2 52 4 rfl) rfl
theorem dX7_way_51 : decode cX7_way 51 = .ok (.aload_n 0, 1) := dw_42 (kcX7_way_0 51 42 rfl)
theorem dX7_way_52 : decode cX7_way 52 = .ok (.getfield 68, 3) := dw_180 (kcX7_way_0 52 180 rfl) (kcX7_way_0 53 0 rfl) (kcX7_way_0 54 68 rfl) rfl
theorem dX7_way_55 : decode cX7_way 55 = .ok (.iload_n 2, 1) := dw_28 (kcX7_way_0 55 28 rfl)
theorem dX7_way_56 : decode cX7_way 56 = .ok (.iaload, 1) := dw_46 (kcX7_way_0 56 46 rfl)
theorem dX7_way_57 : decode cX7_way 57 = .ok (.iconst (-1), 1) := dw_2 (kcX7_way_0 57 2 rfl)
theorem dX7_way_58 : decode cX7_way 58 = .ok (.if_icmp .ne 109, 3) := dw_160 (kcX7_way_0 58 160 rfl) (kcX7_way_0 59 0 rfl) (kcX7_way_0 60 109 rfl) rfl
theorem dX7_way_61 : decode cX7_way 61 = .ok (.aload_n 0, 1) := dw_42 (kcX7_way_0 61 42 rfl)
theorem kcX7_way_1 : CHb cX7_way 64 [71, 21, 5, 46, 54, 6, 21, 6, 16, 12, 162, 0, 8, 16, 12, 167, 0, 4, 3, 54, 7, 21, 7, 54, 8, 21, 8, 21, 7, 16, 12, 96, 162, 0, 65, 42, 180, 0, 68, 21, 8, 46, 2, 160, 0, 48, 42, 21, 8, 29, 182, 0, 198, 153, 0, 38, 42, 21, 6, 21, 8, 182, 0, 201] := CHb_of (by decide +kernel)
theorem dX7_way_62 : decode cX7_way 62 = .ok (.getfield 71, 3) := dw_180 (kcX7_way_0 62 180 rfl) (kcX7_way_0 63 0 rfl) (kcX7_way_1 0 71 rfl) rfl
theorem dX7_way_65 : decode cX7_way 65 = .ok (.iload 5, 2) := dw_21 (kcX7_way_1 1 21 rfl) (kcX7_way_1 2 5 rfl)
theorem dX7_way_67 : decode cX7_way 67 = .ok (.iaload, 1) := dw_46 (kcX7_way_1 3 46 rfl)
theorem dX7_way_68 : decode cX7_way 68 = .ok (.istore 6, 2) := dw_54 (kcX7_way_1 4 54 rfl) (kcX7_way_1 5 6 rfl)
theorem dX7_way_70 : decode cX7_way 70 = .ok (.iload 6, 2) := dw_21 (kcX7_way_1 6 21 rfl) (kcX7_way_1 7 6 rfl)
theorem dX7_way_72 : decode cX7_way 72 = .ok (.bipush 12, 2) := dw_16 (kcX7_way_1 8 16 rfl) (kcX7_way_1 9 12 rfl) rfl
theorem dX7_way_74 : decode cX7_way 74 = .ok (.if_icmp .ge 8, 3) := dw_162 (kcX7_way_1 10 162 rfl) (kcX7_way_1 11 0 rfl) (kcX7_way_1 12 8 rfl) rfl
theorem dX7_way_82 : decode cX7_way 82 = .ok (.iconst 0, 1) := dw_3 (kcX7_way_1 18 3 rfl)
theorem dX7_way_83 : decode cX7_way 83 = .ok (.istore 7, 2) := dw_54 (kcX7_way_1 19 54 rfl) (kcX7_way_1 20 7 rfl)
theorem dX7_way_85 : decode cX7_way 85 = .ok (.iload 7, 2) := dw_21 (kcX7_way_1 21 21 rfl) (kcX7_way_1 22 7 rfl)
theorem dX7_way_87 : decode cX7_way 87 = .ok (.istore 8, 2) := dw_54 (kcX7_way_1 23 54 rfl) (kcX7_way_1 24 8 rfl)
theorem dX7_way_89 : decode cX7_way 89 = .ok (.iload 8, 2) := dw_21 (kcX7_way_1 25 21 rfl) (kcX7_way_1 26 8 rfl)
theorem dX7_way_91 : decode cX7_way 91 = .ok (.iload 7, 2) := dw_21 (kcX7_way_1 27 21 rfl) (kcX7_way_1 28 7 rfl)
theorem dX7_way_93 : decode cX7_way 93 = .ok (.bipush 12, 2) := dw_16 (kcX7_way_1 29 16 rfl) (kcX7_way_1 30 12 rfl) rfl
theorem dX7_way_95 : decode cX7_way 95 = .ok (.iadd, 1) := dw_96 (kcX7_way_1 31 96 rfl)
theorem dX7_way_96 : decode cX7_way 96 = .ok (.if_icmp .ge 65, 3) := dw_162 (kcX7_way_1 32 162 rfl) (kcX7_way_1 33 0 rfl) (kcX7_way_1 34 65 rfl) rfl
theorem dX7_way_99 : decode cX7_way 99 = .ok (.aload_n 0, 1) := dw_42 (kcX7_way_1 35 42 rfl)
theorem dX7_way_100 : decode cX7_way 100 = .ok (.getfield 68, 3) := dw_180 (kcX7_way_1 36 180 rfl) (kcX7_way_1 37 0 rfl) (kcX7_way_1 38 68 rfl) rfl
theorem dX7_way_103 : decode cX7_way 103 = .ok (.iload 8, 2) := dw_21 (kcX7_way_1 39 21 rfl) (kcX7_way_1 40 8 rfl)
theorem dX7_way_105 : decode cX7_way 105 = .ok (.iaload, 1) := dw_46 (kcX7_way_1 41 46 rfl)
theorem dX7_way_106 : decode cX7_way 106 = .ok (.iconst (-1), 1) := dw_2 (kcX7_way_1 42 2 rfl)
theorem dX7_way_107 : decode cX7_way 107 = .ok (.if_icmp .ne 48, 3) := dw_160 (kcX7_way_1 43 160 rfl) (kcX7_way_1 44 0 rfl) (kcX7_way_1 45 48 rfl) rfl
theorem dX7_way_155 : decode cX7_way 155 = .ok (.iinc 8 1, 3) := dw_132 (kcX7_way_2 27 132 rfl) (kcX7_way_2 28 8 rfl) (kcX7_way_2 29 1 rfl) rfl
theorem dX7_way_158 : decode cX7_way 158 = .ok (.goto (-69), 3) := dw_167 (kcX7_way_2 30 167 rfl) (kcX7_way_2 31 255 rfl) (kcX7_way_2 32 187 rfl) rfl
theorem dX7_way_110 : decode cX7_way 110 = .ok (.aload_n 0, 1) := dw_42 (kcX7_way_1 46 42 rfl)
theorem dX7_way_111 : decode cX7_way 111 = .ok (.iload 8, 2) := dw_21 (kcX7_way_1 47 21 rfl) (kcX7_way_1 48 8 rfl)
theorem dX7_way_113 : decode cX7_way 113 = .ok (.iload_n 3, 1) := dw_29 (kcX7_way_1 49 29 rfl)
theorem dX7_way_114 : decode cX7_way 114 = .ok (.invokevirtual 198, 3) := dw_182 (kcX7_way_1 50 182 rfl) (kcX7_way_1 51 0 rfl) (kcX7_way_1 52 198 rfl) rfl
theorem dX7_way_117 : decode cX7_way 117 = .ok (.ifCond .eq 38, 3) := dw_153 (kcX7_way_1 53 153 rfl) (kcX7_way_1 54 0 rfl) (kcX7_way_1 55 38 rfl) rfl
theorem dX7_way_120 : decode cX7_way 120 = .ok (.aload_n 0, 1) := dw_42 (kcX7_way_1 56 42 rfl)
theorem dX7_way_121 : decode cX7_way 121 = .ok (.iload 6, 2) := dw_21 (kcX7_way_1 57 21 rfl) (kcX7_way_1 58 6 rfl)
theorem dX7_way_123 : decode cX7_way 123 = .ok (.iload 8, 2) := dw_21 (kcX7_way_1 59 21 rfl) (kcX7_way_1 60 8 rfl)
theorem dX7_way_125 : decode cX7_way 125 = .ok (.invokevirtual 201, 3) := dw_182 (kcX7_way_1 61 182 rfl) (kcX7_way_1 62 0 rfl) (kcX7_way_1 63 201 rfl) rfl
theorem dX7_way_128 : decode cX7_way 128 = .ok (.ifCond .gt 6, 3) := dw_157 (kcX7_way_2 0 157 rfl) (kcX7_way_2 1 0 rfl) (kcX7_way_2 2 6 rfl) rfl
theorem dX7_way_134 : decode cX7_way 134 = .ok (.aload_n 0, 1) := dw_42 (kcX7_way_2 6 42 rfl)
theorem dX7_way_135 : decode cX7_way 135 = .ok (.getfield 68, 3) := dw_180 (kcX7_way_2 7 180 rfl) (kcX7_way_2 8 0 rfl) (kcX7_way_2 9 68 rfl) rfl
theorem dX7_way_138 : decode cX7_way 138 = .ok (.iload 8, 2) := dw_21 (kcX7_way_2 10 21 rfl) (kcX7_way_2 11 8 rfl)
theorem dX7_way_140 : decode cX7_way 140 = .ok (.iload 6, 2) := dw_21 (kcX7_way_2 12 21 rfl) (kcX7_way_2 13 6 rfl)
theorem dX7_way_142 : decode cX7_way 142 = .ok (.iastore, 1) := dw_79 (kcX7_way_2 14 79 rfl)
theorem dX7_way_143 : decode cX7_way 143 = .ok (.aload_n 0, 1) := dw_42 (kcX7_way_2 15 42 rfl)
theorem dX7_way_144 : decode cX7_way 144 = .ok (.getfield 71, 3) := dw_180 (kcX7_way_2 16 180 rfl) (kcX7_way_2 17 0 rfl) (kcX7_way_2 18 71 rfl) rfl
theorem dX7_way_147 : decode cX7_way 147 = .ok (.iload 4, 2) := dw_21 (kcX7_way_2 19 21 rfl) (kcX7_way_2 20 4 rfl)
theorem dX7_way_149 : decode cX7_way 149 = .ok (.iload 8, 2) := dw_21 (kcX7_way_2 21 21 rfl) (kcX7_way_2 22 8 rfl)
theorem dX7_way_151 : decode cX7_way 151 = .ok (.iastore, 1) := dw_79 (kcX7_way_2 23 79 rfl)
theorem dX7_way_152 : decode cX7_way 152 = .ok (.iinc 4 1, 3) := dw_132 (kcX7_way_2 24 132 rfl) (kcX7_way_2 25 4 rfl) (kcX7_way_2 26 1 rfl) rfl
theorem dX7_way_131 : decode cX7_way 131 = .ok (.goto 24, 3) := dw_167 (kcX7_way_2 3 167 rfl) (kcX7_way_2 4 0 rfl) (kcX7_way_2 5 24 rfl) rfl
theorem dX7_way_161 : decode cX7_way 161 = .ok (.iinc 5 1, 3) := dw_132 (kcX7_way_2 33 132 rfl) (kcX7_way_2 34 5 rfl) (kcX7_way_2 35 1 rfl) rfl
theorem dX7_way_164 : decode cX7_way 164 = .ok (.goto (-120), 3) := dw_167 (kcX7_way_2 36 167 rfl) (kcX7_way_2 37 255 rfl) (kcX7_way_2 38 136 rfl) rfl
theorem dX7_way_77 : decode cX7_way 77 = .ok (.bipush 12, 2) := dw_16 (kcX7_way_1 13 16 rfl) (kcX7_way_1 14 12 rfl) rfl
theorem dX7_way_79 : decode cX7_way 79 = .ok (.goto 4, 3) := dw_167 (kcX7_way_1 15 167 rfl) (kcX7_way_1 16 0 rfl) (kcX7_way_1 17 4 rfl) rfl
theorem kcX7_push_0 : CHb cX7_push 0 [3, 54, 5, 21, 5, 21, 4, 162, 0, 160, 42, 27, 28, 29, 182, 0, 204, 153, 0, 150, 21, 4, 21, 5, 100, 54, 6, 28, 54, 7, 21, 7, 27, 159, 0, 35, 21, 6, 42, 42, 180, 0, 68, 21, 7, 46, 21, 7, 182, 0, 201, 184, 0, 207, 54, 6, 42, 180, 0, 68, 21, 7, 46, 54] := CHb_of (by decide +kernel)
theorem dX7_push_0 : decode cX7_push 0 = .ok (.iconst 0, 1) := dw_3 (kcX7_push_0 0 3 rfl)
theorem dX7_push_1 : decode cX7_push 1 = .ok (.istore 5, 2) := dw_54 (kcX7_push_0 1 54 rfl) (kcX7_push_0 2 5 rfl)
theorem dX7_push_3 : decode cX7_push 3 = .ok (.iload 5, 2) := dw_21 (kcX7_push_0 3 21 rfl) (kcX7_push_0 4 5 rfl)
theorem dX7_push_5 : decode cX7_push 5 = .ok (.iload 4, 2) := dw_21 (kcX7_push_0 5 21 rfl) (kcX7_push_0 6 4 rfl)
theorem dX7_push_7 : decode cX7_push 7 = .ok (.if_icmp .ge 160, 3) := dw_162 (kcX7_push_0 7 162 rfl) (kcX7_push_0 8 0 rfl) (kcX7_push_0 9 160 rfl) rfl
theorem kcX7_push_2 : CHb cX7_push 128 [21, 8, 16, 12, 162, 0, 8, 21, 6, 167, 0, 6, 21, 6, 116, 96, 79, 42, 180, 0, 68, 21, 7, 46, 54, 7, 167, 255, 173, 21, 5, 21, 6, 96, 54, 5, 167, 255, 95, 21, 5, 172] := CHb_of (by decide +kernel)
theorem dX7_push_167 : decode cX7_push 167 = .ok (.iload 5, 2) := dw_21 (kcX7_push_2 39 21 rfl) (kcX7_push_2 40 5 rfl)
theorem dX7_push_169 : decode cX7_push 169 = .ok (.ireturn, 1) := dw_172 (kcX7_push_2 41 172 rfl)
theorem dX7_push_10 : decode cX7_push 10 = .ok (.aload_n 0, 1) := dw_42 (kcX7_push_0 10 42 rfl)
theorem dX7_push_11 : decode cX7_push 11 = .ok (.iload_n 1, 1) := dw_27 (kcX7_push_0 11 27 rfl)
theorem dX7_push_12 : decode cX7_push 12 = .ok (.iload_n 2, 1) := dw_28 (kcX7_push_0 12 28 rfl)
theorem dX7_push_13 : decode cX7_push 13 = .ok (.iload_n 3, 1) := dw_29 (kcX7_push_0 13 29 rfl)
theorem dX7_push_14 : decode cX7_push 14 = .ok (.invokevirtual 204, 3) := dw_182 (kcX7_push_0 14 182 rfl) (kcX7_push_0 15 0 rfl) (kcX7_push_0 16 204 rfl) rfl
theorem dX7_push_17 : decode cX7_push 17 = .ok (.ifCond .eq 150, 3) := dw_153 (kcX7_push_0 17 153 rfl) (kcX7_push_0 18 0 rfl) (kcX7_push_0 19 150 rfl) rfl
theorem dX7_push_20 : decode cX7_push 20 = .ok (.iload 4, 2) := dw_21 (kcX7_push_0 20 21 rfl) (kcX7_push_0 21 4 rfl)
theorem dX7_push_22 : decode cX7_push 22 = .ok (.iload 5, 2) := dw_21 (kcX7_push_0 22 21 rfl) (kcX7_push_0 23 5 rfl)
theorem dX7_push_24 : decode cX7_push 24 = .ok (.isub, 1) := dw_100 (kcX7_push_0 24 100 rfl)
theorem dX7_push_25 : decode cX7_push 25 = .ok (.istore 6, 2) := dw_54 (kcX7_push_0 25 54 rfl) (kcX7_push_0 26 6 rfl)
theorem dX7_push_27 : decode cX7_push 27 = .ok (.iload_n 2, 1) := dw_28 (kcX7_push_0 27 28 rfl)
theorem dX7_push_28 : decode cX7_push 28 = .ok (.istore 7, 2) := dw_54 (kcX7_push_0 28 54 rfl) (kcX7_push_0 29 7 rfl)
theorem dX7_push_30 : decode cX7_push 30 = .ok (.iload 7, 2) := dw_21 (kcX7_push_0 30 21 rfl) (kcX7_push_0 31 7 rfl)
theorem dX7_push_32 : decode cX7_push 32 = .ok (.iload_n 1, 1) := dw_27 (kcX7_push_0 32 27 rfl)
theorem dX7_push_33 : decode cX7_push 33 = .ok (.if_icmp .eq 35, 3) := dw_159 (kcX7_push_0 33 159 rfl) (kcX7_push_0 34 0 rfl) (kcX7_push_0 35 35 rfl) rfl
theorem dX7_push_36 : decode cX7_push 36 = .ok (.iload 6, 2) := dw_21 (kcX7_push_0 36 21 rfl) (kcX7_push_0 37 6 rfl)
theorem dX7_push_38 : decode cX7_push 38 = .ok (.aload_n 0, 1) := dw_42 (kcX7_push_0 38 42 rfl)
theorem dX7_push_39 : decode cX7_push 39 = .ok (.aload_n 0, 1) := dw_42 (kcX7_push_0 39 42 rfl)
theorem dX7_push_40 : decode cX7_push 40 = .ok (.getfield 68, 3) := dw_180 (kcX7_push_0 40 180 rfl) (kcX7_push_0 41 0 rfl) (kcX7_push_0 42 68 rfl) rfl
theorem dX7_push_43 : decode cX7_push 43 = .ok (.iload 7, 2) := dw_21 (kcX7_push_0 43 21 rfl) (kcX7_push_0 44 7 rfl)
theorem dX7_push_45 : decode cX7_push 45 = .ok (.iaload, 1) := dw_46 (kcX7_push_0 45 46 rfl)
theorem dX7_push_46 : decode cX7_push 46 = .ok (.iload 7, 2) := dw_21 (kcX7_push_0 46 21 rfl) (kcX7_push_0 47 7 rfl)
theorem dX7_push_48 : decode cX7_push 48 = .ok (.invokevirtual 201, 3) := dw_182 (kcX7_push_0 48 182 rfl) (kcX7_push_0 49 0 rfl) (kcX7_push_0 50 201 rfl) rfl
theorem dX7_push_51 : decode cX7_push 51 = .ok (.invokestatic 207, 3) := dw_184 (kcX7_push_0 51 184 rfl) (kcX7_push_0 52 0 rfl) (kcX7_push_0 53 207 rfl) rfl
theorem dX7_push_54 : decode cX7_push 54 = .ok (.istore 6, 2) := dw_54 (kcX7_push_0 54 54 rfl) (kcX7_push_0 55 6 rfl)
theorem dX7_push_56 : decode cX7_push 56 = .ok (.aload_n 0, 1) := dw_42 (kcX7_push_0 56 42 rfl)
theorem dX7_push_57 : decode cX7_push 57 = .ok (.getfield 68, 3) := dw_180 (kcX7_push_0 57 180 rfl) (kcX7_push_0 58 0 rfl) (kcX7_push_0 59 68 rfl) rfl
theorem dX7_push_60 : decode cX7_push 60 = .ok (.iload 7, 2) := dw_21 (kcX7_push_0 60 21 rfl) (kcX7_push_0 61 7 rfl)
theorem dX7_push_62 : decode cX7_push 62 = .ok (.iaload, 1) := dw_46 (kcX7_push_0 62 46 rfl)
theorem kcX7_push_1 : CHb cX7_push 64 [7, 167, 255, 221, 28, 54, 7, 21, 7, 27, 159, 0, 83, 42, 180, 0, 68, 21, 7, 46, 54, 8, 21, 8, 16, 12, 162, 0, 17, 16, 12, 21, 8, 104, 21, 7, 96, 16, 12, 100, 167, 0, 14, 16, 12, 21, 7, 104, 21, 8, 96, 16, 12, 100, 54, 9, 42, 180, 0, 53, 21, 9, 92, 46] := CHb_of (by decide +kernel)
theorem dX7_push_63 : decode cX7_push 63 = .ok (.istore 7, 2) := dw_54 (kcX7_push_0 63 54 rfl) (kcX7_push_1 0 7 rfl)
theorem dX7_push_65 : decode cX7_push 65 = .ok (.goto (-35), 3) := dw_167 (kcX7_push_1 1 167 rfl) (kcX7_push_1 2 255 rfl) (kcX7_push_1 3 221 rfl) rfl
theorem dX7_push_68 : decode cX7_push 68 = .ok (.iload_n 2, 1) := dw_28 (kcX7_push_1 4 28 rfl)
theorem dX7_push_69 : decode cX7_push 69 = .ok (.istore 7, 2) := dw_54 (kcX7_push_1 5 54 rfl) (kcX7_push_1 6 7 rfl)
theorem dX7_push_71 : decode cX7_push 71 = .ok (.iload 7, 2) := dw_21 (kcX7_push_1 7 21 rfl) (kcX7_push_1 8 7 rfl)
theorem dX7_push_73 : decode cX7_push 73 = .ok (.iload_n 1, 1) := dw_27 (kcX7_push_1 9 27 rfl)
theorem dX7_push_74 : decode cX7_push 74 = .ok (.if_icmp .eq 83, 3) := dw_159 (kcX7_push_1 10 159 rfl) (kcX7_push_1 11 0 rfl) (kcX7_push_1 12 83 rfl) rfl
theorem dX7_push_77 : decode cX7_push 77 = .ok (.aload_n 0, 1) := dw_42 (kcX7_push_1 13 42 rfl)
theorem dX7_push_78 : decode cX7_push 78 = .ok (.getfield 68, 3) := dw_180 (kcX7_push_1 14 180 rfl) (kcX7_push_1 15 0 rfl) (kcX7_push_1 16 68 rfl) rfl
theorem dX7_push_81 : decode cX7_push 81 = .ok (.iload 7, 2) := dw_21 (kcX7_push_1 17 21 rfl) (kcX7_push_1 18 7 rfl)
theorem dX7_push_83 : decode cX7_push 83 = .ok (.iaload, 1) := dw_46 (kcX7_push_1 19 46 rfl)
theorem dX7_push_84 : decode cX7_push 84 = .ok (.istore 8, 2) := dw_54 (kcX7_push_1 20 54 rfl) (kcX7_push_1 21 8 rfl)
theorem dX7_push_86 : decode cX7_push 86 = .ok (.iload 8, 2) := dw_21 (kcX7_push_1 22 21 rfl) (kcX7_push_1 23 8 rfl)
theorem dX7_push_88 : decode cX7_push 88 = .ok (.bipush 12, 2) := dw_16 (kcX7_push_1 24 16 rfl) (kcX7_push_1 25 12 rfl) rfl
theorem dX7_push_90 : decode cX7_push 90 = .ok (.if_icmp .ge 17, 3) := dw_162 (kcX7_push_1 26 162 rfl) (kcX7_push_1 27 0 rfl) (kcX7_push_1 28 17 rfl) rfl
theorem dX7_push_107 : decode cX7_push 107 = .ok (.bipush 12, 2) := dw_16 (kcX7_push_1 43 16 rfl) (kcX7_push_1 44 12 rfl) rfl
theorem dX7_push_109 : decode cX7_push 109 = .ok (.iload 7, 2) := dw_21 (kcX7_push_1 45 21 rfl) (kcX7_push_1 46 7 rfl)
theorem dX7_push_111 : decode cX7_push 111 = .ok (.imul, 1) := dw_104 (kcX7_push_1 47 104 rfl)
theorem dX7_push_112 : decode cX7_push 112 = .ok (.iload 8, 2) := dw_21 (kcX7_push_1 48 21 rfl) (kcX7_push_1 49 8 rfl)
theorem dX7_push_114 : decode cX7_push 114 = .ok (.iadd, 1) := dw_96 (kcX7_push_1 50 96 rfl)
theorem dX7_push_115 : decode cX7_push 115 = .ok (.bipush 12, 2) := dw_16 (kcX7_push_1 51 16 rfl) (kcX7_push_1 52 12 rfl) rfl
theorem dX7_push_117 : decode cX7_push 117 = .ok (.isub, 1) := dw_100 (kcX7_push_1 53 100 rfl)
theorem dX7_push_93 : decode cX7_push 93 = .ok (.bipush 12, 2) := dw_16 (kcX7_push_1 29 16 rfl) (kcX7_push_1 30 12 rfl) rfl
theorem dX7_push_95 : decode cX7_push 95 = .ok (.iload 8, 2) := dw_21 (kcX7_push_1 31 21 rfl) (kcX7_push_1 32 8 rfl)
theorem dX7_push_97 : decode cX7_push 97 = .ok (.imul, 1) := dw_104 (kcX7_push_1 33 104 rfl)
theorem dX7_push_98 : decode cX7_push 98 = .ok (.iload 7, 2) := dw_21 (kcX7_push_1 34 21 rfl) (kcX7_push_1 35 7 rfl)
theorem dX7_push_100 : decode cX7_push 100 = .ok (.iadd, 1) := dw_96 (kcX7_push_1 36 96 rfl)
theorem dX7_push_101 : decode cX7_push 101 = .ok (.bipush 12, 2) := dw_16 (kcX7_push_1 37 16 rfl) (kcX7_push_1 38 12 rfl) rfl
theorem dX7_push_103 : decode cX7_push 103 = .ok (.isub, 1) := dw_100 (kcX7_push_1 39 100 rfl)
theorem dX7_push_104 : decode cX7_push 104 = .ok (.goto 14, 3) := dw_167 (kcX7_push_1 40 167 rfl) (kcX7_push_1 41 0 rfl) (kcX7_push_1 42 14 rfl) rfl
theorem dX7_push_118 : decode cX7_push 118 = .ok (.istore 9, 2) := dw_54 (kcX7_push_1 54 54 rfl) (kcX7_push_1 55 9 rfl)
theorem dX7_push_120 : decode cX7_push 120 = .ok (.aload_n 0, 1) := dw_42 (kcX7_push_1 56 42 rfl)
theorem dX7_push_121 : decode cX7_push 121 = .ok (.getfield 53, 3) := dw_180 (kcX7_push_1 57 180 rfl) (kcX7_push_1 58 0 rfl) (kcX7_push_1 59 53 rfl) rfl
theorem dX7_push_124 : decode cX7_push 124 = .ok (.iload 9, 2) := dw_21 (kcX7_push_1 60 21 rfl) (kcX7_push_1 61 9 rfl)
theorem dX7_push_126 : decode cX7_push 126 = .ok (.dup2, 1) := dw_92 (kcX7_push_1 62 92 rfl)
theorem dX7_push_127 : decode cX7_push 127 = .ok (.iaload, 1) := dw_46 (kcX7_push_1 63 46 rfl)
theorem dX7_push_128 : decode cX7_push 128 = .ok (.iload 8, 2) := dw_21 (kcX7_push_2 0 21 rfl) (kcX7_push_2 1 8 rfl)
theorem dX7_push_130 : decode cX7_push 130 = .ok (.bipush 12, 2) := dw_16 (kcX7_push_2 2 16 rfl) (kcX7_push_2 3 12 rfl) rfl
theorem dX7_push_132 : decode cX7_push 132 = .ok (.if_icmp .ge 8, 3) := dw_162 (kcX7_push_2 4 162 rfl) (kcX7_push_2 5 0 rfl) (kcX7_push_2 6 8 rfl) rfl
theorem dX7_push_140 : decode cX7_push 140 = .ok (.iload 6, 2) := dw_21 (kcX7_push_2 12 21 rfl) (kcX7_push_2 13 6 rfl)
theorem dX7_push_142 : decode cX7_push 142 = .ok (.ineg, 1) := dw_116 (kcX7_push_2 14 116 rfl)
theorem dX7_push_135 : decode cX7_push 135 = .ok (.iload 6, 2) := dw_21 (kcX7_push_2 7 21 rfl) (kcX7_push_2 8 6 rfl)
theorem dX7_push_137 : decode cX7_push 137 = .ok (.goto 6, 3) := dw_167 (kcX7_push_2 9 167 rfl) (kcX7_push_2 10 0 rfl) (kcX7_push_2 11 6 rfl) rfl
theorem dX7_push_143 : decode cX7_push 143 = .ok (.iadd, 1) := dw_96 (kcX7_push_2 15 96 rfl)
theorem dX7_push_144 : decode cX7_push 144 = .ok (.iastore, 1) := dw_79 (kcX7_push_2 16 79 rfl)
theorem dX7_push_145 : decode cX7_push 145 = .ok (.aload_n 0, 1) := dw_42 (kcX7_push_2 17 42 rfl)
theorem dX7_push_146 : decode cX7_push 146 = .ok (.getfield 68, 3) := dw_180 (kcX7_push_2 18 180 rfl) (kcX7_push_2 19 0 rfl) (kcX7_push_2 20 68 rfl) rfl
theorem dX7_push_149 : decode cX7_push 149 = .ok (.iload 7, 2) := dw_21 (kcX7_push_2 21 21 rfl) (kcX7_push_2 22 7 rfl)
theorem dX7_push_151 : decode cX7_push 151 = .ok (.iaload, 1) := dw_46 (kcX7_push_2 23 46 rfl)
theorem dX7_push_152 : decode cX7_push 152 = .ok (.istore 7, 2) := dw_54 (kcX7_push_2 24 54 rfl) (kcX7_push_2 25 7 rfl)
theorem dX7_push_154 : decode cX7_push 154 = .ok (.goto (-83), 3) := dw_167 (kcX7_push_2 26 167 rfl) (kcX7_push_2 27 255 rfl) (kcX7_push_2 28 173 rfl) rfl
theorem dX7_push_157 : decode cX7_push 157 = .ok (.iload 5, 2) := dw_21 (kcX7_push_2 29 21 rfl) (kcX7_push_2 30 5 rfl)
theorem dX7_push_159 : decode cX7_push 159 = .ok (.iload 6, 2) := dw_21 (kcX7_push_2 31 21 rfl) (kcX7_push_2 32 6 rfl)
theorem dX7_push_161 : decode cX7_push 161 = .ok (.iadd, 1) := dw_96 (kcX7_push_2 33 96 rfl)
theorem dX7_push_162 : decode cX7_push 162 = .ok (.istore 5, 2) := dw_54 (kcX7_push_2 34 54 rfl) (kcX7_push_2 35 5 rfl)
theorem dX7_push_164 : decode cX7_push 164 = .ok (.goto (-161), 3) := dw_167 (kcX7_push_2 36 167 rfl) (kcX7_push_2 37 255 rfl) (kcX7_push_2 38 95 rfl) rfl
theorem kcX7_settle_0 : CHb cX7_settle 0 [16, 12, 27, 104, 28, 96, 54, 4, 42, 180, 0, 65, 21, 4, 51, 154, 0, 4, 177, 42, 180, 0, 65, 21, 4, 3, 84, 29, 153, 0, 36, 42, 16, 12, 28, 96, 27, 42, 180, 0, 62, 27, 46, 42, 180, 0, 59, 21, 4, 46, 42, 180, 0, 53, 21, 4, 46, 100, 182, 0, 212, 167, 0, 33] := CHb_of (by decide +kernel)
theorem dX7_settle_0 : decode cX7_settle 0 = .ok (.bipush 12, 2) := dw_16 (kcX7_settle_0 0 16 rfl) (kcX7_settle_0 1 12 rfl) rfl
theorem dX7_settle_2 : decode cX7_settle 2 = .ok (.iload_n 1, 1) := dw_27 (kcX7_settle_0 2 27 rfl)
theorem dX7_settle_3 : decode cX7_settle 3 = .ok (.imul, 1) := dw_104 (kcX7_settle_0 3 104 rfl)
theorem dX7_settle_4 : decode cX7_settle 4 = .ok (.iload_n 2, 1) := dw_28 (kcX7_settle_0 4 28 rfl)
theorem dX7_settle_5 : decode cX7_settle 5 = .ok (.iadd, 1) := dw_96 (kcX7_settle_0 5 96 rfl)
theorem dX7_settle_6 : decode cX7_settle 6 = .ok (.istore 4, 2) := dw_54 (kcX7_settle_0 6 54 rfl) (kcX7_settle_0 7 4 rfl)
theorem dX7_settle_8 : decode cX7_settle 8 = .ok (.aload_n 0, 1) := dw_42 (kcX7_settle_0 8 42 rfl)
theorem dX7_settle_9 : decode cX7_settle 9 = .ok (.getfield 65, 3) := dw_180 (kcX7_settle_0 9 180 rfl) (kcX7_settle_0 10 0 rfl) (kcX7_settle_0 11 65 rfl) rfl
theorem dX7_settle_12 : decode cX7_settle 12 = .ok (.iload 4, 2) := dw_21 (kcX7_settle_0 12 21 rfl) (kcX7_settle_0 13 4 rfl)
theorem dX7_settle_14 : decode cX7_settle 14 = .ok (.baload, 1) := dw_51 (kcX7_settle_0 14 51 rfl)
theorem dX7_settle_15 : decode cX7_settle 15 = .ok (.ifCond .ne 4, 3) := dw_154 (kcX7_settle_0 15 154 rfl) (kcX7_settle_0 16 0 rfl) (kcX7_settle_0 17 4 rfl) rfl
theorem dX7_settle_19 : decode cX7_settle 19 = .ok (.aload_n 0, 1) := dw_42 (kcX7_settle_0 19 42 rfl)
theorem dX7_settle_20 : decode cX7_settle 20 = .ok (.getfield 65, 3) := dw_180 (kcX7_settle_0 20 180 rfl) (kcX7_settle_0 21 0 rfl) (kcX7_settle_0 22 65 rfl) rfl
theorem dX7_settle_23 : decode cX7_settle 23 = .ok (.iload 4, 2) := dw_21 (kcX7_settle_0 23 21 rfl) (kcX7_settle_0 24 4 rfl)
theorem dX7_settle_25 : decode cX7_settle 25 = .ok (.iconst 0, 1) := dw_3 (kcX7_settle_0 25 3 rfl)
theorem dX7_settle_26 : decode cX7_settle 26 = .ok (.bastore, 1) := dw_84 (kcX7_settle_0 26 84 rfl)
theorem dX7_settle_27 : decode cX7_settle 27 = .ok (.iload_n 3, 1) := dw_29 (kcX7_settle_0 27 29 rfl)
theorem dX7_settle_28 : decode cX7_settle 28 = .ok (.ifCond .eq 36, 3) := dw_153 (kcX7_settle_0 28 153 rfl) (kcX7_settle_0 29 0 rfl) (kcX7_settle_0 30 36 rfl) rfl
theorem kcX7_settle_1 : CHb cX7_settle 64 [42, 27, 16, 12, 28, 96, 42, 180, 0, 62, 27, 46, 42, 180, 0, 53, 21, 4, 46, 42, 180, 0, 56, 21, 4, 46, 100, 182, 0, 212, 54, 5, 42, 180, 0, 53, 21, 4, 92, 46, 29, 153, 0, 8, 21, 5, 167, 0, 6, 21, 5, 116, 96, 79, 177] := CHb_of (by decide +kernel)
theorem dX7_settle_64 : decode cX7_settle 64 = .ok (.aload_n 0, 1) := dw_42 (kcX7_settle_1 0 42 rfl)
theorem dX7_settle_65 : decode cX7_settle 65 = .ok (.iload_n 1, 1) := dw_27 (kcX7_settle_1 1 27 rfl)
theorem dX7_settle_66 : decode cX7_settle 66 = .ok (.bipush 12, 2) := dw_16 (kcX7_settle_1 2 16 rfl) (kcX7_settle_1 3 12 rfl) rfl
theorem dX7_settle_68 : decode cX7_settle 68 = .ok (.iload_n 2, 1) := dw_28 (kcX7_settle_1 4 28 rfl)
theorem dX7_settle_69 : decode cX7_settle 69 = .ok (.iadd, 1) := dw_96 (kcX7_settle_1 5 96 rfl)
theorem dX7_settle_70 : decode cX7_settle 70 = .ok (.aload_n 0, 1) := dw_42 (kcX7_settle_1 6 42 rfl)
theorem dX7_settle_71 : decode cX7_settle 71 = .ok (.getfield 62, 3) := dw_180 (kcX7_settle_1 7 180 rfl) (kcX7_settle_1 8 0 rfl) (kcX7_settle_1 9 62 rfl) rfl
theorem dX7_settle_74 : decode cX7_settle 74 = .ok (.iload_n 1, 1) := dw_27 (kcX7_settle_1 10 27 rfl)
theorem dX7_settle_75 : decode cX7_settle 75 = .ok (.iaload, 1) := dw_46 (kcX7_settle_1 11 46 rfl)
theorem dX7_settle_76 : decode cX7_settle 76 = .ok (.aload_n 0, 1) := dw_42 (kcX7_settle_1 12 42 rfl)
theorem dX7_settle_77 : decode cX7_settle 77 = .ok (.getfield 53, 3) := dw_180 (kcX7_settle_1 13 180 rfl) (kcX7_settle_1 14 0 rfl) (kcX7_settle_1 15 53 rfl) rfl
theorem dX7_settle_80 : decode cX7_settle 80 = .ok (.iload 4, 2) := dw_21 (kcX7_settle_1 16 21 rfl) (kcX7_settle_1 17 4 rfl)
theorem dX7_settle_82 : decode cX7_settle 82 = .ok (.iaload, 1) := dw_46 (kcX7_settle_1 18 46 rfl)
theorem dX7_settle_83 : decode cX7_settle 83 = .ok (.aload_n 0, 1) := dw_42 (kcX7_settle_1 19 42 rfl)
theorem dX7_settle_84 : decode cX7_settle 84 = .ok (.getfield 56, 3) := dw_180 (kcX7_settle_1 20 180 rfl) (kcX7_settle_1 21 0 rfl) (kcX7_settle_1 22 56 rfl) rfl
theorem dX7_settle_87 : decode cX7_settle 87 = .ok (.iload 4, 2) := dw_21 (kcX7_settle_1 23 21 rfl) (kcX7_settle_1 24 4 rfl)
theorem dX7_settle_89 : decode cX7_settle 89 = .ok (.iaload, 1) := dw_46 (kcX7_settle_1 25 46 rfl)
theorem dX7_settle_90 : decode cX7_settle 90 = .ok (.isub, 1) := dw_100 (kcX7_settle_1 26 100 rfl)
theorem dX7_settle_91 : decode cX7_settle 91 = .ok (.invokevirtual 212, 3) := dw_182 (kcX7_settle_1 27 182 rfl) (kcX7_settle_1 28 0 rfl) (kcX7_settle_1 29 212 rfl) rfl
theorem dX7_settle_31 : decode cX7_settle 31 = .ok (.aload_n 0, 1) := dw_42 (kcX7_settle_0 31 42 rfl)
theorem dX7_settle_32 : decode cX7_settle 32 = .ok (.bipush 12, 2) := dw_16 (kcX7_settle_0 32 16 rfl) (kcX7_settle_0 33 12 rfl) rfl
theorem dX7_settle_34 : decode cX7_settle 34 = .ok (.iload_n 2, 1) := dw_28 (kcX7_settle_0 34 28 rfl)
theorem dX7_settle_35 : decode cX7_settle 35 = .ok (.iadd, 1) := dw_96 (kcX7_settle_0 35 96 rfl)
theorem dX7_settle_36 : decode cX7_settle 36 = .ok (.iload_n 1, 1) := dw_27 (kcX7_settle_0 36 27 rfl)
theorem dX7_settle_37 : decode cX7_settle 37 = .ok (.aload_n 0, 1) := dw_42 (kcX7_settle_0 37 42 rfl)
theorem dX7_settle_38 : decode cX7_settle 38 = .ok (.getfield 62, 3) := dw_180 (kcX7_settle_0 38 180 rfl) (kcX7_settle_0 39 0 rfl) (kcX7_settle_0 40 62 rfl) rfl
theorem dX7_settle_41 : decode cX7_settle 41 = .ok (.iload_n 1, 1) := dw_27 (kcX7_settle_0 41 27 rfl)
theorem dX7_settle_42 : decode cX7_settle 42 = .ok (.iaload, 1) := dw_46 (kcX7_settle_0 42 46 rfl)
theorem dX7_settle_43 : decode cX7_settle 43 = .ok (.aload_n 0, 1) := dw_42 (kcX7_settle_0 43 42 rfl)
theorem dX7_settle_44 : decode cX7_settle 44 = .ok (.getfield 59, 3) := dw_180 (kcX7_settle_0 44 180 rfl) (kcX7_settle_0 45 0 rfl) (kcX7_settle_0 46 59 rfl) rfl
theorem dX7_settle_47 : decode cX7_settle 47 = .ok (.iload 4, 2) := dw_21 (kcX7_settle_0 47 21 rfl) (kcX7_settle_0 48 4 rfl)
theorem dX7_settle_49 : decode cX7_settle 49 = .ok (.iaload, 1) := dw_46 (kcX7_settle_0 49 46 rfl)
theorem dX7_settle_50 : decode cX7_settle 50 = .ok (.aload_n 0, 1) := dw_42 (kcX7_settle_0 50 42 rfl)
theorem dX7_settle_51 : decode cX7_settle 51 = .ok (.getfield 53, 3) := dw_180 (kcX7_settle_0 51 180 rfl) (kcX7_settle_0 52 0 rfl) (kcX7_settle_0 53 53 rfl) rfl
theorem dX7_settle_54 : decode cX7_settle 54 = .ok (.iload 4, 2) := dw_21 (kcX7_settle_0 54 21 rfl) (kcX7_settle_0 55 4 rfl)
theorem dX7_settle_56 : decode cX7_settle 56 = .ok (.iaload, 1) := dw_46 (kcX7_settle_0 56 46 rfl)
theorem dX7_settle_57 : decode cX7_settle 57 = .ok (.isub, 1) := dw_100 (kcX7_settle_0 57 100 rfl)
theorem dX7_settle_58 : decode cX7_settle 58 = .ok (.invokevirtual 212, 3) := dw_182 (kcX7_settle_0 58 182 rfl) (kcX7_settle_0 59 0 rfl) (kcX7_settle_0 60 212 rfl) rfl
theorem dX7_settle_61 : decode cX7_settle 61 = .ok (.goto 33, 3) := dw_167 (kcX7_settle_0 61 167 rfl) (kcX7_settle_0 62 0 rfl) (kcX7_settle_0 63 33 rfl) rfl
theorem dX7_settle_94 : decode cX7_settle 94 = .ok (.istore 5, 2) := dw_54 (kcX7_settle_1 30 54 rfl) (kcX7_settle_1 31 5 rfl)
theorem dX7_settle_96 : decode cX7_settle 96 = .ok (.aload_n 0, 1) := dw_42 (kcX7_settle_1 32 42 rfl)
theorem dX7_settle_97 : decode cX7_settle 97 = .ok (.getfield 53, 3) := dw_180 (kcX7_settle_1 33 180 rfl) (kcX7_settle_1 34 0 rfl) (kcX7_settle_1 35 53 rfl) rfl
theorem dX7_settle_100 : decode cX7_settle 100 = .ok (.iload 4, 2) := dw_21 (kcX7_settle_1 36 21 rfl) (kcX7_settle_1 37 4 rfl)
theorem dX7_settle_102 : decode cX7_settle 102 = .ok (.dup2, 1) := dw_92 (kcX7_settle_1 38 92 rfl)
theorem dX7_settle_103 : decode cX7_settle 103 = .ok (.iaload, 1) := dw_46 (kcX7_settle_1 39 46 rfl)
theorem dX7_settle_104 : decode cX7_settle 104 = .ok (.iload_n 3, 1) := dw_29 (kcX7_settle_1 40 29 rfl)
theorem dX7_settle_105 : decode cX7_settle 105 = .ok (.ifCond .eq 8, 3) := dw_153 (kcX7_settle_1 41 153 rfl) (kcX7_settle_1 42 0 rfl) (kcX7_settle_1 43 8 rfl) rfl
theorem dX7_settle_113 : decode cX7_settle 113 = .ok (.iload 5, 2) := dw_21 (kcX7_settle_1 49 21 rfl) (kcX7_settle_1 50 5 rfl)
theorem dX7_settle_115 : decode cX7_settle 115 = .ok (.ineg, 1) := dw_116 (kcX7_settle_1 51 116 rfl)
theorem dX7_settle_108 : decode cX7_settle 108 = .ok (.iload 5, 2) := dw_21 (kcX7_settle_1 44 21 rfl) (kcX7_settle_1 45 5 rfl)
theorem dX7_settle_110 : decode cX7_settle 110 = .ok (.goto 6, 3) := dw_167 (kcX7_settle_1 46 167 rfl) (kcX7_settle_1 47 0 rfl) (kcX7_settle_1 48 6 rfl) rfl
theorem dX7_settle_116 : decode cX7_settle 116 = .ok (.iadd, 1) := dw_96 (kcX7_settle_1 52 96 rfl)
theorem dX7_settle_117 : decode cX7_settle 117 = .ok (.iastore, 1) := dw_79 (kcX7_settle_1 53 79 rfl)
theorem dX7_settle_118 : decode cX7_settle 118 = .ok (.return_, 1) := dw_177 (kcX7_settle_1 54 177 rfl)
theorem dX7_settle_18 : decode cX7_settle 18 = .ok (.return_, 1) := dw_177 (kcX7_settle_0 18 177 rfl)
theorem kcX7_endOf_0 : CHb cX7_endOf 0 [42, 27, 182, 0, 216, 42, 28, 29, 21, 4, 182, 0, 219, 42, 180, 0, 53, 16, 12, 28, 104, 29, 96, 46, 172] := CHb_of (by decide +kernel)
theorem dX7_endOf_0 : decode cX7_endOf 0 = .ok (.aload_n 0, 1) := dw_42 (kcX7_endOf_0 0 42 rfl)
theorem dX7_endOf_1 : decode cX7_endOf 1 = .ok (.iload_n 1, 1) := dw_27 (kcX7_endOf_0 1 27 rfl)
theorem dX7_endOf_2 : decode cX7_endOf 2 = .ok (.invokevirtual 216, 3) := dw_182 (kcX7_endOf_0 2 182 rfl) (kcX7_endOf_0 3 0 rfl) (kcX7_endOf_0 4 216 rfl) rfl
theorem dX7_endOf_5 : decode cX7_endOf 5 = .ok (.aload_n 0, 1) := dw_42 (kcX7_endOf_0 5 42 rfl)
theorem dX7_endOf_6 : decode cX7_endOf 6 = .ok (.iload_n 2, 1) := dw_28 (kcX7_endOf_0 6 28 rfl)
theorem dX7_endOf_7 : decode cX7_endOf 7 = .ok (.iload_n 3, 1) := dw_29 (kcX7_endOf_0 7 29 rfl)
theorem dX7_endOf_8 : decode cX7_endOf 8 = .ok (.iload 4, 2) := dw_21 (kcX7_endOf_0 8 21 rfl) (kcX7_endOf_0 9 4 rfl)
theorem dX7_endOf_10 : decode cX7_endOf 10 = .ok (.invokevirtual 219, 3) := dw_182 (kcX7_endOf_0 10 182 rfl) (kcX7_endOf_0 11 0 rfl) (kcX7_endOf_0 12 219 rfl) rfl
theorem dX7_endOf_13 : decode cX7_endOf 13 = .ok (.aload_n 0, 1) := dw_42 (kcX7_endOf_0 13 42 rfl)
theorem dX7_endOf_14 : decode cX7_endOf 14 = .ok (.getfield 53, 3) := dw_180 (kcX7_endOf_0 14 180 rfl) (kcX7_endOf_0 15 0 rfl) (kcX7_endOf_0 16 53 rfl) rfl
theorem dX7_endOf_17 : decode cX7_endOf 17 = .ok (.bipush 12, 2) := dw_16 (kcX7_endOf_0 17 16 rfl) (kcX7_endOf_0 18 12 rfl) rfl
theorem dX7_endOf_19 : decode cX7_endOf 19 = .ok (.iload_n 2, 1) := dw_28 (kcX7_endOf_0 19 28 rfl)
theorem dX7_endOf_20 : decode cX7_endOf 20 = .ok (.imul, 1) := dw_104 (kcX7_endOf_0 20 104 rfl)
theorem dX7_endOf_21 : decode cX7_endOf 21 = .ok (.iload_n 3, 1) := dw_29 (kcX7_endOf_0 21 29 rfl)
theorem dX7_endOf_22 : decode cX7_endOf 22 = .ok (.iadd, 1) := dw_96 (kcX7_endOf_0 22 96 rfl)
theorem dX7_endOf_23 : decode cX7_endOf 23 = .ok (.iaload, 1) := dw_46 (kcX7_endOf_0 23 46 rfl)
theorem dX7_endOf_24 : decode cX7_endOf 24 = .ok (.ireturn, 1) := dw_172 (kcX7_endOf_0 24 172 rfl)
theorem kcX7_least_0 : CHb cX7_least 0 [42, 42, 27, 28, 29, 182, 0, 178, 181, 0, 116, 42, 180, 0, 116, 158, 0, 7, 2, 167, 0, 11, 42, 27, 28, 29, 3, 182, 0, 223, 172] := CHb_of (by decide +kernel)
theorem dX7_least_0 : decode cX7_least 0 = .ok (.aload_n 0, 1) := dw_42 (kcX7_least_0 0 42 rfl)
theorem dX7_least_1 : decode cX7_least 1 = .ok (.aload_n 0, 1) := dw_42 (kcX7_least_0 1 42 rfl)
theorem dX7_least_2 : decode cX7_least 2 = .ok (.iload_n 1, 1) := dw_27 (kcX7_least_0 2 27 rfl)
theorem dX7_least_3 : decode cX7_least 3 = .ok (.iload_n 2, 1) := dw_28 (kcX7_least_0 3 28 rfl)
theorem dX7_least_4 : decode cX7_least 4 = .ok (.iload_n 3, 1) := dw_29 (kcX7_least_0 4 29 rfl)
theorem dX7_least_5 : decode cX7_least 5 = .ok (.invokevirtual 178, 3) := dw_182 (kcX7_least_0 5 182 rfl) (kcX7_least_0 6 0 rfl) (kcX7_least_0 7 178 rfl) rfl
theorem dX7_least_8 : decode cX7_least 8 = .ok (.putfield 116, 3) := dw_181 (kcX7_least_0 8 181 rfl) (kcX7_least_0 9 0 rfl) (kcX7_least_0 10 116 rfl) rfl
theorem dX7_least_11 : decode cX7_least 11 = .ok (.aload_n 0, 1) := dw_42 (kcX7_least_0 11 42 rfl)
theorem dX7_least_12 : decode cX7_least 12 = .ok (.getfield 116, 3) := dw_180 (kcX7_least_0 12 180 rfl) (kcX7_least_0 13 0 rfl) (kcX7_least_0 14 116 rfl) rfl
theorem dX7_least_15 : decode cX7_least 15 = .ok (.ifCond .le 7, 3) := dw_158 (kcX7_least_0 15 158 rfl) (kcX7_least_0 16 0 rfl) (kcX7_least_0 17 7 rfl) rfl
theorem dX7_least_22 : decode cX7_least 22 = .ok (.aload_n 0, 1) := dw_42 (kcX7_least_0 22 42 rfl)
theorem dX7_least_23 : decode cX7_least 23 = .ok (.iload_n 1, 1) := dw_27 (kcX7_least_0 23 27 rfl)
theorem dX7_least_24 : decode cX7_least 24 = .ok (.iload_n 2, 1) := dw_28 (kcX7_least_0 24 28 rfl)
theorem dX7_least_25 : decode cX7_least 25 = .ok (.iload_n 3, 1) := dw_29 (kcX7_least_0 25 29 rfl)
theorem dX7_least_26 : decode cX7_least 26 = .ok (.iconst 0, 1) := dw_3 (kcX7_least_0 26 3 rfl)
theorem dX7_least_27 : decode cX7_least 27 = .ok (.invokevirtual 223, 3) := dw_182 (kcX7_least_0 27 182 rfl) (kcX7_least_0 28 0 rfl) (kcX7_least_0 29 223 rfl) rfl
theorem dX7_least_30 : decode cX7_least 30 = .ok (.ireturn, 1) := dw_172 (kcX7_least_0 30 172 rfl)
theorem dX7_least_18 : decode cX7_least 18 = .ok (.iconst (-1), 1) := dw_2 (kcX7_least_0 18 2 rfl)
theorem dX7_least_19 : decode cX7_least 19 = .ok (.goto 11, 3) := dw_167 (kcX7_least_0 19 167 rfl) (kcX7_least_0 20 0 rfl) (kcX7_least_0 21 11 rfl) rfl
theorem kcX7_greatest_0 : CHb cX7_greatest 0 [42, 42, 27, 28, 29, 182, 0, 178, 181, 0, 116, 42, 180, 0, 116, 158, 0, 7, 2, 167, 0, 11, 42, 27, 28, 29, 4, 182, 0, 223, 172] := CHb_of (by decide +kernel)
theorem dX7_greatest_0 : decode cX7_greatest 0 = .ok (.aload_n 0, 1) := dw_42 (kcX7_greatest_0 0 42 rfl)
theorem dX7_greatest_1 : decode cX7_greatest 1 = .ok (.aload_n 0, 1) := dw_42 (kcX7_greatest_0 1 42 rfl)
theorem dX7_greatest_2 : decode cX7_greatest 2 = .ok (.iload_n 1, 1) := dw_27 (kcX7_greatest_0 2 27 rfl)
theorem dX7_greatest_3 : decode cX7_greatest 3 = .ok (.iload_n 2, 1) := dw_28 (kcX7_greatest_0 3 28 rfl)
theorem dX7_greatest_4 : decode cX7_greatest 4 = .ok (.iload_n 3, 1) := dw_29 (kcX7_greatest_0 4 29 rfl)
theorem dX7_greatest_5 : decode cX7_greatest 5 = .ok (.invokevirtual 178, 3) := dw_182 (kcX7_greatest_0 5 182 rfl) (kcX7_greatest_0 6 0 rfl) (kcX7_greatest_0 7 178 rfl) rfl
theorem dX7_greatest_8 : decode cX7_greatest 8 = .ok (.putfield 116, 3) := dw_181 (kcX7_greatest_0 8 181 rfl) (kcX7_greatest_0 9 0 rfl) (kcX7_greatest_0 10 116 rfl) rfl
theorem dX7_greatest_11 : decode cX7_greatest 11 = .ok (.aload_n 0, 1) := dw_42 (kcX7_greatest_0 11 42 rfl)
theorem dX7_greatest_12 : decode cX7_greatest 12 = .ok (.getfield 116, 3) := dw_180 (kcX7_greatest_0 12 180 rfl) (kcX7_greatest_0 13 0 rfl) (kcX7_greatest_0 14 116 rfl) rfl
theorem dX7_greatest_15 : decode cX7_greatest 15 = .ok (.ifCond .le 7, 3) := dw_158 (kcX7_greatest_0 15 158 rfl) (kcX7_greatest_0 16 0 rfl) (kcX7_greatest_0 17 7 rfl) rfl
theorem dX7_greatest_22 : decode cX7_greatest 22 = .ok (.aload_n 0, 1) := dw_42 (kcX7_greatest_0 22 42 rfl)
theorem dX7_greatest_23 : decode cX7_greatest 23 = .ok (.iload_n 1, 1) := dw_27 (kcX7_greatest_0 23 27 rfl)
theorem dX7_greatest_24 : decode cX7_greatest 24 = .ok (.iload_n 2, 1) := dw_28 (kcX7_greatest_0 24 28 rfl)
theorem dX7_greatest_25 : decode cX7_greatest 25 = .ok (.iload_n 3, 1) := dw_29 (kcX7_greatest_0 25 29 rfl)
theorem dX7_greatest_26 : decode cX7_greatest 26 = .ok (.iconst 1, 1) := dw_4 (kcX7_greatest_0 26 4 rfl)
theorem dX7_greatest_27 : decode cX7_greatest 27 = .ok (.invokevirtual 223, 3) := dw_182 (kcX7_greatest_0 27 182 rfl) (kcX7_greatest_0 28 0 rfl) (kcX7_greatest_0 29 223 rfl) rfl
theorem dX7_greatest_30 : decode cX7_greatest 30 = .ok (.ireturn, 1) := dw_172 (kcX7_greatest_0 30 172 rfl)
theorem dX7_greatest_18 : decode cX7_greatest 18 = .ok (.iconst (-1), 1) := dw_2 (kcX7_greatest_0 18 2 rfl)
theorem dX7_greatest_19 : decode cX7_greatest 19 = .ok (.goto 11, 3) := dw_167 (kcX7_greatest_0 19 167 rfl) (kcX7_greatest_0 20 0 rfl) (kcX7_greatest_0 21 11 rfl) rfl
theorem kcX7_isSafe_0 : CHb cX7_isSafe 0 [42, 180, 0, 26, 27, 28, 29, 184, 0, 147, 46, 54, 4, 42, 27, 28, 29, 3, 182, 0, 223, 54, 5, 21, 5, 153, 0, 24, 21, 5, 21, 4, 42, 180, 0, 20, 16, 6, 27, 104, 6, 96, 46, 100, 164, 0, 5, 3, 172, 42, 27, 28, 29, 4, 182, 0, 223, 21, 4, 42, 180, 0, 20, 16] := CHb_of (by decide +kernel)
theorem dX7_isSafe_0 : decode cX7_isSafe 0 = .ok (.aload_n 0, 1) := dw_42 (kcX7_isSafe_0 0 42 rfl)
theorem dX7_isSafe_1 : decode cX7_isSafe 1 = .ok (.getfield 26, 3) := dw_180 (kcX7_isSafe_0 1 180 rfl) (kcX7_isSafe_0 2 0 rfl) (kcX7_isSafe_0 3 26 rfl) rfl
theorem dX7_isSafe_4 : decode cX7_isSafe 4 = .ok (.iload_n 1, 1) := dw_27 (kcX7_isSafe_0 4 27 rfl)
theorem dX7_isSafe_5 : decode cX7_isSafe 5 = .ok (.iload_n 2, 1) := dw_28 (kcX7_isSafe_0 5 28 rfl)
theorem dX7_isSafe_6 : decode cX7_isSafe 6 = .ok (.iload_n 3, 1) := dw_29 (kcX7_isSafe_0 6 29 rfl)
theorem dX7_isSafe_7 : decode cX7_isSafe 7 = .ok (.invokestatic 147, 3) := dw_184 (kcX7_isSafe_0 7 184 rfl) (kcX7_isSafe_0 8 0 rfl) (kcX7_isSafe_0 9 147 rfl) rfl
theorem dX7_isSafe_10 : decode cX7_isSafe 10 = .ok (.iaload, 1) := dw_46 (kcX7_isSafe_0 10 46 rfl)
theorem dX7_isSafe_11 : decode cX7_isSafe 11 = .ok (.istore 4, 2) := dw_54 (kcX7_isSafe_0 11 54 rfl) (kcX7_isSafe_0 12 4 rfl)
theorem dX7_isSafe_13 : decode cX7_isSafe 13 = .ok (.aload_n 0, 1) := dw_42 (kcX7_isSafe_0 13 42 rfl)
theorem dX7_isSafe_14 : decode cX7_isSafe 14 = .ok (.iload_n 1, 1) := dw_27 (kcX7_isSafe_0 14 27 rfl)
theorem dX7_isSafe_15 : decode cX7_isSafe 15 = .ok (.iload_n 2, 1) := dw_28 (kcX7_isSafe_0 15 28 rfl)
theorem dX7_isSafe_16 : decode cX7_isSafe 16 = .ok (.iload_n 3, 1) := dw_29 (kcX7_isSafe_0 16 29 rfl)
theorem dX7_isSafe_17 : decode cX7_isSafe 17 = .ok (.iconst 0, 1) := dw_3 (kcX7_isSafe_0 17 3 rfl)
theorem dX7_isSafe_18 : decode cX7_isSafe 18 = .ok (.invokevirtual 223, 3) := dw_182 (kcX7_isSafe_0 18 182 rfl) (kcX7_isSafe_0 19 0 rfl) (kcX7_isSafe_0 20 223 rfl) rfl
theorem dX7_isSafe_21 : decode cX7_isSafe 21 = .ok (.istore 5, 2) := dw_54 (kcX7_isSafe_0 21 54 rfl) (kcX7_isSafe_0 22 5 rfl)
theorem dX7_isSafe_23 : decode cX7_isSafe 23 = .ok (.iload 5, 2) := dw_21 (kcX7_isSafe_0 23 21 rfl) (kcX7_isSafe_0 24 5 rfl)
theorem dX7_isSafe_25 : decode cX7_isSafe 25 = .ok (.ifCond .eq 24, 3) := dw_153 (kcX7_isSafe_0 25 153 rfl) (kcX7_isSafe_0 26 0 rfl) (kcX7_isSafe_0 27 24 rfl) rfl
theorem dX7_isSafe_49 : decode cX7_isSafe 49 = .ok (.aload_n 0, 1) := dw_42 (kcX7_isSafe_0 49 42 rfl)
theorem dX7_isSafe_50 : decode cX7_isSafe 50 = .ok (.iload_n 1, 1) := dw_27 (kcX7_isSafe_0 50 27 rfl)
theorem dX7_isSafe_51 : decode cX7_isSafe 51 = .ok (.iload_n 2, 1) := dw_28 (kcX7_isSafe_0 51 28 rfl)
theorem dX7_isSafe_52 : decode cX7_isSafe 52 = .ok (.iload_n 3, 1) := dw_29 (kcX7_isSafe_0 52 29 rfl)
theorem dX7_isSafe_53 : decode cX7_isSafe 53 = .ok (.iconst 1, 1) := dw_4 (kcX7_isSafe_0 53 4 rfl)
theorem dX7_isSafe_54 : decode cX7_isSafe 54 = .ok (.invokevirtual 223, 3) := dw_182 (kcX7_isSafe_0 54 182 rfl) (kcX7_isSafe_0 55 0 rfl) (kcX7_isSafe_0 56 223 rfl) rfl
theorem dX7_isSafe_57 : decode cX7_isSafe 57 = .ok (.iload 4, 2) := dw_21 (kcX7_isSafe_0 57 21 rfl) (kcX7_isSafe_0 58 4 rfl)
theorem dX7_isSafe_59 : decode cX7_isSafe 59 = .ok (.aload_n 0, 1) := dw_42 (kcX7_isSafe_0 59 42 rfl)
theorem dX7_isSafe_60 : decode cX7_isSafe 60 = .ok (.getfield 20, 3) := dw_180 (kcX7_isSafe_0 60 180 rfl) (kcX7_isSafe_0 61 0 rfl) (kcX7_isSafe_0 62 20 rfl) rfl
theorem kcX7_isSafe_1 : CHb cX7_isSafe 64 [6, 27, 104, 7, 96, 46, 96, 161, 0, 7, 4, 167, 0, 4, 3, 172] := CHb_of (by decide +kernel)
theorem dX7_isSafe_63 : decode cX7_isSafe 63 = .ok (.bipush 6, 2) := dw_16 (kcX7_isSafe_0 63 16 rfl) (kcX7_isSafe_1 0 6 rfl) rfl
theorem dX7_isSafe_65 : decode cX7_isSafe 65 = .ok (.iload_n 1, 1) := dw_27 (kcX7_isSafe_1 1 27 rfl)
theorem dX7_isSafe_66 : decode cX7_isSafe 66 = .ok (.imul, 1) := dw_104 (kcX7_isSafe_1 2 104 rfl)
theorem dX7_isSafe_67 : decode cX7_isSafe 67 = .ok (.iconst 4, 1) := dw_7 (kcX7_isSafe_1 3 7 rfl)
theorem dX7_isSafe_68 : decode cX7_isSafe 68 = .ok (.iadd, 1) := dw_96 (kcX7_isSafe_1 4 96 rfl)
theorem dX7_isSafe_69 : decode cX7_isSafe 69 = .ok (.iaload, 1) := dw_46 (kcX7_isSafe_1 5 46 rfl)
theorem dX7_isSafe_70 : decode cX7_isSafe 70 = .ok (.iadd, 1) := dw_96 (kcX7_isSafe_1 6 96 rfl)
theorem dX7_isSafe_71 : decode cX7_isSafe 71 = .ok (.if_icmp .lt 7, 3) := dw_161 (kcX7_isSafe_1 7 161 rfl) (kcX7_isSafe_1 8 0 rfl) (kcX7_isSafe_1 9 7 rfl) rfl
theorem dX7_isSafe_78 : decode cX7_isSafe 78 = .ok (.iconst 0, 1) := dw_3 (kcX7_isSafe_1 14 3 rfl)
theorem dX7_isSafe_79 : decode cX7_isSafe 79 = .ok (.ireturn, 1) := dw_172 (kcX7_isSafe_1 15 172 rfl)
theorem dX7_isSafe_74 : decode cX7_isSafe 74 = .ok (.iconst 1, 1) := dw_4 (kcX7_isSafe_1 10 4 rfl)
theorem dX7_isSafe_75 : decode cX7_isSafe 75 = .ok (.goto 4, 3) := dw_167 (kcX7_isSafe_1 11 167 rfl) (kcX7_isSafe_1 12 0 rfl) (kcX7_isSafe_1 13 4 rfl) rfl
theorem dX7_isSafe_28 : decode cX7_isSafe 28 = .ok (.iload 5, 2) := dw_21 (kcX7_isSafe_0 28 21 rfl) (kcX7_isSafe_0 29 5 rfl)
theorem dX7_isSafe_30 : decode cX7_isSafe 30 = .ok (.iload 4, 2) := dw_21 (kcX7_isSafe_0 30 21 rfl) (kcX7_isSafe_0 31 4 rfl)
theorem dX7_isSafe_32 : decode cX7_isSafe 32 = .ok (.aload_n 0, 1) := dw_42 (kcX7_isSafe_0 32 42 rfl)
theorem dX7_isSafe_33 : decode cX7_isSafe 33 = .ok (.getfield 20, 3) := dw_180 (kcX7_isSafe_0 33 180 rfl) (kcX7_isSafe_0 34 0 rfl) (kcX7_isSafe_0 35 20 rfl) rfl
theorem dX7_isSafe_36 : decode cX7_isSafe 36 = .ok (.bipush 6, 2) := dw_16 (kcX7_isSafe_0 36 16 rfl) (kcX7_isSafe_0 37 6 rfl) rfl
theorem dX7_isSafe_38 : decode cX7_isSafe 38 = .ok (.iload_n 1, 1) := dw_27 (kcX7_isSafe_0 38 27 rfl)
theorem dX7_isSafe_39 : decode cX7_isSafe 39 = .ok (.imul, 1) := dw_104 (kcX7_isSafe_0 39 104 rfl)
theorem dX7_isSafe_40 : decode cX7_isSafe 40 = .ok (.iconst 3, 1) := dw_6 (kcX7_isSafe_0 40 6 rfl)
theorem dX7_isSafe_41 : decode cX7_isSafe 41 = .ok (.iadd, 1) := dw_96 (kcX7_isSafe_0 41 96 rfl)
theorem dX7_isSafe_42 : decode cX7_isSafe 42 = .ok (.iaload, 1) := dw_46 (kcX7_isSafe_0 42 46 rfl)
theorem dX7_isSafe_43 : decode cX7_isSafe 43 = .ok (.isub, 1) := dw_100 (kcX7_isSafe_0 43 100 rfl)
theorem dX7_isSafe_44 : decode cX7_isSafe 44 = .ok (.if_icmp .le 5, 3) := dw_164 (kcX7_isSafe_0 44 164 rfl) (kcX7_isSafe_0 45 0 rfl) (kcX7_isSafe_0 46 5 rfl) rfl
theorem dX7_isSafe_47 : decode cX7_isSafe 47 = .ok (.iconst 0, 1) := dw_3 (kcX7_isSafe_0 47 3 rfl)
theorem dX7_isSafe_48 : decode cX7_isSafe 48 = .ok (.ireturn, 1) := dw_172 (kcX7_isSafe_0 48 172 rfl)
theorem kcX7_safe_0 : CHb cX7_safe 0 [42, 42, 27, 28, 29, 182, 0, 178, 181, 0, 116, 42, 180, 0, 116, 158, 0, 7, 2, 167, 0, 18, 42, 27, 28, 29, 182, 0, 227, 153, 0, 7, 4, 167, 0, 4, 3, 172] := CHb_of (by decide +kernel)
theorem dX7_safe_0 : decode cX7_safe 0 = .ok (.aload_n 0, 1) := dw_42 (kcX7_safe_0 0 42 rfl)
theorem dX7_safe_1 : decode cX7_safe 1 = .ok (.aload_n 0, 1) := dw_42 (kcX7_safe_0 1 42 rfl)
theorem dX7_safe_2 : decode cX7_safe 2 = .ok (.iload_n 1, 1) := dw_27 (kcX7_safe_0 2 27 rfl)
theorem dX7_safe_3 : decode cX7_safe 3 = .ok (.iload_n 2, 1) := dw_28 (kcX7_safe_0 3 28 rfl)
theorem dX7_safe_4 : decode cX7_safe 4 = .ok (.iload_n 3, 1) := dw_29 (kcX7_safe_0 4 29 rfl)
theorem dX7_safe_5 : decode cX7_safe 5 = .ok (.invokevirtual 178, 3) := dw_182 (kcX7_safe_0 5 182 rfl) (kcX7_safe_0 6 0 rfl) (kcX7_safe_0 7 178 rfl) rfl
theorem dX7_safe_8 : decode cX7_safe 8 = .ok (.putfield 116, 3) := dw_181 (kcX7_safe_0 8 181 rfl) (kcX7_safe_0 9 0 rfl) (kcX7_safe_0 10 116 rfl) rfl
theorem dX7_safe_11 : decode cX7_safe 11 = .ok (.aload_n 0, 1) := dw_42 (kcX7_safe_0 11 42 rfl)
theorem dX7_safe_12 : decode cX7_safe 12 = .ok (.getfield 116, 3) := dw_180 (kcX7_safe_0 12 180 rfl) (kcX7_safe_0 13 0 rfl) (kcX7_safe_0 14 116 rfl) rfl
theorem dX7_safe_15 : decode cX7_safe 15 = .ok (.ifCond .le 7, 3) := dw_158 (kcX7_safe_0 15 158 rfl) (kcX7_safe_0 16 0 rfl) (kcX7_safe_0 17 7 rfl) rfl
theorem dX7_safe_22 : decode cX7_safe 22 = .ok (.aload_n 0, 1) := dw_42 (kcX7_safe_0 22 42 rfl)
theorem dX7_safe_23 : decode cX7_safe 23 = .ok (.iload_n 1, 1) := dw_27 (kcX7_safe_0 23 27 rfl)
theorem dX7_safe_24 : decode cX7_safe 24 = .ok (.iload_n 2, 1) := dw_28 (kcX7_safe_0 24 28 rfl)
theorem dX7_safe_25 : decode cX7_safe 25 = .ok (.iload_n 3, 1) := dw_29 (kcX7_safe_0 25 29 rfl)
theorem dX7_safe_26 : decode cX7_safe 26 = .ok (.invokevirtual 227, 3) := dw_182 (kcX7_safe_0 26 182 rfl) (kcX7_safe_0 27 0 rfl) (kcX7_safe_0 28 227 rfl) rfl
theorem dX7_safe_29 : decode cX7_safe 29 = .ok (.ifCond .eq 7, 3) := dw_153 (kcX7_safe_0 29 153 rfl) (kcX7_safe_0 30 0 rfl) (kcX7_safe_0 31 7 rfl) rfl
theorem dX7_safe_36 : decode cX7_safe 36 = .ok (.iconst 0, 1) := dw_3 (kcX7_safe_0 36 3 rfl)
theorem dX7_safe_37 : decode cX7_safe 37 = .ok (.ireturn, 1) := dw_172 (kcX7_safe_0 37 172 rfl)
theorem dX7_safe_32 : decode cX7_safe 32 = .ok (.iconst 1, 1) := dw_4 (kcX7_safe_0 32 4 rfl)
theorem dX7_safe_33 : decode cX7_safe 33 = .ok (.goto 4, 3) := dw_167 (kcX7_safe_0 33 167 rfl) (kcX7_safe_0 34 0 rfl) (kcX7_safe_0 35 4 rfl) rfl
theorem dX7_safe_18 : decode cX7_safe 18 = .ok (.iconst (-1), 1) := dw_2 (kcX7_safe_0 18 2 rfl)
theorem dX7_safe_19 : decode cX7_safe 19 = .ok (.goto 18, 3) := dw_167 (kcX7_safe_0 19 167 rfl) (kcX7_safe_0 20 0 rfl) (kcX7_safe_0 21 18 rfl) rfl
theorem kcX7_unsafeFrom_0 : CHb cX7_unsafeFrom 0 [28, 62, 29, 16, 12, 42, 180, 0, 13, 27, 46, 104, 162, 0, 72, 29, 16, 12, 108, 54, 4, 29, 16, 12, 112, 54, 5, 21, 5, 42, 180, 0, 17, 27, 46, 162, 0, 43, 42, 27, 21, 4, 182, 0, 161, 153, 0, 33, 42, 27, 27, 21, 4, 21, 5, 184, 0, 147, 182, 0, 175, 158, 0, 17] := CHb_of (by decide +kernel)
theorem dX7_unsafeFrom_0 : decode cX7_unsafeFrom 0 = .ok (.iload_n 2, 1) := dw_28 (kcX7_unsafeFrom_0 0 28 rfl)
theorem dX7_unsafeFrom_1 : decode cX7_unsafeFrom 1 = .ok (.istore_n 3, 1) := dw_62 (kcX7_unsafeFrom_0 1 62 rfl)
theorem dX7_unsafeFrom_2 : decode cX7_unsafeFrom 2 = .ok (.iload_n 3, 1) := dw_29 (kcX7_unsafeFrom_0 2 29 rfl)
theorem dX7_unsafeFrom_3 : decode cX7_unsafeFrom 3 = .ok (.bipush 12, 2) := dw_16 (kcX7_unsafeFrom_0 3 16 rfl) (kcX7_unsafeFrom_0 4 12 rfl) rfl
theorem dX7_unsafeFrom_5 : decode cX7_unsafeFrom 5 = .ok (.aload_n 0, 1) := dw_42 (kcX7_unsafeFrom_0 5 42 rfl)
theorem dX7_unsafeFrom_6 : decode cX7_unsafeFrom 6 = .ok (.getfield 13, 3) := dw_180 (kcX7_unsafeFrom_0 6 180 rfl) (kcX7_unsafeFrom_0 7 0 rfl) (kcX7_unsafeFrom_0 8 13 rfl) rfl
theorem dX7_unsafeFrom_9 : decode cX7_unsafeFrom 9 = .ok (.iload_n 1, 1) := dw_27 (kcX7_unsafeFrom_0 9 27 rfl)
theorem dX7_unsafeFrom_10 : decode cX7_unsafeFrom 10 = .ok (.iaload, 1) := dw_46 (kcX7_unsafeFrom_0 10 46 rfl)
theorem dX7_unsafeFrom_11 : decode cX7_unsafeFrom 11 = .ok (.imul, 1) := dw_104 (kcX7_unsafeFrom_0 11 104 rfl)
theorem dX7_unsafeFrom_12 : decode cX7_unsafeFrom 12 = .ok (.if_icmp .ge 72, 3) := dw_162 (kcX7_unsafeFrom_0 12 162 rfl) (kcX7_unsafeFrom_0 13 0 rfl) (kcX7_unsafeFrom_0 14 72 rfl) rfl
theorem kcX7_unsafeFrom_1 : CHb cX7_unsafeFrom 64 [42, 27, 21, 4, 21, 5, 182, 0, 227, 154, 0, 5, 29, 172, 132, 3, 1, 167, 255, 177, 2, 172] := CHb_of (by decide +kernel)
theorem dX7_unsafeFrom_84 : decode cX7_unsafeFrom 84 = .ok (.iconst (-1), 1) := dw_2 (kcX7_unsafeFrom_1 20 2 rfl)
theorem dX7_unsafeFrom_85 : decode cX7_unsafeFrom 85 = .ok (.ireturn, 1) := dw_172 (kcX7_unsafeFrom_1 21 172 rfl)
theorem dX7_unsafeFrom_15 : decode cX7_unsafeFrom 15 = .ok (.iload_n 3, 1) := dw_29 (kcX7_unsafeFrom_0 15 29 rfl)
theorem dX7_unsafeFrom_16 : decode cX7_unsafeFrom 16 = .ok (.bipush 12, 2) := dw_16 (kcX7_unsafeFrom_0 16 16 rfl) (kcX7_unsafeFrom_0 17 12 rfl) rfl
theorem dX7_unsafeFrom_18 : decode cX7_unsafeFrom 18 = .ok (.idiv, 1) := dw_108 (kcX7_unsafeFrom_0 18 108 rfl)
theorem dX7_unsafeFrom_19 : decode cX7_unsafeFrom 19 = .ok (.istore 4, 2) := dw_54 (kcX7_unsafeFrom_0 19 54 rfl) (kcX7_unsafeFrom_0 20 4 rfl)
theorem dX7_unsafeFrom_21 : decode cX7_unsafeFrom 21 = .ok (.iload_n 3, 1) := dw_29 (kcX7_unsafeFrom_0 21 29 rfl)
theorem dX7_unsafeFrom_22 : decode cX7_unsafeFrom 22 = .ok (.bipush 12, 2) := dw_16 (kcX7_unsafeFrom_0 22 16 rfl) (kcX7_unsafeFrom_0 23 12 rfl) rfl
theorem dX7_unsafeFrom_24 : decode cX7_unsafeFrom 24 = .ok (.irem, 1) := dw_112 (kcX7_unsafeFrom_0 24 112 rfl)
theorem dX7_unsafeFrom_25 : decode cX7_unsafeFrom 25 = .ok (.istore 5, 2) := dw_54 (kcX7_unsafeFrom_0 25 54 rfl) (kcX7_unsafeFrom_0 26 5 rfl)
theorem dX7_unsafeFrom_27 : decode cX7_unsafeFrom 27 = .ok (.iload 5, 2) := dw_21 (kcX7_unsafeFrom_0 27 21 rfl) (kcX7_unsafeFrom_0 28 5 rfl)
theorem dX7_unsafeFrom_29 : decode cX7_unsafeFrom 29 = .ok (.aload_n 0, 1) := dw_42 (kcX7_unsafeFrom_0 29 42 rfl)
theorem dX7_unsafeFrom_30 : decode cX7_unsafeFrom 30 = .ok (.getfield 17, 3) := dw_180 (kcX7_unsafeFrom_0 30 180 rfl) (kcX7_unsafeFrom_0 31 0 rfl) (kcX7_unsafeFrom_0 32 17 rfl) rfl
theorem dX7_unsafeFrom_33 : decode cX7_unsafeFrom 33 = .ok (.iload_n 1, 1) := dw_27 (kcX7_unsafeFrom_0 33 27 rfl)
theorem dX7_unsafeFrom_34 : decode cX7_unsafeFrom 34 = .ok (.iaload, 1) := dw_46 (kcX7_unsafeFrom_0 34 46 rfl)
theorem dX7_unsafeFrom_35 : decode cX7_unsafeFrom 35 = .ok (.if_icmp .ge 43, 3) := dw_162 (kcX7_unsafeFrom_0 35 162 rfl) (kcX7_unsafeFrom_0 36 0 rfl) (kcX7_unsafeFrom_0 37 43 rfl) rfl
theorem dX7_unsafeFrom_78 : decode cX7_unsafeFrom 78 = .ok (.iinc 3 1, 3) := dw_132 (kcX7_unsafeFrom_1 14 132 rfl) (kcX7_unsafeFrom_1 15 3 rfl) (kcX7_unsafeFrom_1 16 1 rfl) rfl
theorem dX7_unsafeFrom_81 : decode cX7_unsafeFrom 81 = .ok (.goto (-79), 3) := dw_167 (kcX7_unsafeFrom_1 17 167 rfl) (kcX7_unsafeFrom_1 18 255 rfl) (kcX7_unsafeFrom_1 19 177 rfl) rfl
theorem dX7_unsafeFrom_38 : decode cX7_unsafeFrom 38 = .ok (.aload_n 0, 1) := dw_42 (kcX7_unsafeFrom_0 38 42 rfl)
theorem dX7_unsafeFrom_39 : decode cX7_unsafeFrom 39 = .ok (.iload_n 1, 1) := dw_27 (kcX7_unsafeFrom_0 39 27 rfl)
theorem dX7_unsafeFrom_40 : decode cX7_unsafeFrom 40 = .ok (.iload 4, 2) := dw_21 (kcX7_unsafeFrom_0 40 21 rfl) (kcX7_unsafeFrom_0 41 4 rfl)
theorem dX7_unsafeFrom_42 : decode cX7_unsafeFrom 42 = .ok (.invokevirtual 161, 3) := dw_182 (kcX7_unsafeFrom_0 42 182 rfl) (kcX7_unsafeFrom_0 43 0 rfl) (kcX7_unsafeFrom_0 44 161 rfl) rfl
theorem dX7_unsafeFrom_45 : decode cX7_unsafeFrom 45 = .ok (.ifCond .eq 33, 3) := dw_153 (kcX7_unsafeFrom_0 45 153 rfl) (kcX7_unsafeFrom_0 46 0 rfl) (kcX7_unsafeFrom_0 47 33 rfl) rfl
theorem dX7_unsafeFrom_48 : decode cX7_unsafeFrom 48 = .ok (.aload_n 0, 1) := dw_42 (kcX7_unsafeFrom_0 48 42 rfl)
theorem dX7_unsafeFrom_49 : decode cX7_unsafeFrom 49 = .ok (.iload_n 1, 1) := dw_27 (kcX7_unsafeFrom_0 49 27 rfl)
theorem dX7_unsafeFrom_50 : decode cX7_unsafeFrom 50 = .ok (.iload_n 1, 1) := dw_27 (kcX7_unsafeFrom_0 50 27 rfl)
theorem dX7_unsafeFrom_51 : decode cX7_unsafeFrom 51 = .ok (.iload 4, 2) := dw_21 (kcX7_unsafeFrom_0 51 21 rfl) (kcX7_unsafeFrom_0 52 4 rfl)
theorem dX7_unsafeFrom_53 : decode cX7_unsafeFrom 53 = .ok (.iload 5, 2) := dw_21 (kcX7_unsafeFrom_0 53 21 rfl) (kcX7_unsafeFrom_0 54 5 rfl)
theorem dX7_unsafeFrom_55 : decode cX7_unsafeFrom 55 = .ok (.invokestatic 147, 3) := dw_184 (kcX7_unsafeFrom_0 55 184 rfl) (kcX7_unsafeFrom_0 56 0 rfl) (kcX7_unsafeFrom_0 57 147 rfl) rfl
theorem dX7_unsafeFrom_58 : decode cX7_unsafeFrom 58 = .ok (.invokevirtual 175, 3) := dw_182 (kcX7_unsafeFrom_0 58 182 rfl) (kcX7_unsafeFrom_0 59 0 rfl) (kcX7_unsafeFrom_0 60 175 rfl) rfl
theorem dX7_unsafeFrom_61 : decode cX7_unsafeFrom 61 = .ok (.ifCond .le 17, 3) := dw_158 (kcX7_unsafeFrom_0 61 158 rfl) (kcX7_unsafeFrom_0 62 0 rfl) (kcX7_unsafeFrom_0 63 17 rfl) rfl
theorem dX7_unsafeFrom_64 : decode cX7_unsafeFrom 64 = .ok (.aload_n 0, 1) := dw_42 (kcX7_unsafeFrom_1 0 42 rfl)
theorem dX7_unsafeFrom_65 : decode cX7_unsafeFrom 65 = .ok (.iload_n 1, 1) := dw_27 (kcX7_unsafeFrom_1 1 27 rfl)
theorem dX7_unsafeFrom_66 : decode cX7_unsafeFrom 66 = .ok (.iload 4, 2) := dw_21 (kcX7_unsafeFrom_1 2 21 rfl) (kcX7_unsafeFrom_1 3 4 rfl)
theorem dX7_unsafeFrom_68 : decode cX7_unsafeFrom 68 = .ok (.iload 5, 2) := dw_21 (kcX7_unsafeFrom_1 4 21 rfl) (kcX7_unsafeFrom_1 5 5 rfl)
theorem dX7_unsafeFrom_70 : decode cX7_unsafeFrom 70 = .ok (.invokevirtual 227, 3) := dw_182 (kcX7_unsafeFrom_1 6 182 rfl) (kcX7_unsafeFrom_1 7 0 rfl) (kcX7_unsafeFrom_1 8 227 rfl) rfl
theorem dX7_unsafeFrom_73 : decode cX7_unsafeFrom 73 = .ok (.ifCond .ne 5, 3) := dw_154 (kcX7_unsafeFrom_1 9 154 rfl) (kcX7_unsafeFrom_1 10 0 rfl) (kcX7_unsafeFrom_1 11 5 rfl) rfl
theorem dX7_unsafeFrom_76 : decode cX7_unsafeFrom 76 = .ok (.iload_n 3, 1) := dw_29 (kcX7_unsafeFrom_1 12 29 rfl)
theorem dX7_unsafeFrom_77 : decode cX7_unsafeFrom 77 = .ok (.ireturn, 1) := dw_172 (kcX7_unsafeFrom_1 13 172 rfl)
theorem kcX7_unsafe_0 : CHb cX7_unsafe 0 [42, 42, 27, 182, 0, 120, 153, 0, 7, 3, 167, 0, 4, 4, 181, 0, 116, 42, 180, 0, 116, 158, 0, 5, 2, 172, 3, 61, 42, 27, 3, 182, 0, 230, 62, 29, 2, 159, 0, 18, 132, 2, 1, 42, 27, 29, 4, 96, 182, 0, 230, 62, 167, 255, 239, 28, 172] := CHb_of (by decide +kernel)
theorem dX7_unsafe_0 : decode cX7_unsafe 0 = .ok (.aload_n 0, 1) := dw_42 (kcX7_unsafe_0 0 42 rfl)
theorem dX7_unsafe_1 : decode cX7_unsafe 1 = .ok (.aload_n 0, 1) := dw_42 (kcX7_unsafe_0 1 42 rfl)
theorem dX7_unsafe_2 : decode cX7_unsafe 2 = .ok (.iload_n 1, 1) := dw_27 (kcX7_unsafe_0 2 27 rfl)
theorem dX7_unsafe_3 : decode cX7_unsafe 3 = .ok (.invokevirtual 120, 3) := dw_182 (kcX7_unsafe_0 3 182 rfl) (kcX7_unsafe_0 4 0 rfl) (kcX7_unsafe_0 5 120 rfl) rfl
theorem dX7_unsafe_6 : decode cX7_unsafe 6 = .ok (.ifCond .eq 7, 3) := dw_153 (kcX7_unsafe_0 6 153 rfl) (kcX7_unsafe_0 7 0 rfl) (kcX7_unsafe_0 8 7 rfl) rfl
theorem dX7_unsafe_13 : decode cX7_unsafe 13 = .ok (.iconst 1, 1) := dw_4 (kcX7_unsafe_0 13 4 rfl)
theorem dX7_unsafe_14 : decode cX7_unsafe 14 = .ok (.putfield 116, 3) := dw_181 (kcX7_unsafe_0 14 181 rfl) (kcX7_unsafe_0 15 0 rfl) (kcX7_unsafe_0 16 116 rfl) rfl
theorem dX7_unsafe_17 : decode cX7_unsafe 17 = .ok (.aload_n 0, 1) := dw_42 (kcX7_unsafe_0 17 42 rfl)
theorem dX7_unsafe_18 : decode cX7_unsafe 18 = .ok (.getfield 116, 3) := dw_180 (kcX7_unsafe_0 18 180 rfl) (kcX7_unsafe_0 19 0 rfl) (kcX7_unsafe_0 20 116 rfl) rfl
theorem dX7_unsafe_21 : decode cX7_unsafe 21 = .ok (.ifCond .le 5, 3) := dw_158 (kcX7_unsafe_0 21 158 rfl) (kcX7_unsafe_0 22 0 rfl) (kcX7_unsafe_0 23 5 rfl) rfl
theorem dX7_unsafe_24 : decode cX7_unsafe 24 = .ok (.iconst (-1), 1) := dw_2 (kcX7_unsafe_0 24 2 rfl)
theorem dX7_unsafe_25 : decode cX7_unsafe 25 = .ok (.ireturn, 1) := dw_172 (kcX7_unsafe_0 25 172 rfl)
theorem dX7_unsafe_9 : decode cX7_unsafe 9 = .ok (.iconst 0, 1) := dw_3 (kcX7_unsafe_0 9 3 rfl)
theorem dX7_unsafe_10 : decode cX7_unsafe 10 = .ok (.goto 4, 3) := dw_167 (kcX7_unsafe_0 10 167 rfl) (kcX7_unsafe_0 11 0 rfl) (kcX7_unsafe_0 12 4 rfl) rfl
theorem dX7_unsafe_26 : decode cX7_unsafe 26 = .ok (.iconst 0, 1) := dw_3 (kcX7_unsafe_0 26 3 rfl)
theorem dX7_unsafe_27 : decode cX7_unsafe 27 = .ok (.istore_n 2, 1) := dw_61 (kcX7_unsafe_0 27 61 rfl)
theorem dX7_unsafe_28 : decode cX7_unsafe 28 = .ok (.aload_n 0, 1) := dw_42 (kcX7_unsafe_0 28 42 rfl)
theorem dX7_unsafe_29 : decode cX7_unsafe 29 = .ok (.iload_n 1, 1) := dw_27 (kcX7_unsafe_0 29 27 rfl)
theorem dX7_unsafe_30 : decode cX7_unsafe 30 = .ok (.iconst 0, 1) := dw_3 (kcX7_unsafe_0 30 3 rfl)
theorem dX7_unsafe_31 : decode cX7_unsafe 31 = .ok (.invokevirtual 230, 3) := dw_182 (kcX7_unsafe_0 31 182 rfl) (kcX7_unsafe_0 32 0 rfl) (kcX7_unsafe_0 33 230 rfl) rfl
theorem dX7_unsafe_34 : decode cX7_unsafe 34 = .ok (.istore_n 3, 1) := dw_62 (kcX7_unsafe_0 34 62 rfl)
theorem dX7_unsafe_35 : decode cX7_unsafe 35 = .ok (.iload_n 3, 1) := dw_29 (kcX7_unsafe_0 35 29 rfl)
theorem dX7_unsafe_36 : decode cX7_unsafe 36 = .ok (.iconst (-1), 1) := dw_2 (kcX7_unsafe_0 36 2 rfl)
theorem dX7_unsafe_37 : decode cX7_unsafe 37 = .ok (.if_icmp .eq 18, 3) := dw_159 (kcX7_unsafe_0 37 159 rfl) (kcX7_unsafe_0 38 0 rfl) (kcX7_unsafe_0 39 18 rfl) rfl
theorem dX7_unsafe_40 : decode cX7_unsafe 40 = .ok (.iinc 2 1, 3) := dw_132 (kcX7_unsafe_0 40 132 rfl) (kcX7_unsafe_0 41 2 rfl) (kcX7_unsafe_0 42 1 rfl) rfl
theorem dX7_unsafe_43 : decode cX7_unsafe 43 = .ok (.aload_n 0, 1) := dw_42 (kcX7_unsafe_0 43 42 rfl)
theorem dX7_unsafe_44 : decode cX7_unsafe 44 = .ok (.iload_n 1, 1) := dw_27 (kcX7_unsafe_0 44 27 rfl)
theorem dX7_unsafe_45 : decode cX7_unsafe 45 = .ok (.iload_n 3, 1) := dw_29 (kcX7_unsafe_0 45 29 rfl)
theorem dX7_unsafe_46 : decode cX7_unsafe 46 = .ok (.iconst 1, 1) := dw_4 (kcX7_unsafe_0 46 4 rfl)
theorem dX7_unsafe_47 : decode cX7_unsafe 47 = .ok (.iadd, 1) := dw_96 (kcX7_unsafe_0 47 96 rfl)
theorem dX7_unsafe_48 : decode cX7_unsafe 48 = .ok (.invokevirtual 230, 3) := dw_182 (kcX7_unsafe_0 48 182 rfl) (kcX7_unsafe_0 49 0 rfl) (kcX7_unsafe_0 50 230 rfl) rfl
theorem dX7_unsafe_51 : decode cX7_unsafe 51 = .ok (.istore_n 3, 1) := dw_62 (kcX7_unsafe_0 51 62 rfl)
theorem dX7_unsafe_52 : decode cX7_unsafe 52 = .ok (.goto (-17), 3) := dw_167 (kcX7_unsafe_0 52 167 rfl) (kcX7_unsafe_0 53 255 rfl) (kcX7_unsafe_0 54 239 rfl) rfl
theorem dX7_unsafe_55 : decode cX7_unsafe 55 = .ok (.iload_n 2, 1) := dw_28 (kcX7_unsafe_0 55 28 rfl)
theorem dX7_unsafe_56 : decode cX7_unsafe 56 = .ok (.ireturn, 1) := dw_172 (kcX7_unsafe_0 56 172 rfl)
theorem nI_nm1 {n : Nat} (h : n < 2147483648) : ¬ nI n = -1 := fun q => by
  have h2 := congrArg Int32.toInt q
  rw [nI_toInt h] at h2
  exact absurd h2 (by rw [show (-1 : Int32).toInt = -1 by decide]; omega)
/-- how many of the first are set -/
def cN (fr : Nat → Int32) : Nat → Nat
  | 0 => 0
  | k + 1 => cN fr k + (if fr k = -1 then 0 else 1)
theorem cN_le (fr : Nat → Int32) : ∀ N, cN fr N ≤ N
  | 0 => Nat.le_refl 0
  | k + 1 => by have h := cN_le fr k; simp only [cN]; split <;> omega
theorem cN_lt {fr : Nat → Int32} {y : Nat} (hf : fr y = -1) : ∀ N, y < N → cN fr N < N
  | 0, h => absurd h (Nat.not_lt_zero _)
  | k + 1, h => by
    have h1 := cN_le fr k
    simp only [cN]
    by_cases e : y = k
    · subst e; rw [if_pos hf]; omega
    · have h2 := cN_lt hf k (by omega); split <;> omega
theorem cN_out {fr : Nat → Int32} {y : Nat} {v : Int32} : ∀ N, N ≤ y → cN (upd fr y v) N = cN fr N
  | 0, _ => rfl
  | k + 1, h => by simp only [cN]; rw [cN_out k (by omega), pk_un (by omega)]
theorem cN_upd {fr : Nat → Int32} {y : Nat} {v : Int32} (hf : fr y = -1) (hv : ¬ v = -1) : ∀ N, y < N → cN (upd fr y v) N = cN fr N + 1
  | 0, h => absurd h (Nat.not_lt_zero _)
  | k + 1, h => by
    simp only [cN]
    by_cases e : y = k
    · subst e; rw [cN_out y (Nat.le_refl _), pk_us, if_neg hv, if_pos hf]
    · rw [cN_upd hf hv k (by omega), pk_un (fun q => e q.symm)]; omega
theorem cN_0 {fr : Nat → Int32} : ∀ N, (∀ n, n < N → fr n = -1) → cN fr N = 0
  | 0, _ => rfl
  | k + 1, h => by simp only [cN]; rw [cN_0 k (fun n q => h n (by omega)), if_pos (h k (by omega))]
def wJ (N : Nat) (adj : Nat → Nat → Prop) (a : Nat) (fr qu : Nat → Int32) (mn : Nat) : Prop := (∀ k, k < mn → ∃ n, n < N ∧ qu k = nI n ∧ ¬ fr n = -1 ∧ (n = a ∨ ∃ k' u, k' < k ∧ u < N ∧ qu k' = nI u ∧ fr n = nI u ∧ adj u n)) ∧ (∀ n, n < N → ¬ fr n = -1 → ∃ k, k < mn ∧ qu k = nI n) ∧ cN fr N = mn
theorem fr_s {fr : Nat → Int32} {i : Nat} (h : ∀ n, n < i → fr n = -1) : ∀ n, n < i + 1 → upd fr i (-1) n = -1 := fun n hn => by
  by_cases e : n = i
  · subst e; exact pk_us
  · rw [pk_un e]; exact h n (by omega)
section WJ
variable {N a mn : Nat} {adj : Nat → Nat → Prop} {fr qu : Nat → Int32}
theorem wJ_0 (h : ∀ n, n < N → fr n = -1) (ha : a < N) (hN : N < 1000) : wJ N adj a (upd fr a (nI a)) (upd qu 0 (nI a)) 1 := by
  have hm := nI_nm1 (n := a) (by omega)
  refine ⟨fun k hk => ⟨a, ha, by obtain rfl : k = 0 := by omega
                                 exact pk_us, by rw [pk_us]; exact hm, Or.inl rfl⟩, fun n hn hf => ?_, ?_⟩
  · by_cases e : n = a
    · subst e; exact ⟨0, by omega, pk_us⟩
    · rw [pk_un e] at hf; exact absurd (h n hn) hf
  · rw [cN_upd (h a ha) hm N ha, cN_0 N h]
theorem wJ_at {k : Nat} (h : wJ N adj a fr qu mn) (hk : k < mn) : ∃ n, n < N ∧ qu k = nI n := by
  obtain ⟨n, h1, h2, _⟩ := h.1 k hk
  exact ⟨n, h1, h2⟩
theorem wJ_lt {y : Nat} (h : wJ N adj a fr qu mn) (hy : y < N) (hf : fr y = -1) : mn < N := by rw [← h.2.2]; exact cN_lt hf N hy
theorem wJ_s {k0 x y : Nat} (h : wJ N adj a fr qu mn) (hk : k0 < mn) (hq : qu k0 = nI x) (hx : x < N) (hy : y < N) (hf : fr y = -1) (hadj : adj x y) (hN : N < 1000) : wJ N adj a (upd fr y (nI x)) (upd qu mn (nI y)) (mn + 1) := by
  have hm := nI_nm1 (n := x) (by omega)
  refine ⟨fun k hk2 => ?_, fun n hn hf2 => ?_, ?_⟩
  · by_cases e : k = mn
    · subst e; exact ⟨y, hy, pk_us, by rw [pk_us]; exact hm, Or.inr ⟨k0, x, hk, hx, by rw [pk_un (by omega)]; exact hq, pk_us, hadj⟩⟩
    · obtain ⟨n, h1, h2, h3, h4⟩ := h.1 k (by omega)
      have hne : n ≠ y := fun q => h3 (by rw [q]; exact hf)
      refine ⟨n, h1, by rw [pk_un e]; exact h2, by rw [pk_un hne]; exact h3, h4.imp id (fun ⟨k', u, q1, q2, q3, q4, q5⟩ => ⟨k', u, q1, q2, by rw [pk_un (by omega)]; exact q3, by rw [pk_un hne]; exact q4, q5⟩)⟩
  · by_cases e : n = y
    · subst e; exact ⟨mn, by omega, pk_us⟩
    · rw [pk_un e] at hf2
      obtain ⟨k, h1, h2⟩ := h.2.1 n hn hf2
      exact ⟨k, by omega, by rw [pk_un (by omega)]; exact h2⟩
  · rw [cN_upd hf hm N hy, h.2.2]
theorem wJ_up {k y : Nat} (h : wJ N adj a fr qu mn) (hk : k < mn) (hq : qu k = nI y) (hy : y < N) (hne : y ≠ a) (hN : N < 1000) : ∃ k' u, k' < k ∧ u < N ∧ qu k' = nI u ∧ fr y = nI u ∧ adj u y := by
  obtain ⟨n, h1, h2, h3, h4⟩ := h.1 k hk
  obtain rfl : n = y := (nI_eq (by omega) (by omega)).mp (h2.symm.trans hq)
  exact h4.resolve_left hne
end WJ
def kAt (u v : Nat) : Nat := if u < 12 then 12 * u + v - 12 else 12 * v + u - 12
def rmF (mv hi lo nw : Nat → Int32) (u v : Nat) : Int32 := if mv (kAt u v) = 0 then 0 else if u < 12 then hi (kAt u v) - nw (kAt u v) else nw (kAt u v) - lo (kAt u v)
theorem rm_a {mv hi lo nw : Nat → Int32} {u v : Nat} (h : u < 12) : rmF mv hi lo nw u v = if mv (12 * u + v - 12) = 0 then 0 else hi (12 * u + v - 12) - nw (12 * u + v - 12) := by unfold rmF kAt; simp only [if_pos h]
theorem rm_b {mv hi lo nw : Nat → Int32} {u v : Nat} (h : ¬ u < 12) : rmF mv hi lo nw u v = if mv (12 * v + u - 12) = 0 then 0 else nw (12 * v + u - 12) - lo (12 * v + u - 12) := by unfold rmF kAt; simp only [if_neg h]
def bip (u v : Nat) : Prop := (u < 12 ∧ 12 ≤ v ∧ v < 24) ∨ (12 ≤ u ∧ u < 24 ∧ v < 12)
def adjM (mv hi lo nw : Nat → Int32) (u v : Nat) : Prop := bip u v ∧ 0 < rmF mv hi lo nw u v
def wayP (adj : Nat → Nat → Prop) (a b : Nat) (fr qu : Nat → Int32) : Prop := ∃ mn, wJ 24 adj a fr qu mn ∧ ∃ k, k < mn ∧ qu k = nI b
theorem push_0 {mo dn : Int32} (h0 : ¬ dn < 0) (h1 : ¬ mo ≤ dn) : 0 < mo - dn := by
  obtain ⟨d, hd, rfl⟩ := nI_of h0
  have h2 : ¬ mo < 0 := fun q => h1 (Int32.le_of_lt (Int32.lt_of_lt_of_le q (nI_pos' hd)))
  obtain ⟨M, hM, rfl⟩ := nI_of h2
  have h3 : d < M := Nat.not_le.mp (fun q => h1 ((nI_leI hM hd).mpr q))
  rw [pk_sub (by omega)]
  exact nI_lt (a := 0) (by omega) (by omega)
theorem push_s {mo dn n : Int32} (h0 : ¬ dn < 0) (h1 : ¬ mo ≤ dn) (h2 : 0 < n) (h3 : n ≤ mo - dn) : ¬ dn + n < 0 ∧ (mo.toInt - (dn + n).toInt).toNat < (mo.toInt - dn.toInt).toNat := by
  obtain ⟨d, hd, rfl⟩ := nI_of h0
  have h4 : ¬ mo < 0 := fun q => h1 (Int32.le_of_lt (Int32.lt_of_lt_of_le q (nI_pos' hd)))
  obtain ⟨M, hM, rfl⟩ := nI_of h4
  have h5 : d < M := Nat.not_le.mp (fun q => h1 ((nI_leI hM hd).mpr q))
  obtain ⟨k, hk, rfl⟩ := nI_of (Int32.not_lt.mpr (Int32.le_of_lt h2))
  rw [pk_sub (by omega)] at h3
  have h6 := (nI_leI hk (by omega)).mp h3
  have h7 : 0 < k := (nI_ltI (a := 0) (by omega) hk).mp h2
  rw [nI_add, nI_toInt (n := d + k) (by omega), nI_toInt hM, nI_toInt hd]
  exact ⟨nI_pos (by omega), by omega⟩
theorem min_s {n t q v : Int32} (h1 : 0 < n ∧ n ≤ t) (h2 : 0 < q) (hv : v = if q < n then q else n) : 0 < v ∧ v ≤ t := by
  rw [hv]
  split
  · rename_i h; exact ⟨h2, Int32.le_of_lt (Int32.lt_of_lt_of_le h h1.2)⟩
  · exact h1
set_option maxHeartbeats 4000000 in
set_option maxRecDepth 100000 in
theorem m_X7_lay (l : Launch) (G : GG) (y : Nat) (b : Nat → Nat) (f : Nat → Int32) (r : Nat → Nat → Int32) (t : Nat) (rw : Nat) (cl : Nat) (bk : Nat) (ht : t < 6) (hrw : rw ≤ 12) (hcl : cl ≤ 12) (hbk : bk ≤ 12) (h2 : (r 2) t = nI rw) (h3 : (r 3) t = nI cl) (h12 : (r 12) t = nI bk) (hG : nOK 864 6 (r 7)) : WrV l yX7_lay cX7_lay 10 ({ frames := 3, cells := 0, slots := 0, locals := 72 }) G (mM G y b f r) [.ref y, .int (nI t)] (fun w => ∃ (n_f_20 : Int32) (n_f_21 : Int32) (n_r_15 : Nat → Int32) (n_r_16 : Nat → Int32) (n_r_17 : Nat → Int32) (n_r_18 : Nat → Int32) (n_r_19 : Nat → Int32), w = mM G y b (upd (upd f 20 n_f_20) 21 n_f_21) (up2 (up2 (up2 (up2 (up2 r 15 n_r_15) 16 n_r_16) 17 n_r_17) 18 n_r_18) 19 n_r_19) ∧ (n_f_20 = nI rw) ∧ (n_f_21 = nI cl)) := by
  refine wr_entryV (by decide +kernel) (Nat.le_of_ble_eq_true rfl) ?_
  intro p e s m below meth c A C0 hP hK hD hA ls hl
  have hS : va_S A s.heap s.heap [] := va_S.rf
  obtain ⟨hx, hb, hml, hown, hts, hr, hlocks, hin⟩ := C0
  have hown : s.vm.findClass RX7 = some m.cls := hown
  have hDD : ∀ f' r', va_D A (mM G y b f' r') := fun f' r' => D_same hD rfl
  have hl : lv_has ls 10 [(0, .ref y), (1, .int (nI t))] := hl
  refine lv_aload_n hx hb dX7_lay_0 rfl (lv_at hl 0 rfl) ?_
  refine lv_aload_n hx hb dX7_lay_1 rfl (lv_at hl 0 rfl) ?_
  refine va_get (D := G.1) (ci := 7) (v := .ref (b 2)) (C := RX7) (T := TX7) (N := 43) hx hb hts inX7 hown hK.1 hP 0 rfl rfl 2 (by decide) (hts _ mf_X7_13) (fun _ h9 => h9) rfl dX7_lay_2 ?_
  refine lv_iload_n hx hb dX7_lay_5 rfl (lv_at hl 1 rfl) ?_
  refine xiald (f := (r 2)) hx hb hK hP 2 (t) (rfl) (by omega) (by decide) rfl dX7_lay_6 ?_
  refine lv_topi (fun v1 ev1 => ?_)
  obtain rfl : v1 = nI (rw) := ev1.trans (h2)
  refine va_put (D := G.1) (ci := 7) (v := .int (nI (rw))) (C := RX7) (T := TX7) (N := 43) hx hb hts inX7 tyX7 tyX7_ok nmX7 hown hK.1 hP (hDD _ _) hS 0 rfl rfl 20 (by decide) (hts _ mf_X7_189) (fun _ h9 => h9) rfl (tyX7_ok 20 (by decide)) (rfl) (rfl) (Nat.le_of_ble_eq_true rfl) dX7_lay_7 (fun H locs hP _ hS => ?_)
  have hP : PP G (mM G y b (upd f 20 (nI (rw))) r) H := hP
  refine lv_aload_n hx hb dX7_lay_10 rfl (lv_at hl 0 rfl) ?_
  refine lv_aload_n hx hb dX7_lay_11 rfl (lv_at hl 0 rfl) ?_
  refine va_get (D := G.1) (ci := 7) (v := .ref (b 3)) (C := RX7) (T := TX7) (N := 43) hx hb hts inX7 hown hK.1 hP 0 rfl rfl 3 (by decide) (hts _ mf_X7_17) (fun _ h9 => h9) rfl dX7_lay_12 ?_
  refine lv_iload_n hx hb dX7_lay_15 rfl (lv_at hl 1 rfl) ?_
  refine xiald (f := (r 3)) hx hb hK hP 3 (t) (rfl) (by omega) (by decide) rfl dX7_lay_16 ?_
  refine lv_topi (fun v2 ev2 => ?_)
  obtain rfl : v2 = nI (cl) := ev2.trans (h3)
  refine va_put (D := G.1) (ci := 7) (v := .int (nI (cl))) (C := RX7) (T := TX7) (N := 43) hx hb hts inX7 tyX7 tyX7_ok nmX7 hown hK.1 hP (hDD _ _) hS 0 rfl rfl 21 (by decide) (hts _ mf_X7_192) (fun _ h9 => h9) rfl (tyX7_ok 21 (by decide)) (rfl) (rfl) (Nat.le_of_ble_eq_true rfl) dX7_lay_17 (fun H locs hP _ hS => ?_)
  have hP : PP G (mM G y b (upd (upd f 20 (nI (rw))) 21 (nI (cl))) r) H := hP
  refine lv_iconst (v := 0) hx hb dX7_lay_20 (by decide) ?_
  refine lv_istore_n (lv' := [(2, .int 0), (0, .ref y), (1, .int (nI t))]) hx hb dX7_lay_21 rfl hl (by decide) rfl (fun ls hl => ?_)
  have loop22 : ∀ (k3 i : Nat) (x4 : Nat → Int32) (x5 : Nat → Int32) (x6 : Nat → Int32) (x7 : Nat → Int32) (x8 : Nat → Int32), i ≤ rw → rw < i + k3 → ∀ (H : Heap) (locs : List Loc) (ls : Array Slot), PP G (mM G y b (upd (upd f 20 (nI (rw))) 21 (nI (cl))) (up2 (up2 (up2 (up2 (up2 r 15 x4) 16 x5) 17 x6) 18 x7) 19 x8)) H → va_S A s.heap H locs → lv_has ls 10 [(2, .int (nI i)), (0, .ref y), (1, .int (nI t))] → W p l e ({ frames := 3, cells := 0, slots := 0, locals := 72 }) s m ([.ref y, .int (nI t)] : List Value).toArray below meth c H locs 0 0 (MQ below (QwV G (fun w => ∃ (n_f_20 : Int32) (n_f_21 : Int32) (n_r_15 : Nat → Int32) (n_r_16 : Nat → Int32) (n_r_17 : Nat → Int32) (n_r_18 : Nat → Int32) (n_r_19 : Nat → Int32), w = mM G y b (upd (upd f 20 n_f_20) 21 n_f_21) (up2 (up2 (up2 (up2 (up2 r 15 n_r_15) 16 n_r_16) 17 n_r_17) 18 n_r_18) 19 n_r_19) ∧ (n_f_20 = nI rw) ∧ (n_f_21 = nI cl)) A) ([.ref y, .int (nI t)] : List Value).toArray s 0 0 A) (F0 m 22 ls []) := by
    intro k3
    induction k3 with
    | zero => intro i x4 x5 x6 x7 x8 h1 h2; exact absurd h1 (by omega)
    | succ k3 ih22k3 =>
      intro i x4 x5 x6 x7 x8 hi_i hk_i  H locs ls hP hS hl
      refine lv_iload_n hx hb dX7_lay_22 rfl (lv_at hl 0 rfl) ?_
      refine lv_aload_n hx hb dX7_lay_23 rfl (lv_at hl 1 rfl) ?_
      refine va_get (D := G.1) (ci := 7) (v := .int (nI (rw))) (C := RX7) (T := TX7) (N := 43) hx hb hts inX7 hown hK.1 hP 0 rfl rfl 20 (by decide) (hts _ mf_X7_189) (fun _ h9 => h9) rfl dX7_lay_24 ?_
      refine lv_icmp_ge (tgt := 259) hx hb dX7_lay_27 (by decide) (fun c9 => ?_) (fun c9 => ?_)
      · have b27 := qge_t (a := i) (b := (rw)) (by omega) (by omega) c9
        exact wr_vret hx hb hr hlocks hS hP ⟨(nI (rw)), (nI (cl)), x4, x5, x6, x7, x8, rfl, rfl, rfl⟩ dX7_lay_259
      · have b27 := qge_f (a := i) (b := (rw)) (by omega) (by omega) c9
        refine lv_aload_n hx hb dX7_lay_30 rfl (lv_at hl 1 rfl) ?_
        refine lv_iload_n hx hb dX7_lay_31 rfl (lv_at hl 2 rfl) ?_
        refine lv_iload_n hx hb dX7_lay_32 rfl (lv_at hl 0 rfl) ?_
        refine rdV (rest := []) (q0 := 0) ⟨hx, hb, hml, hown, hts⟩ (m_X7_isSound l G y b (upd (upd f 20 (nI (rw))) 21 (nI (cl))) (up2 (up2 (up2 (up2 (up2 r 15 x4) 16 x5) 17 x6) 18 x7) 19 x8) t i rw cl bk (by omega) (by omega) (by omega) (by omega) h2 h3 h12 (by omega)) mi_yX7_isSound mv_yX7_isSound ml_X7_161 ⟨rfl, rfl, Nat.le_of_ble_eq_true rfl, Nat.le_of_ble_eq_true rfl⟩ hK (hP) rfl rfl rfl hl.1 rfl (Nat.le_of_ble_eq_true rfl) dX7_lay_33 ⟨Nat.zero_le _, Nat.zero_le _⟩ hS hA hP (fun r10 H locs hr10 hP hS => ?_)
        have hr10 : ((r10 = 1 ∧ (sndN ((r 3) t) (r 11) (r 5) t i)) ∨ (r10 = 0 ∧ ¬ (sndN ((r 3) t) (r 11) (r 5) t i))) := hr10
        refine lv_istore_n (lv' := [(3, .int r10), (2, .int (nI i)), (0, .ref y), (1, .int (nI t))]) hx hb dX7_lay_36 rfl hl (by decide) rfl (fun ls hl => ?_)
        refine lv_aload_n hx hb dX7_lay_37 rfl (lv_at hl 2 rfl) ?_
        refine va_get (D := G.1) (ci := 7) (v := .ref (b 18)) (C := RX7) (T := TX7) (N := 43) hx hb hts inX7 hown hK.1 hP 0 rfl rfl 18 (by decide) (hts _ mf_X7_62) (fun _ h9 => h9) rfl dX7_lay_38 ?_
        refine lv_iload_n hx hb dX7_lay_41 rfl (lv_at hl 1 rfl) ?_
        refine lv_iload_n hx hb dX7_lay_42 rfl (lv_at hl 0 rfl) ?_
        have j57_11 : ∀ (z11 : Int32) (H : Heap) (locs : List Loc) (ls : Array Slot), PP G (mM G y b (upd (upd f 20 (nI (rw))) 21 (nI (cl))) (up2 (up2 (up2 (up2 (up2 r 15 x4) 16 x5) 17 x6) 18 x7) 19 x8)) H → va_S A s.heap H locs → lv_has ls 10 [(3, .int r10), (2, .int (nI i)), (0, .ref y), (1, .int (nI t))] → W p l e ({ frames := 3, cells := 0, slots := 0, locals := 72 }) s m ([.ref y, .int (nI t)] : List Value).toArray below meth c H locs 0 0 (MQ below (QwV G (fun w => ∃ (n_f_20 : Int32) (n_f_21 : Int32) (n_r_15 : Nat → Int32) (n_r_16 : Nat → Int32) (n_r_17 : Nat → Int32) (n_r_18 : Nat → Int32) (n_r_19 : Nat → Int32), w = mM G y b (upd (upd f 20 n_f_20) 21 n_f_21) (up2 (up2 (up2 (up2 (up2 r 15 n_r_15) 16 n_r_16) 17 n_r_17) 18 n_r_18) 19 n_r_19) ∧ (n_f_20 = nI rw) ∧ (n_f_21 = nI cl)) A) ([.ref y, .int (nI t)] : List Value).toArray s 0 0 A) (F0 m 57 ls [.int z11, .int (nI i), .ref (b 18)]) := by
          intro z11  H locs ls hP hS hl
          refine xiast (f := x7) (x := z11) hx hb hK hP (hDD _ _) hS 18 (i) (rfl) (by omega) (by decide) rfl dX7_lay_57 (fun H locs hP _ hS => ?_)
          have hP : PP G (mM G y b (upd (upd f 20 (nI (rw))) 21 (nI (cl))) (up2 (up2 (up2 (up2 (up2 r 15 x4) 16 x5) 17 x6) 18 (upd x7 (i) (z11))) 19 x8)) H := hP
          refine lv_iload_n hx hb dX7_lay_58 rfl (lv_at hl 0 rfl) ?_
          have j72_12 : ∀ (z12 : Int32) (H : Heap) (locs : List Loc) (ls : Array Slot), PP G (mM G y b (upd (upd f 20 (nI (rw))) 21 (nI (cl))) (up2 (up2 (up2 (up2 (up2 r 15 x4) 16 x5) 17 x6) 18 (upd x7 (i) (z11))) 19 x8)) H → va_S A s.heap H locs → lv_has ls 10 [(3, .int r10), (2, .int (nI i)), (0, .ref y), (1, .int (nI t))] → W p l e ({ frames := 3, cells := 0, slots := 0, locals := 72 }) s m ([.ref y, .int (nI t)] : List Value).toArray below meth c H locs 0 0 (MQ below (QwV G (fun w => ∃ (n_f_20 : Int32) (n_f_21 : Int32) (n_r_15 : Nat → Int32) (n_r_16 : Nat → Int32) (n_r_17 : Nat → Int32) (n_r_18 : Nat → Int32) (n_r_19 : Nat → Int32), w = mM G y b (upd (upd f 20 n_f_20) 21 n_f_21) (up2 (up2 (up2 (up2 (up2 r 15 n_r_15) 16 n_r_16) 17 n_r_17) 18 n_r_18) 19 n_r_19) ∧ (n_f_20 = nI rw) ∧ (n_f_21 = nI cl)) A) ([.ref y, .int (nI t)] : List Value).toArray s 0 0 A) (F0 m 72 ls [.int z12]) := by
            intro z12  H locs ls hP hS hl
            refine lv_istore (lv' := [(4, .int z12), (3, .int r10), (2, .int (nI i)), (0, .ref y), (1, .int (nI t))]) hx hb dX7_lay_72 hl (by decide) rfl (fun ls hl => ?_)
            refine lv_iconst (v := 0) hx hb dX7_lay_74 (by decide) ?_
            refine lv_istore (lv' := [(5, .int 0), (4, .int z12), (3, .int r10), (2, .int (nI i)), (0, .ref y), (1, .int (nI t))]) hx hb dX7_lay_75 hl (by decide) rfl (fun ls hl => ?_)
            have loop77 : ∀ (k13 k : Nat) (x14 : Nat → Int32) (x15 : Nat → Int32) (x16 : Nat → Int32) (x17 : Nat → Int32), k ≤ cl → cl < k + k13 → ∀ (H : Heap) (locs : List Loc) (ls : Array Slot), PP G (mM G y b (upd (upd f 20 (nI (rw))) 21 (nI (cl))) (up2 (up2 (up2 (up2 (up2 r 15 x14) 16 x15) 17 x16) 18 (upd x7 (i) (z11))) 19 x17)) H → va_S A s.heap H locs → lv_has ls 10 [(5, .int (nI k)), (4, .int z12), (3, .int r10), (2, .int (nI i)), (0, .ref y), (1, .int (nI t))] → W p l e ({ frames := 3, cells := 0, slots := 0, locals := 72 }) s m ([.ref y, .int (nI t)] : List Value).toArray below meth c H locs 0 0 (MQ below (QwV G (fun w => ∃ (n_f_20 : Int32) (n_f_21 : Int32) (n_r_15 : Nat → Int32) (n_r_16 : Nat → Int32) (n_r_17 : Nat → Int32) (n_r_18 : Nat → Int32) (n_r_19 : Nat → Int32), w = mM G y b (upd (upd f 20 n_f_20) 21 n_f_21) (up2 (up2 (up2 (up2 (up2 r 15 n_r_15) 16 n_r_16) 17 n_r_17) 18 n_r_18) 19 n_r_19) ∧ (n_f_20 = nI rw) ∧ (n_f_21 = nI cl)) A) ([.ref y, .int (nI t)] : List Value).toArray s 0 0 A) (F0 m 77 ls []) := by
              intro k13
              induction k13 with
              | zero => intro k x14 x15 x16 x17 h1 h2; exact absurd h1 (by omega)
              | succ k13 ih77k13 =>
                intro k x14 x15 x16 x17 hi_k hk_k  H locs ls hP hS hl
                refine lv_iload hx hb dX7_lay_77 (lv_at hl 0 rfl) ?_
                refine lv_aload_n hx hb dX7_lay_79 rfl (lv_at hl 4 rfl) ?_
                refine va_get (D := G.1) (ci := 7) (v := .int (nI (cl))) (C := RX7) (T := TX7) (N := 43) hx hb hts inX7 hown hK.1 hP 0 rfl rfl 21 (by decide) (hts _ mf_X7_192) (fun _ h9 => h9) rfl dX7_lay_80 ?_
                refine lv_icmp_ge (tgt := 253) hx hb dX7_lay_83 (by decide) (fun c18 => ?_) (fun c18 => ?_)
                · have b83 := qge_t (a := k) (b := (cl)) (by omega) (by omega) c18
                  obtain ⟨v19, ev19⟩ : ∃ y9 : Int32, y9 = (nI i) + Int32.ofInt (1) := ⟨_, rfl⟩
                  refine lv_iinc (v := v19) (lv' := [(2, .int v19), (5, .int (nI k)), (4, .int z12), (3, .int r10), (0, .ref y), (1, .int (nI t))]) hx hb dX7_lay_253 hl (k := 3) rfl ev19.symm (by decide) rfl (fun ls hl => ?_)
                  obtain rfl : v19 = nI (i + 1) := nI_plus (i := i) (j := 1) ev19 rfl (by decide)
                  refine lv_goto (tgt := 22) hx hb dX7_lay_256 (by decide) ?_
                  exact ih22k3 (i + 1) x14 x15 x16 (upd x7 (i) (z11)) x17 (by omega) (by omega) _ _ _ hP hS (lv_sub hl [0, 4, 5] rfl)
                · have b83 := qge_f (a := k) (b := (cl)) (by omega) (by omega) c18
                  refine lv_bipush (v := 12) hx hb dX7_lay_86 (by decide) ?_
                  refine lv_iload_n hx hb dX7_lay_88 rfl (lv_at hl 3 rfl) ?_
                  refine lv_imul hx hb dX7_lay_89 ?_
                  refine lv_topi (fun v20 ev20 => ?_)
                  obtain rfl : v20 = nI (12 * i) := nI_times ev20 rfl rfl
                  refine lv_iload hx hb dX7_lay_90 (lv_at hl 0 rfl) ?_
                  refine lv_iadd hx hb dX7_lay_92 ?_
                  refine lv_topi (fun v21 ev21 => ?_)
                  obtain rfl : v21 = nI ((12 * i) + k) := nI_plus ev21 rfl rfl
                  refine lv_istore (lv' := [(6, .int (nI ((12 * i) + k))), (5, .int (nI k)), (4, .int z12), (3, .int r10), (2, .int (nI i)), (0, .ref y), (1, .int (nI t))]) hx hb dX7_lay_93 hl (by decide) rfl (fun ls hl => ?_)
                  refine lv_iload_n hx hb dX7_lay_95 rfl (lv_at hl 6 rfl) ?_
                  refine lv_iload_n hx hb dX7_lay_96 rfl (lv_at hl 4 rfl) ?_
                  refine lv_iload hx hb dX7_lay_97 (lv_at hl 1 rfl) ?_
                  refine rdS (rest := []) ⟨hx, hb, hml, hown, hts⟩ (m_X7_at l G y b (upd (upd f 20 (nI (rw))) 21 (nI (cl))) (up2 (up2 (up2 (up2 (up2 r 15 x14) 16 x15) 17 x16) 18 (upd x7 (i) (z11))) 19 x17) t i k  ) mi_yX7_at mst_yX7_at ml_X7_147 ⟨rfl, rfl, Nat.le_of_ble_eq_true rfl, Nat.le_of_ble_eq_true rfl⟩ hK (hP) rfl hl.1 rfl (Nat.le_of_ble_eq_true rfl) dX7_lay_99 ⟨Nat.zero_le _, Nat.zero_le _⟩ hS hA hP (fun r22 H locs hr22 hP hS => ?_)
                  obtain rfl := hr22
                  refine lv_istore (lv' := [(7, .int (nI (144 * t + 12 * i + k))), (6, .int (nI ((12 * i) + k))), (5, .int (nI k)), (4, .int z12), (3, .int r10), (2, .int (nI i)), (0, .ref y), (1, .int (nI t))]) hx hb dX7_lay_102 hl (by decide) rfl (fun ls hl => ?_)
                  refine lv_aload_n hx hb dX7_lay_104 rfl (lv_at hl 6 rfl) ?_
                  refine va_get (D := G.1) (ci := 7) (v := .ref (b 15)) (C := RX7) (T := TX7) (N := 43) hx hb hts inX7 hown hK.1 hP 0 rfl rfl 15 (by decide) (hts _ mf_X7_53) (fun _ h9 => h9) rfl dX7_lay_105 ?_
                  refine lv_iload hx hb dX7_lay_108 (lv_at hl 1 rfl) ?_
                  refine lv_aload_n hx hb dX7_lay_110 rfl (lv_at hl 6 rfl) ?_
                  refine va_get (D := G.1) (ci := 7) (v := .ref (b 6)) (C := RX7) (T := TX7) (N := 43) hx hb hts inX7 hown hK.1 hP 0 rfl rfl 6 (by decide) (hts _ mf_X7_26) (fun _ h9 => h9) rfl dX7_lay_111 ?_
                  refine lv_iload hx hb dX7_lay_114 (lv_at hl 0 rfl) ?_
                  refine xiald (f := (r 6)) hx hb hK hP 6 ((144 * t + 12 * i + k)) (rfl) (by omega) (by decide) rfl dX7_lay_116 ?_
                  refine lv_topi (fun v23 ev23 => ?_)
                  refine xiast (f := x14) (x := v23) hx hb hK hP (hDD _ _) hS 15 (((12 * i) + k)) (rfl) (by omega) (by decide) rfl dX7_lay_117 (fun H locs hP _ hS => ?_)
                  have hP : PP G (mM G y b (upd (upd f 20 (nI (rw))) 21 (nI (cl))) (up2 (up2 (up2 (up2 (up2 r 15 (upd x14 (((12 * i) + k)) (v23))) 16 x15) 17 x16) 18 (upd x7 (i) (z11))) 19 x17)) H := hP
                  refine lv_aload_n hx hb dX7_lay_118 rfl (lv_at hl 6 rfl) ?_
                  refine va_get (D := G.1) (ci := 7) (v := .ref (b 19)) (C := RX7) (T := TX7) (N := 43) hx hb hts inX7 hown hK.1 hP 0 rfl rfl 19 (by decide) (hts _ mf_X7_65) (fun _ h9 => h9) rfl dX7_lay_119 ?_
                  refine lv_iload hx hb dX7_lay_122 (lv_at hl 1 rfl) ?_
                  refine lv_iload_n hx hb dX7_lay_124 rfl (lv_at hl 4 rfl) ?_
                  have j143_24 : ∀ (z24 : Int32) (gz24 : z24 = 0 ∨ z24 = 1) (H : Heap) (locs : List Loc) (ls : Array Slot), PP G (mM G y b (upd (upd f 20 (nI (rw))) 21 (nI (cl))) (up2 (up2 (up2 (up2 (up2 r 15 (upd x14 (((12 * i) + k)) (v23))) 16 x15) 17 x16) 18 (upd x7 (i) (z11))) 19 x17)) H → va_S A s.heap H locs → lv_has ls 10 [(7, .int (nI (144 * t + 12 * i + k))), (6, .int (nI ((12 * i) + k))), (5, .int (nI k)), (4, .int z12), (3, .int r10), (2, .int (nI i)), (0, .ref y), (1, .int (nI t))] → W p l e ({ frames := 3, cells := 0, slots := 0, locals := 72 }) s m ([.ref y, .int (nI t)] : List Value).toArray below meth c H locs 0 0 (MQ below (QwV G (fun w => ∃ (n_f_20 : Int32) (n_f_21 : Int32) (n_r_15 : Nat → Int32) (n_r_16 : Nat → Int32) (n_r_17 : Nat → Int32) (n_r_18 : Nat → Int32) (n_r_19 : Nat → Int32), w = mM G y b (upd (upd f 20 n_f_20) 21 n_f_21) (up2 (up2 (up2 (up2 (up2 r 15 n_r_15) 16 n_r_16) 17 n_r_17) 18 n_r_18) 19 n_r_19) ∧ (n_f_20 = nI rw) ∧ (n_f_21 = nI cl)) A) ([.ref y, .int (nI t)] : List Value).toArray s 0 0 A) (F0 m 143 ls [.int z24, .int (nI ((12 * i) + k)), .ref (b 19)]) := by
                    intro z24 gz24 H locs ls hP hS hl
                    refine xzast (f := x17) (x := z24) hx hb hK hP (hDD _ _) hS 19 (((12 * i) + k)) (rfl) (by omega) (by decide) (gz24) rfl dX7_lay_143 (fun H locs hP _ hS => ?_)
                    have hP : PP G (mM G y b (upd (upd f 20 (nI (rw))) 21 (nI (cl))) (up2 (up2 (up2 (up2 (up2 r 15 (upd x14 (((12 * i) + k)) (v23))) 16 x15) 17 x16) 18 (upd x7 (i) (z11))) 19 (upd x17 (((12 * i) + k)) (z24)))) H := hP
                    refine lv_aload_n hx hb dX7_lay_144 rfl (lv_at hl 6 rfl) ?_
                    refine va_get (D := G.1) (ci := 7) (v := .ref (b 16)) (C := RX7) (T := TX7) (N := 43) hx hb hts inX7 hown hK.1 hP 0 rfl rfl 16 (by decide) (hts _ mf_X7_56) (fun _ h9 => h9) rfl dX7_lay_145 ?_
                    refine lv_iload hx hb dX7_lay_148 (lv_at hl 1 rfl) ?_
                    refine lv_iconst (v := 0) hx hb dX7_lay_150 (by decide) ?_
                    refine xiast (f := x15) (x := 0) hx hb hK hP (hDD _ _) hS 16 (((12 * i) + k)) (rfl) (by omega) (by decide) rfl dX7_lay_151 (fun H locs hP _ hS => ?_)
                    have hP : PP G (mM G y b (upd (upd f 20 (nI (rw))) 21 (nI (cl))) (up2 (up2 (up2 (up2 (up2 r 15 (upd x14 (((12 * i) + k)) (v23))) 16 (upd x15 (((12 * i) + k)) (0))) 17 x16) 18 (upd x7 (i) (z11))) 19 (upd x17 (((12 * i) + k)) (z24)))) H := hP
                    refine lv_aload_n hx hb dX7_lay_152 rfl (lv_at hl 6 rfl) ?_
                    refine va_get (D := G.1) (ci := 7) (v := .ref (b 17)) (C := RX7) (T := TX7) (N := 43) hx hb hts inX7 hown hK.1 hP 0 rfl rfl 17 (by decide) (hts _ mf_X7_59) (fun _ h9 => h9) rfl dX7_lay_153 ?_
                    refine lv_iload hx hb dX7_lay_156 (lv_at hl 1 rfl) ?_
                    refine lv_ldc hx hb hown (hts _ mk_X7_195) dX7_lay_158 ?_
                    refine xiast (f := x16) (x := 1000000000) hx hb hK hP (hDD _ _) hS 17 (((12 * i) + k)) (rfl) (by omega) (by decide) rfl dX7_lay_160 (fun H locs hP _ hS => ?_)
                    have hP : PP G (mM G y b (upd (upd f 20 (nI (rw))) 21 (nI (cl))) (up2 (up2 (up2 (up2 (up2 r 15 (upd x14 (((12 * i) + k)) (v23))) 16 (upd x15 (((12 * i) + k)) (0))) 17 (upd x16 (((12 * i) + k)) (1000000000))) 18 (upd x7 (i) (z11))) 19 (upd x17 (((12 * i) + k)) (z24)))) H := hP
                    refine lv_aload_n hx hb dX7_lay_161 rfl (lv_at hl 6 rfl) ?_
                    refine va_get (D := G.1) (ci := 7) (v := .ref (b 5)) (C := RX7) (T := TX7) (N := 43) hx hb hts inX7 hown hK.1 hP 0 rfl rfl 5 (by decide) (hts _ mf_X7_23) (fun _ h9 => h9) rfl dX7_lay_162 ?_
                    refine lv_iload hx hb dX7_lay_165 (lv_at hl 0 rfl) ?_
                    refine xiald (f := (r 5)) hx hb hK hP 5 ((144 * t + 12 * i + k)) (rfl) (by omega) (by decide) rfl dX7_lay_167 ?_
                    refine lv_topi (fun v25 ev25 => ?_)
                    refine lv_iconst (v := 3) hx hb dX7_lay_168 (by decide) ?_
                    have j247_27 : ∀ (x26 : Nat → Int32) (x27 : Nat → Int32) (H : Heap) (locs : List Loc) (ls : Array Slot), PP G (mM G y b (upd (upd f 20 (nI (rw))) 21 (nI (cl))) (up2 (up2 (up2 (up2 (up2 r 15 (upd x14 (((12 * i) + k)) (v23))) 16 x26) 17 x27) 18 (upd x7 (i) (z11))) 19 (upd x17 (((12 * i) + k)) (z24)))) H → va_S A s.heap H locs → lv_has ls 10 [(5, .int (nI k)), (4, .int z12), (3, .int r10), (2, .int (nI i)), (0, .ref y), (1, .int (nI t))] → W p l e ({ frames := 3, cells := 0, slots := 0, locals := 72 }) s m ([.ref y, .int (nI t)] : List Value).toArray below meth c H locs 0 0 (MQ below (QwV G (fun w => ∃ (n_f_20 : Int32) (n_f_21 : Int32) (n_r_15 : Nat → Int32) (n_r_16 : Nat → Int32) (n_r_17 : Nat → Int32) (n_r_18 : Nat → Int32) (n_r_19 : Nat → Int32), w = mM G y b (upd (upd f 20 n_f_20) 21 n_f_21) (up2 (up2 (up2 (up2 (up2 r 15 n_r_15) 16 n_r_16) 17 n_r_17) 18 n_r_18) 19 n_r_19) ∧ (n_f_20 = nI rw) ∧ (n_f_21 = nI cl)) A) ([.ref y, .int (nI t)] : List Value).toArray s 0 0 A) (F0 m 247 ls []) := by
                      intro x26 x27  H locs ls hP hS hl
                      obtain ⟨v28, ev28⟩ : ∃ y9 : Int32, y9 = (nI k) + Int32.ofInt (1) := ⟨_, rfl⟩
                      refine lv_iinc (v := v28) (lv' := [(5, .int v28), (4, .int z12), (3, .int r10), (2, .int (nI i)), (0, .ref y), (1, .int (nI t))]) hx hb dX7_lay_247 hl (k := 0) rfl ev28.symm (by decide) rfl (fun ls hl => ?_)
                      obtain rfl : v28 = nI (k + 1) := nI_plus (i := k) (j := 1) ev28 rfl (by decide)
                      refine lv_goto (tgt := 77) hx hb dX7_lay_250 (by decide) ?_
                      exact ih77k13 (k + 1) (upd x14 (((12 * i) + k)) (v23)) x26 x27 (upd x17 (((12 * i) + k)) (z24)) (by omega) (by omega) _ _ _ hP hS (lv_sub hl [0, 1, 2, 3, 4, 5] rfl)
                    refine lv_icmp_eq (tgt := 175) hx hb dX7_lay_169 (by decide) (fun c29 => ?_) (fun c29 => ?_)
                    · refine lv_iload_n hx hb dX7_lay_175 rfl (lv_at hl 4 rfl) ?_
                      have j192_30 : ∀ (z30 : Int64) (H : Heap) (locs : List Loc) (ls : Array Slot), PP G (mM G y b (upd (upd f 20 (nI (rw))) 21 (nI (cl))) (up2 (up2 (up2 (up2 (up2 r 15 (upd x14 (((12 * i) + k)) (v23))) 16 (upd x15 (((12 * i) + k)) (0))) 17 (upd x16 (((12 * i) + k)) (1000000000))) 18 (upd x7 (i) (z11))) 19 (upd x17 (((12 * i) + k)) (z24)))) H → va_S A s.heap H locs → lv_has ls 10 [(6, .int (nI ((12 * i) + k))), (5, .int (nI k)), (4, .int z12), (3, .int r10), (2, .int (nI i)), (0, .ref y), (1, .int (nI t))] → W p l e ({ frames := 3, cells := 0, slots := 0, locals := 72 }) s m ([.ref y, .int (nI t)] : List Value).toArray below meth c H locs 0 0 (MQ below (QwV G (fun w => ∃ (n_f_20 : Int32) (n_f_21 : Int32) (n_r_15 : Nat → Int32) (n_r_16 : Nat → Int32) (n_r_17 : Nat → Int32) (n_r_18 : Nat → Int32) (n_r_19 : Nat → Int32), w = mM G y b (upd (upd f 20 n_f_20) 21 n_f_21) (up2 (up2 (up2 (up2 (up2 r 15 n_r_15) 16 n_r_16) 17 n_r_17) 18 n_r_18) 19 n_r_19) ∧ (n_f_20 = nI rw) ∧ (n_f_21 = nI cl)) A) ([.ref y, .int (nI t)] : List Value).toArray s 0 0 A) (F0 m 192 ls [.long z30]) := by
                        intro z30  H locs ls hP hS hl
                        refine lv_lstore (lv' := [(8, .long z30), (6, .int (nI ((12 * i) + k))), (5, .int (nI k)), (4, .int z12), (3, .int r10), (2, .int (nI i)), (0, .ref y), (1, .int (nI t))]) hx hb dX7_lay_192 hl (by decide) rfl (fun ls hl => ?_)
                        refine lv_aload_n hx hb dX7_lay_194 rfl (lv_at hl 6 rfl) ?_
                        refine va_get (D := G.1) (ci := 7) (v := .ref (b 16)) (C := RX7) (T := TX7) (N := 43) hx hb hts inX7 hown hK.1 hP 0 rfl rfl 16 (by decide) (hts _ mf_X7_56) (fun _ h9 => h9) rfl dX7_lay_195 ?_
                        refine lv_iload hx hb dX7_lay_198 (lv_at hl 1 rfl) ?_
                        refine lv_lload hx hb dX7_lay_200 (lv_at hl 0 rfl) ?_
                        refine lv_iload hx hb dX7_lay_202 (lv_at hl 3 rfl) ?_
                        refine lv_i2l hx hb dX7_lay_204 rfl ?_
                        refine lv_topl (fun v31 ev31 => ?_)
                        refine lv_lmul hx hb dX7_lay_205 ?_
                        refine lv_topl (fun v32 ev32 => ?_)
                        refine lv_ldc2 hx hb hown (hts _ mkl_X7_196) dX7_lay_206 ?_
                        refine lv_ladd hx hb dX7_lay_209 ?_
                        refine lv_topl (fun v33 ev33 => ?_)
                        refine lv_ldc2 hx hb hown (hts _ mkl_X7_184) dX7_lay_210 ?_
                        refine lv_ldiv hx hb dX7_lay_213 (by decide) ?_
                        refine lv_topl (fun v34 ev34 => ?_)
                        refine lv_l2i hx hb dX7_lay_214 rfl ?_
                        refine lv_topi (fun v35 ev35 => ?_)
                        refine xiast (f := (upd x15 (((12 * i) + k)) (0))) (x := v35) hx hb hK hP (hDD _ _) hS 16 (((12 * i) + k)) (rfl) (by omega) (by decide) rfl dX7_lay_215 (fun H locs hP _ hS => ?_)
                        have hP : PP G (mM G y b (upd (upd f 20 (nI (rw))) 21 (nI (cl))) (up2 (up2 (up2 (up2 (up2 r 15 (upd x14 (((12 * i) + k)) (v23))) 16 (upd (upd x15 (((12 * i) + k)) (0)) (((12 * i) + k)) (v35))) 17 (upd x16 (((12 * i) + k)) (1000000000))) 18 (upd x7 (i) (z11))) 19 (upd x17 (((12 * i) + k)) (z24)))) H := hP
                        refine lv_aload_n hx hb dX7_lay_216 rfl (lv_at hl 6 rfl) ?_
                        refine va_get (D := G.1) (ci := 7) (v := .ref (b 17)) (C := RX7) (T := TX7) (N := 43) hx hb hts inX7 hown hK.1 hP 0 rfl rfl 17 (by decide) (hts _ mf_X7_59) (fun _ h9 => h9) rfl dX7_lay_217 ?_
                        refine lv_iload hx hb dX7_lay_220 (lv_at hl 1 rfl) ?_
                        refine lv_iload hx hb dX7_lay_222 (lv_at hl 3 rfl) ?_
                        have j246_36 : ∀ (z36 : Int32) (H : Heap) (locs : List Loc) (ls : Array Slot), PP G (mM G y b (upd (upd f 20 (nI (rw))) 21 (nI (cl))) (up2 (up2 (up2 (up2 (up2 r 15 (upd x14 (((12 * i) + k)) (v23))) 16 (upd (upd x15 (((12 * i) + k)) (0)) (((12 * i) + k)) (v35))) 17 (upd x16 (((12 * i) + k)) (1000000000))) 18 (upd x7 (i) (z11))) 19 (upd x17 (((12 * i) + k)) (z24)))) H → va_S A s.heap H locs → lv_has ls 10 [(5, .int (nI k)), (4, .int z12), (3, .int r10), (2, .int (nI i)), (0, .ref y), (1, .int (nI t))] → W p l e ({ frames := 3, cells := 0, slots := 0, locals := 72 }) s m ([.ref y, .int (nI t)] : List Value).toArray below meth c H locs 0 0 (MQ below (QwV G (fun w => ∃ (n_f_20 : Int32) (n_f_21 : Int32) (n_r_15 : Nat → Int32) (n_r_16 : Nat → Int32) (n_r_17 : Nat → Int32) (n_r_18 : Nat → Int32) (n_r_19 : Nat → Int32), w = mM G y b (upd (upd f 20 n_f_20) 21 n_f_21) (up2 (up2 (up2 (up2 (up2 r 15 n_r_15) 16 n_r_16) 17 n_r_17) 18 n_r_18) 19 n_r_19) ∧ (n_f_20 = nI rw) ∧ (n_f_21 = nI cl)) A) ([.ref y, .int (nI t)] : List Value).toArray s 0 0 A) (F0 m 246 ls [.int z36, .int (nI ((12 * i) + k)), .ref (b 17)]) := by
                          intro z36  H locs ls hP hS hl
                          refine xiast (f := (upd x16 (((12 * i) + k)) (1000000000))) (x := z36) hx hb hK hP (hDD _ _) hS 17 (((12 * i) + k)) (rfl) (by omega) (by decide) rfl dX7_lay_246 (fun H locs hP _ hS => ?_)
                          have hP : PP G (mM G y b (upd (upd f 20 (nI (rw))) 21 (nI (cl))) (up2 (up2 (up2 (up2 (up2 r 15 (upd x14 (((12 * i) + k)) (v23))) 16 (upd (upd x15 (((12 * i) + k)) (0)) (((12 * i) + k)) (v35))) 17 (upd (upd x16 (((12 * i) + k)) (1000000000)) (((12 * i) + k)) (z36))) 18 (upd x7 (i) (z11))) 19 (upd x17 (((12 * i) + k)) (z24)))) H := hP
                          exact j247_27 (upd (upd x15 (((12 * i) + k)) (0)) (((12 * i) + k)) (v35)) (upd (upd x16 (((12 * i) + k)) (1000000000)) (((12 * i) + k)) (z36)) _ _ _ hP hS (lv_sub hl [0, 1, 2, 3, 4, 5] rfl)
                        refine lv_if_ne (tgt := 231) hx hb dX7_lay_224 (by decide) (fun c37 => ?_) (fun c37 => ?_)
                        · refine lv_lload hx hb dX7_lay_231 (lv_at hl 0 rfl) ?_
                          refine lv_lconst (v := 1) hx hb dX7_lay_233 (by decide) ?_
                          refine lv_ladd hx hb dX7_lay_234 ?_
                          refine lv_topl (fun v38 ev38 => ?_)
                          refine lv_iload hx hb dX7_lay_235 (lv_at hl 3 rfl) ?_
                          refine lv_i2l hx hb dX7_lay_237 rfl ?_
                          refine lv_topl (fun v39 ev39 => ?_)
                          refine lv_lmul hx hb dX7_lay_238 ?_
                          refine lv_topl (fun v40 ev40 => ?_)
                          refine lv_lconst (v := 1) hx hb dX7_lay_239 (by decide) ?_
                          refine lv_lsub hx hb dX7_lay_240 ?_
                          refine lv_topl (fun v41 ev41 => ?_)
                          refine lv_ldc2 hx hb hown (hts _ mkl_X7_184) dX7_lay_241 ?_
                          refine lv_ldiv hx hb dX7_lay_244 (by decide) ?_
                          refine lv_topl (fun v42 ev42 => ?_)
                          refine lv_l2i hx hb dX7_lay_245 rfl ?_
                          refine lv_topi (fun v43 ev43 => ?_)
                          exact j246_36 v43 _ _ _ hP hS (lv_sub hl [2, 3, 4, 5, 6, 7] rfl)
                        · refine lv_iconst (v := 0) hx hb dX7_lay_227 (by decide) ?_
                          refine lv_goto (tgt := 246) hx hb dX7_lay_228 (by decide) ?_
                          exact j246_36 0 _ _ _ hP hS (lv_sub hl [2, 3, 4, 5, 6, 7] rfl)
                      refine lv_if_eq (tgt := 191) hx hb dX7_lay_176 (by decide) (fun c44 => ?_) (fun c44 => ?_)
                      · have b176 := bF hr10 c44
                        refine lv_lconst (v := 0) hx hb dX7_lay_191 (by decide) ?_
                        exact j192_30 0 _ _ _ hP hS (lv_sub hl [1, 2, 3, 4, 5, 6, 7] rfl)
                      · have b176 := bT hr10 c44
                        refine lv_aload_n hx hb dX7_lay_179 rfl (lv_at hl 6 rfl) ?_
                        refine lv_iload_n hx hb dX7_lay_180 rfl (lv_at hl 7 rfl) ?_
                        refine lv_iload_n hx hb dX7_lay_181 rfl (lv_at hl 5 rfl) ?_
                        refine lv_iload hx hb dX7_lay_182 (lv_at hl 2 rfl) ?_
                        refine rdV (rest := []) (q0 := 0) ⟨hx, hb, hml, hown, hts⟩ (m_X7_thousandthsOf l G y b (upd (upd f 20 (nI (rw))) 21 (nI (cl))) (up2 (up2 (up2 (up2 (up2 r 15 (upd x14 (((12 * i) + k)) (v23))) 16 (upd x15 (((12 * i) + k)) (0))) 17 (upd x16 (((12 * i) + k)) (1000000000))) 18 (upd x7 (i) (z11))) 19 (upd x17 (((12 * i) + k)) (z24))) t i k rw cl bk (by omega) (by omega) (by omega) (by omega) h2 h3 h12 (by omega) (by omega)) mi_yX7_thousandthsOf mv_yX7_thousandthsOf ml_X7_186 ⟨rfl, rfl, Nat.le_of_ble_eq_true rfl, Nat.le_of_ble_eq_true rfl⟩ hK (hP) rfl rfl rfl hl.1 rfl (Nat.le_of_ble_eq_true rfl) dX7_lay_184 ⟨Nat.zero_le _, Nat.zero_le _⟩ hS hA hP (fun r45 H locs hr45 hP hS => ?_)
                        obtain rfl := hr45
                        refine lv_i2l hx hb dX7_lay_187 rfl ?_
                        refine lv_topl (fun v46 ev46 => ?_)
                        refine lv_goto (tgt := 192) hx hb dX7_lay_188 (by decide) ?_
                        exact j192_30 v46 _ _ _ hP hS (lv_sub hl [1, 2, 3, 4, 5, 6, 7] rfl)
                    · refine lv_goto (tgt := 247) hx hb dX7_lay_172 (by decide) ?_
                      exact j247_27 (upd x15 (((12 * i) + k)) (0)) (upd x16 (((12 * i) + k)) (1000000000)) _ _ _ hP hS (lv_sub hl [2, 3, 4, 5, 6, 7] rfl)
                  refine lv_if_eq (tgt := 142) hx hb dX7_lay_125 (by decide) (fun c47 => ?_) (fun c47 => ?_)
                  · have b125 := bF hr10 c47
                    refine lv_iconst (v := 0) hx hb dX7_lay_142 (by decide) ?_
                    exact j143_24 0 (Or.inl rfl) _ _ _ hP hS (lv_sub hl [0, 1, 2, 3, 4, 5, 6, 7] rfl)
                  · have b125 := bT hr10 c47
                    refine lv_aload_n hx hb dX7_lay_128 rfl (lv_at hl 6 rfl) ?_
                    refine lv_iload_n hx hb dX7_lay_129 rfl (lv_at hl 7 rfl) ?_
                    refine lv_iload hx hb dX7_lay_130 (lv_at hl 0 rfl) ?_
                    refine rdV (rest := [.int (nI ((12 * i) + k)), .ref (b 19)]) (q0 := 0) ⟨hx, hb, hml, hown, hts⟩ (m_X7_isKept l G y b (upd (upd f 20 (nI (rw))) 21 (nI (cl))) (up2 (up2 (up2 (up2 (up2 r 15 (upd x14 (((12 * i) + k)) (v23))) 16 x15) 17 x16) 18 (upd x7 (i) (z11))) 19 x17) t (144 * t + 12 * i + k)  (by omega) (by omega) hG) mi_yX7_isKept mv_yX7_isKept ml_X7_181 ⟨rfl, rfl, Nat.le_of_ble_eq_true rfl, Nat.le_of_ble_eq_true rfl⟩ hK (hP) rfl rfl rfl hl.1 rfl (Nat.le_of_ble_eq_true rfl) dX7_lay_132 ⟨Nat.zero_le _, Nat.zero_le _⟩ hS hA hP (fun r48 H locs hr48 hP hS => ?_)
                    have hr48 : ((r48 = 0 ∨ r48 = 1) ∧ (r48 = 0 → (r 5) (144 * t + 12 * i + k) = 4 ∨ (r 10) (144 * t + 12 * i + k) = 0)) := hr48
                    refine lv_if_eq (tgt := 142) hx hb dX7_lay_135 (by decide) (fun c49 => ?_) (fun c49 => ?_)
                    · refine lv_iconst (v := 0) hx hb dX7_lay_142 (by decide) ?_
                      exact j143_24 0 (Or.inl rfl) _ _ _ hP hS (lv_sub hl [0, 1, 2, 3, 4, 5, 6, 7] rfl)
                    · refine lv_iconst (v := 1) hx hb dX7_lay_138 (by decide) ?_
                      refine lv_goto (tgt := 143) hx hb dX7_lay_139 (by decide) ?_
                      exact j143_24 1 (Or.inr rfl) _ _ _ hP hS (lv_sub hl [0, 1, 2, 3, 4, 5, 6, 7] rfl)
            exact loop77 (cl + 1) 0 x4 x5 x6 x8 (by omega) (by omega) _ _ _ hP hS (lv_sub hl [0, 1, 2, 3, 4, 5] rfl)
          refine lv_if_eq (tgt := 71) hx hb dX7_lay_59 (by decide) (fun c50 => ?_) (fun c50 => ?_)
          · have b59 := bF hr10 c50
            refine lv_iconst (v := 0) hx hb dX7_lay_71 (by decide) ?_
            exact j72_12 0 _ _ _ hP hS (lv_sub hl [0, 1, 2, 3] rfl)
          · have b59 := bT hr10 c50
            refine lv_aload_n hx hb dX7_lay_62 rfl (lv_at hl 2 rfl) ?_
            refine lv_iload_n hx hb dX7_lay_63 rfl (lv_at hl 3 rfl) ?_
            refine lv_iload_n hx hb dX7_lay_64 rfl (lv_at hl 1 rfl) ?_
            refine rdV (rest := []) (q0 := 0) ⟨hx, hb, hml, hown, hts⟩ (m_X7_sumOf l G y b (upd (upd f 20 (nI (rw))) 21 (nI (cl))) (up2 (up2 (up2 (up2 (up2 r 15 x4) 16 x5) 17 x6) 18 (upd x7 (i) (z11))) 19 x8) t i rw cl bk (by omega) (by omega) (by omega) (by omega) h2 h3 h12 (by omega)) mi_yX7_sumOf mv_yX7_sumOf ml_X7_164 ⟨rfl, rfl, Nat.le_of_ble_eq_true rfl, Nat.le_of_ble_eq_true rfl⟩ hK (hP) rfl rfl rfl hl.1 rfl (Nat.le_of_ble_eq_true rfl) dX7_lay_65 ⟨Nat.zero_le _, Nat.zero_le _⟩ hS hA hP (fun r51 H locs hr51 hP hS => ?_)
            obtain rfl := hr51
            refine lv_goto (tgt := 72) hx hb dX7_lay_68 (by decide) ?_
            exact j72_12 (smM (r 6) t i ((r 3) t).toNatClampNeg) _ _ _ hP hS (lv_sub hl [0, 1, 2, 3] rfl)
        refine lv_if_eq (tgt := 55) hx hb dX7_lay_43 (by decide) (fun c52 => ?_) (fun c52 => ?_)
        · have b43 := bF hr10 c52
          refine lv_bipush (v := -2) hx hb dX7_lay_55 (by decide) ?_
          exact j57_11 (-2) _ _ _ hP hS (lv_sub hl [0, 1, 2, 3] rfl)
        · have b43 := bT hr10 c52
          refine lv_aload_n hx hb dX7_lay_46 rfl (lv_at hl 2 rfl) ?_
          refine lv_iload_n hx hb dX7_lay_47 rfl (lv_at hl 3 rfl) ?_
          refine lv_iload_n hx hb dX7_lay_48 rfl (lv_at hl 1 rfl) ?_
          refine rdV (rest := [.int (nI i), .ref (b 18)]) (q0 := 0) ⟨hx, hb, hml, hown, hts⟩ (m_X7_classOf l G y b (upd (upd f 20 (nI (rw))) 21 (nI (cl))) (up2 (up2 (up2 (up2 (up2 r 15 x4) 16 x5) 17 x6) 18 x7) 19 x8) t (nI i) rw cl bk (by omega) (by omega) (by omega) (by omega) h2 h3 h12) mi_yX7_classOf mv_yX7_classOf ml_X7_168 ⟨rfl, rfl, Nat.le_of_ble_eq_true rfl, Nat.le_of_ble_eq_true rfl⟩ hK (hP) rfl rfl rfl hl.1 rfl (Nat.le_of_ble_eq_true rfl) dX7_lay_49 ⟨Nat.zero_le _, Nat.zero_le _⟩ hS hA hP (fun r53 H locs hr53 hP hS => ?_)
          obtain rfl := hr53
          refine lv_goto (tgt := 57) hx hb dX7_lay_52 (by decide) ?_
          exact j57_11 ((clM (r 13) (r 14) t (nI i) ((r 12) t).toNatClampNeg).1) _ _ _ hP hS (lv_sub hl [0, 1, 2, 3] rfl)
  exact loop22 (rw + 1) 0 (r 15) (r 16) (r 17) (r 18) (r 19) (by omega) (by omega) _ _ _ hP hS (lv_sub hl [0, 1, 2] rfl)
set_option maxHeartbeats 4000000 in
set_option maxRecDepth 100000 in
theorem m_X7_room (l : Launch) (G : GG) (y : Nat) (b : Nat → Nat) (f : Nat → Int32) (r : Nat → Nat → Int32) (u : Nat) (v : Nat) (huv : bip u v) : RdI l yX7_room cX7_room 4 (some .int) ({ frames := 0, cells := 0, slots := 0, locals := 0 }) G (mM G y b f r) [.ref y, .int (nI u), .int (nI v)] (fun q => q = rmF (r 19) (r 17) (r 16) (r 15) u v) := by
  refine rd_entry (by decide +kernel) (Nat.le_of_ble_eq_true rfl) ?_
  intro p e s m below meth c C0 hP hK ls hl
  have hS : va_S (fun q => s.heap.size ≤ q) s.heap s.heap [] := va_S.rf
  have hA : ∀ q, s.heap.size ≤ q → (fun q => s.heap.size ≤ q) q := fun _ h => h
  obtain ⟨hx, hb, hml, hown, hts, hr, hlocks, hin⟩ := C0
  have hown : s.vm.findClass RX7 = some m.cls := hown
  have hl : lv_has ls 4 [(0, .ref y), (1, .int (nI u)), (2, .int (nI v))] := hl
  have hq := huv
  unfold bip at hq
  refine lv_iload_n hx hb dX7_room_0 rfl (lv_at hl 1 rfl) ?_
  refine lv_bipush (v := 12) hx hb dX7_room_1 (by decide) ?_
  refine lv_icmp_ge (tgt := 18) hx hb dX7_room_3 (by decide) (fun c1 => ?_) (fun c1 => ?_)
  · have b3 := qge_t (a := u) (b := 12) (by omega) (by omega) c1
    refine lv_bipush (v := 12) hx hb dX7_room_18 (by decide) ?_
    refine lv_iload_n hx hb dX7_room_20 rfl (lv_at hl 2 rfl) ?_
    refine lv_imul hx hb dX7_room_21 ?_
    refine lv_topi (fun v2 ev2 => ?_)
    obtain rfl : v2 = nI (12 * v) := nI_times ev2 rfl rfl
    refine lv_iload_n hx hb dX7_room_22 rfl (lv_at hl 1 rfl) ?_
    refine lv_iadd hx hb dX7_room_23 ?_
    refine lv_topi (fun v3 ev3 => ?_)
    obtain rfl : v3 = nI ((12 * v) + u) := nI_plus ev3 rfl rfl
    refine lv_bipush (v := 12) hx hb dX7_room_24 (by decide) ?_
    refine lv_isub hx hb dX7_room_26 ?_
    refine lv_topi (fun v4 ev4 => ?_)
    obtain rfl : v4 = nI (((12 * v) + u) - 12) := nI_minus ev4 rfl rfl (by omega)
    refine lv_istore_n (lv' := [(3, .int (nI (((12 * v) + u) - 12))), (0, .ref y), (1, .int (nI u)), (2, .int (nI v))]) hx hb dX7_room_27 rfl hl (by decide) rfl (fun ls hl => ?_)
    refine lv_aload_n hx hb dX7_room_28 rfl (lv_at hl 1 rfl) ?_
    refine va_get (D := G.1) (ci := 7) (v := .ref (b 19)) (C := RX7) (T := TX7) (N := 43) hx hb hts inX7 hown hK.1 hP 0 rfl rfl 19 (by decide) (hts _ mf_X7_65) (fun _ h9 => h9) rfl dX7_room_29 ?_
    refine lv_iload_n hx hb dX7_room_32 rfl (lv_at hl 0 rfl) ?_
    refine xzald (f := (r 19)) hx hb hK hP 19 ((((12 * v) + u) - 12)) (rfl) (by omega) (by decide) rfl dX7_room_33 ?_
    refine lv_topi (fun v5 ev5 => ?_)
    refine lv_if_ne (tgt := 39) hx hb dX7_room_34 (by decide) (fun c6 => ?_) (fun c6 => ?_)
    · refine lv_iload_n hx hb dX7_room_39 rfl (lv_at hl 2 rfl) ?_
      refine lv_bipush (v := 12) hx hb dX7_room_40 (by decide) ?_
      refine lv_icmp_ge (tgt := 61) hx hb dX7_room_42 (by decide) (fun c7 => ?_) (fun c7 => ?_)
      · have b42 := qge_t (a := u) (b := 12) (by omega) (by omega) c7
        refine lv_aload_n hx hb dX7_room_61 rfl (lv_at hl 1 rfl) ?_
        refine va_get (D := G.1) (ci := 7) (v := .ref (b 15)) (C := RX7) (T := TX7) (N := 43) hx hb hts inX7 hown hK.1 hP 0 rfl rfl 15 (by decide) (hts _ mf_X7_53) (fun _ h9 => h9) rfl dX7_room_62 ?_
        refine lv_iload_n hx hb dX7_room_65 rfl (lv_at hl 0 rfl) ?_
        refine xiald (f := (r 15)) hx hb hK hP 15 ((((12 * v) + u) - 12)) (rfl) (by omega) (by decide) rfl dX7_room_66 ?_
        refine lv_topi (fun v8 ev8 => ?_)
        refine lv_aload_n hx hb dX7_room_67 rfl (lv_at hl 1 rfl) ?_
        refine va_get (D := G.1) (ci := 7) (v := .ref (b 16)) (C := RX7) (T := TX7) (N := 43) hx hb hts inX7 hown hK.1 hP 0 rfl rfl 16 (by decide) (hts _ mf_X7_56) (fun _ h9 => h9) rfl dX7_room_68 ?_
        refine lv_iload_n hx hb dX7_room_71 rfl (lv_at hl 0 rfl) ?_
        refine xiald (f := (r 16)) hx hb hK hP 16 ((((12 * v) + u) - 12)) (rfl) (by omega) (by decide) rfl dX7_room_72 ?_
        refine lv_topi (fun v9 ev9 => ?_)
        refine lv_isub hx hb dX7_room_73 ?_
        refine lv_topi (fun v10 ev10 => ?_)
        exact rd_iret hx hb hr hlocks hS ((by rw [rm_b (show ¬ u < 12 by omega), if_neg (fun h => c6 (by rw [ev5]; exact h))]; rw [ev10, ev9, ev8])) dX7_room_74
      · have b42 := qge_f (a := u) (b := 12) (by omega) (by omega) c7
        exact absurd b42 (by omega)
    · refine lv_iconst (v := 0) hx hb dX7_room_37 (by decide) ?_
      exact rd_iret hx hb hr hlocks hS ((by rw [rm_b (show ¬ u < 12 by omega), if_pos (by rw [← ev5]; exact c6)])) dX7_room_38
  · have b3 := qge_f (a := u) (b := 12) (by omega) (by omega) c1
    refine lv_bipush (v := 12) hx hb dX7_room_6 (by decide) ?_
    refine lv_iload_n hx hb dX7_room_8 rfl (lv_at hl 1 rfl) ?_
    refine lv_imul hx hb dX7_room_9 ?_
    refine lv_topi (fun v11 ev11 => ?_)
    obtain rfl : v11 = nI (12 * u) := nI_times ev11 rfl rfl
    refine lv_iload_n hx hb dX7_room_10 rfl (lv_at hl 2 rfl) ?_
    refine lv_iadd hx hb dX7_room_11 ?_
    refine lv_topi (fun v12 ev12 => ?_)
    obtain rfl : v12 = nI ((12 * u) + v) := nI_plus ev12 rfl rfl
    refine lv_bipush (v := 12) hx hb dX7_room_12 (by decide) ?_
    refine lv_isub hx hb dX7_room_14 ?_
    refine lv_topi (fun v13 ev13 => ?_)
    obtain rfl : v13 = nI (((12 * u) + v) - 12) := nI_minus ev13 rfl rfl (by omega)
    refine lv_goto (tgt := 27) hx hb dX7_room_15 (by decide) ?_
    refine lv_istore_n (lv' := [(3, .int (nI (((12 * u) + v) - 12))), (0, .ref y), (1, .int (nI u)), (2, .int (nI v))]) hx hb dX7_room_27 rfl hl (by decide) rfl (fun ls hl => ?_)
    refine lv_aload_n hx hb dX7_room_28 rfl (lv_at hl 1 rfl) ?_
    refine va_get (D := G.1) (ci := 7) (v := .ref (b 19)) (C := RX7) (T := TX7) (N := 43) hx hb hts inX7 hown hK.1 hP 0 rfl rfl 19 (by decide) (hts _ mf_X7_65) (fun _ h9 => h9) rfl dX7_room_29 ?_
    refine lv_iload_n hx hb dX7_room_32 rfl (lv_at hl 0 rfl) ?_
    refine xzald (f := (r 19)) hx hb hK hP 19 ((((12 * u) + v) - 12)) (rfl) (by omega) (by decide) rfl dX7_room_33 ?_
    refine lv_topi (fun v14 ev14 => ?_)
    refine lv_if_ne (tgt := 39) hx hb dX7_room_34 (by decide) (fun c15 => ?_) (fun c15 => ?_)
    · refine lv_iload_n hx hb dX7_room_39 rfl (lv_at hl 2 rfl) ?_
      refine lv_bipush (v := 12) hx hb dX7_room_40 (by decide) ?_
      refine lv_icmp_ge (tgt := 61) hx hb dX7_room_42 (by decide) (fun c16 => ?_) (fun c16 => ?_)
      · have b42 := qge_t (a := u) (b := 12) (by omega) (by omega) c16
        exact absurd b42 (by omega)
      · have b42 := qge_f (a := u) (b := 12) (by omega) (by omega) c16
        refine lv_aload_n hx hb dX7_room_45 rfl (lv_at hl 1 rfl) ?_
        refine va_get (D := G.1) (ci := 7) (v := .ref (b 17)) (C := RX7) (T := TX7) (N := 43) hx hb hts inX7 hown hK.1 hP 0 rfl rfl 17 (by decide) (hts _ mf_X7_59) (fun _ h9 => h9) rfl dX7_room_46 ?_
        refine lv_iload_n hx hb dX7_room_49 rfl (lv_at hl 0 rfl) ?_
        refine xiald (f := (r 17)) hx hb hK hP 17 ((((12 * u) + v) - 12)) (rfl) (by omega) (by decide) rfl dX7_room_50 ?_
        refine lv_topi (fun v17 ev17 => ?_)
        refine lv_aload_n hx hb dX7_room_51 rfl (lv_at hl 1 rfl) ?_
        refine va_get (D := G.1) (ci := 7) (v := .ref (b 15)) (C := RX7) (T := TX7) (N := 43) hx hb hts inX7 hown hK.1 hP 0 rfl rfl 15 (by decide) (hts _ mf_X7_53) (fun _ h9 => h9) rfl dX7_room_52 ?_
        refine lv_iload_n hx hb dX7_room_55 rfl (lv_at hl 0 rfl) ?_
        refine xiald (f := (r 15)) hx hb hK hP 15 ((((12 * u) + v) - 12)) (rfl) (by omega) (by decide) rfl dX7_room_56 ?_
        refine lv_topi (fun v18 ev18 => ?_)
        refine lv_isub hx hb dX7_room_57 ?_
        refine lv_topi (fun v19 ev19 => ?_)
        refine lv_goto (tgt := 74) hx hb dX7_room_58 (by decide) ?_
        exact rd_iret hx hb hr hlocks hS ((by rw [rm_a (show u < 12 by omega), if_neg (fun h => c15 (by rw [ev14]; exact h))]; rw [ev19, ev18, ev17])) dX7_room_74
    · refine lv_iconst (v := 0) hx hb dX7_room_37 (by decide) ?_
      exact rd_iret hx hb hr hlocks hS ((by rw [rm_a (show u < 12 by omega), if_pos (by rw [← ev14]; exact c15)])) dX7_room_38
set_option maxHeartbeats 4000000 in
set_option maxRecDepth 100000 in
theorem m_X7_isNode (l : Launch) (G : GG) (y : Nat) (b : Nat → Nat) (f : Nat → Int32) (r : Nat → Nat → Int32) (n : Nat) (its : Int32) (hn : n < 24) : RdI l yX7_isNode cX7_isNode 3 (some .boolean) ({ frames := 0, cells := 0, slots := 0, locals := 0 }) G (mM G y b f r) [.ref y, .int (nI n), .int its] (fun q => (q = 0 ∨ q = 1)) := by
  refine rd_entry (by decide +kernel) (Nat.le_of_ble_eq_true rfl) ?_
  intro p e s m below meth c C0 hP hK ls hl
  have hS : va_S (fun q => s.heap.size ≤ q) s.heap s.heap [] := va_S.rf
  have hA : ∀ q, s.heap.size ≤ q → (fun q => s.heap.size ≤ q) q := fun _ h => h
  obtain ⟨hx, hb, hml, hown, hts, hr, hlocks, hin⟩ := C0
  have hown : s.vm.findClass RX7 = some m.cls := hown
  have hl : lv_has ls 3 [(0, .ref y), (1, .int (nI n)), (2, .int its)] := hl
  refine lv_iload_n hx hb dX7_isNode_0 rfl (lv_at hl 1 rfl) ?_
  refine lv_bipush (v := 12) hx hb dX7_isNode_1 (by decide) ?_
  refine lv_icmp_ge (tgt := 32) hx hb dX7_isNode_3 (by decide) (fun c1 => ?_) (fun c1 => ?_)
  · have b3 := qge_t (a := n) (b := 12) (by omega) (by omega) c1
    refine lv_iload_n hx hb dX7_isNode_32 rfl (lv_at hl 1 rfl) ?_
    refine lv_bipush (v := 12) hx hb dX7_isNode_33 (by decide) ?_
    refine lv_isub hx hb dX7_isNode_35 ?_
    refine lv_topi (fun v2 ev2 => ?_)
    obtain rfl : v2 = nI (n - 12) := nI_minus ev2 rfl rfl (by omega)
    refine lv_aload_n hx hb dX7_isNode_36 rfl (lv_at hl 0 rfl) ?_
    refine va_get (D := G.1) (ci := 7) (v := .int (f 21)) (C := RX7) (T := TX7) (N := 43) hx hb hts inX7 hown hK.1 hP 0 rfl rfl 21 (by decide) (hts _ mf_X7_192) (fun _ h9 => h9) rfl dX7_isNode_37 ?_
    refine lv_icmp_ge (tgt := 47) hx hb dX7_isNode_40 (by decide) (fun c3 => ?_) (fun c3 => ?_)
    · refine lv_iconst (v := 0) hx hb dX7_isNode_47 (by decide) ?_
      exact rd_zret hx hb hr hlocks (Or.inl rfl) hS ((Or.inl rfl)) dX7_isNode_48
    · refine lv_iconst (v := 1) hx hb dX7_isNode_43 (by decide) ?_
      refine lv_goto (tgt := 48) hx hb dX7_isNode_44 (by decide) ?_
      exact rd_zret hx hb hr hlocks (Or.inr rfl) hS ((Or.inr rfl)) dX7_isNode_48
  · have b3 := qge_f (a := n) (b := 12) (by omega) (by omega) c1
    refine lv_iload_n hx hb dX7_isNode_6 rfl (lv_at hl 1 rfl) ?_
    refine lv_aload_n hx hb dX7_isNode_7 rfl (lv_at hl 0 rfl) ?_
    refine va_get (D := G.1) (ci := 7) (v := .int (f 20)) (C := RX7) (T := TX7) (N := 43) hx hb hts inX7 hown hK.1 hP 0 rfl rfl 20 (by decide) (hts _ mf_X7_189) (fun _ h9 => h9) rfl dX7_isNode_8 ?_
    refine lv_icmp_ge (tgt := 28) hx hb dX7_isNode_11 (by decide) (fun c4 => ?_) (fun c4 => ?_)
    · refine lv_iconst (v := 0) hx hb dX7_isNode_28 (by decide) ?_
      refine lv_goto (tgt := 48) hx hb dX7_isNode_29 (by decide) ?_
      exact rd_zret hx hb hr hlocks (Or.inl rfl) hS ((Or.inl rfl)) dX7_isNode_48
    · refine lv_aload_n hx hb dX7_isNode_14 rfl (lv_at hl 0 rfl) ?_
      refine va_get (D := G.1) (ci := 7) (v := .ref (b 18)) (C := RX7) (T := TX7) (N := 43) hx hb hts inX7 hown hK.1 hP 0 rfl rfl 18 (by decide) (hts _ mf_X7_62) (fun _ h9 => h9) rfl dX7_isNode_15 ?_
      refine lv_iload_n hx hb dX7_isNode_18 rfl (lv_at hl 1 rfl) ?_
      refine xiald (f := (r 18)) hx hb hK hP 18 (n) (rfl) (by omega) (by decide) rfl dX7_isNode_19 ?_
      refine lv_topi (fun v5 ev5 => ?_)
      refine lv_iload_n hx hb dX7_isNode_20 rfl (lv_at hl 2 rfl) ?_
      refine lv_icmp_ne (tgt := 28) hx hb dX7_isNode_21 (by decide) (fun c6 => ?_) (fun c6 => ?_)
      · refine lv_iconst (v := 0) hx hb dX7_isNode_28 (by decide) ?_
        refine lv_goto (tgt := 48) hx hb dX7_isNode_29 (by decide) ?_
        exact rd_zret hx hb hr hlocks (Or.inl rfl) hS ((Or.inl rfl)) dX7_isNode_48
      · refine lv_iconst (v := 1) hx hb dX7_isNode_24 (by decide) ?_
        refine lv_goto (tgt := 48) hx hb dX7_isNode_25 (by decide) ?_
        exact rd_zret hx hb hr hlocks (Or.inr rfl) hS ((Or.inr rfl)) dX7_isNode_48
set_option maxHeartbeats 4000000 in
set_option maxRecDepth 100000 in
theorem m_X7_way (l : Launch) (G : GG) (y : Nat) (b : Nat → Nat) (f : Nat → Int32) (r : Nat → Nat → Int32) (a : Nat) (b2 : Nat) (its : Int32) (ha : a < 24) (hb2 : b2 < 24) : WrI l yX7_way cX7_way 9 (some .boolean) ({ frames := 1, cells := 0, slots := 0, locals := 23 }) G (mM G y b f r) [.ref y, .int (nI a), .int (nI b2), .int its] (fun q w => ∃ (n_r_22 : Nat → Int32) (n_r_23 : Nat → Int32), w = mM G y b f (up2 (up2 r 22 n_r_22) 23 n_r_23) ∧ (q = 0 ∨ (q = 1 ∧ wayP (adjM (r 19) (r 17) (r 16) (r 15)) a b2 n_r_22 n_r_23))) := by
  refine wr_entryI (by decide +kernel) (Nat.le_of_ble_eq_true rfl) ?_
  intro p e s m below meth c A C0 hP hK hD hA ls hl
  have hS : va_S A s.heap s.heap [] := va_S.rf
  obtain ⟨hx, hb, hml, hown, hts, hr, hlocks, hin⟩ := C0
  have hown : s.vm.findClass RX7 = some m.cls := hown
  have hDD : ∀ f' r', va_D A (mM G y b f' r') := fun f' r' => D_same hD rfl
  have hl : lv_has ls 9 [(0, .ref y), (1, .int (nI a)), (2, .int (nI b2)), (3, .int its)] := hl
  refine lv_iconst (v := 0) hx hb dX7_way_0 (by decide) ?_
  refine lv_istore (lv' := [(4, .int 0), (0, .ref y), (1, .int (nI a)), (2, .int (nI b2)), (3, .int its)]) hx hb dX7_way_1 hl (by decide) rfl (fun ls hl => ?_)
  have loop3 : ∀ (k1 i : Nat) (x2 : Nat → Int32), i ≤ 24 → 24 < i + k1 → (∀ n, n < i → x2 n = -1) → ∀ (H : Heap) (locs : List Loc) (ls : Array Slot), PP G (mM G y b f (up2 r 22 x2)) H → va_S A s.heap H locs → lv_has ls 9 [(4, .int (nI i)), (0, .ref y), (1, .int (nI a)), (2, .int (nI b2)), (3, .int its)] → W p l e ({ frames := 1, cells := 0, slots := 0, locals := 23 }) s m ([.ref y, .int (nI a), .int (nI b2), .int its] : List Value).toArray below meth c H locs 0 0 (MQ below (QwI G (fun q w => ∃ (n_r_22 : Nat → Int32) (n_r_23 : Nat → Int32), w = mM G y b f (up2 (up2 r 22 n_r_22) 23 n_r_23) ∧ (q = 0 ∨ (q = 1 ∧ wayP (adjM (r 19) (r 17) (r 16) (r 15)) a b2 n_r_22 n_r_23))) A) ([.ref y, .int (nI a), .int (nI b2), .int its] : List Value).toArray s 0 0 A) (F0 m 3 ls []) := by
    intro k1
    induction k1 with
    | zero => intro i x2 h1 h2; exact absurd h1 (by omega)
    | succ k1 ih3k1 =>
      intro i x2 hi_i hk_i hfr H locs ls hP hS hl
      refine lv_iload hx hb dX7_way_3 (lv_at hl 0 rfl) ?_
      refine lv_bipush (v := 24) hx hb dX7_way_5 (by decide) ?_
      refine lv_icmp_ge (tgt := 24) hx hb dX7_way_7 (by decide) (fun c3 => ?_) (fun c3 => ?_)
      · have b7 := qge_t (a := i) (b := 24) (by omega) (by omega) c3
        refine lv_aload_n hx hb dX7_way_24 rfl (lv_at hl 1 rfl) ?_
        refine va_get (D := G.1) (ci := 7) (v := .ref (b 22)) (C := RX7) (T := TX7) (N := 43) hx hb hts inX7 hown hK.1 hP 0 rfl rfl 22 (by decide) (hts _ mf_X7_68) (fun _ h9 => h9) rfl dX7_way_25 ?_
        refine lv_iload_n hx hb dX7_way_28 rfl (lv_at hl 2 rfl) ?_
        refine lv_iload_n hx hb dX7_way_29 rfl (lv_at hl 2 rfl) ?_
        refine xiast (f := x2) (x := (nI a)) hx hb hK hP (hDD _ _) hS 20 (a) (rfl) (by omega) (by decide) rfl dX7_way_30 (fun H locs hP _ hS => ?_)
        have hP : PP G (mM G y b f (up2 r 22 (upd x2 (a) ((nI a))))) H := hP
        refine lv_aload_n hx hb dX7_way_31 rfl (lv_at hl 1 rfl) ?_
        refine va_get (D := G.1) (ci := 7) (v := .ref (b 23)) (C := RX7) (T := TX7) (N := 43) hx hb hts inX7 hown hK.1 hP 0 rfl rfl 23 (by decide) (hts _ mf_X7_71) (fun _ h9 => h9) rfl dX7_way_32 ?_
        refine lv_iconst (v := 0) hx hb dX7_way_35 (by decide) ?_
        refine lv_iload_n hx hb dX7_way_36 rfl (lv_at hl 2 rfl) ?_
        refine xiast (f := (r 23)) (x := (nI a)) hx hb hK hP (hDD _ _) hS 21 (0) (rfl) (by omega) (by decide) rfl dX7_way_37 (fun H locs hP _ hS => ?_)
        have hP : PP G (mM G y b f (up2 (up2 r 22 (upd x2 (a) ((nI a)))) 23 (upd (r 23) (0) ((nI a))))) H := hP
        have hJ := wJ_0 (adj := (adjM (r 19) (r 17) (r 16) (r 15))) (qu := (r 23)) (fun n h => hfr n (by omega)) ha (by decide)
        refine lv_iconst (v := 1) hx hb dX7_way_38 (by decide) ?_
        refine lv_istore (lv' := [(4, .int 1), (0, .ref y), (1, .int (nI a)), (2, .int (nI b2)), (3, .int its)]) hx hb dX7_way_39 hl (by decide) rfl (fun ls hl => ?_)
        refine lv_iconst (v := 0) hx hb dX7_way_41 (by decide) ?_
        refine lv_istore (lv' := [(5, .int 0), (4, .int 1), (0, .ref y), (1, .int (nI a)), (2, .int (nI b2)), (3, .int its)]) hx hb dX7_way_42 hl (by decide) rfl (fun ls hl => ?_)
        have loop44 : ∀ (k4 q1 : Nat) (mn : Nat) (x6 : Nat → Int32) (x7 : Nat → Int32), q1 ≤ 24 → 24 < q1 + k4 → (mn ≤ 24) → (wJ 24 (adjM (r 19) (r 17) (r 16) (r 15)) a x6 x7 mn) → ∀ (H : Heap) (locs : List Loc) (ls : Array Slot), PP G (mM G y b f (up2 (up2 r 22 x6) 23 x7)) H → va_S A s.heap H locs → lv_has ls 9 [(5, .int (nI q1)), (4, .int (nI mn)), (0, .ref y), (2, .int (nI b2)), (3, .int its)] → W p l e ({ frames := 1, cells := 0, slots := 0, locals := 23 }) s m ([.ref y, .int (nI a), .int (nI b2), .int its] : List Value).toArray below meth c H locs 0 0 (MQ below (QwI G (fun q w => ∃ (n_r_22 : Nat → Int32) (n_r_23 : Nat → Int32), w = mM G y b f (up2 (up2 r 22 n_r_22) 23 n_r_23) ∧ (q = 0 ∨ (q = 1 ∧ wayP (adjM (r 19) (r 17) (r 16) (r 15)) a b2 n_r_22 n_r_23))) A) ([.ref y, .int (nI a), .int (nI b2), .int its] : List Value).toArray s 0 0 A) (F0 m 44 ls []) := by
          intro k4
          induction k4 with
          | zero => intro q1 mn x6 x7 h1 h2; exact absurd h1 (by omega)
          | succ k4 ih44k4 =>
            intro q1 mn x6 x7 hi_q1 hk_q1 gmn hJ H locs ls hP hS hl
            refine lv_iload hx hb dX7_way_44 (lv_at hl 0 rfl) ?_
            refine lv_iload hx hb dX7_way_46 (lv_at hl 1 rfl) ?_
            refine lv_icmp_ge (tgt := 167) hx hb dX7_way_48 (by decide) (fun c8 => ?_) (fun c8 => ?_)
            · have b48 := qge_t (a := q1) (b := mn) (by omega) (by omega) c8
              refine lv_aload_n hx hb dX7_way_167 rfl (lv_at hl 2 rfl) ?_
              refine va_get (D := G.1) (ci := 7) (v := .ref (b 22)) (C := RX7) (T := TX7) (N := 43) hx hb hts inX7 hown hK.1 hP 0 rfl rfl 22 (by decide) (hts _ mf_X7_68) (fun _ h9 => h9) rfl dX7_way_168 ?_
              refine lv_iload_n hx hb dX7_way_171 rfl (lv_at hl 3 rfl) ?_
              refine xiald (f := x6) hx hb hK hP 20 (b2) (rfl) (by omega) (by decide) rfl dX7_way_172 ?_
              refine lv_topi (fun v9 ev9 => ?_)
              refine lv_iconst (v := -1) hx hb dX7_way_173 (by decide) ?_
              refine lv_icmp_eq (tgt := 181) hx hb dX7_way_174 (by decide) (fun c10 => ?_) (fun c10 => ?_)
              · refine lv_iconst (v := 0) hx hb dX7_way_181 (by decide) ?_
                exact wr_zret hx hb hr hlocks (Or.inl rfl) hS hP ⟨x6, x7, rfl, Or.inl rfl⟩ dX7_way_182
              · refine lv_iconst (v := 1) hx hb dX7_way_177 (by decide) ?_
                refine lv_goto (tgt := 182) hx hb dX7_way_178 (by decide) ?_
                exact wr_zret hx hb hr hlocks (Or.inr rfl) hS hP ⟨x6, x7, rfl, Or.inr ⟨rfl, mn, hJ, hJ.2.1 b2 hb2 (fun h => c10 (ev9.trans h))⟩⟩ dX7_way_182
            · have b48 := qge_f (a := q1) (b := mn) (by omega) (by omega) c8
              refine lv_aload_n hx hb dX7_way_51 rfl (lv_at hl 2 rfl) ?_
              refine va_get (D := G.1) (ci := 7) (v := .ref (b 22)) (C := RX7) (T := TX7) (N := 43) hx hb hts inX7 hown hK.1 hP 0 rfl rfl 22 (by decide) (hts _ mf_X7_68) (fun _ h9 => h9) rfl dX7_way_52 ?_
              refine lv_iload_n hx hb dX7_way_55 rfl (lv_at hl 3 rfl) ?_
              refine xiald (f := x6) hx hb hK hP 20 (b2) (rfl) (by omega) (by decide) rfl dX7_way_56 ?_
              refine lv_topi (fun v11 ev11 => ?_)
              refine lv_iconst (v := -1) hx hb dX7_way_57 (by decide) ?_
              refine lv_icmp_ne (tgt := 167) hx hb dX7_way_58 (by decide) (fun c12 => ?_) (fun c12 => ?_)
              · refine lv_aload_n hx hb dX7_way_167 rfl (lv_at hl 2 rfl) ?_
                refine va_get (D := G.1) (ci := 7) (v := .ref (b 22)) (C := RX7) (T := TX7) (N := 43) hx hb hts inX7 hown hK.1 hP 0 rfl rfl 22 (by decide) (hts _ mf_X7_68) (fun _ h9 => h9) rfl dX7_way_168 ?_
                refine lv_iload_n hx hb dX7_way_171 rfl (lv_at hl 3 rfl) ?_
                refine xiald (f := x6) hx hb hK hP 20 (b2) (rfl) (by omega) (by decide) rfl dX7_way_172 ?_
                refine lv_topi (fun v13 ev13 => ?_)
                refine lv_iconst (v := -1) hx hb dX7_way_173 (by decide) ?_
                refine lv_icmp_eq (tgt := 181) hx hb dX7_way_174 (by decide) (fun c14 => ?_) (fun c14 => ?_)
                · refine lv_iconst (v := 0) hx hb dX7_way_181 (by decide) ?_
                  exact wr_zret hx hb hr hlocks (Or.inl rfl) hS hP ⟨x6, x7, rfl, Or.inl rfl⟩ dX7_way_182
                · refine lv_iconst (v := 1) hx hb dX7_way_177 (by decide) ?_
                  refine lv_goto (tgt := 182) hx hb dX7_way_178 (by decide) ?_
                  exact wr_zret hx hb hr hlocks (Or.inr rfl) hS hP ⟨x6, x7, rfl, Or.inr ⟨rfl, mn, hJ, hJ.2.1 b2 hb2 (fun h => c14 (ev13.trans h))⟩⟩ dX7_way_182
              · refine lv_aload_n hx hb dX7_way_61 rfl (lv_at hl 2 rfl) ?_
                refine va_get (D := G.1) (ci := 7) (v := .ref (b 23)) (C := RX7) (T := TX7) (N := 43) hx hb hts inX7 hown hK.1 hP 0 rfl rfl 23 (by decide) (hts _ mf_X7_71) (fun _ h9 => h9) rfl dX7_way_62 ?_
                refine lv_iload hx hb dX7_way_65 (lv_at hl 0 rfl) ?_
                refine xiald (f := x7) hx hb hK hP 21 (q1) (rfl) (by omega) (by decide) rfl dX7_way_67 ?_
                refine lv_topi (fun v15 ev15 => ?_)
                obtain ⟨nd, hnd, end_⟩ := wJ_at hJ b48
                obtain rfl : v15 = nI (nd) := ev15.trans (end_)
                refine lv_istore (lv' := [(6, .int (nI (nd))), (5, .int (nI q1)), (4, .int (nI mn)), (0, .ref y), (2, .int (nI b2)), (3, .int its)]) hx hb dX7_way_68 hl (by decide) rfl (fun ls hl => ?_)
                refine lv_iload hx hb dX7_way_70 (lv_at hl 0 rfl) ?_
                refine lv_bipush (v := 12) hx hb dX7_way_72 (by decide) ?_
                refine lv_icmp_ge (tgt := 82) hx hb dX7_way_74 (by decide) (fun c16 => ?_) (fun c16 => ?_)
                · have b74 := qge_t (a := (nd)) (b := 12) (by omega) (by omega) c16
                  refine lv_iconst (v := 0) hx hb dX7_way_82 (by decide) ?_
                  refine lv_istore (lv' := [(7, .int 0), (6, .int (nI (nd))), (5, .int (nI q1)), (4, .int (nI mn)), (0, .ref y), (2, .int (nI b2)), (3, .int its)]) hx hb dX7_way_83 hl (by decide) rfl (fun ls hl => ?_)
                  refine lv_iload hx hb dX7_way_85 (lv_at hl 0 rfl) ?_
                  refine lv_istore (lv' := [(8, .int 0), (7, .int 0), (6, .int (nI (nd))), (5, .int (nI q1)), (4, .int (nI mn)), (0, .ref y), (2, .int (nI b2)), (3, .int its)]) hx hb dX7_way_87 hl (by decide) rfl (fun ls hl => ?_)
                  have loop89 : ∀ (k17 j : Nat) (mn : Nat) (x19 : Nat → Int32) (x20 : Nat → Int32), j ≤ 12 → 12 < j + k17 → (mn ≤ 24) → (wJ 24 (adjM (r 19) (r 17) (r 16) (r 15)) a x19 x20 mn) → (q1 < mn ∧ x20 q1 = nI nd) → (0 ≤ j) → ∀ (H : Heap) (locs : List Loc) (ls : Array Slot), PP G (mM G y b f (up2 (up2 r 22 x19) 23 x20)) H → va_S A s.heap H locs → lv_has ls 9 [(8, .int (nI j)), (7, .int 0), (6, .int (nI (nd))), (5, .int (nI q1)), (4, .int (nI mn)), (0, .ref y), (2, .int (nI b2)), (3, .int its)] → W p l e ({ frames := 1, cells := 0, slots := 0, locals := 23 }) s m ([.ref y, .int (nI a), .int (nI b2), .int its] : List Value).toArray below meth c H locs 0 0 (MQ below (QwI G (fun q w => ∃ (n_r_22 : Nat → Int32) (n_r_23 : Nat → Int32), w = mM G y b f (up2 (up2 r 22 n_r_22) 23 n_r_23) ∧ (q = 0 ∨ (q = 1 ∧ wayP (adjM (r 19) (r 17) (r 16) (r 15)) a b2 n_r_22 n_r_23))) A) ([.ref y, .int (nI a), .int (nI b2), .int its] : List Value).toArray s 0 0 A) (F0 m 89 ls []) := by
                    intro k17
                    induction k17 with
                    | zero => intro j mn x19 x20 h1 h2; exact absurd h1 (by omega)
                    | succ k17 ih89k17 =>
                      intro j mn x19 x20 hi_j hk_j gmn hJ hqd hj0 H locs ls hP hS hl
                      refine lv_iload hx hb dX7_way_89 (lv_at hl 0 rfl) ?_
                      refine lv_iload hx hb dX7_way_91 (lv_at hl 1 rfl) ?_
                      refine lv_bipush (v := 12) hx hb dX7_way_93 (by decide) ?_
                      refine lv_iadd hx hb dX7_way_95 ?_
                      refine lv_topi (fun v21 ev21 => ?_)
                      obtain rfl : v21 = nI (0 + 12) := nI_plus ev21 rfl rfl
                      refine lv_icmp_ge (tgt := 161) hx hb dX7_way_96 (by decide) (fun c22 => ?_) (fun c22 => ?_)
                      · have b96 := qge_t (a := j) (b := (0 + 12)) (by omega) (by omega) c22
                        obtain ⟨v23, ev23⟩ : ∃ y9 : Int32, y9 = (nI q1) + Int32.ofInt (1) := ⟨_, rfl⟩
                        refine lv_iinc (v := v23) (lv' := [(5, .int v23), (8, .int (nI j)), (7, .int 0), (6, .int (nI (nd))), (4, .int (nI mn)), (0, .ref y), (2, .int (nI b2)), (3, .int its)]) hx hb dX7_way_161 hl (k := 3) rfl ev23.symm (by decide) rfl (fun ls hl => ?_)
                        obtain rfl : v23 = nI (q1 + 1) := nI_plus (i := q1) (j := 1) ev23 rfl (by decide)
                        refine lv_goto (tgt := 44) hx hb dX7_way_164 (by decide) ?_
                        exact ih44k4 (q1 + 1) mn x19 x20 (by omega) (by omega) (by omega) (hJ) _ _ _ hP hS (lv_sub hl [0, 4, 5, 6, 7] rfl)
                      · have b96 := qge_f (a := j) (b := (0 + 12)) (by omega) (by omega) c22
                        refine lv_aload_n hx hb dX7_way_99 rfl (lv_at hl 5 rfl) ?_
                        refine va_get (D := G.1) (ci := 7) (v := .ref (b 22)) (C := RX7) (T := TX7) (N := 43) hx hb hts inX7 hown hK.1 hP 0 rfl rfl 22 (by decide) (hts _ mf_X7_68) (fun _ h9 => h9) rfl dX7_way_100 ?_
                        refine lv_iload hx hb dX7_way_103 (lv_at hl 0 rfl) ?_
                        refine xiald (f := x19) hx hb hK hP 20 (j) (rfl) (by omega) (by decide) rfl dX7_way_105 ?_
                        refine lv_topi (fun v24 ev24 => ?_)
                        refine lv_iconst (v := -1) hx hb dX7_way_106 (by decide) ?_
                        refine lv_icmp_ne (tgt := 155) hx hb dX7_way_107 (by decide) (fun c25 => ?_) (fun c25 => ?_)
                        · obtain ⟨v26, ev26⟩ : ∃ y9 : Int32, y9 = (nI j) + Int32.ofInt (1) := ⟨_, rfl⟩
                          refine lv_iinc (v := v26) (lv' := [(8, .int v26), (7, .int 0), (6, .int (nI (nd))), (5, .int (nI q1)), (4, .int (nI mn)), (0, .ref y), (2, .int (nI b2)), (3, .int its)]) hx hb dX7_way_155 hl (k := 0) rfl ev26.symm (by decide) rfl (fun ls hl => ?_)
                          obtain rfl : v26 = nI (j + 1) := nI_plus (i := j) (j := 1) ev26 rfl (by decide)
                          refine lv_goto (tgt := 89) hx hb dX7_way_158 (by decide) ?_
                          exact ih89k17 (j + 1) mn x19 x20 (by omega) (by omega) (by omega) (hJ) (hqd) (by omega) _ _ _ hP hS (lv_sub hl [0, 1, 2, 3, 4, 5, 6, 7] rfl)
                        · refine lv_aload_n hx hb dX7_way_110 rfl (lv_at hl 5 rfl) ?_
                          refine lv_iload hx hb dX7_way_111 (lv_at hl 0 rfl) ?_
                          refine lv_iload_n hx hb dX7_way_113 rfl (lv_at hl 7 rfl) ?_
                          refine rdV (rest := []) (q0 := 0) ⟨hx, hb, hml, hown, hts⟩ (m_X7_isNode l G y b f (up2 (up2 r 22 x19) 23 x20) j its  (by omega)) mi_yX7_isNode mv_yX7_isNode ml_X7_198 ⟨rfl, rfl, Nat.le_of_ble_eq_true rfl, Nat.le_of_ble_eq_true rfl⟩ hK (hP) rfl rfl rfl hl.1 rfl (Nat.le_of_ble_eq_true rfl) dX7_way_114 ⟨Nat.zero_le _, Nat.zero_le _⟩ hS hA hP (fun r27 H locs hr27 hP hS => ?_)
                          have hr27 : (r27 = 0 ∨ r27 = 1) := hr27
                          refine lv_if_eq (tgt := 155) hx hb dX7_way_117 (by decide) (fun c28 => ?_) (fun c28 => ?_)
                          · obtain ⟨v29, ev29⟩ : ∃ y9 : Int32, y9 = (nI j) + Int32.ofInt (1) := ⟨_, rfl⟩
                            refine lv_iinc (v := v29) (lv' := [(8, .int v29), (7, .int 0), (6, .int (nI (nd))), (5, .int (nI q1)), (4, .int (nI mn)), (0, .ref y), (2, .int (nI b2)), (3, .int its)]) hx hb dX7_way_155 hl (k := 0) rfl ev29.symm (by decide) rfl (fun ls hl => ?_)
                            obtain rfl : v29 = nI (j + 1) := nI_plus (i := j) (j := 1) ev29 rfl (by decide)
                            refine lv_goto (tgt := 89) hx hb dX7_way_158 (by decide) ?_
                            exact ih89k17 (j + 1) mn x19 x20 (by omega) (by omega) (by omega) (hJ) (hqd) (by omega) _ _ _ hP hS (lv_sub hl [0, 1, 2, 3, 4, 5, 6, 7] rfl)
                          · refine lv_aload_n hx hb dX7_way_120 rfl (lv_at hl 5 rfl) ?_
                            refine lv_iload hx hb dX7_way_121 (lv_at hl 2 rfl) ?_
                            refine lv_iload hx hb dX7_way_123 (lv_at hl 0 rfl) ?_
                            refine rdV (rest := []) (q0 := 0) ⟨hx, hb, hml, hown, hts⟩ (m_X7_room l G y b f (up2 (up2 r 22 x19) 23 x20) (nd) j  (by unfold bip; omega)) mi_yX7_room mv_yX7_room ml_X7_201 ⟨rfl, rfl, Nat.le_of_ble_eq_true rfl, Nat.le_of_ble_eq_true rfl⟩ hK (hP) rfl rfl rfl hl.1 rfl (Nat.le_of_ble_eq_true rfl) dX7_way_125 ⟨Nat.zero_le _, Nat.zero_le _⟩ hS hA hP (fun r30 H locs hr30 hP hS => ?_)
                            obtain rfl := hr30
                            refine lv_if_gt (tgt := 134) hx hb dX7_way_128 (by decide) (fun c31 => ?_) (fun c31 => ?_)
                            · have hlt24 := wJ_lt hJ (show j < 24 by omega) (ev24.symm.trans c25)
                              refine lv_aload_n hx hb dX7_way_134 rfl (lv_at hl 5 rfl) ?_
                              refine va_get (D := G.1) (ci := 7) (v := .ref (b 22)) (C := RX7) (T := TX7) (N := 43) hx hb hts inX7 hown hK.1 hP 0 rfl rfl 22 (by decide) (hts _ mf_X7_68) (fun _ h9 => h9) rfl dX7_way_135 ?_
                              refine lv_iload hx hb dX7_way_138 (lv_at hl 0 rfl) ?_
                              refine lv_iload hx hb dX7_way_140 (lv_at hl 2 rfl) ?_
                              refine xiast (f := x19) (x := (nI (nd))) hx hb hK hP (hDD _ _) hS 20 (j) (rfl) (by omega) (by decide) rfl dX7_way_142 (fun H locs hP _ hS => ?_)
                              have hP : PP G (mM G y b f (up2 (up2 r 22 (upd x19 (j) ((nI (nd))))) 23 x20)) H := hP
                              refine lv_aload_n hx hb dX7_way_143 rfl (lv_at hl 5 rfl) ?_
                              refine va_get (D := G.1) (ci := 7) (v := .ref (b 23)) (C := RX7) (T := TX7) (N := 43) hx hb hts inX7 hown hK.1 hP 0 rfl rfl 23 (by decide) (hts _ mf_X7_71) (fun _ h9 => h9) rfl dX7_way_144 ?_
                              refine lv_iload hx hb dX7_way_147 (lv_at hl 4 rfl) ?_
                              refine lv_iload hx hb dX7_way_149 (lv_at hl 0 rfl) ?_
                              refine xiast (f := x20) (x := (nI j)) hx hb hK hP (hDD _ _) hS 21 (mn) (rfl) (by omega) (by decide) rfl dX7_way_151 (fun H locs hP _ hS => ?_)
                              have hP : PP G (mM G y b f (up2 (up2 r 22 (upd x19 (j) ((nI (nd))))) 23 (upd x20 (mn) ((nI j))))) H := hP
                              have hJ := wJ_s hJ hqd.1 hqd.2 hnd (show j < 24 by omega) (ev24.symm.trans c25) ⟨by unfold bip; omega, c31⟩ (by decide)
                              have hqd := And.intro (show q1 < mn + 1 by omega) ((pk_un (f := x20) (x := nI j) (show q1 ≠ mn by omega)).trans hqd.2)
                              obtain ⟨v32, ev32⟩ : ∃ y9 : Int32, y9 = (nI mn) + Int32.ofInt (1) := ⟨_, rfl⟩
                              refine lv_iinc (v := v32) (lv' := [(4, .int v32), (8, .int (nI j)), (7, .int 0), (6, .int (nI (nd))), (5, .int (nI q1)), (0, .ref y), (2, .int (nI b2)), (3, .int its)]) hx hb dX7_way_152 hl (k := 4) rfl ev32.symm (by decide) rfl (fun ls hl => ?_)
                              obtain rfl : v32 = nI (mn + 1) := nI_plus (i := mn) (j := 1) ev32 rfl (by decide)
                              obtain ⟨v33, ev33⟩ : ∃ y9 : Int32, y9 = (nI j) + Int32.ofInt (1) := ⟨_, rfl⟩
                              refine lv_iinc (v := v33) (lv' := [(8, .int v33), (4, .int (nI (mn + 1))), (7, .int 0), (6, .int (nI (nd))), (5, .int (nI q1)), (0, .ref y), (2, .int (nI b2)), (3, .int its)]) hx hb dX7_way_155 hl (k := 1) rfl ev33.symm (by decide) rfl (fun ls hl => ?_)
                              obtain rfl : v33 = nI (j + 1) := nI_plus (i := j) (j := 1) ev33 rfl (by decide)
                              refine lv_goto (tgt := 89) hx hb dX7_way_158 (by decide) ?_
                              exact ih89k17 (j + 1) (mn + 1) (upd x19 (j) ((nI (nd)))) (upd x20 (mn) ((nI j))) (by omega) (by omega) (by omega) (hJ) (hqd) (by omega) _ _ _ hP hS (lv_sub hl [0, 2, 3, 4, 1, 5, 6, 7] rfl)
                            · refine lv_goto (tgt := 155) hx hb dX7_way_131 (by decide) ?_
                              obtain ⟨v34, ev34⟩ : ∃ y9 : Int32, y9 = (nI j) + Int32.ofInt (1) := ⟨_, rfl⟩
                              refine lv_iinc (v := v34) (lv' := [(8, .int v34), (7, .int 0), (6, .int (nI (nd))), (5, .int (nI q1)), (4, .int (nI mn)), (0, .ref y), (2, .int (nI b2)), (3, .int its)]) hx hb dX7_way_155 hl (k := 0) rfl ev34.symm (by decide) rfl (fun ls hl => ?_)
                              obtain rfl : v34 = nI (j + 1) := nI_plus (i := j) (j := 1) ev34 rfl (by decide)
                              refine lv_goto (tgt := 89) hx hb dX7_way_158 (by decide) ?_
                              exact ih89k17 (j + 1) mn x19 x20 (by omega) (by omega) (by omega) (hJ) (hqd) (by omega) _ _ _ hP hS (lv_sub hl [0, 1, 2, 3, 4, 5, 6, 7] rfl)
                  exact loop89 (12 + 1) 0 mn x6 x7 (by omega) (by omega) (by omega) (hJ) (⟨b48, end_⟩) (by omega) _ _ _ hP hS (lv_sub hl [0, 1, 2, 3, 4, 5, 6, 7] rfl)
                · have b74 := qge_f (a := (nd)) (b := 12) (by omega) (by omega) c16
                  refine lv_bipush (v := 12) hx hb dX7_way_77 (by decide) ?_
                  refine lv_goto (tgt := 83) hx hb dX7_way_79 (by decide) ?_
                  refine lv_istore (lv' := [(7, .int 12), (6, .int (nI (nd))), (5, .int (nI q1)), (4, .int (nI mn)), (0, .ref y), (2, .int (nI b2)), (3, .int its)]) hx hb dX7_way_83 hl (by decide) rfl (fun ls hl => ?_)
                  refine lv_iload hx hb dX7_way_85 (lv_at hl 0 rfl) ?_
                  refine lv_istore (lv' := [(8, .int 12), (7, .int 12), (6, .int (nI (nd))), (5, .int (nI q1)), (4, .int (nI mn)), (0, .ref y), (2, .int (nI b2)), (3, .int its)]) hx hb dX7_way_87 hl (by decide) rfl (fun ls hl => ?_)
                  have loop89 : ∀ (k35 j : Nat) (mn : Nat) (x37 : Nat → Int32) (x38 : Nat → Int32), j ≤ 24 → 24 < j + k35 → (mn ≤ 24) → (wJ 24 (adjM (r 19) (r 17) (r 16) (r 15)) a x37 x38 mn) → (q1 < mn ∧ x38 q1 = nI nd) → (12 ≤ j) → ∀ (H : Heap) (locs : List Loc) (ls : Array Slot), PP G (mM G y b f (up2 (up2 r 22 x37) 23 x38)) H → va_S A s.heap H locs → lv_has ls 9 [(8, .int (nI j)), (7, .int 12), (6, .int (nI (nd))), (5, .int (nI q1)), (4, .int (nI mn)), (0, .ref y), (2, .int (nI b2)), (3, .int its)] → W p l e ({ frames := 1, cells := 0, slots := 0, locals := 23 }) s m ([.ref y, .int (nI a), .int (nI b2), .int its] : List Value).toArray below meth c H locs 0 0 (MQ below (QwI G (fun q w => ∃ (n_r_22 : Nat → Int32) (n_r_23 : Nat → Int32), w = mM G y b f (up2 (up2 r 22 n_r_22) 23 n_r_23) ∧ (q = 0 ∨ (q = 1 ∧ wayP (adjM (r 19) (r 17) (r 16) (r 15)) a b2 n_r_22 n_r_23))) A) ([.ref y, .int (nI a), .int (nI b2), .int its] : List Value).toArray s 0 0 A) (F0 m 89 ls []) := by
                    intro k35
                    induction k35 with
                    | zero => intro j mn x37 x38 h1 h2; exact absurd h1 (by omega)
                    | succ k35 ih89k35 =>
                      intro j mn x37 x38 hi_j hk_j gmn hJ hqd hj0 H locs ls hP hS hl
                      refine lv_iload hx hb dX7_way_89 (lv_at hl 0 rfl) ?_
                      refine lv_iload hx hb dX7_way_91 (lv_at hl 1 rfl) ?_
                      refine lv_bipush (v := 12) hx hb dX7_way_93 (by decide) ?_
                      refine lv_iadd hx hb dX7_way_95 ?_
                      refine lv_topi (fun v39 ev39 => ?_)
                      obtain rfl : v39 = nI (12 + 12) := nI_plus ev39 rfl rfl
                      refine lv_icmp_ge (tgt := 161) hx hb dX7_way_96 (by decide) (fun c40 => ?_) (fun c40 => ?_)
                      · have b96 := qge_t (a := j) (b := (12 + 12)) (by omega) (by omega) c40
                        obtain ⟨v41, ev41⟩ : ∃ y9 : Int32, y9 = (nI q1) + Int32.ofInt (1) := ⟨_, rfl⟩
                        refine lv_iinc (v := v41) (lv' := [(5, .int v41), (8, .int (nI j)), (7, .int 12), (6, .int (nI (nd))), (4, .int (nI mn)), (0, .ref y), (2, .int (nI b2)), (3, .int its)]) hx hb dX7_way_161 hl (k := 3) rfl ev41.symm (by decide) rfl (fun ls hl => ?_)
                        obtain rfl : v41 = nI (q1 + 1) := nI_plus (i := q1) (j := 1) ev41 rfl (by decide)
                        refine lv_goto (tgt := 44) hx hb dX7_way_164 (by decide) ?_
                        exact ih44k4 (q1 + 1) mn x37 x38 (by omega) (by omega) (by omega) (hJ) _ _ _ hP hS (lv_sub hl [0, 4, 5, 6, 7] rfl)
                      · have b96 := qge_f (a := j) (b := (12 + 12)) (by omega) (by omega) c40
                        refine lv_aload_n hx hb dX7_way_99 rfl (lv_at hl 5 rfl) ?_
                        refine va_get (D := G.1) (ci := 7) (v := .ref (b 22)) (C := RX7) (T := TX7) (N := 43) hx hb hts inX7 hown hK.1 hP 0 rfl rfl 22 (by decide) (hts _ mf_X7_68) (fun _ h9 => h9) rfl dX7_way_100 ?_
                        refine lv_iload hx hb dX7_way_103 (lv_at hl 0 rfl) ?_
                        refine xiald (f := x37) hx hb hK hP 20 (j) (rfl) (by omega) (by decide) rfl dX7_way_105 ?_
                        refine lv_topi (fun v42 ev42 => ?_)
                        refine lv_iconst (v := -1) hx hb dX7_way_106 (by decide) ?_
                        refine lv_icmp_ne (tgt := 155) hx hb dX7_way_107 (by decide) (fun c43 => ?_) (fun c43 => ?_)
                        · obtain ⟨v44, ev44⟩ : ∃ y9 : Int32, y9 = (nI j) + Int32.ofInt (1) := ⟨_, rfl⟩
                          refine lv_iinc (v := v44) (lv' := [(8, .int v44), (7, .int 12), (6, .int (nI (nd))), (5, .int (nI q1)), (4, .int (nI mn)), (0, .ref y), (2, .int (nI b2)), (3, .int its)]) hx hb dX7_way_155 hl (k := 0) rfl ev44.symm (by decide) rfl (fun ls hl => ?_)
                          obtain rfl : v44 = nI (j + 1) := nI_plus (i := j) (j := 1) ev44 rfl (by decide)
                          refine lv_goto (tgt := 89) hx hb dX7_way_158 (by decide) ?_
                          exact ih89k35 (j + 1) mn x37 x38 (by omega) (by omega) (by omega) (hJ) (hqd) (by omega) _ _ _ hP hS (lv_sub hl [0, 1, 2, 3, 4, 5, 6, 7] rfl)
                        · refine lv_aload_n hx hb dX7_way_110 rfl (lv_at hl 5 rfl) ?_
                          refine lv_iload hx hb dX7_way_111 (lv_at hl 0 rfl) ?_
                          refine lv_iload_n hx hb dX7_way_113 rfl (lv_at hl 7 rfl) ?_
                          refine rdV (rest := []) (q0 := 0) ⟨hx, hb, hml, hown, hts⟩ (m_X7_isNode l G y b f (up2 (up2 r 22 x37) 23 x38) j its  (by omega)) mi_yX7_isNode mv_yX7_isNode ml_X7_198 ⟨rfl, rfl, Nat.le_of_ble_eq_true rfl, Nat.le_of_ble_eq_true rfl⟩ hK (hP) rfl rfl rfl hl.1 rfl (Nat.le_of_ble_eq_true rfl) dX7_way_114 ⟨Nat.zero_le _, Nat.zero_le _⟩ hS hA hP (fun r45 H locs hr45 hP hS => ?_)
                          have hr45 : (r45 = 0 ∨ r45 = 1) := hr45
                          refine lv_if_eq (tgt := 155) hx hb dX7_way_117 (by decide) (fun c46 => ?_) (fun c46 => ?_)
                          · obtain ⟨v47, ev47⟩ : ∃ y9 : Int32, y9 = (nI j) + Int32.ofInt (1) := ⟨_, rfl⟩
                            refine lv_iinc (v := v47) (lv' := [(8, .int v47), (7, .int 12), (6, .int (nI (nd))), (5, .int (nI q1)), (4, .int (nI mn)), (0, .ref y), (2, .int (nI b2)), (3, .int its)]) hx hb dX7_way_155 hl (k := 0) rfl ev47.symm (by decide) rfl (fun ls hl => ?_)
                            obtain rfl : v47 = nI (j + 1) := nI_plus (i := j) (j := 1) ev47 rfl (by decide)
                            refine lv_goto (tgt := 89) hx hb dX7_way_158 (by decide) ?_
                            exact ih89k35 (j + 1) mn x37 x38 (by omega) (by omega) (by omega) (hJ) (hqd) (by omega) _ _ _ hP hS (lv_sub hl [0, 1, 2, 3, 4, 5, 6, 7] rfl)
                          · refine lv_aload_n hx hb dX7_way_120 rfl (lv_at hl 5 rfl) ?_
                            refine lv_iload hx hb dX7_way_121 (lv_at hl 2 rfl) ?_
                            refine lv_iload hx hb dX7_way_123 (lv_at hl 0 rfl) ?_
                            refine rdV (rest := []) (q0 := 0) ⟨hx, hb, hml, hown, hts⟩ (m_X7_room l G y b f (up2 (up2 r 22 x37) 23 x38) (nd) j  (by unfold bip; omega)) mi_yX7_room mv_yX7_room ml_X7_201 ⟨rfl, rfl, Nat.le_of_ble_eq_true rfl, Nat.le_of_ble_eq_true rfl⟩ hK (hP) rfl rfl rfl hl.1 rfl (Nat.le_of_ble_eq_true rfl) dX7_way_125 ⟨Nat.zero_le _, Nat.zero_le _⟩ hS hA hP (fun r48 H locs hr48 hP hS => ?_)
                            obtain rfl := hr48
                            refine lv_if_gt (tgt := 134) hx hb dX7_way_128 (by decide) (fun c49 => ?_) (fun c49 => ?_)
                            · have hlt24 := wJ_lt hJ (show j < 24 by omega) (ev42.symm.trans c43)
                              refine lv_aload_n hx hb dX7_way_134 rfl (lv_at hl 5 rfl) ?_
                              refine va_get (D := G.1) (ci := 7) (v := .ref (b 22)) (C := RX7) (T := TX7) (N := 43) hx hb hts inX7 hown hK.1 hP 0 rfl rfl 22 (by decide) (hts _ mf_X7_68) (fun _ h9 => h9) rfl dX7_way_135 ?_
                              refine lv_iload hx hb dX7_way_138 (lv_at hl 0 rfl) ?_
                              refine lv_iload hx hb dX7_way_140 (lv_at hl 2 rfl) ?_
                              refine xiast (f := x37) (x := (nI (nd))) hx hb hK hP (hDD _ _) hS 20 (j) (rfl) (by omega) (by decide) rfl dX7_way_142 (fun H locs hP _ hS => ?_)
                              have hP : PP G (mM G y b f (up2 (up2 r 22 (upd x37 (j) ((nI (nd))))) 23 x38)) H := hP
                              refine lv_aload_n hx hb dX7_way_143 rfl (lv_at hl 5 rfl) ?_
                              refine va_get (D := G.1) (ci := 7) (v := .ref (b 23)) (C := RX7) (T := TX7) (N := 43) hx hb hts inX7 hown hK.1 hP 0 rfl rfl 23 (by decide) (hts _ mf_X7_71) (fun _ h9 => h9) rfl dX7_way_144 ?_
                              refine lv_iload hx hb dX7_way_147 (lv_at hl 4 rfl) ?_
                              refine lv_iload hx hb dX7_way_149 (lv_at hl 0 rfl) ?_
                              refine xiast (f := x38) (x := (nI j)) hx hb hK hP (hDD _ _) hS 21 (mn) (rfl) (by omega) (by decide) rfl dX7_way_151 (fun H locs hP _ hS => ?_)
                              have hP : PP G (mM G y b f (up2 (up2 r 22 (upd x37 (j) ((nI (nd))))) 23 (upd x38 (mn) ((nI j))))) H := hP
                              have hJ := wJ_s hJ hqd.1 hqd.2 hnd (show j < 24 by omega) (ev42.symm.trans c43) ⟨by unfold bip; omega, c49⟩ (by decide)
                              have hqd := And.intro (show q1 < mn + 1 by omega) ((pk_un (f := x38) (x := nI j) (show q1 ≠ mn by omega)).trans hqd.2)
                              obtain ⟨v50, ev50⟩ : ∃ y9 : Int32, y9 = (nI mn) + Int32.ofInt (1) := ⟨_, rfl⟩
                              refine lv_iinc (v := v50) (lv' := [(4, .int v50), (8, .int (nI j)), (7, .int 12), (6, .int (nI (nd))), (5, .int (nI q1)), (0, .ref y), (2, .int (nI b2)), (3, .int its)]) hx hb dX7_way_152 hl (k := 4) rfl ev50.symm (by decide) rfl (fun ls hl => ?_)
                              obtain rfl : v50 = nI (mn + 1) := nI_plus (i := mn) (j := 1) ev50 rfl (by decide)
                              obtain ⟨v51, ev51⟩ : ∃ y9 : Int32, y9 = (nI j) + Int32.ofInt (1) := ⟨_, rfl⟩
                              refine lv_iinc (v := v51) (lv' := [(8, .int v51), (4, .int (nI (mn + 1))), (7, .int 12), (6, .int (nI (nd))), (5, .int (nI q1)), (0, .ref y), (2, .int (nI b2)), (3, .int its)]) hx hb dX7_way_155 hl (k := 1) rfl ev51.symm (by decide) rfl (fun ls hl => ?_)
                              obtain rfl : v51 = nI (j + 1) := nI_plus (i := j) (j := 1) ev51 rfl (by decide)
                              refine lv_goto (tgt := 89) hx hb dX7_way_158 (by decide) ?_
                              exact ih89k35 (j + 1) (mn + 1) (upd x37 (j) ((nI (nd)))) (upd x38 (mn) ((nI j))) (by omega) (by omega) (by omega) (hJ) (hqd) (by omega) _ _ _ hP hS (lv_sub hl [0, 2, 3, 4, 1, 5, 6, 7] rfl)
                            · refine lv_goto (tgt := 155) hx hb dX7_way_131 (by decide) ?_
                              obtain ⟨v52, ev52⟩ : ∃ y9 : Int32, y9 = (nI j) + Int32.ofInt (1) := ⟨_, rfl⟩
                              refine lv_iinc (v := v52) (lv' := [(8, .int v52), (7, .int 12), (6, .int (nI (nd))), (5, .int (nI q1)), (4, .int (nI mn)), (0, .ref y), (2, .int (nI b2)), (3, .int its)]) hx hb dX7_way_155 hl (k := 0) rfl ev52.symm (by decide) rfl (fun ls hl => ?_)
                              obtain rfl : v52 = nI (j + 1) := nI_plus (i := j) (j := 1) ev52 rfl (by decide)
                              refine lv_goto (tgt := 89) hx hb dX7_way_158 (by decide) ?_
                              exact ih89k35 (j + 1) mn x37 x38 (by omega) (by omega) (by omega) (hJ) (hqd) (by omega) _ _ _ hP hS (lv_sub hl [0, 1, 2, 3, 4, 5, 6, 7] rfl)
                  exact loop89 (24 + 1) 12 mn x6 x7 (by omega) (by omega) (by omega) (hJ) (⟨b48, end_⟩) (by omega) _ _ _ hP hS (lv_sub hl [0, 1, 2, 3, 4, 5, 6, 7] rfl)
        exact loop44 (24 + 1) 0 1 (upd x2 (a) ((nI a))) (upd (r 23) (0) ((nI a))) (by omega) (by omega) (by omega) (hJ) _ _ _ hP hS (lv_sub hl [0, 1, 2, 4, 5] rfl)
      · have b7 := qge_f (a := i) (b := 24) (by omega) (by omega) c3
        refine lv_aload_n hx hb dX7_way_10 rfl (lv_at hl 1 rfl) ?_
        refine va_get (D := G.1) (ci := 7) (v := .ref (b 22)) (C := RX7) (T := TX7) (N := 43) hx hb hts inX7 hown hK.1 hP 0 rfl rfl 22 (by decide) (hts _ mf_X7_68) (fun _ h9 => h9) rfl dX7_way_11 ?_
        refine lv_iload hx hb dX7_way_14 (lv_at hl 0 rfl) ?_
        refine lv_iconst (v := -1) hx hb dX7_way_16 (by decide) ?_
        refine xiast (f := x2) (x := (-1)) hx hb hK hP (hDD _ _) hS 20 (i) (rfl) (by omega) (by decide) rfl dX7_way_17 (fun H locs hP _ hS => ?_)
        have hP : PP G (mM G y b f (up2 r 22 (upd x2 (i) ((-1))))) H := hP
        obtain ⟨v53, ev53⟩ : ∃ y9 : Int32, y9 = (nI i) + Int32.ofInt (1) := ⟨_, rfl⟩
        refine lv_iinc (v := v53) (lv' := [(4, .int v53), (0, .ref y), (1, .int (nI a)), (2, .int (nI b2)), (3, .int its)]) hx hb dX7_way_18 hl (k := 0) rfl ev53.symm (by decide) rfl (fun ls hl => ?_)
        obtain rfl : v53 = nI (i + 1) := nI_plus (i := i) (j := 1) ev53 rfl (by decide)
        refine lv_goto (tgt := 3) hx hb dX7_way_21 (by decide) ?_
        exact ih3k1 (i + 1) (upd x2 (i) ((-1))) (by omega) (by omega) (fr_s hfr) _ _ _ hP hS (lv_sub hl [0, 1, 2, 3, 4] rfl)
  exact loop3 (24 + 1) 0 (r 22) (by omega) (by omega) (fun n h => absurd h (Nat.not_lt_zero n)) _ _ _ hP hS (lv_sub hl [0, 1, 2, 3, 4] rfl)
theorem push_e (mo : Int32) : (mo.toInt - (0 : Int32).toInt).toNat < 2147483648 := by
  have h := Int32.toInt_lt mo
  rw [show (0 : Int32).toInt = 0 by decide]
  omega
set_option maxHeartbeats 4000000 in
set_option maxRecDepth 100000 in
theorem m_X7_push (l : Launch) (G : GG) (y : Nat) (b : Nat → Nat) (f : Nat → Int32) (r : Nat → Nat → Int32) (a : Nat) (b2 : Nat) (its : Int32) (mo : Int32) (ha : a < 24) (hb2 : b2 < 24) : WrI l yX7_push cX7_push 10 (some .int) ({ frames := 2, cells := 0, slots := 0, locals := 51 }) G (mM G y b f r) [.ref y, .int (nI a), .int (nI b2), .int its, .int mo] (fun q w => ∃ (n_r_15 : Nat → Int32) (n_r_22 : Nat → Int32) (n_r_23 : Nat → Int32), w = mM G y b f (up2 (up2 (up2 r 15 n_r_15) 22 n_r_22) 23 n_r_23)) := by
  refine wr_entryI (by decide +kernel) (Nat.le_of_ble_eq_true rfl) ?_
  intro p e s m below meth c A C0 hP hK hD hA ls hl
  have hS : va_S A s.heap s.heap [] := va_S.rf
  obtain ⟨hx, hb, hml, hown, hts, hr, hlocks, hin⟩ := C0
  have hown : s.vm.findClass RX7 = some m.cls := hown
  have hDD : ∀ f' r', va_D A (mM G y b f' r') := fun f' r' => D_same hD rfl
  have hl : lv_has ls 10 [(0, .ref y), (1, .int (nI a)), (2, .int (nI b2)), (3, .int its), (4, .int mo)] := hl
  refine lv_iconst (v := 0) hx hb dX7_push_0 (by decide) ?_
  refine lv_istore (lv' := [(5, .int 0), (0, .ref y), (1, .int (nI a)), (2, .int (nI b2)), (3, .int its), (4, .int mo)]) hx hb dX7_push_1 hl (by decide) rfl (fun ls hl => ?_)
  have loop3 : ∀ (k1 : Nat) (z3 : Int32) (x4 : Nat → Int32) (x5 : Nat → Int32) (x6 : Nat → Int32), (mo.toInt - (z3 : Int32).toInt).toNat < k1 → (¬ (z3 : Int32) < 0) → ∀ (H : Heap) (locs : List Loc) (ls : Array Slot), PP G (mM G y b f (up2 (up2 (up2 r 15 x4) 22 x5) 23 x6)) H → va_S A s.heap H locs → lv_has ls 10 [(5, .int z3), (0, .ref y), (1, .int (nI a)), (2, .int (nI b2)), (3, .int its), (4, .int mo)] → W p l e ({ frames := 2, cells := 0, slots := 0, locals := 51 }) s m ([.ref y, .int (nI a), .int (nI b2), .int its, .int mo] : List Value).toArray below meth c H locs 0 0 (MQ below (QwI G (fun q w => ∃ (n_r_15 : Nat → Int32) (n_r_22 : Nat → Int32) (n_r_23 : Nat → Int32), w = mM G y b f (up2 (up2 (up2 r 15 n_r_15) 22 n_r_22) 23 n_r_23)) A) ([.ref y, .int (nI a), .int (nI b2), .int its, .int mo] : List Value).toArray s 0 0 A) (F0 m 3 ls []) := by
    intro k1
    induction k1 with
    | zero => intro z3 x4 x5 x6 h1; exact absurd h1 (Nat.not_lt_zero _)
    | succ k1 ih3k1 =>
      intro  z3 x4 x5 x6 hm_k1 hd0 H locs ls hP hS hl
      refine lv_iload hx hb dX7_push_3 (lv_at hl 0 rfl) ?_
      refine lv_iload hx hb dX7_push_5 (lv_at hl 5 rfl) ?_
      refine lv_icmp_ge (tgt := 167) hx hb dX7_push_7 (by decide) (fun c7 => ?_) (fun c7 => ?_)
      · refine lv_iload hx hb dX7_push_167 (lv_at hl 0 rfl) ?_
        exact wr_iret hx hb hr hlocks hS hP ⟨x4, x5, x6, rfl⟩ dX7_push_169
      · refine lv_aload_n hx hb dX7_push_10 rfl (lv_at hl 1 rfl) ?_
        refine lv_iload_n hx hb dX7_push_11 rfl (lv_at hl 2 rfl) ?_
        refine lv_iload_n hx hb dX7_push_12 rfl (lv_at hl 3 rfl) ?_
        refine lv_iload_n hx hb dX7_push_13 rfl (lv_at hl 4 rfl) ?_
        refine wrVIa (rest := []) (q0 := 0) ⟨hx, hb, hml, hown, hts⟩ (m_X7_way l G y b f (up2 (up2 (up2 r 15 x4) 22 x5) 23 x6) a b2 its  (by omega) (by omega)) mi_yX7_way mv_yX7_way ml_X7_204 ⟨rfl, rfl, Nat.le_of_ble_eq_true rfl, Nat.le_of_ble_eq_true rfl⟩ hK hP (hDD _ _) rfl rfl rfl hl.1 rfl (Nat.le_of_ble_eq_true rfl) dX7_push_14 ⟨Nat.zero_le _, Nat.zero_le _⟩ hS hA (fun r8 w9 H locs hw9 hP hS => ?_)
        obtain ⟨x10, x11, rfl, hw9r⟩ := hw9
        have hP : PP G (mM G y b f (up2 (up2 (up2 r 15 x4) 22 x10) 23 x11)) H := hP
        have hw9r : (r8 = 0 ∨ (r8 = 1 ∧ wayP (adjM (r 19) (r 17) (r 16) x4) a b2 x10 x11)) := hw9r
        refine lv_if_eq (tgt := 167) hx hb dX7_push_17 (by decide) (fun c12 => ?_) (fun c12 => ?_)
        · refine lv_iload hx hb dX7_push_167 (lv_at hl 0 rfl) ?_
          exact wr_iret hx hb hr hlocks hS hP ⟨x4, x10, x11, rfl⟩ dX7_push_169
        · obtain ⟨-, mn, hJ, ps0, hps0, eps0⟩ := hw9r.resolve_left c12
          refine lv_iload hx hb dX7_push_20 (lv_at hl 5 rfl) ?_
          refine lv_iload hx hb dX7_push_22 (lv_at hl 0 rfl) ?_
          refine lv_isub hx hb dX7_push_24 ?_
          refine lv_topi (fun v13 ev13 => ?_)
          refine lv_istore (lv' := [(6, .int v13), (5, .int z3), (0, .ref y), (1, .int (nI a)), (2, .int (nI b2)), (3, .int its), (4, .int mo)]) hx hb dX7_push_25 hl (by decide) rfl (fun ls hl => ?_)
          refine lv_iload_n hx hb dX7_push_27 rfl (lv_at hl 4 rfl) ?_
          refine lv_istore (lv' := [(7, .int (nI b2)), (6, .int v13), (5, .int z3), (0, .ref y), (1, .int (nI a)), (2, .int (nI b2)), (3, .int its), (4, .int mo)]) hx hb dX7_push_28 hl (by decide) rfl (fun ls hl => ?_)
          have loop30 : ∀ (k14 : Nat) (y7 : Nat) (z17 : Int32) (ps : Nat), ps < k14 → (y7 < 24) → (ps < mn ∧ x11 ps = nI y7) → (0 < (z17 : Int32) ∧ (z17 : Int32) ≤ mo - (z3 : Int32)) → ∀ (H : Heap) (locs : List Loc) (ls : Array Slot), PP G (mM G y b f (up2 (up2 (up2 r 15 x4) 22 x10) 23 x11)) H → va_S A s.heap H locs → lv_has ls 10 [(7, .int (nI y7)), (6, .int z17), (5, .int z3), (0, .ref y), (1, .int (nI a)), (2, .int (nI b2)), (3, .int its), (4, .int mo)] → W p l e ({ frames := 2, cells := 0, slots := 0, locals := 51 }) s m ([.ref y, .int (nI a), .int (nI b2), .int its, .int mo] : List Value).toArray below meth c H locs 0 0 (MQ below (QwI G (fun q w => ∃ (n_r_15 : Nat → Int32) (n_r_22 : Nat → Int32) (n_r_23 : Nat → Int32), w = mM G y b f (up2 (up2 (up2 r 15 n_r_15) 22 n_r_22) 23 n_r_23)) A) ([.ref y, .int (nI a), .int (nI b2), .int its, .int mo] : List Value).toArray s 0 0 A) (F0 m 30 ls []) := by
            intro k14
            induction k14 with
            | zero => intro y7 z17 ps h1; exact absurd h1 (Nat.not_lt_zero _)
            | succ k14 ih30k14 =>
              intro  y7 z17 ps hm_k14 gy7 hps hn H locs ls hP hS hl
              refine lv_iload hx hb dX7_push_30 (lv_at hl 0 rfl) ?_
              refine lv_iload_n hx hb dX7_push_32 rfl (lv_at hl 4 rfl) ?_
              refine lv_icmp_eq (tgt := 68) hx hb dX7_push_33 (by decide) (fun c18 => ?_) (fun c18 => ?_)
              · have b33 := qeq_t (a := y7) (b := a) (by omega) (by omega) c18
                refine lv_iload_n hx hb dX7_push_68 rfl (lv_at hl 5 rfl) ?_
                refine lv_istore (lv' := [(7, .int (nI b2)), (6, .int z17), (5, .int z3), (0, .ref y), (1, .int (nI a)), (2, .int (nI b2)), (3, .int its), (4, .int mo)]) hx hb dX7_push_69 hl (by decide) rfl (fun ls hl => ?_)
                have loop71 : ∀ (k19 : Nat) (y7 : Nat) (ps : Nat) (x22 : Nat → Int32), ps < k19 → (y7 < 24) → (ps < mn ∧ x11 ps = nI y7) → ∀ (H : Heap) (locs : List Loc) (ls : Array Slot), PP G (mM G y b f (up2 (up2 (up2 r 15 x22) 22 x10) 23 x11)) H → va_S A s.heap H locs → lv_has ls 10 [(7, .int (nI y7)), (6, .int z17), (5, .int z3), (0, .ref y), (1, .int (nI a)), (2, .int (nI b2)), (3, .int its), (4, .int mo)] → W p l e ({ frames := 2, cells := 0, slots := 0, locals := 51 }) s m ([.ref y, .int (nI a), .int (nI b2), .int its, .int mo] : List Value).toArray below meth c H locs 0 0 (MQ below (QwI G (fun q w => ∃ (n_r_15 : Nat → Int32) (n_r_22 : Nat → Int32) (n_r_23 : Nat → Int32), w = mM G y b f (up2 (up2 (up2 r 15 n_r_15) 22 n_r_22) 23 n_r_23)) A) ([.ref y, .int (nI a), .int (nI b2), .int its, .int mo] : List Value).toArray s 0 0 A) (F0 m 71 ls []) := by
                  intro k19
                  induction k19 with
                  | zero => intro y7 ps x22 h1; exact absurd h1 (Nat.not_lt_zero _)
                  | succ k19 ih71k19 =>
                    intro  y7 ps x22 hm_k19 gy7 hps H locs ls hP hS hl
                    refine lv_iload hx hb dX7_push_71 (lv_at hl 0 rfl) ?_
                    refine lv_iload_n hx hb dX7_push_73 rfl (lv_at hl 4 rfl) ?_
                    refine lv_icmp_eq (tgt := 157) hx hb dX7_push_74 (by decide) (fun c23 => ?_) (fun c23 => ?_)
                    · have b74 := qeq_t (a := y7) (b := a) (by omega) (by omega) c23
                      refine lv_iload hx hb dX7_push_157 (lv_at hl 2 rfl) ?_
                      refine lv_iload hx hb dX7_push_159 (lv_at hl 1 rfl) ?_
                      refine lv_iadd hx hb dX7_push_161 ?_
                      refine lv_topi (fun v24 ev24 => ?_)
                      refine lv_istore (lv' := [(5, .int v24), (7, .int (nI y7)), (6, .int z17), (0, .ref y), (1, .int (nI a)), (2, .int (nI b2)), (3, .int its), (4, .int mo)]) hx hb dX7_push_162 hl (by decide) rfl (fun ls hl => ?_)
                      refine lv_goto (tgt := 3) hx hb dX7_push_164 (by decide) ?_
                      exact ih3k1 v24 x22 x10 x11 (by have h9 := (push_s hd0 c7 hn.1 hn.2).2; rw [← ev24] at h9; omega) (by have h9 := (push_s hd0 c7 hn.1 hn.2).1; rw [← ev24] at h9; exact h9) _ _ _ hP hS (lv_sub hl [0, 3, 4, 5, 6, 7] rfl)
                    · have b74 := qeq_f (a := y7) (b := a) (by omega) (by omega) c23
                      obtain ⟨ps2, u7, hps2, hu7, eq7, ef7, hadj⟩ := wJ_up hJ hps.1 hps.2 gy7 b74 (by decide)
                      have hbp := hadj.1
                      unfold bip at hbp
                      refine lv_aload_n hx hb dX7_push_77 rfl (lv_at hl 3 rfl) ?_
                      refine va_get (D := G.1) (ci := 7) (v := .ref (b 22)) (C := RX7) (T := TX7) (N := 43) hx hb hts inX7 hown hK.1 hP 0 rfl rfl 22 (by decide) (hts _ mf_X7_68) (fun _ h9 => h9) rfl dX7_push_78 ?_
                      refine lv_iload hx hb dX7_push_81 (lv_at hl 0 rfl) ?_
                      refine xiald (f := x10) hx hb hK hP 20 (y7) (rfl) (by omega) (by decide) rfl dX7_push_83 ?_
                      refine lv_topi (fun v25 ev25 => ?_)
                      obtain rfl : v25 = nI (u7) := ev25.trans (ef7)
                      refine lv_istore (lv' := [(8, .int (nI (u7))), (7, .int (nI y7)), (6, .int z17), (5, .int z3), (0, .ref y), (1, .int (nI a)), (2, .int (nI b2)), (3, .int its), (4, .int mo)]) hx hb dX7_push_84 hl (by decide) rfl (fun ls hl => ?_)
                      refine lv_iload hx hb dX7_push_86 (lv_at hl 0 rfl) ?_
                      refine lv_bipush (v := 12) hx hb dX7_push_88 (by decide) ?_
                      have j118_26 : ∀ (z26 : Nat) (gz26 : z26 < 144) (H : Heap) (locs : List Loc) (ls : Array Slot), PP G (mM G y b f (up2 (up2 (up2 r 15 x22) 22 x10) 23 x11)) H → va_S A s.heap H locs → lv_has ls 10 [(8, .int (nI (u7))), (7, .int (nI y7)), (6, .int z17), (5, .int z3), (0, .ref y), (1, .int (nI a)), (2, .int (nI b2)), (3, .int its), (4, .int mo)] → W p l e ({ frames := 2, cells := 0, slots := 0, locals := 51 }) s m ([.ref y, .int (nI a), .int (nI b2), .int its, .int mo] : List Value).toArray below meth c H locs 0 0 (MQ below (QwI G (fun q w => ∃ (n_r_15 : Nat → Int32) (n_r_22 : Nat → Int32) (n_r_23 : Nat → Int32), w = mM G y b f (up2 (up2 (up2 r 15 n_r_15) 22 n_r_22) 23 n_r_23)) A) ([.ref y, .int (nI a), .int (nI b2), .int its, .int mo] : List Value).toArray s 0 0 A) (F0 m 118 ls [.int (nI z26)]) := by
                        intro z26 gz26 H locs ls hP hS hl
                        refine lv_istore (lv' := [(9, .int (nI z26)), (8, .int (nI (u7))), (7, .int (nI y7)), (6, .int z17), (5, .int z3), (0, .ref y), (1, .int (nI a)), (2, .int (nI b2)), (3, .int its), (4, .int mo)]) hx hb dX7_push_118 hl (by decide) rfl (fun ls hl => ?_)
                        refine lv_aload_n hx hb dX7_push_120 rfl (lv_at hl 5 rfl) ?_
                        refine va_get (D := G.1) (ci := 7) (v := .ref (b 15)) (C := RX7) (T := TX7) (N := 43) hx hb hts inX7 hown hK.1 hP 0 rfl rfl 15 (by decide) (hts _ mf_X7_53) (fun _ h9 => h9) rfl dX7_push_121 ?_
                        refine lv_iload hx hb dX7_push_124 (lv_at hl 0 rfl) ?_
                        refine lv_dup2_11 hx hb dX7_push_126 rfl rfl ?_
                        refine xiald (f := x22) hx hb hK hP 15 (z26) (rfl) (by omega) (by decide) rfl dX7_push_127 ?_
                        refine lv_topi (fun v27 ev27 => ?_)
                        refine lv_iload hx hb dX7_push_128 (lv_at hl 1 rfl) ?_
                        refine lv_bipush (v := 12) hx hb dX7_push_130 (by decide) ?_
                        have j143_28 : ∀ (z28 : Int32) (H : Heap) (locs : List Loc) (ls : Array Slot), PP G (mM G y b f (up2 (up2 (up2 r 15 x22) 22 x10) 23 x11)) H → va_S A s.heap H locs → lv_has ls 10 [(7, .int (nI y7)), (6, .int z17), (5, .int z3), (0, .ref y), (1, .int (nI a)), (2, .int (nI b2)), (3, .int its), (4, .int mo)] → W p l e ({ frames := 2, cells := 0, slots := 0, locals := 51 }) s m ([.ref y, .int (nI a), .int (nI b2), .int its, .int mo] : List Value).toArray below meth c H locs 0 0 (MQ below (QwI G (fun q w => ∃ (n_r_15 : Nat → Int32) (n_r_22 : Nat → Int32) (n_r_23 : Nat → Int32), w = mM G y b f (up2 (up2 (up2 r 15 n_r_15) 22 n_r_22) 23 n_r_23)) A) ([.ref y, .int (nI a), .int (nI b2), .int its, .int mo] : List Value).toArray s 0 0 A) (F0 m 143 ls [.int z28, .int v27, .int (nI z26), .ref (b 15)]) := by
                          intro z28  H locs ls hP hS hl
                          refine lv_iadd hx hb dX7_push_143 ?_
                          refine lv_topi (fun v29 ev29 => ?_)
                          refine xiast (f := x22) (x := v29) hx hb hK hP (hDD _ _) hS 15 (z26) (rfl) (by omega) (by decide) rfl dX7_push_144 (fun H locs hP _ hS => ?_)
                          have hP : PP G (mM G y b f (up2 (up2 (up2 r 15 (upd x22 (z26) (v29))) 22 x10) 23 x11)) H := hP
                          refine lv_aload_n hx hb dX7_push_145 rfl (lv_at hl 3 rfl) ?_
                          refine va_get (D := G.1) (ci := 7) (v := .ref (b 22)) (C := RX7) (T := TX7) (N := 43) hx hb hts inX7 hown hK.1 hP 0 rfl rfl 22 (by decide) (hts _ mf_X7_68) (fun _ h9 => h9) rfl dX7_push_146 ?_
                          refine lv_iload hx hb dX7_push_149 (lv_at hl 0 rfl) ?_
                          refine xiald (f := x10) hx hb hK hP 20 (y7) (rfl) (by omega) (by decide) rfl dX7_push_151 ?_
                          refine lv_topi (fun v30 ev30 => ?_)
                          obtain rfl : v30 = nI (u7) := ev30.trans (ef7)
                          refine lv_istore (lv' := [(7, .int (nI (u7))), (6, .int z17), (5, .int z3), (0, .ref y), (1, .int (nI a)), (2, .int (nI b2)), (3, .int its), (4, .int mo)]) hx hb dX7_push_152 hl (by decide) rfl (fun ls hl => ?_)
                          refine lv_goto (tgt := 71) hx hb dX7_push_154 (by decide) ?_
                          exact ih71k19 (u7) ps2 (upd x22 (z26) (v29)) (by omega) (by omega) (⟨by omega, eq7⟩) _ _ _ hP hS (lv_sub hl [0, 1, 2, 3, 4, 5, 6, 7] rfl)
                        refine lv_icmp_ge (tgt := 140) hx hb dX7_push_132 (by decide) (fun c31 => ?_) (fun c31 => ?_)
                        · have b132 := qge_t (a := (u7)) (b := 12) (by omega) (by omega) c31
                          refine lv_iload hx hb dX7_push_140 (lv_at hl 3 rfl) ?_
                          refine lv_ineg hx hb dX7_push_142 ?_
                          refine lv_topi (fun v32 ev32 => ?_)
                          exact j143_28 v32 _ _ _ hP hS (lv_sub hl [2, 3, 4, 5, 6, 7, 8, 9] rfl)
                        · have b132 := qge_f (a := (u7)) (b := 12) (by omega) (by omega) c31
                          refine lv_iload hx hb dX7_push_135 (lv_at hl 3 rfl) ?_
                          refine lv_goto (tgt := 143) hx hb dX7_push_137 (by decide) ?_
                          exact j143_28 z17 _ _ _ hP hS (lv_sub hl [2, 3, 4, 5, 6, 7, 8, 9] rfl)
                      refine lv_icmp_ge (tgt := 107) hx hb dX7_push_90 (by decide) (fun c33 => ?_) (fun c33 => ?_)
                      · have b90 := qge_t (a := (u7)) (b := 12) (by omega) (by omega) c33
                        refine lv_bipush (v := 12) hx hb dX7_push_107 (by decide) ?_
                        refine lv_iload hx hb dX7_push_109 (lv_at hl 1 rfl) ?_
                        refine lv_imul hx hb dX7_push_111 ?_
                        refine lv_topi (fun v34 ev34 => ?_)
                        obtain rfl : v34 = nI (12 * y7) := nI_times ev34 rfl rfl
                        refine lv_iload hx hb dX7_push_112 (lv_at hl 0 rfl) ?_
                        refine lv_iadd hx hb dX7_push_114 ?_
                        refine lv_topi (fun v35 ev35 => ?_)
                        obtain rfl : v35 = nI ((12 * y7) + (u7)) := nI_plus ev35 rfl rfl
                        refine lv_bipush (v := 12) hx hb dX7_push_115 (by decide) ?_
                        refine lv_isub hx hb dX7_push_117 ?_
                        refine lv_topi (fun v36 ev36 => ?_)
                        obtain rfl : v36 = nI (((12 * y7) + (u7)) - 12) := nI_minus ev36 rfl rfl (by omega)
                        exact j118_26 (((12 * y7) + (u7)) - 12) (by omega) _ _ _ hP hS (lv_sub hl [0, 1, 2, 3, 4, 5, 6, 7, 8] rfl)
                      · have b90 := qge_f (a := (u7)) (b := 12) (by omega) (by omega) c33
                        refine lv_bipush (v := 12) hx hb dX7_push_93 (by decide) ?_
                        refine lv_iload hx hb dX7_push_95 (lv_at hl 0 rfl) ?_
                        refine lv_imul hx hb dX7_push_97 ?_
                        refine lv_topi (fun v37 ev37 => ?_)
                        obtain rfl : v37 = nI (12 * (u7)) := nI_times ev37 rfl rfl
                        refine lv_iload hx hb dX7_push_98 (lv_at hl 1 rfl) ?_
                        refine lv_iadd hx hb dX7_push_100 ?_
                        refine lv_topi (fun v38 ev38 => ?_)
                        obtain rfl : v38 = nI ((12 * (u7)) + y7) := nI_plus ev38 rfl rfl
                        refine lv_bipush (v := 12) hx hb dX7_push_101 (by decide) ?_
                        refine lv_isub hx hb dX7_push_103 ?_
                        refine lv_topi (fun v39 ev39 => ?_)
                        obtain rfl : v39 = nI (((12 * (u7)) + y7) - 12) := nI_minus ev39 rfl rfl (by omega)
                        refine lv_goto (tgt := 118) hx hb dX7_push_104 (by decide) ?_
                        exact j118_26 (((12 * (u7)) + y7) - 12) (by omega) _ _ _ hP hS (lv_sub hl [0, 1, 2, 3, 4, 5, 6, 7, 8] rfl)
                exact loop71 (ps0 + 1) b2 ps0 x4 (by omega) (by omega) (⟨hps0, eps0⟩) _ _ _ hP hS (lv_sub hl [0, 1, 2, 3, 4, 5, 6, 7] rfl)
              · have b33 := qeq_f (a := y7) (b := a) (by omega) (by omega) c18
                obtain ⟨ps2, u7, hps2, hu7, eq7, ef7, hadj⟩ := wJ_up hJ hps.1 hps.2 gy7 b33 (by decide)
                refine lv_iload hx hb dX7_push_36 (lv_at hl 1 rfl) ?_
                refine lv_aload_n hx hb dX7_push_38 rfl (lv_at hl 3 rfl) ?_
                refine lv_aload_n hx hb dX7_push_39 rfl (lv_at hl 3 rfl) ?_
                refine va_get (D := G.1) (ci := 7) (v := .ref (b 22)) (C := RX7) (T := TX7) (N := 43) hx hb hts inX7 hown hK.1 hP 0 rfl rfl 22 (by decide) (hts _ mf_X7_68) (fun _ h9 => h9) rfl dX7_push_40 ?_
                refine lv_iload hx hb dX7_push_43 (lv_at hl 0 rfl) ?_
                refine xiald (f := x10) hx hb hK hP 20 (y7) (rfl) (by omega) (by decide) rfl dX7_push_45 ?_
                refine lv_topi (fun v40 ev40 => ?_)
                obtain rfl : v40 = nI (u7) := ev40.trans (ef7)
                refine lv_iload hx hb dX7_push_46 (lv_at hl 0 rfl) ?_
                refine rdV (rest := [.int z17]) (q0 := 0) ⟨hx, hb, hml, hown, hts⟩ (m_X7_room l G y b f (up2 (up2 (up2 r 15 x4) 22 x10) 23 x11) (u7) y7  hadj.1) mi_yX7_room mv_yX7_room ml_X7_201 ⟨rfl, rfl, Nat.le_of_ble_eq_true rfl, Nat.le_of_ble_eq_true rfl⟩ hK (hP) rfl rfl rfl hl.1 rfl (Nat.le_of_ble_eq_true rfl) dX7_push_48 ⟨Nat.zero_le _, Nat.zero_le _⟩ hS hA hP (fun r41 H locs hr41 hP hS => ?_)
                obtain rfl := hr41
                refine va_mmin hx hb (hml.trans hl.1.symm) hown (hts _ ml_X7_207) (hts _ mst_yJ9_min_7cf53) (hts _ mz_RJ9) (hts _ mcode_yJ9_min_7cf53) (Nat.le_of_ble_eq_true rfl) (Nat.le_of_ble_eq_true rfl) (Nat.zero_le _) (Nat.zero_le _) dX7_push_51 ?_
                refine lv_topi (fun v42 ev42 => ?_)
                have hn := min_s hn hadj.2 ev42
                refine lv_istore (lv' := [(6, .int v42), (7, .int (nI y7)), (5, .int z3), (0, .ref y), (1, .int (nI a)), (2, .int (nI b2)), (3, .int its), (4, .int mo)]) hx hb dX7_push_54 hl (by decide) rfl (fun ls hl => ?_)
                refine lv_aload_n hx hb dX7_push_56 rfl (lv_at hl 3 rfl) ?_
                refine va_get (D := G.1) (ci := 7) (v := .ref (b 22)) (C := RX7) (T := TX7) (N := 43) hx hb hts inX7 hown hK.1 hP 0 rfl rfl 22 (by decide) (hts _ mf_X7_68) (fun _ h9 => h9) rfl dX7_push_57 ?_
                refine lv_iload hx hb dX7_push_60 (lv_at hl 1 rfl) ?_
                refine xiald (f := x10) hx hb hK hP 20 (y7) (rfl) (by omega) (by decide) rfl dX7_push_62 ?_
                refine lv_topi (fun v43 ev43 => ?_)
                obtain rfl : v43 = nI (u7) := ev43.trans (ef7)
                refine lv_istore (lv' := [(7, .int (nI (u7))), (6, .int v42), (5, .int z3), (0, .ref y), (1, .int (nI a)), (2, .int (nI b2)), (3, .int its), (4, .int mo)]) hx hb dX7_push_63 hl (by decide) rfl (fun ls hl => ?_)
                refine lv_goto (tgt := 30) hx hb dX7_push_65 (by decide) ?_
                exact ih30k14 (u7) v42 ps2 (by omega) (by omega) (⟨by omega, eq7⟩) (hn) _ _ _ hP hS (lv_sub hl [0, 1, 2, 3, 4, 5, 6, 7] rfl)
          exact loop30 (ps0 + 1) b2 v13 ps0 (by omega) (by omega) (⟨hps0, eps0⟩) (by rw [ev13]; exact ⟨push_0 hd0 c7, Int32.le_refl _⟩) _ _ _ hP hS (lv_sub hl [0, 1, 2, 3, 4, 5, 6, 7] rfl)
  exact loop3 2147483648 0 (r 15) (r 22) (r 23) (push_e mo) (by decide) _ _ _ hP hS (lv_sub hl [0, 1, 2, 3, 4, 5] rfl)
set_option maxHeartbeats 4000000 in
set_option maxRecDepth 100000 in
theorem m_X7_settle (l : Launch) (G : GG) (y : Nat) (b : Nat → Nat) (f : Nat → Int32) (r : Nat → Nat → Int32) (i : Nat) (j : Nat) (up : Int32) (hi : i < 12) (hj : j < 12) : WrV l yX7_settle cX7_settle 6 ({ frames := 3, cells := 0, slots := 0, locals := 80 }) G (mM G y b f r) [.ref y, .int (nI i), .int (nI j), .int up] (fun w => ∃ (n_r_15 : Nat → Int32) (n_r_19 : Nat → Int32) (n_r_22 : Nat → Int32) (n_r_23 : Nat → Int32), w = mM G y b f (up2 (up2 (up2 (up2 r 15 n_r_15) 19 n_r_19) 22 n_r_22) 23 n_r_23)) := by
  refine wr_entryV (by decide +kernel) (Nat.le_of_ble_eq_true rfl) ?_
  intro p e s m below meth c A C0 hP hK hD hA ls hl
  have hS : va_S A s.heap s.heap [] := va_S.rf
  obtain ⟨hx, hb, hml, hown, hts, hr, hlocks, hin⟩ := C0
  have hown : s.vm.findClass RX7 = some m.cls := hown
  have hDD : ∀ f' r', va_D A (mM G y b f' r') := fun f' r' => D_same hD rfl
  have hl : lv_has ls 6 [(0, .ref y), (1, .int (nI i)), (2, .int (nI j)), (3, .int up)] := hl
  refine lv_bipush (v := 12) hx hb dX7_settle_0 (by decide) ?_
  refine lv_iload_n hx hb dX7_settle_2 rfl (lv_at hl 1 rfl) ?_
  refine lv_imul hx hb dX7_settle_3 ?_
  refine lv_topi (fun v1 ev1 => ?_)
  obtain rfl : v1 = nI (12 * i) := nI_times ev1 rfl rfl
  refine lv_iload_n hx hb dX7_settle_4 rfl (lv_at hl 2 rfl) ?_
  refine lv_iadd hx hb dX7_settle_5 ?_
  refine lv_topi (fun v2 ev2 => ?_)
  obtain rfl : v2 = nI ((12 * i) + j) := nI_plus ev2 rfl rfl
  refine lv_istore (lv' := [(4, .int (nI ((12 * i) + j))), (0, .ref y), (1, .int (nI i)), (2, .int (nI j)), (3, .int up)]) hx hb dX7_settle_6 hl (by decide) rfl (fun ls hl => ?_)
  refine lv_aload_n hx hb dX7_settle_8 rfl (lv_at hl 1 rfl) ?_
  refine va_get (D := G.1) (ci := 7) (v := .ref (b 19)) (C := RX7) (T := TX7) (N := 43) hx hb hts inX7 hown hK.1 hP 0 rfl rfl 19 (by decide) (hts _ mf_X7_65) (fun _ h9 => h9) rfl dX7_settle_9 ?_
  refine lv_iload hx hb dX7_settle_12 (lv_at hl 0 rfl) ?_
  refine xzald (f := (r 19)) hx hb hK hP 19 (((12 * i) + j)) (rfl) (by omega) (by decide) rfl dX7_settle_14 ?_
  refine lv_topi (fun v3 ev3 => ?_)
  refine lv_if_ne (tgt := 19) hx hb dX7_settle_15 (by decide) (fun c4 => ?_) (fun c4 => ?_)
  · refine lv_aload_n hx hb dX7_settle_19 rfl (lv_at hl 1 rfl) ?_
    refine va_get (D := G.1) (ci := 7) (v := .ref (b 19)) (C := RX7) (T := TX7) (N := 43) hx hb hts inX7 hown hK.1 hP 0 rfl rfl 19 (by decide) (hts _ mf_X7_65) (fun _ h9 => h9) rfl dX7_settle_20 ?_
    refine lv_iload hx hb dX7_settle_23 (lv_at hl 0 rfl) ?_
    refine lv_iconst (v := 0) hx hb dX7_settle_25 (by decide) ?_
    refine xzast (f := (r 19)) (x := 0) hx hb hK hP (hDD _ _) hS 19 (((12 * i) + j)) (rfl) (by omega) (by decide) (Or.inl rfl) rfl dX7_settle_26 (fun H locs hP _ hS => ?_)
    have hP : PP G (mM G y b f (up2 r 19 (upd (r 19) (((12 * i) + j)) (0)))) H := hP
    refine lv_iload_n hx hb dX7_settle_27 rfl (lv_at hl 4 rfl) ?_
    have j94_8 : ∀ (z5 : Int32) (x6 : Nat → Int32) (x7 : Nat → Int32) (x8 : Nat → Int32) (H : Heap) (locs : List Loc) (ls : Array Slot), PP G (mM G y b f (up2 (up2 (up2 (up2 r 15 x6) 19 (upd (r 19) (((12 * i) + j)) (0))) 22 x7) 23 x8)) H → va_S A s.heap H locs → lv_has ls 6 [(4, .int (nI ((12 * i) + j))), (0, .ref y), (3, .int up)] → W p l e ({ frames := 3, cells := 0, slots := 0, locals := 80 }) s m ([.ref y, .int (nI i), .int (nI j), .int up] : List Value).toArray below meth c H locs 0 0 (MQ below (QwV G (fun w => ∃ (n_r_15 : Nat → Int32) (n_r_19 : Nat → Int32) (n_r_22 : Nat → Int32) (n_r_23 : Nat → Int32), w = mM G y b f (up2 (up2 (up2 (up2 r 15 n_r_15) 19 n_r_19) 22 n_r_22) 23 n_r_23)) A) ([.ref y, .int (nI i), .int (nI j), .int up] : List Value).toArray s 0 0 A) (F0 m 94 ls [.int z5]) := by
      intro z5 x6 x7 x8  H locs ls hP hS hl
      refine lv_istore (lv' := [(5, .int z5), (4, .int (nI ((12 * i) + j))), (0, .ref y), (3, .int up)]) hx hb dX7_settle_94 hl (by decide) rfl (fun ls hl => ?_)
      refine lv_aload_n hx hb dX7_settle_96 rfl (lv_at hl 2 rfl) ?_
      refine va_get (D := G.1) (ci := 7) (v := .ref (b 15)) (C := RX7) (T := TX7) (N := 43) hx hb hts inX7 hown hK.1 hP 0 rfl rfl 15 (by decide) (hts _ mf_X7_53) (fun _ h9 => h9) rfl dX7_settle_97 ?_
      refine lv_iload hx hb dX7_settle_100 (lv_at hl 1 rfl) ?_
      refine lv_dup2_11 hx hb dX7_settle_102 rfl rfl ?_
      refine xiald (f := x6) hx hb hK hP 15 (((12 * i) + j)) (rfl) (by omega) (by decide) rfl dX7_settle_103 ?_
      refine lv_topi (fun v9 ev9 => ?_)
      refine lv_iload_n hx hb dX7_settle_104 rfl (lv_at hl 3 rfl) ?_
      have j116_10 : ∀ (z10 : Int32) (H : Heap) (locs : List Loc) (ls : Array Slot), PP G (mM G y b f (up2 (up2 (up2 (up2 r 15 x6) 19 (upd (r 19) (((12 * i) + j)) (0))) 22 x7) 23 x8)) H → va_S A s.heap H locs → lv_has ls 6 [] → W p l e ({ frames := 3, cells := 0, slots := 0, locals := 80 }) s m ([.ref y, .int (nI i), .int (nI j), .int up] : List Value).toArray below meth c H locs 0 0 (MQ below (QwV G (fun w => ∃ (n_r_15 : Nat → Int32) (n_r_19 : Nat → Int32) (n_r_22 : Nat → Int32) (n_r_23 : Nat → Int32), w = mM G y b f (up2 (up2 (up2 (up2 r 15 n_r_15) 19 n_r_19) 22 n_r_22) 23 n_r_23)) A) ([.ref y, .int (nI i), .int (nI j), .int up] : List Value).toArray s 0 0 A) (F0 m 116 ls [.int z10, .int v9, .int (nI ((12 * i) + j)), .ref (b 15)]) := by
        intro z10  H locs ls hP hS hl
        refine lv_iadd hx hb dX7_settle_116 ?_
        refine lv_topi (fun v11 ev11 => ?_)
        refine xiast (f := x6) (x := v11) hx hb hK hP (hDD _ _) hS 15 (((12 * i) + j)) (rfl) (by omega) (by decide) rfl dX7_settle_117 (fun H locs hP _ hS => ?_)
        have hP : PP G (mM G y b f (up2 (up2 (up2 (up2 r 15 (upd x6 (((12 * i) + j)) (v11))) 19 (upd (r 19) (((12 * i) + j)) (0))) 22 x7) 23 x8)) H := hP
        exact wr_vret hx hb hr hlocks hS hP ⟨(upd x6 (((12 * i) + j)) (v11)), (upd (r 19) (((12 * i) + j)) (0)), x7, x8, rfl⟩ dX7_settle_118
      refine lv_if_eq (tgt := 113) hx hb dX7_settle_105 (by decide) (fun c12 => ?_) (fun c12 => ?_)
      · refine lv_iload hx hb dX7_settle_113 (lv_at hl 0 rfl) ?_
        refine lv_ineg hx hb dX7_settle_115 ?_
        refine lv_topi (fun v13 ev13 => ?_)
        exact j116_10 v13 _ _ _ hP hS (lv_sub hl [] rfl)
      · refine lv_iload hx hb dX7_settle_108 (lv_at hl 0 rfl) ?_
        refine lv_goto (tgt := 116) hx hb dX7_settle_110 (by decide) ?_
        exact j116_10 z5 _ _ _ hP hS (lv_sub hl [] rfl)
    refine lv_if_eq (tgt := 64) hx hb dX7_settle_28 (by decide) (fun c14 => ?_) (fun c14 => ?_)
    · refine lv_aload_n hx hb dX7_settle_64 rfl (lv_at hl 1 rfl) ?_
      refine lv_iload_n hx hb dX7_settle_65 rfl (lv_at hl 2 rfl) ?_
      refine lv_bipush (v := 12) hx hb dX7_settle_66 (by decide) ?_
      refine lv_iload_n hx hb dX7_settle_68 rfl (lv_at hl 3 rfl) ?_
      refine lv_iadd hx hb dX7_settle_69 ?_
      refine lv_topi (fun v15 ev15 => ?_)
      obtain rfl : v15 = nI (12 + j) := nI_plus ev15 rfl rfl
      refine lv_aload_n hx hb dX7_settle_70 rfl (lv_at hl 1 rfl) ?_
      refine va_get (D := G.1) (ci := 7) (v := .ref (b 18)) (C := RX7) (T := TX7) (N := 43) hx hb hts inX7 hown hK.1 hP 0 rfl rfl 18 (by decide) (hts _ mf_X7_62) (fun _ h9 => h9) rfl dX7_settle_71 ?_
      refine lv_iload_n hx hb dX7_settle_74 rfl (lv_at hl 2 rfl) ?_
      refine xiald (f := (r 18)) hx hb hK hP 18 (i) (rfl) (by omega) (by decide) rfl dX7_settle_75 ?_
      refine lv_topi (fun v16 ev16 => ?_)
      refine lv_aload_n hx hb dX7_settle_76 rfl (lv_at hl 1 rfl) ?_
      refine va_get (D := G.1) (ci := 7) (v := .ref (b 15)) (C := RX7) (T := TX7) (N := 43) hx hb hts inX7 hown hK.1 hP 0 rfl rfl 15 (by decide) (hts _ mf_X7_53) (fun _ h9 => h9) rfl dX7_settle_77 ?_
      refine lv_iload hx hb dX7_settle_80 (lv_at hl 0 rfl) ?_
      refine xiald (f := (r 15)) hx hb hK hP 15 (((12 * i) + j)) (rfl) (by omega) (by decide) rfl dX7_settle_82 ?_
      refine lv_topi (fun v17 ev17 => ?_)
      refine lv_aload_n hx hb dX7_settle_83 rfl (lv_at hl 1 rfl) ?_
      refine va_get (D := G.1) (ci := 7) (v := .ref (b 16)) (C := RX7) (T := TX7) (N := 43) hx hb hts inX7 hown hK.1 hP 0 rfl rfl 16 (by decide) (hts _ mf_X7_56) (fun _ h9 => h9) rfl dX7_settle_84 ?_
      refine lv_iload hx hb dX7_settle_87 (lv_at hl 0 rfl) ?_
      refine xiald (f := (r 16)) hx hb hK hP 16 (((12 * i) + j)) (rfl) (by omega) (by decide) rfl dX7_settle_89 ?_
      refine lv_topi (fun v18 ev18 => ?_)
      refine lv_isub hx hb dX7_settle_90 ?_
      refine lv_topi (fun v19 ev19 => ?_)
      refine wrVIa (rest := []) (q0 := 0) ⟨hx, hb, hml, hown, hts⟩ (m_X7_push l G y b f (up2 r 19 (upd (r 19) (((12 * i) + j)) (0))) i (12 + j) v16 v19  (by omega) (by omega)) mi_yX7_push mv_yX7_push ml_X7_212 ⟨rfl, rfl, Nat.le_of_ble_eq_true rfl, Nat.le_of_ble_eq_true rfl⟩ hK hP (hDD _ _) rfl rfl rfl hl.1 rfl (Nat.le_of_ble_eq_true rfl) dX7_settle_91 ⟨Nat.zero_le _, Nat.zero_le _⟩ hS hA (fun r20 w21 H locs hw21 hP hS => ?_)
      obtain ⟨x22, x23, x24, rfl⟩ := hw21
      have hP : PP G (mM G y b f (up2 (up2 (up2 (up2 r 15 x22) 19 (upd (r 19) (((12 * i) + j)) (0))) 22 x23) 23 x24)) H := hP
      exact j94_8 r20 x22 x23 x24 _ _ _ hP hS (lv_sub hl [0, 1, 4] rfl)
    · refine lv_aload_n hx hb dX7_settle_31 rfl (lv_at hl 1 rfl) ?_
      refine lv_bipush (v := 12) hx hb dX7_settle_32 (by decide) ?_
      refine lv_iload_n hx hb dX7_settle_34 rfl (lv_at hl 3 rfl) ?_
      refine lv_iadd hx hb dX7_settle_35 ?_
      refine lv_topi (fun v25 ev25 => ?_)
      obtain rfl : v25 = nI (12 + j) := nI_plus ev25 rfl rfl
      refine lv_iload_n hx hb dX7_settle_36 rfl (lv_at hl 2 rfl) ?_
      refine lv_aload_n hx hb dX7_settle_37 rfl (lv_at hl 1 rfl) ?_
      refine va_get (D := G.1) (ci := 7) (v := .ref (b 18)) (C := RX7) (T := TX7) (N := 43) hx hb hts inX7 hown hK.1 hP 0 rfl rfl 18 (by decide) (hts _ mf_X7_62) (fun _ h9 => h9) rfl dX7_settle_38 ?_
      refine lv_iload_n hx hb dX7_settle_41 rfl (lv_at hl 2 rfl) ?_
      refine xiald (f := (r 18)) hx hb hK hP 18 (i) (rfl) (by omega) (by decide) rfl dX7_settle_42 ?_
      refine lv_topi (fun v26 ev26 => ?_)
      refine lv_aload_n hx hb dX7_settle_43 rfl (lv_at hl 1 rfl) ?_
      refine va_get (D := G.1) (ci := 7) (v := .ref (b 17)) (C := RX7) (T := TX7) (N := 43) hx hb hts inX7 hown hK.1 hP 0 rfl rfl 17 (by decide) (hts _ mf_X7_59) (fun _ h9 => h9) rfl dX7_settle_44 ?_
      refine lv_iload hx hb dX7_settle_47 (lv_at hl 0 rfl) ?_
      refine xiald (f := (r 17)) hx hb hK hP 17 (((12 * i) + j)) (rfl) (by omega) (by decide) rfl dX7_settle_49 ?_
      refine lv_topi (fun v27 ev27 => ?_)
      refine lv_aload_n hx hb dX7_settle_50 rfl (lv_at hl 1 rfl) ?_
      refine va_get (D := G.1) (ci := 7) (v := .ref (b 15)) (C := RX7) (T := TX7) (N := 43) hx hb hts inX7 hown hK.1 hP 0 rfl rfl 15 (by decide) (hts _ mf_X7_53) (fun _ h9 => h9) rfl dX7_settle_51 ?_
      refine lv_iload hx hb dX7_settle_54 (lv_at hl 0 rfl) ?_
      refine xiald (f := (r 15)) hx hb hK hP 15 (((12 * i) + j)) (rfl) (by omega) (by decide) rfl dX7_settle_56 ?_
      refine lv_topi (fun v28 ev28 => ?_)
      refine lv_isub hx hb dX7_settle_57 ?_
      refine lv_topi (fun v29 ev29 => ?_)
      refine wrVIa (rest := []) (q0 := 0) ⟨hx, hb, hml, hown, hts⟩ (m_X7_push l G y b f (up2 r 19 (upd (r 19) (((12 * i) + j)) (0))) (12 + j) i v26 v29  (by omega) (by omega)) mi_yX7_push mv_yX7_push ml_X7_212 ⟨rfl, rfl, Nat.le_of_ble_eq_true rfl, Nat.le_of_ble_eq_true rfl⟩ hK hP (hDD _ _) rfl rfl rfl hl.1 rfl (Nat.le_of_ble_eq_true rfl) dX7_settle_58 ⟨Nat.zero_le _, Nat.zero_le _⟩ hS hA (fun r30 w31 H locs hw31 hP hS => ?_)
      obtain ⟨x32, x33, x34, rfl⟩ := hw31
      have hP : PP G (mM G y b f (up2 (up2 (up2 (up2 r 15 x32) 19 (upd (r 19) (((12 * i) + j)) (0))) 22 x33) 23 x34)) H := hP
      refine lv_goto (tgt := 94) hx hb dX7_settle_61 (by decide) ?_
      exact j94_8 r30 x32 x33 x34 _ _ _ hP hS (lv_sub hl [0, 1, 4] rfl)
  · exact wr_vret hx hb hr hlocks hS hP ⟨(r 15), (r 19), (r 22), (r 23), rfl⟩ dX7_settle_18
set_option maxHeartbeats 4000000 in
set_option maxRecDepth 100000 in
theorem m_X7_endOf (l : Launch) (G : GG) (y : Nat) (b : Nat → Nat) (f : Nat → Int32) (r : Nat → Nat → Int32) (t : Nat) (i : Nat) (j : Nat) (up : Int32) (rw : Nat) (cl : Nat) (bk : Nat) (ht : t < 6) (hrw : rw ≤ 12) (hcl : cl ≤ 12) (hbk : bk ≤ 12) (h2 : (r 2) t = nI rw) (h3 : (r 3) t = nI cl) (h12 : (r 12) t = nI bk) (hi : i < 12) (hj : j < 12) (hG : nOK 864 6 (r 7)) : WrI l yX7_endOf cX7_endOf 5 (some .int) ({ frames := 4, cells := 0, slots := 0, locals := 105 }) G (mM G y b f r) [.ref y, .int (nI t), .int (nI i), .int (nI j), .int up] (fun q w => ∃ (n_f_20 : Int32) (n_f_21 : Int32) (n_r_15 : Nat → Int32) (n_r_16 : Nat → Int32) (n_r_17 : Nat → Int32) (n_r_18 : Nat → Int32) (n_r_19 : Nat → Int32) (n_r_22 : Nat → Int32) (n_r_23 : Nat → Int32), w = mM G y b (upd (upd f 20 n_f_20) 21 n_f_21) (up2 (up2 (up2 (up2 (up2 (up2 (up2 r 15 n_r_15) 16 n_r_16) 17 n_r_17) 18 n_r_18) 19 n_r_19) 22 n_r_22) 23 n_r_23)) := by
  refine wr_entryI (by decide +kernel) (Nat.le_of_ble_eq_true rfl) ?_
  intro p e s m below meth c A C0 hP hK hD hA ls hl
  have hS : va_S A s.heap s.heap [] := va_S.rf
  obtain ⟨hx, hb, hml, hown, hts, hr, hlocks, hin⟩ := C0
  have hown : s.vm.findClass RX7 = some m.cls := hown
  have hDD : ∀ f' r', va_D A (mM G y b f' r') := fun f' r' => D_same hD rfl
  have hl : lv_has ls 5 [(0, .ref y), (1, .int (nI t)), (2, .int (nI i)), (3, .int (nI j)), (4, .int up)] := hl
  refine lv_aload_n hx hb dX7_endOf_0 rfl (lv_at hl 0 rfl) ?_
  refine lv_iload_n hx hb dX7_endOf_1 rfl (lv_at hl 1 rfl) ?_
  refine wrVVa (rest := []) (q0 := 0) ⟨hx, hb, hml, hown, hts⟩ (m_X7_lay l G y b f r t rw cl bk (by omega) (by omega) (by omega) (by omega) h2 h3 h12 hG) mi_yX7_lay mv_yX7_lay ml_X7_216 ⟨rfl, rfl, Nat.le_of_ble_eq_true rfl, Nat.le_of_ble_eq_true rfl⟩ hK hP (hDD _ _) rfl rfl rfl hl.1 rfl (Nat.le_of_ble_eq_true rfl) dX7_endOf_2 ⟨Nat.zero_le _, Nat.zero_le _⟩ hS hA (fun w2 H locs hw2 hP hS => ?_)
  obtain ⟨x3, x4, x5, x6, x7, x8, x9, rfl, h20, h21⟩ := hw2
  have hP : PP G (mM G y b (upd (upd f 20 x3) 21 x4) (up2 (up2 (up2 (up2 (up2 r 15 x5) 16 x6) 17 x7) 18 x8) 19 x9)) H := hP
  have h20 : x3 = nI rw := h20
  have h21 : x4 = nI cl := h21
  refine lv_aload_n hx hb dX7_endOf_5 rfl (lv_at hl 0 rfl) ?_
  refine lv_iload_n hx hb dX7_endOf_6 rfl (lv_at hl 2 rfl) ?_
  refine lv_iload_n hx hb dX7_endOf_7 rfl (lv_at hl 3 rfl) ?_
  refine lv_iload hx hb dX7_endOf_8 (lv_at hl 4 rfl) ?_
  refine wrVVa (rest := []) (q0 := 0) ⟨hx, hb, hml, hown, hts⟩ (m_X7_settle l G y b (upd (upd f 20 x3) 21 x4) (up2 (up2 (up2 (up2 (up2 r 15 x5) 16 x6) 17 x7) 18 x8) 19 x9) i j up  (by omega) (by omega)) mi_yX7_settle mv_yX7_settle ml_X7_219 ⟨rfl, rfl, Nat.le_of_ble_eq_true rfl, Nat.le_of_ble_eq_true rfl⟩ hK hP (hDD _ _) rfl rfl rfl hl.1 rfl (Nat.le_of_ble_eq_true rfl) dX7_endOf_10 ⟨Nat.zero_le _, Nat.zero_le _⟩ hS hA (fun w11 H locs hw11 hP hS => ?_)
  obtain ⟨x12, x13, x14, x15, rfl⟩ := hw11
  have hP : PP G (mM G y b (upd (upd f 20 x3) 21 x4) (up2 (up2 (up2 (up2 (up2 (up2 (up2 r 15 x12) 16 x6) 17 x7) 18 x8) 19 x13) 22 x14) 23 x15)) H := hP
  refine lv_aload_n hx hb dX7_endOf_13 rfl (lv_at hl 0 rfl) ?_
  refine va_get (D := G.1) (ci := 7) (v := .ref (b 15)) (C := RX7) (T := TX7) (N := 43) hx hb hts inX7 hown hK.1 hP 0 rfl rfl 15 (by decide) (hts _ mf_X7_53) (fun _ h9 => h9) rfl dX7_endOf_14 ?_
  refine lv_bipush (v := 12) hx hb dX7_endOf_17 (by decide) ?_
  refine lv_iload_n hx hb dX7_endOf_19 rfl (lv_at hl 2 rfl) ?_
  refine lv_imul hx hb dX7_endOf_20 ?_
  refine lv_topi (fun v16 ev16 => ?_)
  obtain rfl : v16 = nI (12 * i) := nI_times ev16 rfl rfl
  refine lv_iload_n hx hb dX7_endOf_21 rfl (lv_at hl 3 rfl) ?_
  refine lv_iadd hx hb dX7_endOf_22 ?_
  refine lv_topi (fun v17 ev17 => ?_)
  obtain rfl : v17 = nI ((12 * i) + j) := nI_plus ev17 rfl rfl
  refine xiald (f := x12) hx hb hK hP 15 (((12 * i) + j)) (rfl) (by omega) (by decide) rfl dX7_endOf_23 ?_
  refine lv_topi (fun v18 ev18 => ?_)
  exact wr_iret hx hb hr hlocks hS hP ⟨x3, x4, x12, x6, x7, x8, x13, x14, x15, rfl⟩ dX7_endOf_24
set_option maxHeartbeats 4000000 in
set_option maxRecDepth 100000 in
theorem m_X7_least (l : Launch) (G : GG) (y : Nat) (b : Nat → Nat) (f : Nat → Int32) (r : Nat → Nat → Int32) (tb : Int32) (row : Int32) (col : Int32) (hM2 : nOK 6 12 (r 2)) (hM3 : nOK 6 12 (r 3)) (hM12 : nOK 6 12 (r 12)) (hG : nOK 864 6 (r 7)) : WrI l yX7_least cX7_least 4 (some .int) ({ frames := 5, cells := 0, slots := 0, locals := 129 }) G (mM G y b f r) [.ref y, .int tb, .int row, .int col] (fun q w => ∃ (n_f_0 : Int32) (n_f_20 : Int32) (n_f_21 : Int32) (n_r_15 : Nat → Int32) (n_r_16 : Nat → Int32) (n_r_17 : Nat → Int32) (n_r_18 : Nat → Int32) (n_r_19 : Nat → Int32) (n_r_22 : Nat → Int32) (n_r_23 : Nat → Int32), w = mM G y b (upd (upd (upd f 0 n_f_0) 20 n_f_20) 21 n_f_21) (up2 (up2 (up2 (up2 (up2 (up2 (up2 r 15 n_r_15) 16 n_r_16) 17 n_r_17) 18 n_r_18) 19 n_r_19) 22 n_r_22) 23 n_r_23)) := by
  refine wr_entryI (by decide +kernel) (Nat.le_of_ble_eq_true rfl) ?_
  intro p e s m below meth c A C0 hP hK hD hA ls hl
  have hS : va_S A s.heap s.heap [] := va_S.rf
  obtain ⟨hx, hb, hml, hown, hts, hr, hlocks, hin⟩ := C0
  have hown : s.vm.findClass RX7 = some m.cls := hown
  have hDD : ∀ f' r', va_D A (mM G y b f' r') := fun f' r' => D_same hD rfl
  have hl : lv_has ls 4 [(0, .ref y), (1, .int tb), (2, .int row), (3, .int col)] := hl
  refine lv_aload_n hx hb dX7_least_0 rfl (lv_at hl 0 rfl) ?_
  refine lv_aload_n hx hb dX7_least_1 rfl (lv_at hl 0 rfl) ?_
  refine lv_iload_n hx hb dX7_least_2 rfl (lv_at hl 1 rfl) ?_
  refine lv_iload_n hx hb dX7_least_3 rfl (lv_at hl 2 rfl) ?_
  refine lv_iload_n hx hb dX7_least_4 rfl (lv_at hl 3 rfl) ?_
  refine rdV (rest := [.ref y]) (q0 := 0) ⟨hx, hb, hml, hown, hts⟩ (m_X7_wrongSound l G y b f r tb row col  hM2 hM3 hM12) mi_yX7_wrongSound mv_yX7_wrongSound ml_X7_178 ⟨rfl, rfl, Nat.le_of_ble_eq_true rfl, Nat.le_of_ble_eq_true rfl⟩ hK (hP) rfl rfl rfl hl.1 rfl (Nat.le_of_ble_eq_true rfl) dX7_least_5 ⟨Nat.zero_le _, Nat.zero_le _⟩ hS hA hP (fun r1 H locs hr1 hP hS => ?_)
  have hr1 : stM (r 1) (r 2) (r 3) (r 11) tb row col (fun t i k => kfS ((r 5) (144 * t + 12 * i + k)) (sndN ((r 3) t) (r 11) (r 5) t i)) r1 := hr1
  refine va_put (D := G.1) (ci := 7) (v := .int r1) (C := RX7) (T := TX7) (N := 43) hx hb hts inX7 tyX7 tyX7_ok nmX7 hown hK.1 hP (hDD _ _) hS 0 rfl rfl 0 (by decide) (hts _ mf_X7_116) (fun _ h9 => h9) rfl (tyX7_ok 0 (by decide)) (rfl) (rfl) (Nat.le_of_ble_eq_true rfl) dX7_least_8 (fun H locs hP _ hS => ?_)
  have hP : PP G (mM G y b (upd f 0 r1) r) H := hP
  refine lv_aload_n hx hb dX7_least_11 rfl (lv_at hl 0 rfl) ?_
  refine va_get (D := G.1) (ci := 7) (v := .int r1) (C := RX7) (T := TX7) (N := 43) hx hb hts inX7 hown hK.1 hP 0 rfl rfl 0 (by decide) (hts _ mf_X7_116) (fun _ h9 => h9) rfl dX7_least_12 ?_
  refine lv_if_le (tgt := 22) hx hb dX7_least_15 (by decide) (fun c2 => ?_) (fun c2 => ?_)
  · obtain ⟨t, i, k, rw, cl, ht, hi, hk, hrw, hcl, rfl, rfl, rfl, h2, h3⟩ := wS_ok (stM_w hM2 hM3 (fun _ _ _ => kfS_p _ _) hr1) (npos_of_le c2)
    obtain ⟨bk, hbk, h12⟩ := hM12 t ht
    refine lv_aload_n hx hb dX7_least_22 rfl (lv_at hl 0 rfl) ?_
    refine lv_iload_n hx hb dX7_least_23 rfl (lv_at hl 1 rfl) ?_
    refine lv_iload_n hx hb dX7_least_24 rfl (lv_at hl 2 rfl) ?_
    refine lv_iload_n hx hb dX7_least_25 rfl (lv_at hl 3 rfl) ?_
    refine lv_iconst (v := 0) hx hb dX7_least_26 (by decide) ?_
    refine wrVIa (rest := []) (q0 := 0) ⟨hx, hb, hml, hown, hts⟩ (m_X7_endOf l G y b (upd f 0 r1) r t i k 0 rw cl bk (by omega) (by omega) (by omega) (by omega) h2 h3 h12 (by omega) (by omega) hG) mi_yX7_endOf mv_yX7_endOf ml_X7_223 ⟨rfl, rfl, Nat.le_of_ble_eq_true rfl, Nat.le_of_ble_eq_true rfl⟩ hK hP (hDD _ _) rfl rfl rfl hl.1 rfl (Nat.le_of_ble_eq_true rfl) dX7_least_27 ⟨Nat.zero_le _, Nat.zero_le _⟩ hS hA (fun r3 w4 H locs hw4 hP hS => ?_)
    obtain ⟨x5, x6, x7, x8, x9, x10, x11, x12, x13, rfl⟩ := hw4
    have hP : PP G (mM G y b (upd (upd (upd f 0 r1) 20 x5) 21 x6) (up2 (up2 (up2 (up2 (up2 (up2 (up2 r 15 x7) 16 x8) 17 x9) 18 x10) 19 x11) 22 x12) 23 x13)) H := hP
    exact wr_iret hx hb hr hlocks hS hP ⟨r1, x5, x6, x7, x8, x9, x10, x11, x12, x13, rfl⟩ dX7_least_30
  · refine lv_iconst (v := -1) hx hb dX7_least_18 (by decide) ?_
    refine lv_goto (tgt := 30) hx hb dX7_least_19 (by decide) ?_
    exact wr_iret hx hb hr hlocks hS hP ⟨r1, (f 20), (f 21), (r 15), (r 16), (r 17), (r 18), (r 19), (r 22), (r 23), rfl⟩ dX7_least_30
set_option maxHeartbeats 4000000 in
set_option maxRecDepth 100000 in
theorem m_X7_greatest (l : Launch) (G : GG) (y : Nat) (b : Nat → Nat) (f : Nat → Int32) (r : Nat → Nat → Int32) (tb : Int32) (row : Int32) (col : Int32) (hM2 : nOK 6 12 (r 2)) (hM3 : nOK 6 12 (r 3)) (hM12 : nOK 6 12 (r 12)) (hG : nOK 864 6 (r 7)) : WrI l yX7_greatest cX7_greatest 4 (some .int) ({ frames := 5, cells := 0, slots := 0, locals := 129 }) G (mM G y b f r) [.ref y, .int tb, .int row, .int col] (fun q w => ∃ (n_f_0 : Int32) (n_f_20 : Int32) (n_f_21 : Int32) (n_r_15 : Nat → Int32) (n_r_16 : Nat → Int32) (n_r_17 : Nat → Int32) (n_r_18 : Nat → Int32) (n_r_19 : Nat → Int32) (n_r_22 : Nat → Int32) (n_r_23 : Nat → Int32), w = mM G y b (upd (upd (upd f 0 n_f_0) 20 n_f_20) 21 n_f_21) (up2 (up2 (up2 (up2 (up2 (up2 (up2 r 15 n_r_15) 16 n_r_16) 17 n_r_17) 18 n_r_18) 19 n_r_19) 22 n_r_22) 23 n_r_23)) := by
  refine wr_entryI (by decide +kernel) (Nat.le_of_ble_eq_true rfl) ?_
  intro p e s m below meth c A C0 hP hK hD hA ls hl
  have hS : va_S A s.heap s.heap [] := va_S.rf
  obtain ⟨hx, hb, hml, hown, hts, hr, hlocks, hin⟩ := C0
  have hown : s.vm.findClass RX7 = some m.cls := hown
  have hDD : ∀ f' r', va_D A (mM G y b f' r') := fun f' r' => D_same hD rfl
  have hl : lv_has ls 4 [(0, .ref y), (1, .int tb), (2, .int row), (3, .int col)] := hl
  refine lv_aload_n hx hb dX7_greatest_0 rfl (lv_at hl 0 rfl) ?_
  refine lv_aload_n hx hb dX7_greatest_1 rfl (lv_at hl 0 rfl) ?_
  refine lv_iload_n hx hb dX7_greatest_2 rfl (lv_at hl 1 rfl) ?_
  refine lv_iload_n hx hb dX7_greatest_3 rfl (lv_at hl 2 rfl) ?_
  refine lv_iload_n hx hb dX7_greatest_4 rfl (lv_at hl 3 rfl) ?_
  refine rdV (rest := [.ref y]) (q0 := 0) ⟨hx, hb, hml, hown, hts⟩ (m_X7_wrongSound l G y b f r tb row col  hM2 hM3 hM12) mi_yX7_wrongSound mv_yX7_wrongSound ml_X7_178 ⟨rfl, rfl, Nat.le_of_ble_eq_true rfl, Nat.le_of_ble_eq_true rfl⟩ hK (hP) rfl rfl rfl hl.1 rfl (Nat.le_of_ble_eq_true rfl) dX7_greatest_5 ⟨Nat.zero_le _, Nat.zero_le _⟩ hS hA hP (fun r1 H locs hr1 hP hS => ?_)
  have hr1 : stM (r 1) (r 2) (r 3) (r 11) tb row col (fun t i k => kfS ((r 5) (144 * t + 12 * i + k)) (sndN ((r 3) t) (r 11) (r 5) t i)) r1 := hr1
  refine va_put (D := G.1) (ci := 7) (v := .int r1) (C := RX7) (T := TX7) (N := 43) hx hb hts inX7 tyX7 tyX7_ok nmX7 hown hK.1 hP (hDD _ _) hS 0 rfl rfl 0 (by decide) (hts _ mf_X7_116) (fun _ h9 => h9) rfl (tyX7_ok 0 (by decide)) (rfl) (rfl) (Nat.le_of_ble_eq_true rfl) dX7_greatest_8 (fun H locs hP _ hS => ?_)
  have hP : PP G (mM G y b (upd f 0 r1) r) H := hP
  refine lv_aload_n hx hb dX7_greatest_11 rfl (lv_at hl 0 rfl) ?_
  refine va_get (D := G.1) (ci := 7) (v := .int r1) (C := RX7) (T := TX7) (N := 43) hx hb hts inX7 hown hK.1 hP 0 rfl rfl 0 (by decide) (hts _ mf_X7_116) (fun _ h9 => h9) rfl dX7_greatest_12 ?_
  refine lv_if_le (tgt := 22) hx hb dX7_greatest_15 (by decide) (fun c2 => ?_) (fun c2 => ?_)
  · obtain ⟨t, i, k, rw, cl, ht, hi, hk, hrw, hcl, rfl, rfl, rfl, h2, h3⟩ := wS_ok (stM_w hM2 hM3 (fun _ _ _ => kfS_p _ _) hr1) (npos_of_le c2)
    obtain ⟨bk, hbk, h12⟩ := hM12 t ht
    refine lv_aload_n hx hb dX7_greatest_22 rfl (lv_at hl 0 rfl) ?_
    refine lv_iload_n hx hb dX7_greatest_23 rfl (lv_at hl 1 rfl) ?_
    refine lv_iload_n hx hb dX7_greatest_24 rfl (lv_at hl 2 rfl) ?_
    refine lv_iload_n hx hb dX7_greatest_25 rfl (lv_at hl 3 rfl) ?_
    refine lv_iconst (v := 1) hx hb dX7_greatest_26 (by decide) ?_
    refine wrVIa (rest := []) (q0 := 0) ⟨hx, hb, hml, hown, hts⟩ (m_X7_endOf l G y b (upd f 0 r1) r t i k 1 rw cl bk (by omega) (by omega) (by omega) (by omega) h2 h3 h12 (by omega) (by omega) hG) mi_yX7_endOf mv_yX7_endOf ml_X7_223 ⟨rfl, rfl, Nat.le_of_ble_eq_true rfl, Nat.le_of_ble_eq_true rfl⟩ hK hP (hDD _ _) rfl rfl rfl hl.1 rfl (Nat.le_of_ble_eq_true rfl) dX7_greatest_27 ⟨Nat.zero_le _, Nat.zero_le _⟩ hS hA (fun r3 w4 H locs hw4 hP hS => ?_)
    obtain ⟨x5, x6, x7, x8, x9, x10, x11, x12, x13, rfl⟩ := hw4
    have hP : PP G (mM G y b (upd (upd (upd f 0 r1) 20 x5) 21 x6) (up2 (up2 (up2 (up2 (up2 (up2 (up2 r 15 x7) 16 x8) 17 x9) 18 x10) 19 x11) 22 x12) 23 x13)) H := hP
    exact wr_iret hx hb hr hlocks hS hP ⟨r1, x5, x6, x7, x8, x9, x10, x11, x12, x13, rfl⟩ dX7_greatest_30
  · refine lv_iconst (v := -1) hx hb dX7_greatest_18 (by decide) ?_
    refine lv_goto (tgt := 30) hx hb dX7_greatest_19 (by decide) ?_
    exact wr_iret hx hb hr hlocks hS hP ⟨r1, (f 20), (f 21), (r 15), (r 16), (r 17), (r 18), (r 19), (r 22), (r 23), rfl⟩ dX7_greatest_30
set_option maxHeartbeats 4000000 in
set_option maxRecDepth 100000 in
theorem m_X7_isSafe (l : Launch) (G : GG) (y : Nat) (b : Nat → Nat) (f : Nat → Int32) (r : Nat → Nat → Int32) (t : Nat) (i : Nat) (j : Nat) (rw : Nat) (cl : Nat) (bk : Nat) (ht : t < 6) (hrw : rw ≤ 12) (hcl : cl ≤ 12) (hbk : bk ≤ 12) (h2 : (r 2) t = nI rw) (h3 : (r 3) t = nI cl) (h12 : (r 12) t = nI bk) (hi : i < 12) (hj : j < 12) (hG : nOK 864 6 (r 7)) : WrI l yX7_isSafe cX7_isSafe 6 (some .boolean) ({ frames := 5, cells := 0, slots := 0, locals := 129 }) G (mM G y b f r) [.ref y, .int (nI t), .int (nI i), .int (nI j)] (fun q w => ∃ (n_f_20 : Int32) (n_f_21 : Int32) (n_r_15 : Nat → Int32) (n_r_16 : Nat → Int32) (n_r_17 : Nat → Int32) (n_r_18 : Nat → Int32) (n_r_19 : Nat → Int32) (n_r_22 : Nat → Int32) (n_r_23 : Nat → Int32), w = mM G y b (upd (upd f 20 n_f_20) 21 n_f_21) (up2 (up2 (up2 (up2 (up2 (up2 (up2 r 15 n_r_15) 16 n_r_16) 17 n_r_17) 18 n_r_18) 19 n_r_19) 22 n_r_22) 23 n_r_23) ∧ (q = 0 ∨ q = 1)) := by
  refine wr_entryI (by decide +kernel) (Nat.le_of_ble_eq_true rfl) ?_
  intro p e s m below meth c A C0 hP hK hD hA ls hl
  have hS : va_S A s.heap s.heap [] := va_S.rf
  obtain ⟨hx, hb, hml, hown, hts, hr, hlocks, hin⟩ := C0
  have hown : s.vm.findClass RX7 = some m.cls := hown
  have hDD : ∀ f' r', va_D A (mM G y b f' r') := fun f' r' => D_same hD rfl
  have hl : lv_has ls 6 [(0, .ref y), (1, .int (nI t)), (2, .int (nI i)), (3, .int (nI j))] := hl
  refine lv_aload_n hx hb dX7_isSafe_0 rfl (lv_at hl 0 rfl) ?_
  refine va_get (D := G.1) (ci := 7) (v := .ref (b 6)) (C := RX7) (T := TX7) (N := 43) hx hb hts inX7 hown hK.1 hP 0 rfl rfl 6 (by decide) (hts _ mf_X7_26) (fun _ h9 => h9) rfl dX7_isSafe_1 ?_
  refine lv_iload_n hx hb dX7_isSafe_4 rfl (lv_at hl 1 rfl) ?_
  refine lv_iload_n hx hb dX7_isSafe_5 rfl (lv_at hl 2 rfl) ?_
  refine lv_iload_n hx hb dX7_isSafe_6 rfl (lv_at hl 3 rfl) ?_
  refine rdS (rest := [.ref (b 6)]) ⟨hx, hb, hml, hown, hts⟩ (m_X7_at l G y b f r t i j  ) mi_yX7_at mst_yX7_at ml_X7_147 ⟨rfl, rfl, Nat.le_of_ble_eq_true rfl, Nat.le_of_ble_eq_true rfl⟩ hK (hP) rfl hl.1 rfl (Nat.le_of_ble_eq_true rfl) dX7_isSafe_7 ⟨Nat.zero_le _, Nat.zero_le _⟩ hS hA hP (fun r1 H locs hr1 hP hS => ?_)
  obtain rfl := hr1
  refine xiald (f := (r 6)) hx hb hK hP 6 ((144 * t + 12 * i + j)) (rfl) (by omega) (by decide) rfl dX7_isSafe_10 ?_
  refine lv_topi (fun v2 ev2 => ?_)
  refine lv_istore (lv' := [(4, .int v2), (0, .ref y), (1, .int (nI t)), (2, .int (nI i)), (3, .int (nI j))]) hx hb dX7_isSafe_11 hl (by decide) rfl (fun ls hl => ?_)
  refine lv_aload_n hx hb dX7_isSafe_13 rfl (lv_at hl 1 rfl) ?_
  refine lv_iload_n hx hb dX7_isSafe_14 rfl (lv_at hl 2 rfl) ?_
  refine lv_iload_n hx hb dX7_isSafe_15 rfl (lv_at hl 3 rfl) ?_
  refine lv_iload_n hx hb dX7_isSafe_16 rfl (lv_at hl 4 rfl) ?_
  refine lv_iconst (v := 0) hx hb dX7_isSafe_17 (by decide) ?_
  refine wrVIa (rest := []) (q0 := 0) ⟨hx, hb, hml, hown, hts⟩ (m_X7_endOf l G y b f r t i j 0 rw cl bk (by omega) (by omega) (by omega) (by omega) h2 h3 h12 (by omega) (by omega) hG) mi_yX7_endOf mv_yX7_endOf ml_X7_223 ⟨rfl, rfl, Nat.le_of_ble_eq_true rfl, Nat.le_of_ble_eq_true rfl⟩ hK hP (hDD _ _) rfl rfl rfl hl.1 rfl (Nat.le_of_ble_eq_true rfl) dX7_isSafe_18 ⟨Nat.zero_le _, Nat.zero_le _⟩ hS hA (fun r3 w4 H locs hw4 hP hS => ?_)
  obtain ⟨x5, x6, x7, x8, x9, x10, x11, x12, x13, rfl⟩ := hw4
  have hP : PP G (mM G y b (upd (upd f 20 x5) 21 x6) (up2 (up2 (up2 (up2 (up2 (up2 (up2 r 15 x7) 16 x8) 17 x9) 18 x10) 19 x11) 22 x12) 23 x13)) H := hP
  refine lv_istore (lv' := [(5, .int r3), (4, .int v2), (0, .ref y), (1, .int (nI t)), (2, .int (nI i)), (3, .int (nI j))]) hx hb dX7_isSafe_21 hl (by decide) rfl (fun ls hl => ?_)
  refine lv_iload hx hb dX7_isSafe_23 (lv_at hl 0 rfl) ?_
  refine lv_if_eq (tgt := 49) hx hb dX7_isSafe_25 (by decide) (fun c14 => ?_) (fun c14 => ?_)
  · refine lv_aload_n hx hb dX7_isSafe_49 rfl (lv_at hl 2 rfl) ?_
    refine lv_iload_n hx hb dX7_isSafe_50 rfl (lv_at hl 3 rfl) ?_
    refine lv_iload_n hx hb dX7_isSafe_51 rfl (lv_at hl 4 rfl) ?_
    refine lv_iload_n hx hb dX7_isSafe_52 rfl (lv_at hl 5 rfl) ?_
    refine lv_iconst (v := 1) hx hb dX7_isSafe_53 (by decide) ?_
    refine wrVIa (rest := []) (q0 := 0) ⟨hx, hb, hml, hown, hts⟩ (m_X7_endOf l G y b (upd (upd f 20 x5) 21 x6) (up2 (up2 (up2 (up2 (up2 (up2 (up2 r 15 x7) 16 x8) 17 x9) 18 x10) 19 x11) 22 x12) 23 x13) t i j 1 rw cl bk (by omega) (by omega) (by omega) (by omega) h2 h3 h12 (by omega) (by omega) hG) mi_yX7_endOf mv_yX7_endOf ml_X7_223 ⟨rfl, rfl, Nat.le_of_ble_eq_true rfl, Nat.le_of_ble_eq_true rfl⟩ hK hP (hDD _ _) rfl rfl rfl hl.1 rfl (Nat.le_of_ble_eq_true rfl) dX7_isSafe_54 ⟨Nat.zero_le _, Nat.zero_le _⟩ hS hA (fun r15 w16 H locs hw16 hP hS => ?_)
    obtain ⟨x17, x18, x19, x20, x21, x22, x23, x24, x25, rfl⟩ := hw16
    have hP : PP G (mM G y b (upd (upd f 20 x17) 21 x18) (up2 (up2 (up2 (up2 (up2 (up2 (up2 r 15 x19) 16 x20) 17 x21) 18 x22) 19 x23) 22 x24) 23 x25)) H := hP
    refine lv_iload hx hb dX7_isSafe_57 (lv_at hl 1 rfl) ?_
    refine lv_aload_n hx hb dX7_isSafe_59 rfl (lv_at hl 2 rfl) ?_
    refine va_get (D := G.1) (ci := 7) (v := .ref (b 4)) (C := RX7) (T := TX7) (N := 43) hx hb hts inX7 hown hK.1 hP 0 rfl rfl 4 (by decide) (hts _ mf_X7_20) (fun _ h9 => h9) rfl dX7_isSafe_60 ?_
    refine lv_bipush (v := 6) hx hb dX7_isSafe_63 (by decide) ?_
    refine lv_iload_n hx hb dX7_isSafe_65 rfl (lv_at hl 3 rfl) ?_
    refine lv_imul hx hb dX7_isSafe_66 ?_
    refine lv_topi (fun v26 ev26 => ?_)
    obtain rfl : v26 = nI (6 * t) := nI_times ev26 rfl rfl
    refine lv_iconst (v := 4) hx hb dX7_isSafe_67 (by decide) ?_
    refine lv_iadd hx hb dX7_isSafe_68 ?_
    refine lv_topi (fun v27 ev27 => ?_)
    obtain rfl : v27 = nI ((6 * t) + 4) := nI_plus ev27 rfl rfl
    refine xiald (f := (r 4)) hx hb hK hP 4 (((6 * t) + 4)) (rfl) (by omega) (by decide) rfl dX7_isSafe_69 ?_
    refine lv_topi (fun v28 ev28 => ?_)
    refine lv_iadd hx hb dX7_isSafe_70 ?_
    refine lv_topi (fun v29 ev29 => ?_)
    refine lv_icmp_lt (tgt := 78) hx hb dX7_isSafe_71 (by decide) (fun c30 => ?_) (fun c30 => ?_)
    · refine lv_iconst (v := 0) hx hb dX7_isSafe_78 (by decide) ?_
      exact wr_zret hx hb hr hlocks (Or.inl rfl) hS hP ⟨x17, x18, x19, x20, x21, x22, x23, x24, x25, rfl, (Or.inl rfl)⟩ dX7_isSafe_79
    · refine lv_iconst (v := 1) hx hb dX7_isSafe_74 (by decide) ?_
      refine lv_goto (tgt := 79) hx hb dX7_isSafe_75 (by decide) ?_
      exact wr_zret hx hb hr hlocks (Or.inr rfl) hS hP ⟨x17, x18, x19, x20, x21, x22, x23, x24, x25, rfl, (Or.inr rfl)⟩ dX7_isSafe_79
  · refine lv_iload hx hb dX7_isSafe_28 (lv_at hl 0 rfl) ?_
    refine lv_iload hx hb dX7_isSafe_30 (lv_at hl 1 rfl) ?_
    refine lv_aload_n hx hb dX7_isSafe_32 rfl (lv_at hl 2 rfl) ?_
    refine va_get (D := G.1) (ci := 7) (v := .ref (b 4)) (C := RX7) (T := TX7) (N := 43) hx hb hts inX7 hown hK.1 hP 0 rfl rfl 4 (by decide) (hts _ mf_X7_20) (fun _ h9 => h9) rfl dX7_isSafe_33 ?_
    refine lv_bipush (v := 6) hx hb dX7_isSafe_36 (by decide) ?_
    refine lv_iload_n hx hb dX7_isSafe_38 rfl (lv_at hl 3 rfl) ?_
    refine lv_imul hx hb dX7_isSafe_39 ?_
    refine lv_topi (fun v31 ev31 => ?_)
    obtain rfl : v31 = nI (6 * t) := nI_times ev31 rfl rfl
    refine lv_iconst (v := 3) hx hb dX7_isSafe_40 (by decide) ?_
    refine lv_iadd hx hb dX7_isSafe_41 ?_
    refine lv_topi (fun v32 ev32 => ?_)
    obtain rfl : v32 = nI ((6 * t) + 3) := nI_plus ev32 rfl rfl
    refine xiald (f := (r 4)) hx hb hK hP 4 (((6 * t) + 3)) (rfl) (by omega) (by decide) rfl dX7_isSafe_42 ?_
    refine lv_topi (fun v33 ev33 => ?_)
    refine lv_isub hx hb dX7_isSafe_43 ?_
    refine lv_topi (fun v34 ev34 => ?_)
    refine lv_icmp_le (tgt := 49) hx hb dX7_isSafe_44 (by decide) (fun c35 => ?_) (fun c35 => ?_)
    · refine lv_aload_n hx hb dX7_isSafe_49 rfl (lv_at hl 2 rfl) ?_
      refine lv_iload_n hx hb dX7_isSafe_50 rfl (lv_at hl 3 rfl) ?_
      refine lv_iload_n hx hb dX7_isSafe_51 rfl (lv_at hl 4 rfl) ?_
      refine lv_iload_n hx hb dX7_isSafe_52 rfl (lv_at hl 5 rfl) ?_
      refine lv_iconst (v := 1) hx hb dX7_isSafe_53 (by decide) ?_
      refine wrVIa (rest := []) (q0 := 0) ⟨hx, hb, hml, hown, hts⟩ (m_X7_endOf l G y b (upd (upd f 20 x5) 21 x6) (up2 (up2 (up2 (up2 (up2 (up2 (up2 r 15 x7) 16 x8) 17 x9) 18 x10) 19 x11) 22 x12) 23 x13) t i j 1 rw cl bk (by omega) (by omega) (by omega) (by omega) h2 h3 h12 (by omega) (by omega) hG) mi_yX7_endOf mv_yX7_endOf ml_X7_223 ⟨rfl, rfl, Nat.le_of_ble_eq_true rfl, Nat.le_of_ble_eq_true rfl⟩ hK hP (hDD _ _) rfl rfl rfl hl.1 rfl (Nat.le_of_ble_eq_true rfl) dX7_isSafe_54 ⟨Nat.zero_le _, Nat.zero_le _⟩ hS hA (fun r36 w37 H locs hw37 hP hS => ?_)
      obtain ⟨x38, x39, x40, x41, x42, x43, x44, x45, x46, rfl⟩ := hw37
      have hP : PP G (mM G y b (upd (upd f 20 x38) 21 x39) (up2 (up2 (up2 (up2 (up2 (up2 (up2 r 15 x40) 16 x41) 17 x42) 18 x43) 19 x44) 22 x45) 23 x46)) H := hP
      refine lv_iload hx hb dX7_isSafe_57 (lv_at hl 1 rfl) ?_
      refine lv_aload_n hx hb dX7_isSafe_59 rfl (lv_at hl 2 rfl) ?_
      refine va_get (D := G.1) (ci := 7) (v := .ref (b 4)) (C := RX7) (T := TX7) (N := 43) hx hb hts inX7 hown hK.1 hP 0 rfl rfl 4 (by decide) (hts _ mf_X7_20) (fun _ h9 => h9) rfl dX7_isSafe_60 ?_
      refine lv_bipush (v := 6) hx hb dX7_isSafe_63 (by decide) ?_
      refine lv_iload_n hx hb dX7_isSafe_65 rfl (lv_at hl 3 rfl) ?_
      refine lv_imul hx hb dX7_isSafe_66 ?_
      refine lv_topi (fun v47 ev47 => ?_)
      obtain rfl : v47 = nI (6 * t) := nI_times ev47 rfl rfl
      refine lv_iconst (v := 4) hx hb dX7_isSafe_67 (by decide) ?_
      refine lv_iadd hx hb dX7_isSafe_68 ?_
      refine lv_topi (fun v48 ev48 => ?_)
      obtain rfl : v48 = nI ((6 * t) + 4) := nI_plus ev48 rfl rfl
      refine xiald (f := (r 4)) hx hb hK hP 4 (((6 * t) + 4)) (rfl) (by omega) (by decide) rfl dX7_isSafe_69 ?_
      refine lv_topi (fun v49 ev49 => ?_)
      refine lv_iadd hx hb dX7_isSafe_70 ?_
      refine lv_topi (fun v50 ev50 => ?_)
      refine lv_icmp_lt (tgt := 78) hx hb dX7_isSafe_71 (by decide) (fun c51 => ?_) (fun c51 => ?_)
      · refine lv_iconst (v := 0) hx hb dX7_isSafe_78 (by decide) ?_
        exact wr_zret hx hb hr hlocks (Or.inl rfl) hS hP ⟨x38, x39, x40, x41, x42, x43, x44, x45, x46, rfl, (Or.inl rfl)⟩ dX7_isSafe_79
      · refine lv_iconst (v := 1) hx hb dX7_isSafe_74 (by decide) ?_
        refine lv_goto (tgt := 79) hx hb dX7_isSafe_75 (by decide) ?_
        exact wr_zret hx hb hr hlocks (Or.inr rfl) hS hP ⟨x38, x39, x40, x41, x42, x43, x44, x45, x46, rfl, (Or.inr rfl)⟩ dX7_isSafe_79
    · refine lv_iconst (v := 0) hx hb dX7_isSafe_47 (by decide) ?_
      exact wr_zret hx hb hr hlocks (Or.inl rfl) hS hP ⟨x5, x6, x7, x8, x9, x10, x11, x12, x13, rfl, (Or.inl rfl)⟩ dX7_isSafe_48
set_option maxHeartbeats 4000000 in
set_option maxRecDepth 100000 in
theorem m_X7_safe (l : Launch) (G : GG) (y : Nat) (b : Nat → Nat) (f : Nat → Int32) (r : Nat → Nat → Int32) (tb : Int32) (row : Int32) (col : Int32) (hM2 : nOK 6 12 (r 2)) (hM3 : nOK 6 12 (r 3)) (hM12 : nOK 6 12 (r 12)) (hG : nOK 864 6 (r 7)) : WrI l yX7_safe cX7_safe 4 (some .int) ({ frames := 6, cells := 0, slots := 0, locals := 154 }) G (mM G y b f r) [.ref y, .int tb, .int row, .int col] (fun q w => ∃ (n_f_0 : Int32) (n_f_20 : Int32) (n_f_21 : Int32) (n_r_15 : Nat → Int32) (n_r_16 : Nat → Int32) (n_r_17 : Nat → Int32) (n_r_18 : Nat → Int32) (n_r_19 : Nat → Int32) (n_r_22 : Nat → Int32) (n_r_23 : Nat → Int32), w = mM G y b (upd (upd (upd f 0 n_f_0) 20 n_f_20) 21 n_f_21) (up2 (up2 (up2 (up2 (up2 (up2 (up2 r 15 n_r_15) 16 n_r_16) 17 n_r_17) 18 n_r_18) 19 n_r_19) 22 n_r_22) 23 n_r_23)) := by
  refine wr_entryI (by decide +kernel) (Nat.le_of_ble_eq_true rfl) ?_
  intro p e s m below meth c A C0 hP hK hD hA ls hl
  have hS : va_S A s.heap s.heap [] := va_S.rf
  obtain ⟨hx, hb, hml, hown, hts, hr, hlocks, hin⟩ := C0
  have hown : s.vm.findClass RX7 = some m.cls := hown
  have hDD : ∀ f' r', va_D A (mM G y b f' r') := fun f' r' => D_same hD rfl
  have hl : lv_has ls 4 [(0, .ref y), (1, .int tb), (2, .int row), (3, .int col)] := hl
  refine lv_aload_n hx hb dX7_safe_0 rfl (lv_at hl 0 rfl) ?_
  refine lv_aload_n hx hb dX7_safe_1 rfl (lv_at hl 0 rfl) ?_
  refine lv_iload_n hx hb dX7_safe_2 rfl (lv_at hl 1 rfl) ?_
  refine lv_iload_n hx hb dX7_safe_3 rfl (lv_at hl 2 rfl) ?_
  refine lv_iload_n hx hb dX7_safe_4 rfl (lv_at hl 3 rfl) ?_
  refine rdV (rest := [.ref y]) (q0 := 0) ⟨hx, hb, hml, hown, hts⟩ (m_X7_wrongSound l G y b f r tb row col  hM2 hM3 hM12) mi_yX7_wrongSound mv_yX7_wrongSound ml_X7_178 ⟨rfl, rfl, Nat.le_of_ble_eq_true rfl, Nat.le_of_ble_eq_true rfl⟩ hK (hP) rfl rfl rfl hl.1 rfl (Nat.le_of_ble_eq_true rfl) dX7_safe_5 ⟨Nat.zero_le _, Nat.zero_le _⟩ hS hA hP (fun r1 H locs hr1 hP hS => ?_)
  have hr1 : stM (r 1) (r 2) (r 3) (r 11) tb row col (fun t i k => kfS ((r 5) (144 * t + 12 * i + k)) (sndN ((r 3) t) (r 11) (r 5) t i)) r1 := hr1
  refine va_put (D := G.1) (ci := 7) (v := .int r1) (C := RX7) (T := TX7) (N := 43) hx hb hts inX7 tyX7 tyX7_ok nmX7 hown hK.1 hP (hDD _ _) hS 0 rfl rfl 0 (by decide) (hts _ mf_X7_116) (fun _ h9 => h9) rfl (tyX7_ok 0 (by decide)) (rfl) (rfl) (Nat.le_of_ble_eq_true rfl) dX7_safe_8 (fun H locs hP _ hS => ?_)
  have hP : PP G (mM G y b (upd f 0 r1) r) H := hP
  refine lv_aload_n hx hb dX7_safe_11 rfl (lv_at hl 0 rfl) ?_
  refine va_get (D := G.1) (ci := 7) (v := .int r1) (C := RX7) (T := TX7) (N := 43) hx hb hts inX7 hown hK.1 hP 0 rfl rfl 0 (by decide) (hts _ mf_X7_116) (fun _ h9 => h9) rfl dX7_safe_12 ?_
  refine lv_if_le (tgt := 22) hx hb dX7_safe_15 (by decide) (fun c2 => ?_) (fun c2 => ?_)
  · obtain ⟨t, i, k, rw, cl, ht, hi, hk, hrw, hcl, rfl, rfl, rfl, h2, h3⟩ := wS_ok (stM_w hM2 hM3 (fun _ _ _ => kfS_p _ _) hr1) (npos_of_le c2)
    obtain ⟨bk, hbk, h12⟩ := hM12 t ht
    refine lv_aload_n hx hb dX7_safe_22 rfl (lv_at hl 0 rfl) ?_
    refine lv_iload_n hx hb dX7_safe_23 rfl (lv_at hl 1 rfl) ?_
    refine lv_iload_n hx hb dX7_safe_24 rfl (lv_at hl 2 rfl) ?_
    refine lv_iload_n hx hb dX7_safe_25 rfl (lv_at hl 3 rfl) ?_
    refine wrVIa (rest := []) (q0 := 0) ⟨hx, hb, hml, hown, hts⟩ (m_X7_isSafe l G y b (upd f 0 r1) r t i k rw cl bk (by omega) (by omega) (by omega) (by omega) h2 h3 h12 (by omega) (by omega) hG) mi_yX7_isSafe mv_yX7_isSafe ml_X7_227 ⟨rfl, rfl, Nat.le_of_ble_eq_true rfl, Nat.le_of_ble_eq_true rfl⟩ hK hP (hDD _ _) rfl rfl rfl hl.1 rfl (Nat.le_of_ble_eq_true rfl) dX7_safe_26 ⟨Nat.zero_le _, Nat.zero_le _⟩ hS hA (fun r3 w4 H locs hw4 hP hS => ?_)
    obtain ⟨x5, x6, x7, x8, x9, x10, x11, x12, x13, rfl, hw4r⟩ := hw4
    have hP : PP G (mM G y b (upd (upd (upd f 0 r1) 20 x5) 21 x6) (up2 (up2 (up2 (up2 (up2 (up2 (up2 r 15 x7) 16 x8) 17 x9) 18 x10) 19 x11) 22 x12) 23 x13)) H := hP
    have hw4r : (r3 = 0 ∨ r3 = 1) := hw4r
    refine lv_if_eq (tgt := 36) hx hb dX7_safe_29 (by decide) (fun c14 => ?_) (fun c14 => ?_)
    · refine lv_iconst (v := 0) hx hb dX7_safe_36 (by decide) ?_
      exact wr_iret hx hb hr hlocks hS hP ⟨r1, x5, x6, x7, x8, x9, x10, x11, x12, x13, rfl⟩ dX7_safe_37
    · refine lv_iconst (v := 1) hx hb dX7_safe_32 (by decide) ?_
      refine lv_goto (tgt := 37) hx hb dX7_safe_33 (by decide) ?_
      exact wr_iret hx hb hr hlocks hS hP ⟨r1, x5, x6, x7, x8, x9, x10, x11, x12, x13, rfl⟩ dX7_safe_37
  · refine lv_iconst (v := -1) hx hb dX7_safe_18 (by decide) ?_
    refine lv_goto (tgt := 37) hx hb dX7_safe_19 (by decide) ?_
    exact wr_iret hx hb hr hlocks hS hP ⟨r1, (f 20), (f 21), (r 15), (r 16), (r 17), (r 18), (r 19), (r 22), (r 23), rfl⟩ dX7_safe_37
set_option maxHeartbeats 4000000 in
set_option maxRecDepth 100000 in
theorem m_X7_unsafeFrom (l : Launch) (G : GG) (y : Nat) (b : Nat → Nat) (f : Nat → Int32) (r : Nat → Nat → Int32) (t : Nat) (pl : Nat) (rw : Nat) (cl : Nat) (bk : Nat) (ht : t < 6) (hrw : rw ≤ 12) (hcl : cl ≤ 12) (hbk : bk ≤ 12) (h2 : (r 2) t = nI rw) (h3 : (r 3) t = nI cl) (h12 : (r 12) t = nI bk) (hpl : pl ≤ 145) (hG : nOK 864 6 (r 7)) : WrI l yX7_unsafeFrom cX7_unsafeFrom 6 (some .int) ({ frames := 6, cells := 0, slots := 0, locals := 154 }) G (mM G y b f r) [.ref y, .int (nI t), .int (nI pl)] (fun q w => ∃ (n_f_20 : Int32) (n_f_21 : Int32) (n_r_15 : Nat → Int32) (n_r_16 : Nat → Int32) (n_r_17 : Nat → Int32) (n_r_18 : Nat → Int32) (n_r_19 : Nat → Int32) (n_r_22 : Nat → Int32) (n_r_23 : Nat → Int32), w = mM G y b (upd (upd f 20 n_f_20) 21 n_f_21) (up2 (up2 (up2 (up2 (up2 (up2 (up2 r 15 n_r_15) 16 n_r_16) 17 n_r_17) 18 n_r_18) 19 n_r_19) 22 n_r_22) 23 n_r_23) ∧ (q = -1 ∨ ∃ n, pl ≤ n ∧ n < 144 ∧ q = nI n)) := by
  refine wr_entryI (by decide +kernel) (Nat.le_of_ble_eq_true rfl) ?_
  intro p e s m below meth c A C0 hP hK hD hA ls hl
  have hS : va_S A s.heap s.heap [] := va_S.rf
  obtain ⟨hx, hb, hml, hown, hts, hr, hlocks, hin⟩ := C0
  have hown : s.vm.findClass RX7 = some m.cls := hown
  have hDD : ∀ f' r', va_D A (mM G y b f' r') := fun f' r' => D_same hD rfl
  have hl : lv_has ls 6 [(0, .ref y), (1, .int (nI t)), (2, .int (nI pl))] := hl
  refine lv_iload_n hx hb dX7_unsafeFrom_0 rfl (lv_at hl 2 rfl) ?_
  refine lv_istore_n (lv' := [(3, .int (nI pl)), (0, .ref y), (1, .int (nI t)), (2, .int (nI pl))]) hx hb dX7_unsafeFrom_1 rfl hl (by decide) rfl (fun ls hl => ?_)
  have loop2 : ∀ (k1 n : Nat) (x2 : Int32) (x3 : Int32) (x4 : Nat → Int32) (x5 : Nat → Int32) (x6 : Nat → Int32) (x7 : Nat → Int32) (x8 : Nat → Int32) (x9 : Nat → Int32) (x10 : Nat → Int32), n ≤ (max pl (12 * rw)) → (max pl (12 * rw)) < n + k1 → (pl ≤ n) → ∀ (H : Heap) (locs : List Loc) (ls : Array Slot), PP G (mM G y b (upd (upd f 20 x2) 21 x3) (up2 (up2 (up2 (up2 (up2 (up2 (up2 r 15 x4) 16 x5) 17 x6) 18 x7) 19 x8) 22 x9) 23 x10)) H → va_S A s.heap H locs → lv_has ls 6 [(3, .int (nI n)), (0, .ref y), (1, .int (nI t))] → W p l e ({ frames := 6, cells := 0, slots := 0, locals := 154 }) s m ([.ref y, .int (nI t), .int (nI pl)] : List Value).toArray below meth c H locs 0 0 (MQ below (QwI G (fun q w => ∃ (n_f_20 : Int32) (n_f_21 : Int32) (n_r_15 : Nat → Int32) (n_r_16 : Nat → Int32) (n_r_17 : Nat → Int32) (n_r_18 : Nat → Int32) (n_r_19 : Nat → Int32) (n_r_22 : Nat → Int32) (n_r_23 : Nat → Int32), w = mM G y b (upd (upd f 20 n_f_20) 21 n_f_21) (up2 (up2 (up2 (up2 (up2 (up2 (up2 r 15 n_r_15) 16 n_r_16) 17 n_r_17) 18 n_r_18) 19 n_r_19) 22 n_r_22) 23 n_r_23) ∧ (q = -1 ∨ ∃ n, pl ≤ n ∧ n < 144 ∧ q = nI n)) A) ([.ref y, .int (nI t), .int (nI pl)] : List Value).toArray s 0 0 A) (F0 m 2 ls []) := by
    intro k1
    induction k1 with
    | zero => intro n x2 x3 x4 x5 x6 x7 x8 x9 x10 h1 h2; exact absurd h1 (by omega)
    | succ k1 ih2k1 =>
      intro n x2 x3 x4 x5 x6 x7 x8 x9 x10 hi_n hk_n hge H locs ls hP hS hl
      refine lv_iload_n hx hb dX7_unsafeFrom_2 rfl (lv_at hl 0 rfl) ?_
      refine lv_bipush (v := 12) hx hb dX7_unsafeFrom_3 (by decide) ?_
      refine lv_aload_n hx hb dX7_unsafeFrom_5 rfl (lv_at hl 1 rfl) ?_
      refine va_get (D := G.1) (ci := 7) (v := .ref (b 2)) (C := RX7) (T := TX7) (N := 43) hx hb hts inX7 hown hK.1 hP 0 rfl rfl 2 (by decide) (hts _ mf_X7_13) (fun _ h9 => h9) rfl dX7_unsafeFrom_6 ?_
      refine lv_iload_n hx hb dX7_unsafeFrom_9 rfl (lv_at hl 2 rfl) ?_
      refine xiald (f := (r 2)) hx hb hK hP 2 (t) (rfl) (by omega) (by decide) rfl dX7_unsafeFrom_10 ?_
      refine lv_topi (fun v11 ev11 => ?_)
      obtain rfl : v11 = nI (rw) := ev11.trans (h2)
      refine lv_imul hx hb dX7_unsafeFrom_11 ?_
      refine lv_topi (fun v12 ev12 => ?_)
      obtain rfl : v12 = nI (12 * (rw)) := nI_times ev12 rfl rfl
      refine lv_icmp_ge (tgt := 84) hx hb dX7_unsafeFrom_12 (by decide) (fun c13 => ?_) (fun c13 => ?_)
      · have b12 := qge_t (a := n) (b := (12 * (rw))) (by omega) (by omega) c13
        refine lv_iconst (v := -1) hx hb dX7_unsafeFrom_84 (by decide) ?_
        exact wr_iret hx hb hr hlocks hS hP ⟨x2, x3, x4, x5, x6, x7, x8, x9, x10, rfl, Or.inl rfl⟩ dX7_unsafeFrom_85
      · have b12 := qge_f (a := n) (b := (12 * (rw))) (by omega) (by omega) c13
        refine lv_iload_n hx hb dX7_unsafeFrom_15 rfl (lv_at hl 0 rfl) ?_
        refine lv_bipush (v := 12) hx hb dX7_unsafeFrom_16 (by decide) ?_
        refine lv_idiv hx hb dX7_unsafeFrom_18 (by decide) ?_
        refine lv_topi (fun v14 ev14 => ?_)
        obtain rfl : v14 = nI (n / 12) := nI_quo ev14 rfl rfl (by omega) (by omega) (by omega)
        refine lv_istore (lv' := [(4, .int (nI (n / 12))), (3, .int (nI n)), (0, .ref y), (1, .int (nI t))]) hx hb dX7_unsafeFrom_19 hl (by decide) rfl (fun ls hl => ?_)
        refine lv_iload_n hx hb dX7_unsafeFrom_21 rfl (lv_at hl 1 rfl) ?_
        refine lv_bipush (v := 12) hx hb dX7_unsafeFrom_22 (by decide) ?_
        refine lv_irem hx hb dX7_unsafeFrom_24 (by decide) ?_
        refine lv_topi (fun v15 ev15 => ?_)
        obtain rfl : v15 = nI (n % 12) := nI_mod ev15 rfl rfl (by omega) (by omega) (by omega)
        refine lv_istore (lv' := [(5, .int (nI (n % 12))), (4, .int (nI (n / 12))), (3, .int (nI n)), (0, .ref y), (1, .int (nI t))]) hx hb dX7_unsafeFrom_25 hl (by decide) rfl (fun ls hl => ?_)
        refine lv_iload hx hb dX7_unsafeFrom_27 (lv_at hl 0 rfl) ?_
        refine lv_aload_n hx hb dX7_unsafeFrom_29 rfl (lv_at hl 3 rfl) ?_
        refine va_get (D := G.1) (ci := 7) (v := .ref (b 3)) (C := RX7) (T := TX7) (N := 43) hx hb hts inX7 hown hK.1 hP 0 rfl rfl 3 (by decide) (hts _ mf_X7_17) (fun _ h9 => h9) rfl dX7_unsafeFrom_30 ?_
        refine lv_iload_n hx hb dX7_unsafeFrom_33 rfl (lv_at hl 4 rfl) ?_
        refine xiald (f := (r 3)) hx hb hK hP 3 (t) (rfl) (by omega) (by decide) rfl dX7_unsafeFrom_34 ?_
        refine lv_topi (fun v16 ev16 => ?_)
        obtain rfl : v16 = nI (cl) := ev16.trans (h3)
        refine lv_icmp_ge (tgt := 78) hx hb dX7_unsafeFrom_35 (by decide) (fun c17 => ?_) (fun c17 => ?_)
        · have b35 := qge_t (a := (n % 12)) (b := (cl)) (by omega) (by omega) c17
          obtain ⟨v18, ev18⟩ : ∃ y9 : Int32, y9 = (nI n) + Int32.ofInt (1) := ⟨_, rfl⟩
          refine lv_iinc (v := v18) (lv' := [(3, .int v18), (5, .int (nI (n % 12))), (4, .int (nI (n / 12))), (0, .ref y), (1, .int (nI t))]) hx hb dX7_unsafeFrom_78 hl (k := 2) rfl ev18.symm (by decide) rfl (fun ls hl => ?_)
          obtain rfl : v18 = nI (n + 1) := nI_plus (i := n) (j := 1) ev18 rfl (by decide)
          refine lv_goto (tgt := 2) hx hb dX7_unsafeFrom_81 (by decide) ?_
          exact ih2k1 (n + 1) x2 x3 x4 x5 x6 x7 x8 x9 x10 (by omega) (by omega) (by omega) _ _ _ hP hS (lv_sub hl [0, 3, 4] rfl)
        · have b35 := qge_f (a := (n % 12)) (b := (cl)) (by omega) (by omega) c17
          refine lv_aload_n hx hb dX7_unsafeFrom_38 rfl (lv_at hl 3 rfl) ?_
          refine lv_iload_n hx hb dX7_unsafeFrom_39 rfl (lv_at hl 4 rfl) ?_
          refine lv_iload hx hb dX7_unsafeFrom_40 (lv_at hl 1 rfl) ?_
          refine rdV (rest := []) (q0 := 0) ⟨hx, hb, hml, hown, hts⟩ (m_X7_isSound l G y b (upd (upd f 20 x2) 21 x3) (up2 (up2 (up2 (up2 (up2 (up2 (up2 r 15 x4) 16 x5) 17 x6) 18 x7) 19 x8) 22 x9) 23 x10) t (n / 12) rw cl bk (by omega) (by omega) (by omega) (by omega) h2 h3 h12 (by omega)) mi_yX7_isSound mv_yX7_isSound ml_X7_161 ⟨rfl, rfl, Nat.le_of_ble_eq_true rfl, Nat.le_of_ble_eq_true rfl⟩ hK (hP) rfl rfl rfl hl.1 rfl (Nat.le_of_ble_eq_true rfl) dX7_unsafeFrom_42 ⟨Nat.zero_le _, Nat.zero_le _⟩ hS hA hP (fun r19 H locs hr19 hP hS => ?_)
          have hr19 : ((r19 = 1 ∧ (sndN ((r 3) t) (r 11) (r 5) t (n / 12))) ∨ (r19 = 0 ∧ ¬ (sndN ((r 3) t) (r 11) (r 5) t (n / 12)))) := hr19
          refine lv_if_eq (tgt := 78) hx hb dX7_unsafeFrom_45 (by decide) (fun c20 => ?_) (fun c20 => ?_)
          · have b45 := bF hr19 c20
            obtain ⟨v21, ev21⟩ : ∃ y9 : Int32, y9 = (nI n) + Int32.ofInt (1) := ⟨_, rfl⟩
            refine lv_iinc (v := v21) (lv' := [(3, .int v21), (5, .int (nI (n % 12))), (4, .int (nI (n / 12))), (0, .ref y), (1, .int (nI t))]) hx hb dX7_unsafeFrom_78 hl (k := 2) rfl ev21.symm (by decide) rfl (fun ls hl => ?_)
            obtain rfl : v21 = nI (n + 1) := nI_plus (i := n) (j := 1) ev21 rfl (by decide)
            refine lv_goto (tgt := 2) hx hb dX7_unsafeFrom_81 (by decide) ?_
            exact ih2k1 (n + 1) x2 x3 x4 x5 x6 x7 x8 x9 x10 (by omega) (by omega) (by omega) _ _ _ hP hS (lv_sub hl [0, 3, 4] rfl)
          · have b45 := bT hr19 c20
            refine lv_aload_n hx hb dX7_unsafeFrom_48 rfl (lv_at hl 3 rfl) ?_
            refine lv_iload_n hx hb dX7_unsafeFrom_49 rfl (lv_at hl 4 rfl) ?_
            refine lv_iload_n hx hb dX7_unsafeFrom_50 rfl (lv_at hl 4 rfl) ?_
            refine lv_iload hx hb dX7_unsafeFrom_51 (lv_at hl 1 rfl) ?_
            refine lv_iload hx hb dX7_unsafeFrom_53 (lv_at hl 0 rfl) ?_
            refine rdS (rest := [.int (nI t), .ref y]) ⟨hx, hb, hml, hown, hts⟩ (m_X7_at l G y b (upd (upd f 20 x2) 21 x3) (up2 (up2 (up2 (up2 (up2 (up2 (up2 r 15 x4) 16 x5) 17 x6) 18 x7) 19 x8) 22 x9) 23 x10) t (n / 12) (n % 12)  ) mi_yX7_at mst_yX7_at ml_X7_147 ⟨rfl, rfl, Nat.le_of_ble_eq_true rfl, Nat.le_of_ble_eq_true rfl⟩ hK (hP) rfl hl.1 rfl (Nat.le_of_ble_eq_true rfl) dX7_unsafeFrom_55 ⟨Nat.zero_le _, Nat.zero_le _⟩ hS hA hP (fun r22 H locs hr22 hP hS => ?_)
            obtain rfl := hr22
            refine rdV (rest := []) (q0 := 0) ⟨hx, hb, hml, hown, hts⟩ (m_X7_why l G y b (upd (upd f 20 x2) 21 x3) (up2 (up2 (up2 (up2 (up2 (up2 (up2 r 15 x4) 16 x5) 17 x6) 18 x7) 19 x8) 22 x9) 23 x10) t (144 * t + 12 * (n / 12) + (n % 12))  (by omega) (by omega) hG) mi_yX7_why mv_yX7_why ml_X7_175 ⟨rfl, rfl, Nat.le_of_ble_eq_true rfl, Nat.le_of_ble_eq_true rfl⟩ hK (hP) rfl rfl rfl hl.1 rfl (Nat.le_of_ble_eq_true rfl) dX7_unsafeFrom_58 ⟨Nat.zero_le _, Nat.zero_le _⟩ hS hA hP (fun r23 H locs hr23 hP hS => ?_)
            obtain rfl := hr23
            refine lv_if_le (tgt := 78) hx hb dX7_unsafeFrom_61 (by decide) (fun c24 => ?_) (fun c24 => ?_)
            · obtain ⟨v25, ev25⟩ : ∃ y9 : Int32, y9 = (nI n) + Int32.ofInt (1) := ⟨_, rfl⟩
              refine lv_iinc (v := v25) (lv' := [(3, .int v25), (5, .int (nI (n % 12))), (4, .int (nI (n / 12))), (0, .ref y), (1, .int (nI t))]) hx hb dX7_unsafeFrom_78 hl (k := 2) rfl ev25.symm (by decide) rfl (fun ls hl => ?_)
              obtain rfl : v25 = nI (n + 1) := nI_plus (i := n) (j := 1) ev25 rfl (by decide)
              refine lv_goto (tgt := 2) hx hb dX7_unsafeFrom_81 (by decide) ?_
              exact ih2k1 (n + 1) x2 x3 x4 x5 x6 x7 x8 x9 x10 (by omega) (by omega) (by omega) _ _ _ hP hS (lv_sub hl [0, 3, 4] rfl)
            · refine lv_aload_n hx hb dX7_unsafeFrom_64 rfl (lv_at hl 3 rfl) ?_
              refine lv_iload_n hx hb dX7_unsafeFrom_65 rfl (lv_at hl 4 rfl) ?_
              refine lv_iload hx hb dX7_unsafeFrom_66 (lv_at hl 1 rfl) ?_
              refine lv_iload hx hb dX7_unsafeFrom_68 (lv_at hl 0 rfl) ?_
              refine wrVIa (rest := []) (q0 := 0) ⟨hx, hb, hml, hown, hts⟩ (m_X7_isSafe l G y b (upd (upd f 20 x2) 21 x3) (up2 (up2 (up2 (up2 (up2 (up2 (up2 r 15 x4) 16 x5) 17 x6) 18 x7) 19 x8) 22 x9) 23 x10) t (n / 12) (n % 12) rw cl bk (by omega) (by omega) (by omega) (by omega) h2 h3 h12 (by omega) (by omega) hG) mi_yX7_isSafe mv_yX7_isSafe ml_X7_227 ⟨rfl, rfl, Nat.le_of_ble_eq_true rfl, Nat.le_of_ble_eq_true rfl⟩ hK hP (hDD _ _) rfl rfl rfl hl.1 rfl (Nat.le_of_ble_eq_true rfl) dX7_unsafeFrom_70 ⟨Nat.zero_le _, Nat.zero_le _⟩ hS hA (fun r26 w27 H locs hw27 hP hS => ?_)
              obtain ⟨x28, x29, x30, x31, x32, x33, x34, x35, x36, rfl, hw27r⟩ := hw27
              have hP : PP G (mM G y b (upd (upd f 20 x28) 21 x29) (up2 (up2 (up2 (up2 (up2 (up2 (up2 r 15 x30) 16 x31) 17 x32) 18 x33) 19 x34) 22 x35) 23 x36)) H := hP
              have hw27r : (r26 = 0 ∨ r26 = 1) := hw27r
              refine lv_if_ne (tgt := 78) hx hb dX7_unsafeFrom_73 (by decide) (fun c37 => ?_) (fun c37 => ?_)
              · obtain ⟨v38, ev38⟩ : ∃ y9 : Int32, y9 = (nI n) + Int32.ofInt (1) := ⟨_, rfl⟩
                refine lv_iinc (v := v38) (lv' := [(3, .int v38), (5, .int (nI (n % 12))), (4, .int (nI (n / 12))), (0, .ref y), (1, .int (nI t))]) hx hb dX7_unsafeFrom_78 hl (k := 2) rfl ev38.symm (by decide) rfl (fun ls hl => ?_)
                obtain rfl : v38 = nI (n + 1) := nI_plus (i := n) (j := 1) ev38 rfl (by decide)
                refine lv_goto (tgt := 2) hx hb dX7_unsafeFrom_81 (by decide) ?_
                exact ih2k1 (n + 1) x28 x29 x30 x31 x32 x33 x34 x35 x36 (by omega) (by omega) (by omega) _ _ _ hP hS (lv_sub hl [0, 3, 4] rfl)
              · refine lv_iload_n hx hb dX7_unsafeFrom_76 rfl (lv_at hl 2 rfl) ?_
                exact wr_iret hx hb hr hlocks hS hP ⟨x28, x29, x30, x31, x32, x33, x34, x35, x36, rfl, Or.inr ⟨n, hge, by omega, rfl⟩⟩ dX7_unsafeFrom_77
  exact loop2 ((max pl (12 * rw)) + 1) pl (f 20) (f 21) (r 15) (r 16) (r 17) (r 18) (r 19) (r 22) (r 23) (by omega) (by omega) (by omega) _ _ _ hP hS (lv_sub hl [0, 1, 2] rfl)
set_option maxHeartbeats 4000000 in
set_option maxRecDepth 100000 in
theorem m_X7_unsafe (l : Launch) (G : GG) (y : Nat) (b : Nat → Nat) (f : Nat → Int32) (r : Nat → Nat → Int32) (tb : Int32) (hM2 : nOK 6 12 (r 2)) (hM3 : nOK 6 12 (r 3)) (hM12 : nOK 6 12 (r 12)) (hG : nOK 864 6 (r 7)) : WrI l yX7_unsafe cX7_unsafe 4 (some .int) ({ frames := 7, cells := 0, slots := 0, locals := 179 }) G (mM G y b f r) [.ref y, .int tb] (fun q w => ∃ (n_f_0 : Int32) (n_f_20 : Int32) (n_f_21 : Int32) (n_r_15 : Nat → Int32) (n_r_16 : Nat → Int32) (n_r_17 : Nat → Int32) (n_r_18 : Nat → Int32) (n_r_19 : Nat → Int32) (n_r_22 : Nat → Int32) (n_r_23 : Nat → Int32), w = mM G y b (upd (upd (upd f 0 n_f_0) 20 n_f_20) 21 n_f_21) (up2 (up2 (up2 (up2 (up2 (up2 (up2 r 15 n_r_15) 16 n_r_16) 17 n_r_17) 18 n_r_18) 19 n_r_19) 22 n_r_22) 23 n_r_23)) := by
  refine wr_entryI (by decide +kernel) (Nat.le_of_ble_eq_true rfl) ?_
  intro p e s m below meth c A C0 hP hK hD hA ls hl
  have hS : va_S A s.heap s.heap [] := va_S.rf
  obtain ⟨hx, hb, hml, hown, hts, hr, hlocks, hin⟩ := C0
  have hown : s.vm.findClass RX7 = some m.cls := hown
  have hDD : ∀ f' r', va_D A (mM G y b f' r') := fun f' r' => D_same hD rfl
  have hl : lv_has ls 4 [(0, .ref y), (1, .int tb)] := hl
  refine lv_aload_n hx hb dX7_unsafe_0 rfl (lv_at hl 0 rfl) ?_
  refine lv_aload_n hx hb dX7_unsafe_1 rfl (lv_at hl 0 rfl) ?_
  refine lv_iload_n hx hb dX7_unsafe_2 rfl (lv_at hl 1 rfl) ?_
  refine rdV (rest := [.ref y]) (q0 := 0) ⟨hx, hb, hml, hown, hts⟩ (m_X7_isTable l G y b f r tb  ) mi_yX7_isTable mv_yX7_isTable ml_X7_120 ⟨rfl, rfl, Nat.le_of_ble_eq_true rfl, Nat.le_of_ble_eq_true rfl⟩ hK (hP) rfl rfl rfl hl.1 rfl (Nat.le_of_ble_eq_true rfl) dX7_unsafe_3 ⟨Nat.zero_le _, Nat.zero_le _⟩ hS hA hP (fun r1 H locs hr1 hP hS => ?_)
  have hr1 : ((r1 = 1 ∧ (opn (r 1) tb)) ∨ (r1 = 0 ∧ ¬ (opn (r 1) tb))) := hr1
  refine lv_if_eq (tgt := 13) hx hb dX7_unsafe_6 (by decide) (fun c2 => ?_) (fun c2 => ?_)
  · have b6 := bF hr1 c2
    refine lv_iconst (v := 1) hx hb dX7_unsafe_13 (by decide) ?_
    refine va_put (D := G.1) (ci := 7) (v := .int 1) (C := RX7) (T := TX7) (N := 43) hx hb hts inX7 tyX7 tyX7_ok nmX7 hown hK.1 hP (hDD _ _) hS 0 rfl rfl 0 (by decide) (hts _ mf_X7_116) (fun _ h9 => h9) rfl (tyX7_ok 0 (by decide)) (rfl) (rfl) (Nat.le_of_ble_eq_true rfl) dX7_unsafe_14 (fun H locs hP _ hS => ?_)
    have hP : PP G (mM G y b (upd f 0 1) r) H := hP
    refine lv_aload_n hx hb dX7_unsafe_17 rfl (lv_at hl 0 rfl) ?_
    refine va_get (D := G.1) (ci := 7) (v := .int 1) (C := RX7) (T := TX7) (N := 43) hx hb hts inX7 hown hK.1 hP 0 rfl rfl 0 (by decide) (hts _ mf_X7_116) (fun _ h9 => h9) rfl dX7_unsafe_18 ?_
    refine lv_if_le (tgt := 26) hx hb dX7_unsafe_21 (by decide) (fun c3 => absurd c3 (by decide)) (fun c3 => ?_)
    refine lv_iconst (v := -1) hx hb dX7_unsafe_24 (by decide) ?_
    exact wr_iret hx hb hr hlocks hS hP ⟨1, (f 20), (f 21), (r 15), (r 16), (r 17), (r 18), (r 19), (r 22), (r 23), rfl⟩ dX7_unsafe_25
  · have b6 := bT hr1 c2
    obtain ⟨t, ht, rfl, hop⟩ := b6
    obtain ⟨rw, hrw, h2⟩ := hM2 t ht
    obtain ⟨cl, hcl, h3⟩ := hM3 t ht
    obtain ⟨bk, hbk, h12⟩ := hM12 t ht
    refine lv_iconst (v := 0) hx hb dX7_unsafe_9 (by decide) ?_
    refine lv_goto (tgt := 14) hx hb dX7_unsafe_10 (by decide) ?_
    refine va_put (D := G.1) (ci := 7) (v := .int 0) (C := RX7) (T := TX7) (N := 43) hx hb hts inX7 tyX7 tyX7_ok nmX7 hown hK.1 hP (hDD _ _) hS 0 rfl rfl 0 (by decide) (hts _ mf_X7_116) (fun _ h9 => h9) rfl (tyX7_ok 0 (by decide)) (rfl) (rfl) (Nat.le_of_ble_eq_true rfl) dX7_unsafe_14 (fun H locs hP _ hS => ?_)
    have hP : PP G (mM G y b (upd f 0 0) r) H := hP
    refine lv_aload_n hx hb dX7_unsafe_17 rfl (lv_at hl 0 rfl) ?_
    refine va_get (D := G.1) (ci := 7) (v := .int 0) (C := RX7) (T := TX7) (N := 43) hx hb hts inX7 hown hK.1 hP 0 rfl rfl 0 (by decide) (hts _ mf_X7_116) (fun _ h9 => h9) rfl dX7_unsafe_18 ?_
    refine lv_if_le (tgt := 26) hx hb dX7_unsafe_21 (by decide) (fun c4 => ?_) (fun c4 => absurd (by decide) c4)
    refine lv_iconst (v := 0) hx hb dX7_unsafe_26 (by decide) ?_
    refine lv_istore_n (lv' := [(2, .int 0), (0, .ref y), (1, .int (nI t))]) hx hb dX7_unsafe_27 rfl hl (by decide) rfl (fun ls hl => ?_)
    refine lv_aload_n hx hb dX7_unsafe_28 rfl (lv_at hl 1 rfl) ?_
    refine lv_iload_n hx hb dX7_unsafe_29 rfl (lv_at hl 2 rfl) ?_
    refine lv_iconst (v := 0) hx hb dX7_unsafe_30 (by decide) ?_
    refine wrVIa (rest := []) (q0 := 0) ⟨hx, hb, hml, hown, hts⟩ (m_X7_unsafeFrom l G y b (upd f 0 0) r t 0 rw cl bk (by omega) (by omega) (by omega) (by omega) h2 h3 h12 (by omega) hG) mi_yX7_unsafeFrom mv_yX7_unsafeFrom ml_X7_230 ⟨rfl, rfl, Nat.le_of_ble_eq_true rfl, Nat.le_of_ble_eq_true rfl⟩ hK hP (hDD _ _) rfl rfl rfl hl.1 rfl (Nat.le_of_ble_eq_true rfl) dX7_unsafe_31 ⟨Nat.zero_le _, Nat.zero_le _⟩ hS hA (fun r5 w6 H locs hw6 hP hS => ?_)
    obtain ⟨x7, x8, x9, x10, x11, x12, x13, x14, x15, rfl, hw6r⟩ := hw6
    have hP : PP G (mM G y b (upd (upd (upd f 0 0) 20 x7) 21 x8) (up2 (up2 (up2 (up2 (up2 (up2 (up2 r 15 x9) 16 x10) 17 x11) 18 x12) 19 x13) 22 x14) 23 x15)) H := hP
    have hw6r : (r5 = -1 ∨ ∃ n, 0 ≤ n ∧ n < 144 ∧ r5 = nI n) := hw6r
    refine lv_istore_n (lv' := [(3, .int r5), (2, .int 0), (0, .ref y), (1, .int (nI t))]) hx hb dX7_unsafe_34 rfl hl (by decide) rfl (fun ls hl => ?_)
    have loop35 : ∀ (k16 : Nat) (z18 : Int32) (z19 : Int32) (ms : Nat) (x20 : Int32) (x21 : Int32) (x22 : Nat → Int32) (x23 : Nat → Int32) (x24 : Nat → Int32) (x25 : Nat → Int32) (x26 : Nat → Int32) (x27 : Nat → Int32) (x28 : Nat → Int32), ms < k16 → ((z18 : Int32) = -1 ∨ ∃ n, n < 144 ∧ (z18 : Int32) = nI n ∧ 144 - n ≤ ms) → ∀ (H : Heap) (locs : List Loc) (ls : Array Slot), PP G (mM G y b (upd (upd (upd f 0 0) 20 x20) 21 x21) (up2 (up2 (up2 (up2 (up2 (up2 (up2 r 15 x22) 16 x23) 17 x24) 18 x25) 19 x26) 22 x27) 23 x28)) H → va_S A s.heap H locs → lv_has ls 4 [(3, .int z18), (2, .int z19), (0, .ref y), (1, .int (nI t))] → W p l e ({ frames := 7, cells := 0, slots := 0, locals := 179 }) s m ([.ref y, .int (nI t)] : List Value).toArray below meth c H locs 0 0 (MQ below (QwI G (fun q w => ∃ (n_f_0 : Int32) (n_f_20 : Int32) (n_f_21 : Int32) (n_r_15 : Nat → Int32) (n_r_16 : Nat → Int32) (n_r_17 : Nat → Int32) (n_r_18 : Nat → Int32) (n_r_19 : Nat → Int32) (n_r_22 : Nat → Int32) (n_r_23 : Nat → Int32), w = mM G y b (upd (upd (upd f 0 n_f_0) 20 n_f_20) 21 n_f_21) (up2 (up2 (up2 (up2 (up2 (up2 (up2 r 15 n_r_15) 16 n_r_16) 17 n_r_17) 18 n_r_18) 19 n_r_19) 22 n_r_22) 23 n_r_23)) A) ([.ref y, .int (nI t)] : List Value).toArray s 0 0 A) (F0 m 35 ls []) := by
      intro k16
      induction k16 with
      | zero => intro z18 z19 ms x20 x21 x22 x23 x24 x25 x26 x27 x28 h1; exact absurd h1 (Nat.not_lt_zero _)
      | succ k16 ih35k16 =>
        intro  z18 z19 ms x20 x21 x22 x23 x24 x25 x26 x27 x28 hm_k16 hk H locs ls hP hS hl
        refine lv_iload_n hx hb dX7_unsafe_35 rfl (lv_at hl 0 rfl) ?_
        refine lv_iconst (v := -1) hx hb dX7_unsafe_36 (by decide) ?_
        refine lv_icmp_eq (tgt := 55) hx hb dX7_unsafe_37 (by decide) (fun c29 => ?_) (fun c29 => ?_)
        · refine lv_iload_n hx hb dX7_unsafe_55 rfl (lv_at hl 1 rfl) ?_
          exact wr_iret hx hb hr hlocks hS hP ⟨0, x20, x21, x22, x23, x24, x25, x26, x27, x28, rfl⟩ dX7_unsafe_56
        · obtain ⟨n9, hn9, rfl, hm9⟩ := hk.resolve_left c29
          obtain ⟨v30, ev30⟩ : ∃ y9 : Int32, y9 = z19 + Int32.ofInt (1) := ⟨_, rfl⟩
          refine lv_iinc (v := v30) (lv' := [(2, .int v30), (3, .int (nI n9)), (0, .ref y), (1, .int (nI t))]) hx hb dX7_unsafe_40 hl (k := 1) rfl ev30.symm (by decide) rfl (fun ls hl => ?_)
          refine lv_aload_n hx hb dX7_unsafe_43 rfl (lv_at hl 2 rfl) ?_
          refine lv_iload_n hx hb dX7_unsafe_44 rfl (lv_at hl 3 rfl) ?_
          refine lv_iload_n hx hb dX7_unsafe_45 rfl (lv_at hl 1 rfl) ?_
          refine lv_iconst (v := 1) hx hb dX7_unsafe_46 (by decide) ?_
          refine lv_iadd hx hb dX7_unsafe_47 ?_
          refine lv_topi (fun v31 ev31 => ?_)
          obtain rfl : v31 = nI (n9 + 1) := nI_plus ev31 rfl rfl
          refine wrVIa (rest := []) (q0 := 0) ⟨hx, hb, hml, hown, hts⟩ (m_X7_unsafeFrom l G y b (upd (upd (upd f 0 0) 20 x20) 21 x21) (up2 (up2 (up2 (up2 (up2 (up2 (up2 r 15 x22) 16 x23) 17 x24) 18 x25) 19 x26) 22 x27) 23 x28) t (n9 + 1) rw cl bk (by omega) (by omega) (by omega) (by omega) h2 h3 h12 (by omega) hG) mi_yX7_unsafeFrom mv_yX7_unsafeFrom ml_X7_230 ⟨rfl, rfl, Nat.le_of_ble_eq_true rfl, Nat.le_of_ble_eq_true rfl⟩ hK hP (hDD _ _) rfl rfl rfl hl.1 rfl (Nat.le_of_ble_eq_true rfl) dX7_unsafe_48 ⟨Nat.zero_le _, Nat.zero_le _⟩ hS hA (fun r32 w33 H locs hw33 hP hS => ?_)
          obtain ⟨x34, x35, x36, x37, x38, x39, x40, x41, x42, rfl, hw33r⟩ := hw33
          have hP : PP G (mM G y b (upd (upd (upd f 0 0) 20 x34) 21 x35) (up2 (up2 (up2 (up2 (up2 (up2 (up2 r 15 x36) 16 x37) 17 x38) 18 x39) 19 x40) 22 x41) 23 x42)) H := hP
          have hw33r : (r32 = -1 ∨ ∃ n, (n9 + 1) ≤ n ∧ n < 144 ∧ r32 = nI n) := hw33r
          refine lv_istore_n (lv' := [(3, .int r32), (2, .int v30), (0, .ref y), (1, .int (nI t))]) hx hb dX7_unsafe_51 rfl hl (by decide) rfl (fun ls hl => ?_)
          refine lv_goto (tgt := 35) hx hb dX7_unsafe_52 (by decide) ?_
          exact ih35k16 r32 v30 (143 - n9) x34 x35 x36 x37 x38 x39 x40 x41 x42 (by omega) (hw33r.imp id (fun ⟨n, h1, h2, h3⟩ => ⟨n, h2, h3, by omega⟩)) _ _ _ hP hS (lv_sub hl [0, 1, 2, 3] rfl)
    exact loop35 145 r5 0 144 x7 x8 x9 x10 x11 x12 x13 x14 x15 (by omega) (hw6r.imp id (fun ⟨n, h1, h2, h3⟩ => ⟨n, h2, h3, by omega⟩)) _ _ _ hP hS (lv_sub hl [0, 1, 2, 3] rfl)
