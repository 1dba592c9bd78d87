theorem mf_X7_189 : Cond.fieldLink RX7 189 "CellKeeperModel" "netRows" "I" ∈ TB := TB_t4 120 rfl rfl
theorem mf_X7_192 : Cond.fieldLink RX7 192 "CellKeeperModel" "netColumns" "I" ∈ TB := TB_t4 121 rfl rfl
theorem mf_X7_62 : Cond.fieldLink RX7 62 "CellKeeperModel" "group" "[I" ∈ TB := TB_t4 118 rfl rfl
theorem mf_X7_53 : Cond.fieldLink RX7 53 "CellKeeperModel" "now" "[I" ∈ TB := TB_t4 115 rfl rfl
theorem mf_X7_65 : Cond.fieldLink RX7 65 "CellKeeperModel" "moves" "[Z" ∈ TB := TB_t4 119 rfl rfl
theorem mf_X7_56 : Cond.fieldLink RX7 56 "CellKeeperModel" "low" "[I" ∈ TB := TB_t4 116 rfl rfl
theorem mf_X7_59 : Cond.fieldLink RX7 59 "CellKeeperModel" "high" "[I" ∈ TB := TB_t4 117 rfl rfl
theorem mk_X7_195 : Cond.constant RX7 195 (1000000000) ∈ TB := TB_t5 164 rfl rfl
theorem mkl_X7_196 : Cond.constantLong RX7 196 (999) ∈ TB := TB_t5 165 rfl rfl
theorem mf_X7_68 : Cond.fieldLink RX7 68 "CellKeeperModel" "from" "[I" ∈ TB := TB_t4 122 rfl rfl
theorem mf_X7_71 : Cond.fieldLink RX7 71 "CellKeeperModel" "queue" "[I" ∈ TB := TB_t4 123 rfl rfl
theorem ml_X7_198 : Cond.methodLink RX7 198 yX7_isNode ∈ TB := TB_t5 178 rfl rfl
theorem mcode_yX7_isNode : Cond.code yX7_isNode cX7_isNode 3 (some .boolean) ∈ TB := TB_t5 181 rfl rfl
theorem mi_yX7_isNode : MI yX7_isNode cX7_isNode 3 (some .boolean) 2 := ⟨mz_RX7, mcode_yX7_isNode, by decide +kernel, by decide +kernel, by decide +kernel⟩
theorem mim_yX7_isNode : Cond.instanceMethod yX7_isNode ∈ TB := TB_t5 180 rfl rfl
theorem msel_yX7_isNode : Cond.selects yX7_isNode.cls yX7_isNode yX7_isNode ∈ TB := TB_s (n := 43) 64 (by decide +kernel)
theorem mv_yX7_isNode : Cond.instanceMethod yX7_isNode ∈ TB ∧ Cond.selects yX7_isNode.cls yX7_isNode yX7_isNode ∈ TB := ⟨mim_yX7_isNode, msel_yX7_isNode⟩
theorem ml_X7_201 : Cond.methodLink RX7 201 yX7_room ∈ TB := TB_t5 182 rfl rfl
theorem mcode_yX7_room : Cond.code yX7_room cX7_room 4 (some .int) ∈ TB := TB_t5 185 rfl rfl
theorem mi_yX7_room : MI yX7_room cX7_room 4 (some .int) 2 := ⟨mz_RX7, mcode_yX7_room, by decide +kernel, by decide +kernel, by decide +kernel⟩
theorem mim_yX7_room : Cond.instanceMethod yX7_room ∈ TB := TB_t5 184 rfl rfl
theorem msel_yX7_room : Cond.selects yX7_room.cls yX7_room yX7_room ∈ TB := TB_s (n := 43) 65 (by decide +kernel)
theorem mv_yX7_room : Cond.instanceMethod yX7_room ∈ TB ∧ Cond.selects yX7_room.cls yX7_room yX7_room ∈ TB := ⟨mim_yX7_room, msel_yX7_room⟩
theorem ml_X7_204 : Cond.methodLink RX7 204 yX7_way ∈ TB := TB_t5 174 rfl rfl
theorem mcode_yX7_way : Cond.code yX7_way cX7_way 9 (some .boolean) ∈ TB := TB_t5 177 rfl rfl
theorem mi_yX7_way : MI yX7_way cX7_way 9 (some .boolean) 3 := ⟨mz_RX7, mcode_yX7_way, by decide +kernel, by decide +kernel, by decide +kernel⟩
theorem mim_yX7_way : Cond.instanceMethod yX7_way ∈ TB := TB_t5 176 rfl rfl
theorem msel_yX7_way : Cond.selects yX7_way.cls yX7_way yX7_way ∈ TB := TB_s (n := 43) 63 (by decide +kernel)
theorem mv_yX7_way : Cond.instanceMethod yX7_way ∈ TB ∧ Cond.selects yX7_way.cls yX7_way yX7_way ∈ TB := ⟨mim_yX7_way, msel_yX7_way⟩
theorem ml_X7_207 : Cond.methodLink RX7 207 yJ9_min_7cf53 ∈ TB := TB_t5 186 rfl rfl
theorem mst_yJ9_min_7cf53 : Cond.static yJ9_min_7cf53 ∈ TB := TB_t3 98 rfl rfl
theorem mz_RJ9 : Cond.initialized RJ9 ∈ TB := TB_t1 11 rfl rfl
theorem mcode_yJ9_min_7cf53 : Cond.code yJ9_min_7cf53 cJ9_min_7cf53 2 (some .int) ∈ TB := TB_t3 99 rfl rfl
theorem ml_X7_212 : Cond.methodLink RX7 212 yX7_push ∈ TB := TB_t5 170 rfl rfl
theorem mcode_yX7_push : Cond.code yX7_push cX7_push 10 (some .int) ∈ TB := TB_t5 173 rfl rfl
theorem mi_yX7_push : MI yX7_push cX7_push 10 (some .int) 4 := ⟨mz_RX7, mcode_yX7_push, by decide +kernel, by decide +kernel, by decide +kernel⟩
theorem mim_yX7_push : Cond.instanceMethod yX7_push ∈ TB := TB_t5 172 rfl rfl
theorem msel_yX7_push : Cond.selects yX7_push.cls yX7_push yX7_push ∈ TB := TB_s (n := 43) 62 (by decide +kernel)
theorem mv_yX7_push : Cond.instanceMethod yX7_push ∈ TB ∧ Cond.selects yX7_push.cls yX7_push yX7_push ∈ TB := ⟨mim_yX7_push, msel_yX7_push⟩
theorem ml_X7_216 : Cond.methodLink RX7 216 yX7_lay ∈ TB := TB_t5 160 rfl rfl
theorem mcode_yX7_lay : Cond.code yX7_lay cX7_lay 10 none ∈ TB := TB_t5 163 rfl rfl
theorem mi_yX7_lay : MI yX7_lay cX7_lay 10 none 1 := ⟨mz_RX7, mcode_yX7_lay, by decide +kernel, by decide +kernel, by decide +kernel⟩
theorem mim_yX7_lay : Cond.instanceMethod yX7_lay ∈ TB := TB_t5 162 rfl rfl
theorem msel_yX7_lay : Cond.selects yX7_lay.cls yX7_lay yX7_lay ∈ TB := TB_s (n := 43) 60 (by decide +kernel)
theorem mv_yX7_lay : Cond.instanceMethod yX7_lay ∈ TB ∧ Cond.selects yX7_lay.cls yX7_lay yX7_lay ∈ TB := ⟨mim_yX7_lay, msel_yX7_lay⟩
theorem ml_X7_219 : Cond.methodLink RX7 219 yX7_settle ∈ TB := TB_t5 166 rfl rfl
theorem mcode_yX7_settle : Cond.code yX7_settle cX7_settle 6 none ∈ TB := TB_t5 169 rfl rfl
theorem mi_yX7_settle : MI yX7_settle cX7_settle 6 none 3 := ⟨mz_RX7, mcode_yX7_settle, by decide +kernel, by decide +kernel, by decide +kernel⟩
theorem mim_yX7_settle : Cond.instanceMethod yX7_settle ∈ TB := TB_t5 168 rfl rfl
theorem msel_yX7_settle : Cond.selects yX7_settle.cls yX7_settle yX7_settle ∈ TB := TB_s (n := 43) 61 (by decide +kernel)
theorem mv_yX7_settle : Cond.instanceMethod yX7_settle ∈ TB ∧ Cond.selects yX7_settle.cls yX7_settle yX7_settle ∈ TB := ⟨mim_yX7_settle, msel_yX7_settle⟩
theorem ml_X7_223 : Cond.methodLink RX7 223 yX7_endOf ∈ TB := TB_t5 156 rfl rfl
theorem mcode_yX7_endOf : Cond.code yX7_endOf cX7_endOf 5 (some .int) ∈ TB := TB_t5 159 rfl rfl
theorem mi_yX7_endOf : MI yX7_endOf cX7_endOf 5 (some .int) 4 := ⟨mz_RX7, mcode_yX7_endOf, by decide +kernel, by decide +kernel, by decide +kernel⟩
theorem mim_yX7_endOf : Cond.instanceMethod yX7_endOf ∈ TB := TB_t5 158 rfl rfl
theorem msel_yX7_endOf : Cond.selects yX7_endOf.cls yX7_endOf yX7_endOf ∈ TB := TB_s (n := 43) 59 (by decide +kernel)
theorem mv_yX7_endOf : Cond.instanceMethod yX7_endOf ∈ TB ∧ Cond.selects yX7_endOf.cls yX7_endOf yX7_endOf ∈ TB := ⟨mim_yX7_endOf, msel_yX7_endOf⟩
theorem ml_X7_227 : Cond.methodLink RX7 227 yX7_isSafe ∈ TB := TB_t5 195 rfl rfl
theorem mcode_yX7_isSafe : Cond.code yX7_isSafe cX7_isSafe 6 (some .boolean) ∈ TB := TB_t5 198 rfl rfl
theorem mi_yX7_isSafe : MI yX7_isSafe cX7_isSafe 6 (some .boolean) 3 := ⟨mz_RX7, mcode_yX7_isSafe, by decide +kernel, by decide +kernel, by decide +kernel⟩
theorem mim_yX7_isSafe : Cond.instanceMethod yX7_isSafe ∈ TB := TB_t5 197 rfl rfl
theorem msel_yX7_isSafe : Cond.selects yX7_isSafe.cls yX7_isSafe yX7_isSafe ∈ TB := TB_s (n := 43) 66 (by decide +kernel)
theorem mv_yX7_isSafe : Cond.instanceMethod yX7_isSafe ∈ TB ∧ Cond.selects yX7_isSafe.cls yX7_isSafe yX7_isSafe ∈ TB := ⟨mim_yX7_isSafe, msel_yX7_isSafe⟩
theorem ml_X7_230 : Cond.methodLink RX7 230 yX7_unsafeFrom ∈ TB := TB_t5 203 rfl rfl
theorem mcode_yX7_unsafeFrom : Cond.code yX7_unsafeFrom cX7_unsafeFrom 6 (some .int) ∈ TB := TB_t5 206 rfl rfl
theorem mi_yX7_unsafeFrom : MI yX7_unsafeFrom cX7_unsafeFrom 6 (some .int) 2 := ⟨mz_RX7, mcode_yX7_unsafeFrom, by decide +kernel, by decide +kernel, by decide +kernel⟩
theorem mim_yX7_unsafeFrom : Cond.instanceMethod yX7_unsafeFrom ∈ TB := TB_t5 205 rfl rfl
theorem msel_yX7_unsafeFrom : Cond.selects yX7_unsafeFrom.cls yX7_unsafeFrom yX7_unsafeFrom ∈ TB := TB_s (n := 43) 67 (by decide +kernel)
theorem mv_yX7_unsafeFrom : Cond.instanceMethod yX7_unsafeFrom ∈ TB ∧ Cond.selects yX7_unsafeFrom.cls yX7_unsafeFrom yX7_unsafeFrom ∈ TB := ⟨mim_yX7_unsafeFrom, msel_yX7_unsafeFrom⟩
theorem kcX7_lay_0 : CHb cX7_lay 0 [42, 42, 180, 0, 13, 27, 46, 181, 0, 189, 42, 42, 180, 0, 17, 27, 46, 181, 0, 192, 3, 61, 28, 42, 180, 0, 189, 162, 0, 232, 42, 27, 28, 182, 0, 161, 62, 42, 180, 0, 62, 28, 29, 153, 0, 12, 42, 27, 28, 182, 0, 168, 167, 0, 5, 16, 254, 79, 29, 153, 0, 12, 42, 27] := CHb_of (by decide +kernel)
theorem dX7_lay_0 : decode cX7_lay 0 = .ok (.aload_n 0, 1) := dw_42 (kcX7_lay_0 0 42 rfl)
theorem dX7_lay_1 : decode cX7_lay 1 = .ok (.aload_n 0, 1) := dw_42 (kcX7_lay_0 1 42 rfl)
theorem dX7_lay_2 : decode cX7_lay 2 = .ok (.getfield 13, 3) := dw_180 (kcX7_lay_0 2 180 rfl) (kcX7_lay_0 3 0 rfl) (kcX7_lay_0 4 13 rfl) rfl
theorem dX7_lay_5 : decode cX7_lay 5 = .ok (.iload_n 1, 1) := dw_27 (kcX7_lay_0 5 27 rfl)
theorem dX7_lay_6 : decode cX7_lay 6 = .ok (.iaload, 1) := dw_46 (kcX7_lay_0 6 46 rfl)
theorem dX7_lay_7 : decode cX7_lay 7 = .ok (.putfield 189, 3) := dw_181 (kcX7_lay_0 7 181 rfl) (kcX7_lay_0 8 0 rfl) (kcX7_lay_0 9 189 rfl) rfl
theorem dX7_lay_10 : decode cX7_lay 10 = .ok (.aload_n 0, 1) := dw_42 (kcX7_lay_0 10 42 rfl)
theorem dX7_lay_11 : decode cX7_lay 11 = .ok (.aload_n 0, 1) := dw_42 (kcX7_lay_0 11 42 rfl)
theorem dX7_lay_12 : decode cX7_lay 12 = .ok (.getfield 17, 3) := dw_180 (kcX7_lay_0 12 180 rfl) (kcX7_lay_0 13 0 rfl) (kcX7_lay_0 14 17 rfl) rfl
theorem dX7_lay_15 : decode cX7_lay 15 = .ok (.iload_n 1, 1) := dw_27 (kcX7_lay_0 15 27 rfl)
theorem dX7_lay_16 : decode cX7_lay 16 = .ok (.iaload, 1) := dw_46 (kcX7_lay_0 16 46 rfl)
theorem dX7_lay_17 : decode cX7_lay 17 = .ok (.putfield 192, 3) := dw_181 (kcX7_lay_0 17 181 rfl) (kcX7_lay_0 18 0 rfl) (kcX7_lay_0 19 192 rfl) rfl
theorem dX7_lay_20 : decode cX7_lay 20 = .ok (.iconst 0, 1) := dw_3 (kcX7_lay_0 20 3 rfl)
theorem dX7_lay_21 : decode cX7_lay 21 = .ok (.istore_n 2, 1) := dw_61 (kcX7_lay_0 21 61 rfl)
theorem dX7_lay_22 : decode cX7_lay 22 = .ok (.iload_n 2, 1) := dw_28 (kcX7_lay_0 22 28 rfl)
theorem dX7_lay_23 : decode cX7_lay 23 = .ok (.aload_n 0, 1) := dw_42 (kcX7_lay_0 23 42 rfl)
theorem dX7_lay_24 : decode cX7_lay 24 = .ok (.getfield 189, 3) := dw_180 (kcX7_lay_0 24 180 rfl) (kcX7_lay_0 25 0 rfl) (kcX7_lay_0 26 189 rfl) rfl
theorem dX7_lay_27 : decode cX7_lay 27 = .ok (.if_icmp .ge 232, 3) := dw_162 (kcX7_lay_0 27 162 rfl) (kcX7_lay_0 28 0 rfl) (kcX7_lay_0 29 232 rfl) rfl
theorem kcX7_lay_4 : CHb cX7_lay 256 [167, 255, 22, 177] := CHb_of (by decide +kernel)
theorem dX7_lay_259 : decode cX7_lay 259 = .ok (.return_, 1) := dw_177 (kcX7_lay_4 3 177 rfl)
theorem dX7_lay_30 : decode cX7_lay 30 = .ok (.aload_n 0, 1) := dw_42 (kcX7_lay_0 30 42 rfl)
theorem dX7_lay_31 : decode cX7_lay 31 = .ok (.iload_n 1, 1) := dw_27 (kcX7_lay_0 31 27 rfl)
theorem dX7_lay_32 : decode cX7_lay 32 = .ok (.iload_n 2, 1) := dw_28 (kcX7_lay_0 32 28 rfl)
theorem dX7_lay_33 : decode cX7_lay 33 = .ok (.invokevirtual 161, 3) := dw_182 (kcX7_lay_0 33 182 rfl) (kcX7_lay_0 34 0 rfl) (kcX7_lay_0 35 161 rfl) rfl
theorem dX7_lay_36 : decode cX7_lay 36 = .ok (.istore_n 3, 1) := dw_62 (kcX7_lay_0 36 62 rfl)
theorem dX7_lay_37 : decode cX7_lay 37 = .ok (.aload_n 0, 1) := dw_42 (kcX7_lay_0 37 42 rfl)
theorem dX7_lay_38 : decode cX7_lay 38 = .ok (.getfield 62, 3) := dw_180 (kcX7_lay_0 38 180 rfl) (kcX7_lay_0 39 0 rfl) (kcX7_lay_0 40 62 rfl) rfl
theorem dX7_lay_41 : decode cX7_lay 41 = .ok (.iload_n 2, 1) := dw_28 (kcX7_lay_0 41 28 rfl)
theorem dX7_lay_42 : decode cX7_lay 42 = .ok (.iload_n 3, 1) := dw_29 (kcX7_lay_0 42 29 rfl)
theorem dX7_lay_43 : decode cX7_lay 43 = .ok (.ifCond .eq 12, 3) := dw_153 (kcX7_lay_0 43 153 rfl) (kcX7_lay_0 44 0 rfl) (kcX7_lay_0 45 12 rfl) rfl
theorem dX7_lay_55 : decode cX7_lay 55 = .ok (.bipush (-2), 2) := dw_16 (kcX7_lay_0 55 16 rfl) (kcX7_lay_0 56 254 rfl) rfl
theorem dX7_lay_46 : decode cX7_lay 46 = .ok (.aload_n 0, 1) := dw_42 (kcX7_lay_0 46 42 rfl)
theorem dX7_lay_47 : decode cX7_lay 47 = .ok (.iload_n 1, 1) := dw_27 (kcX7_lay_0 47 27 rfl)
theorem dX7_lay_48 : decode cX7_lay 48 = .ok (.iload_n 2, 1) := dw_28 (kcX7_lay_0 48 28 rfl)
theorem dX7_lay_49 : decode cX7_lay 49 = .ok (.invokevirtual 168, 3) := dw_182 (kcX7_lay_0 49 182 rfl) (kcX7_lay_0 50 0 rfl) (kcX7_lay_0 51 168 rfl) rfl
theorem dX7_lay_52 : decode cX7_lay 52 = .ok (.goto 5, 3) := dw_167 (kcX7_lay_0 52 167 rfl) (kcX7_lay_0 53 0 rfl) (kcX7_lay_0 54 5 rfl) rfl
theorem dX7_lay_57 : decode cX7_lay 57 = .ok (.iastore, 1) := dw_79 (kcX7_lay_0 57 79 rfl)
theorem dX7_lay_58 : decode cX7_lay 58 = .ok (.iload_n 3, 1) := dw_29 (kcX7_lay_0 58 29 rfl)
theorem dX7_lay_59 : decode cX7_lay 59 = .ok (.ifCond .eq 12, 3) := dw_153 (kcX7_lay_0 59 153 rfl) (kcX7_lay_0 60 0 rfl) (kcX7_lay_0 61 12 rfl) rfl
theorem kcX7_lay_1 : CHb cX7_lay 64 [28, 182, 0, 164, 167, 0, 4, 3, 54, 4, 3, 54, 5, 21, 5, 42, 180, 0, 192, 162, 0, 170, 16, 12, 28, 104, 21, 5, 96, 54, 6, 27, 28, 21, 5, 184, 0, 147, 54, 7, 42, 180, 0, 53, 21, 6, 42, 180, 0, 26, 21, 7, 46, 79, 42, 180, 0, 65, 21, 6, 29, 153, 0, 17] := CHb_of (by decide +kernel)
theorem dX7_lay_71 : decode cX7_lay 71 = .ok (.iconst 0, 1) := dw_3 (kcX7_lay_1 7 3 rfl)
theorem dX7_lay_62 : decode cX7_lay 62 = .ok (.aload_n 0, 1) := dw_42 (kcX7_lay_0 62 42 rfl)
theorem dX7_lay_63 : decode cX7_lay 63 = .ok (.iload_n 1, 1) := dw_27 (kcX7_lay_0 63 27 rfl)
theorem dX7_lay_64 : decode cX7_lay 64 = .ok (.iload_n 2, 1) := dw_28 (kcX7_lay_1 0 28 rfl)
theorem dX7_lay_65 : decode cX7_lay 65 = .ok (.invokevirtual 164, 3) := dw_182 (kcX7_lay_1 1 182 rfl) (kcX7_lay_1 2 0 rfl) (kcX7_lay_1 3 164 rfl) rfl
theorem dX7_lay_68 : decode cX7_lay 68 = .ok (.goto 4, 3) := dw_167 (kcX7_lay_1 4 167 rfl) (kcX7_lay_1 5 0 rfl) (kcX7_lay_1 6 4 rfl) rfl
theorem dX7_lay_72 : decode cX7_lay 72 = .ok (.istore 4, 2) := dw_54 (kcX7_lay_1 8 54 rfl) (kcX7_lay_1 9 4 rfl)
theorem dX7_lay_74 : decode cX7_lay 74 = .ok (.iconst 0, 1) := dw_3 (kcX7_lay_1 10 3 rfl)
theorem dX7_lay_75 : decode cX7_lay 75 = .ok (.istore 5, 2) := dw_54 (kcX7_lay_1 11 54 rfl) (kcX7_lay_1 12 5 rfl)
theorem dX7_lay_77 : decode cX7_lay 77 = .ok (.iload 5, 2) := dw_21 (kcX7_lay_1 13 21 rfl) (kcX7_lay_1 14 5 rfl)
theorem dX7_lay_79 : decode cX7_lay 79 = .ok (.aload_n 0, 1) := dw_42 (kcX7_lay_1 15 42 rfl)
theorem dX7_lay_80 : decode cX7_lay 80 = .ok (.getfield 192, 3) := dw_180 (kcX7_lay_1 16 180 rfl) (kcX7_lay_1 17 0 rfl) (kcX7_lay_1 18 192 rfl) rfl
theorem dX7_lay_83 : decode cX7_lay 83 = .ok (.if_icmp .ge 170, 3) := dw_162 (kcX7_lay_1 19 162 rfl) (kcX7_lay_1 20 0 rfl) (kcX7_lay_1 21 170 rfl) rfl
theorem dX7_lay_86 : decode cX7_lay 86 = .ok (.bipush 12, 2) := dw_16 (kcX7_lay_1 22 16 rfl) (kcX7_lay_1 23 12 rfl) rfl
theorem dX7_lay_88 : decode cX7_lay 88 = .ok (.iload_n 2, 1) := dw_28 (kcX7_lay_1 24 28 rfl)
theorem dX7_lay_89 : decode cX7_lay 89 = .ok (.imul, 1) := dw_104 (kcX7_lay_1 25 104 rfl)
theorem dX7_lay_90 : decode cX7_lay 90 = .ok (.iload 5, 2) := dw_21 (kcX7_lay_1 26 21 rfl) (kcX7_lay_1 27 5 rfl)
theorem dX7_lay_92 : decode cX7_lay 92 = .ok (.iadd, 1) := dw_96 (kcX7_lay_1 28 96 rfl)
theorem dX7_lay_93 : decode cX7_lay 93 = .ok (.istore 6, 2) := dw_54 (kcX7_lay_1 29 54 rfl) (kcX7_lay_1 30 6 rfl)
theorem dX7_lay_95 : decode cX7_lay 95 = .ok (.iload_n 1, 1) := dw_27 (kcX7_lay_1 31 27 rfl)
theorem dX7_lay_96 : decode cX7_lay 96 = .ok (.iload_n 2, 1) := dw_28 (kcX7_lay_1 32 28 rfl)
theorem dX7_lay_97 : decode cX7_lay 97 = .ok (.iload 5, 2) := dw_21 (kcX7_lay_1 33 21 rfl) (kcX7_lay_1 34 5 rfl)
theorem dX7_lay_99 : decode cX7_lay 99 = .ok (.invokestatic 147, 3) := dw_184 (kcX7_lay_1 35 184 rfl) (kcX7_lay_1 36 0 rfl) (kcX7_lay_1 37 147 rfl) rfl
theorem dX7_lay_102 : decode cX7_lay 102 = .ok (.istore 7, 2) := dw_54 (kcX7_lay_1 38 54 rfl) (kcX7_lay_1 39 7 rfl)
theorem dX7_lay_104 : decode cX7_lay 104 = .ok (.aload_n 0, 1) := dw_42 (kcX7_lay_1 40 42 rfl)
theorem dX7_lay_105 : decode cX7_lay 105 = .ok (.getfield 53, 3) := dw_180 (kcX7_lay_1 41 180 rfl) (kcX7_lay_1 42 0 rfl) (kcX7_lay_1 43 53 rfl) rfl
theorem dX7_lay_108 : decode cX7_lay 108 = .ok (.iload 6, 2) := dw_21 (kcX7_lay_1 44 21 rfl) (kcX7_lay_1 45 6 rfl)
theorem dX7_lay_110 : decode cX7_lay 110 = .ok (.aload_n 0, 1) := dw_42 (kcX7_lay_1 46 42 rfl)
theorem dX7_lay_111 : decode cX7_lay 111 = .ok (.getfield 26, 3) := dw_180 (kcX7_lay_1 47 180 rfl) (kcX7_lay_1 48 0 rfl) (kcX7_lay_1 49 26 rfl) rfl
theorem dX7_lay_114 : decode cX7_lay 114 = .ok (.iload 7, 2) := dw_21 (kcX7_lay_1 50 21 rfl) (kcX7_lay_1 51 7 rfl)
theorem dX7_lay_116 : decode cX7_lay 116 = .ok (.iaload, 1) := dw_46 (kcX7_lay_1 52 46 rfl)
theorem dX7_lay_117 : decode cX7_lay 117 = .ok (.iastore, 1) := dw_79 (kcX7_lay_1 53 79 rfl)
theorem dX7_lay_118 : decode cX7_lay 118 = .ok (.aload_n 0, 1) := dw_42 (kcX7_lay_1 54 42 rfl)
theorem dX7_lay_119 : decode cX7_lay 119 = .ok (.getfield 65, 3) := dw_180 (kcX7_lay_1 55 180 rfl) (kcX7_lay_1 56 0 rfl) (kcX7_lay_1 57 65 rfl) rfl
theorem dX7_lay_122 : decode cX7_lay 122 = .ok (.iload 6, 2) := dw_21 (kcX7_lay_1 58 21 rfl) (kcX7_lay_1 59 6 rfl)
theorem dX7_lay_124 : decode cX7_lay 124 = .ok (.iload_n 3, 1) := dw_29 (kcX7_lay_1 60 29 rfl)
theorem dX7_lay_125 : decode cX7_lay 125 = .ok (.ifCond .eq 17, 3) := dw_153 (kcX7_lay_1 61 153 rfl) (kcX7_lay_1 62 0 rfl) (kcX7_lay_1 63 17 rfl) rfl
theorem kcX7_lay_2 : CHb cX7_lay 128 [42, 27, 21, 7, 182, 0, 181, 153, 0, 7, 4, 167, 0, 4, 3, 84, 42, 180, 0, 56, 21, 6, 3, 79, 42, 180, 0, 59, 21, 6, 18, 195, 79, 42, 180, 0, 23, 21, 7, 46, 6, 159, 0, 6, 167, 0, 75, 29, 153, 0, 15, 42, 27, 28, 21, 5, 182, 0, 186, 133, 167, 0, 4, 9] := CHb_of (by decide +kernel)
theorem dX7_lay_142 : decode cX7_lay 142 = .ok (.iconst 0, 1) := dw_3 (kcX7_lay_2 14 3 rfl)
theorem dX7_lay_128 : decode cX7_lay 128 = .ok (.aload_n 0, 1) := dw_42 (kcX7_lay_2 0 42 rfl)
theorem dX7_lay_129 : decode cX7_lay 129 = .ok (.iload_n 1, 1) := dw_27 (kcX7_lay_2 1 27 rfl)
theorem dX7_lay_130 : decode cX7_lay 130 = .ok (.iload 7, 2) := dw_21 (kcX7_lay_2 2 21 rfl) (kcX7_lay_2 3 7 rfl)
theorem dX7_lay_132 : decode cX7_lay 132 = .ok (.invokevirtual 181, 3) := dw_182 (kcX7_lay_2 4 182 rfl) (kcX7_lay_2 5 0 rfl) (kcX7_lay_2 6 181 rfl) rfl
theorem dX7_lay_135 : decode cX7_lay 135 = .ok (.ifCond .eq 7, 3) := dw_153 (kcX7_lay_2 7 153 rfl) (kcX7_lay_2 8 0 rfl) (kcX7_lay_2 9 7 rfl) rfl
theorem dX7_lay_138 : decode cX7_lay 138 = .ok (.iconst 1, 1) := dw_4 (kcX7_lay_2 10 4 rfl)
theorem dX7_lay_139 : decode cX7_lay 139 = .ok (.goto 4, 3) := dw_167 (kcX7_lay_2 11 167 rfl) (kcX7_lay_2 12 0 rfl) (kcX7_lay_2 13 4 rfl) rfl
theorem dX7_lay_143 : decode cX7_lay 143 = .ok (.bastore, 1) := dw_84 (kcX7_lay_2 15 84 rfl)
theorem dX7_lay_144 : decode cX7_lay 144 = .ok (.aload_n 0, 1) := dw_42 (kcX7_lay_2 16 42 rfl)
theorem dX7_lay_145 : decode cX7_lay 145 = .ok (.getfield 56, 3) := dw_180 (kcX7_lay_2 17 180 rfl) (kcX7_lay_2 18 0 rfl) (kcX7_lay_2 19 56 rfl) rfl
theorem dX7_lay_148 : decode cX7_lay 148 = .ok (.iload 6, 2) := dw_21 (kcX7_lay_2 20 21 rfl) (kcX7_lay_2 21 6 rfl)
theorem dX7_lay_150 : decode cX7_lay 150 = .ok (.iconst 0, 1) := dw_3 (kcX7_lay_2 22 3 rfl)
theorem dX7_lay_151 : decode cX7_lay 151 = .ok (.iastore, 1) := dw_79 (kcX7_lay_2 23 79 rfl)
theorem dX7_lay_152 : decode cX7_lay 152 = .ok (.aload_n 0, 1) := dw_42 (kcX7_lay_2 24 42 rfl)
theorem dX7_lay_153 : decode cX7_lay 153 = .ok (.getfield 59, 3) := dw_180 (kcX7_lay_2 25 180 rfl) (kcX7_lay_2 26 0 rfl) (kcX7_lay_2 27 59 rfl) rfl
theorem dX7_lay_156 : decode cX7_lay 156 = .ok (.iload 6, 2) := dw_21 (kcX7_lay_2 28 21 rfl) (kcX7_lay_2 29 6 rfl)
theorem dX7_lay_158 : decode cX7_lay 158 = .ok (.ldc 195, 2) := dw_18 (kcX7_lay_2 30 18 rfl) (kcX7_lay_2 31 195 rfl)
theorem dX7_lay_160 : decode cX7_lay 160 = .ok (.iastore, 1) := dw_79 (kcX7_lay_2 32 79 rfl)
theorem dX7_lay_161 : decode cX7_lay 161 = .ok (.aload_n 0, 1) := dw_42 (kcX7_lay_2 33 42 rfl)
theorem dX7_lay_162 : decode cX7_lay 162 = .ok (.getfield 23, 3) := dw_180 (kcX7_lay_2 34 180 rfl) (kcX7_lay_2 35 0 rfl) (kcX7_lay_2 36 23 rfl) rfl
theorem dX7_lay_165 : decode cX7_lay 165 = .ok (.iload 7, 2) := dw_21 (kcX7_lay_2 37 21 rfl) (kcX7_lay_2 38 7 rfl)
theorem dX7_lay_167 : decode cX7_lay 167 = .ok (.iaload, 1) := dw_46 (kcX7_lay_2 39 46 rfl)
theorem dX7_lay_168 : decode cX7_lay 168 = .ok (.iconst 3, 1) := dw_6 (kcX7_lay_2 40 6 rfl)
theorem dX7_lay_169 : decode cX7_lay 169 = .ok (.if_icmp .eq 6, 3) := dw_159 (kcX7_lay_2 41 159 rfl) (kcX7_lay_2 42 0 rfl) (kcX7_lay_2 43 6 rfl) rfl
theorem dX7_lay_175 : decode cX7_lay 175 = .ok (.iload_n 3, 1) := dw_29 (kcX7_lay_2 47 29 rfl)
theorem dX7_lay_176 : decode cX7_lay 176 = .ok (.ifCond .eq 15, 3) := dw_153 (kcX7_lay_2 48 153 rfl) (kcX7_lay_2 49 0 rfl) (kcX7_lay_2 50 15 rfl) rfl
theorem dX7_lay_191 : decode cX7_lay 191 = .ok (.lconst 0, 1) := by decide +kernel
theorem dX7_lay_179 : decode cX7_lay 179 = .ok (.aload_n 0, 1) := dw_42 (kcX7_lay_2 51 42 rfl)
theorem dX7_lay_180 : decode cX7_lay 180 = .ok (.iload_n 1, 1) := dw_27 (kcX7_lay_2 52 27 rfl)
theorem dX7_lay_181 : decode cX7_lay 181 = .ok (.iload_n 2, 1) := dw_28 (kcX7_lay_2 53 28 rfl)
theorem dX7_lay_182 : decode cX7_lay 182 = .ok (.iload 5, 2) := dw_21 (kcX7_lay_2 54 21 rfl) (kcX7_lay_2 55 5 rfl)
theorem dX7_lay_184 : decode cX7_lay 184 = .ok (.invokevirtual 186, 3) := dw_182 (kcX7_lay_2 56 182 rfl) (kcX7_lay_2 57 0 rfl) (kcX7_lay_2 58 186 rfl) rfl
theorem dX7_lay_187 : decode cX7_lay 187 = .ok (.i2l, 1) := dw_133 (kcX7_lay_2 59 133 rfl)
theorem dX7_lay_188 : decode cX7_lay 188 = .ok (.goto 4, 3) := dw_167 (kcX7_lay_2 60 167 rfl) (kcX7_lay_2 61 0 rfl) (kcX7_lay_2 62 4 rfl) rfl
theorem kcX7_lay_3 : CHb cX7_lay 192 [55, 8, 42, 180, 0, 56, 21, 6, 22, 8, 21, 4, 133, 105, 20, 0, 196, 97, 20, 0, 184, 109, 136, 79, 42, 180, 0, 59, 21, 6, 21, 4, 154, 0, 7, 3, 167, 0, 18, 22, 8, 10, 97, 21, 4, 133, 105, 10, 101, 20, 0, 184, 109, 136, 79, 132, 5, 1, 167, 255, 83, 132, 2, 1] := CHb_of (by decide +kernel)
theorem dX7_lay_192 : decode cX7_lay 192 = .ok (.lstore 8, 2) := dw_55 (kcX7_lay_3 0 55 rfl) (kcX7_lay_3 1 8 rfl)
theorem dX7_lay_194 : decode cX7_lay 194 = .ok (.aload_n 0, 1) := dw_42 (kcX7_lay_3 2 42 rfl)
theorem dX7_lay_195 : decode cX7_lay 195 = .ok (.getfield 56, 3) := dw_180 (kcX7_lay_3 3 180 rfl) (kcX7_lay_3 4 0 rfl) (kcX7_lay_3 5 56 rfl) rfl
theorem dX7_lay_198 : decode cX7_lay 198 = .ok (.iload 6, 2) := dw_21 (kcX7_lay_3 6 21 rfl) (kcX7_lay_3 7 6 rfl)
theorem dX7_lay_200 : decode cX7_lay 200 = .ok (.lload 8, 2) := dw_22 (kcX7_lay_3 8 22 rfl) (kcX7_lay_3 9 8 rfl)
theorem dX7_lay_202 : decode cX7_lay 202 = .ok (.iload 4, 2) := dw_21 (kcX7_lay_3 10 21 rfl) (kcX7_lay_3 11 4 rfl)
theorem dX7_lay_204 : decode cX7_lay 204 = .ok (.i2l, 1) := dw_133 (kcX7_lay_3 12 133 rfl)
theorem dX7_lay_205 : decode cX7_lay 205 = .ok (.lmul, 1) := dw_105 (kcX7_lay_3 13 105 rfl)
theorem dX7_lay_206 : decode cX7_lay 206 = .ok (.ldc2_w 196, 3) := dw_20 (kcX7_lay_3 14 20 rfl) (kcX7_lay_3 15 0 rfl) (kcX7_lay_3 16 196 rfl) rfl
theorem dX7_lay_209 : decode cX7_lay 209 = .ok (.ladd, 1) := dw_97 (kcX7_lay_3 17 97 rfl)
theorem dX7_lay_210 : decode cX7_lay 210 = .ok (.ldc2_w 184, 3) := dw_20 (kcX7_lay_3 18 20 rfl) (kcX7_lay_3 19 0 rfl) (kcX7_lay_3 20 184 rfl) rfl
theorem dX7_lay_213 : decode cX7_lay 213 = .ok (.ldiv, 1) := dw_109 (kcX7_lay_3 21 109 rfl)
theorem dX7_lay_214 : decode cX7_lay 214 = .ok (.l2i, 1) := dw_136 (kcX7_lay_3 22 136 rfl)
theorem dX7_lay_215 : decode cX7_lay 215 = .ok (.iastore, 1) := dw_79 (kcX7_lay_3 23 79 rfl)
theorem dX7_lay_216 : decode cX7_lay 216 = .ok (.aload_n 0, 1) := dw_42 (kcX7_lay_3 24 42 rfl)
theorem dX7_lay_217 : decode cX7_lay 217 = .ok (.getfield 59, 3) := dw_180 (kcX7_lay_3 25 180 rfl) (kcX7_lay_3 26 0 rfl) (kcX7_lay_3 27 59 rfl) rfl
theorem dX7_lay_220 : decode cX7_lay 220 = .ok (.iload 6, 2) := dw_21 (kcX7_lay_3 28 21 rfl) (kcX7_lay_3 29 6 rfl)
theorem dX7_lay_222 : decode cX7_lay 222 = .ok (.iload 4, 2) := dw_21 (kcX7_lay_3 30 21 rfl) (kcX7_lay_3 31 4 rfl)
theorem dX7_lay_224 : decode cX7_lay 224 = .ok (.ifCond .ne 7, 3) := dw_154 (kcX7_lay_3 32 154 rfl) (kcX7_lay_3 33 0 rfl) (kcX7_lay_3 34 7 rfl) rfl
theorem dX7_lay_231 : decode cX7_lay 231 = .ok (.lload 8, 2) := dw_22 (kcX7_lay_3 39 22 rfl) (kcX7_lay_3 40 8 rfl)
theorem dX7_lay_233 : decode cX7_lay 233 = .ok (.lconst 1, 1) := by decide +kernel
theorem dX7_lay_234 : decode cX7_lay 234 = .ok (.ladd, 1) := dw_97 (kcX7_lay_3 42 97 rfl)
theorem dX7_lay_235 : decode cX7_lay 235 = .ok (.iload 4, 2) := dw_21 (kcX7_lay_3 43 21 rfl) (kcX7_lay_3 44 4 rfl)
theorem dX7_lay_237 : decode cX7_lay 237 = .ok (.i2l, 1) := dw_133 (kcX7_lay_3 45 133 rfl)
theorem dX7_lay_238 : decode cX7_lay 238 = .ok (.lmul, 1) := dw_105 (kcX7_lay_3 46 105 rfl)
theorem dX7_lay_239 : decode cX7_lay 239 = .ok (.lconst 1, 1) := by decide +kernel
theorem dX7_lay_240 : decode cX7_lay 240 = .ok (.lsub, 1) := dw_101 (kcX7_lay_3 48 101 rfl)
theorem dX7_lay_241 : decode cX7_lay 241 = .ok (.ldc2_w 184, 3) := dw_20 (kcX7_lay_3 49 20 rfl) (kcX7_lay_3 50 0 rfl) (kcX7_lay_3 51 184 rfl) rfl
theorem dX7_lay_244 : decode cX7_lay 244 = .ok (.ldiv, 1) := dw_109 (kcX7_lay_3 52 109 rfl)
theorem dX7_lay_245 : decode cX7_lay 245 = .ok (.l2i, 1) := dw_136 (kcX7_lay_3 53 136 rfl)
theorem dX7_lay_227 : decode cX7_lay 227 = .ok (.iconst 0, 1) := dw_3 (kcX7_lay_3 35 3 rfl)
theorem dX7_lay_228 : decode cX7_lay 228 = .ok (.goto 18, 3) := dw_167 (kcX7_lay_3 36 167 rfl) (kcX7_lay_3 37 0 rfl) (kcX7_lay_3 38 18 rfl) rfl
theorem dX7_lay_246 : decode cX7_lay 246 = .ok (.iastore, 1) := dw_79 (kcX7_lay_3 54 79 rfl)
theorem dX7_lay_172 : decode cX7_lay 172 = .ok (.goto 75, 3) := dw_167 (kcX7_lay_2 44 167 rfl) (kcX7_lay_2 45 0 rfl) (kcX7_lay_2 46 75 rfl) rfl
theorem dX7_lay_247 : decode cX7_lay 247 = .ok (.iinc 5 1, 3) := dw_132 (kcX7_lay_3 55 132 rfl) (kcX7_lay_3 56 5 rfl) (kcX7_lay_3 57 1 rfl) rfl
theorem dX7_lay_250 : decode cX7_lay 250 = .ok (.goto (-173), 3) := dw_167 (kcX7_lay_3 58 167 rfl) (kcX7_lay_3 59 255 rfl) (kcX7_lay_3 60 83 rfl) rfl
theorem dX7_lay_253 : decode cX7_lay 253 = .ok (.iinc 2 1, 3) := dw_132 (kcX7_lay_3 61 132 rfl) (kcX7_lay_3 62 2 rfl) (kcX7_lay_3 63 1 rfl) rfl
theorem dX7_lay_256 : decode cX7_lay 256 = .ok (.goto (-234), 3) := dw_167 (kcX7_lay_4 0 167 rfl) (kcX7_lay_4 1 255 rfl) (kcX7_lay_4 2 22 rfl) rfl
theorem kcX7_room_0 : CHb cX7_room 0 [27, 16, 12, 162, 0, 15, 16, 12, 27, 104, 28, 96, 16, 12, 100, 167, 0, 12, 16, 12, 28, 104, 27, 96, 16, 12, 100, 62, 42, 180, 0, 65, 29, 51, 154, 0, 5, 3, 172, 27, 16, 12, 162, 0, 19, 42, 180, 0, 59, 29, 46, 42, 180, 0, 53, 29, 46, 100, 167, 0, 16, 42, 180, 0] := CHb_of (by decide +kernel)
theorem dX7_room_0 : decode cX7_room 0 = .ok (.iload_n 1, 1) := dw_27 (kcX7_room_0 0 27 rfl)
theorem dX7_room_1 : decode cX7_room 1 = .ok (.bipush 12, 2) := dw_16 (kcX7_room_0 1 16 rfl) (kcX7_room_0 2 12 rfl) rfl
theorem dX7_room_3 : decode cX7_room 3 = .ok (.if_icmp .ge 15, 3) := dw_162 (kcX7_room_0 3 162 rfl) (kcX7_room_0 4 0 rfl) (kcX7_room_0 5 15 rfl) rfl
theorem dX7_room_18 : decode cX7_room 18 = .ok (.bipush 12, 2) := dw_16 (kcX7_room_0 18 16 rfl) (kcX7_room_0 19 12 rfl) rfl
theorem dX7_room_20 : decode cX7_room 20 = .ok (.iload_n 2, 1) := dw_28 (kcX7_room_0 20 28 rfl)
theorem dX7_room_21 : decode cX7_room 21 = .ok (.imul, 1) := dw_104 (kcX7_room_0 21 104 rfl)
theorem dX7_room_22 : decode cX7_room 22 = .ok (.iload_n 1, 1) := dw_27 (kcX7_room_0 22 27 rfl)
theorem dX7_room_23 : decode cX7_room 23 = .ok (.iadd, 1) := dw_96 (kcX7_room_0 23 96 rfl)
theorem dX7_room_24 : decode cX7_room 24 = .ok (.bipush 12, 2) := dw_16 (kcX7_room_0 24 16 rfl) (kcX7_room_0 25 12 rfl) rfl
theorem dX7_room_26 : decode cX7_room 26 = .ok (.isub, 1) := dw_100 (kcX7_room_0 26 100 rfl)
theorem dX7_room_27 : decode cX7_room 27 = .ok (.istore_n 3, 1) := dw_62 (kcX7_room_0 27 62 rfl)
theorem dX7_room_28 : decode cX7_room 28 = .ok (.aload_n 0, 1) := dw_42 (kcX7_room_0 28 42 rfl)
theorem dX7_room_29 : decode cX7_room 29 = .ok (.getfield 65, 3) := dw_180 (kcX7_room_0 29 180 rfl) (kcX7_room_0 30 0 rfl) (kcX7_room_0 31 65 rfl) rfl
theorem dX7_room_32 : decode cX7_room 32 = .ok (.iload_n 3, 1) := dw_29 (kcX7_room_0 32 29 rfl)
theorem dX7_room_33 : decode cX7_room 33 = .ok (.baload, 1) := dw_51 (kcX7_room_0 33 51 rfl)
theorem dX7_room_34 : decode cX7_room 34 = .ok (.ifCond .ne 5, 3) := dw_154 (kcX7_room_0 34 154 rfl) (kcX7_room_0 35 0 rfl) (kcX7_room_0 36 5 rfl) rfl
theorem dX7_room_39 : decode cX7_room 39 = .ok (.iload_n 1, 1) := dw_27 (kcX7_room_0 39 27 rfl)
theorem dX7_room_40 : decode cX7_room 40 = .ok (.bipush 12, 2) := dw_16 (kcX7_room_0 40 16 rfl) (kcX7_room_0 41 12 rfl) rfl
theorem dX7_room_42 : decode cX7_room 42 = .ok (.if_icmp .ge 19, 3) := dw_162 (kcX7_room_0 42 162 rfl) (kcX7_room_0 43 0 rfl) (kcX7_room_0 44 19 rfl) rfl
theorem dX7_room_61 : decode cX7_room 61 = .ok (.aload_n 0, 1) := dw_42 (kcX7_room_0 61 42 rfl)
theorem kcX7_room_1 : CHb cX7_room 64 [53, 29, 46, 42, 180, 0, 56, 29, 46, 100, 172] := CHb_of (by decide +kernel)
theorem dX7_room_62 : decode cX7_room 62 = .ok (.getfield 53, 3) := dw_180 (kcX7_room_0 62 180 rfl) (kcX7_room_0 63 0 rfl) (kcX7_room_1 0 53 rfl) rfl
theorem dX7_room_65 : decode cX7_room 65 = .ok (.iload_n 3, 1) := dw_29 (kcX7_room_1 1 29 rfl)
theorem dX7_room_66 : decode cX7_room 66 = .ok (.iaload, 1) := dw_46 (kcX7_room_1 2 46 rfl)
theorem dX7_room_67 : decode cX7_room 67 = .ok (.aload_n 0, 1) := dw_42 (kcX7_room_1 3 42 rfl)
theorem dX7_room_68 : decode cX7_room 68 = .ok (.getfield 56, 3) := dw_180 (kcX7_room_1 4 180 rfl) (kcX7_room_1 5 0 rfl) (kcX7_room_1 6 56 rfl) rfl
theorem dX7_room_71 : decode cX7_room 71 = .ok (.iload_n 3, 1) := dw_29 (kcX7_room_1 7 29 rfl)
theorem dX7_room_72 : decode cX7_room 72 = .ok (.iaload, 1) := dw_46 (kcX7_room_1 8 46 rfl)
theorem dX7_room_73 : decode cX7_room 73 = .ok (.isub, 1) := dw_100 (kcX7_room_1 9 100 rfl)
theorem dX7_room_74 : decode cX7_room 74 = .ok (.ireturn, 1) := dw_172 (kcX7_room_1 10 172 rfl)
theorem dX7_room_37 : decode cX7_room 37 = .ok (.iconst 0, 1) := dw_3 (kcX7_room_0 37 3 rfl)
theorem dX7_room_38 : decode cX7_room 38 = .ok (.ireturn, 1) := dw_172 (kcX7_room_0 38 172 rfl)
theorem dX7_room_6 : decode cX7_room 6 = .ok (.bipush 12, 2) := dw_16 (kcX7_room_0 6 16 rfl) (kcX7_room_0 7 12 rfl) rfl
theorem dX7_room_8 : decode cX7_room 8 = .ok (.iload_n 1, 1) := dw_27 (kcX7_room_0 8 27 rfl)
theorem dX7_room_9 : decode cX7_room 9 = .ok (.imul, 1) := dw_104 (kcX7_room_0 9 104 rfl)
theorem dX7_room_10 : decode cX7_room 10 = .ok (.iload_n 2, 1) := dw_28 (kcX7_room_0 10 28 rfl)
theorem dX7_room_11 : decode cX7_room 11 = .ok (.iadd, 1) := dw_96 (kcX7_room_0 11 96 rfl)
theorem dX7_room_12 : decode cX7_room 12 = .ok (.bipush 12, 2) := dw_16 (kcX7_room_0 12 16 rfl) (kcX7_room_0 13 12 rfl) rfl
theorem dX7_room_14 : decode cX7_room 14 = .ok (.isub, 1) := dw_100 (kcX7_room_0 14 100 rfl)
theorem dX7_room_15 : decode cX7_room 15 = .ok (.goto 12, 3) := dw_167 (kcX7_room_0 15 167 rfl) (kcX7_room_0 16 0 rfl) (kcX7_room_0 17 12 rfl) rfl
theorem dX7_room_45 : decode cX7_room 45 = .ok (.aload_n 0, 1) := dw_42 (kcX7_room_0 45 42 rfl)
theorem dX7_room_46 : decode cX7_room 46 = .ok (.getfield 59, 3) := dw_180 (kcX7_room_0 46 180 rfl) (kcX7_room_0 47 0 rfl) (kcX7_room_0 48 59 rfl) rfl
theorem dX7_room_49 : decode cX7_room 49 = .ok (.iload_n 3, 1) := dw_29 (kcX7_room_0 49 29 rfl)
theorem dX7_room_50 : decode cX7_room 50 = .ok (.iaload, 1) := dw_46 (kcX7_room_0 50 46 rfl)
theorem dX7_room_51 : decode cX7_room 51 = .ok (.aload_n 0, 1) := dw_42 (kcX7_room_0 51 42 rfl)
theorem dX7_room_52 : decode cX7_room 52 = .ok (.getfield 53, 3) := dw_180 (kcX7_room_0 52 180 rfl) (kcX7_room_0 53 0 rfl) (kcX7_room_0 54 53 rfl) rfl
theorem dX7_room_55 : decode cX7_room 55 = .ok (.iload_n 3, 1) := dw_29 (kcX7_room_0 55 29 rfl)
theorem dX7_room_56 : decode cX7_room 56 = .ok (.iaload, 1) := dw_46 (kcX7_room_0 56 46 rfl)
theorem dX7_room_57 : decode cX7_room 57 = .ok (.isub, 1) := dw_100 (kcX7_room_0 57 100 rfl)
theorem dX7_room_58 : decode cX7_room 58 = .ok (.goto 16, 3) := dw_167 (kcX7_room_0 58 167 rfl) (kcX7_room_0 59 0 rfl) (kcX7_room_0 60 16 rfl) rfl
theorem kcX7_isNode_0 : CHb cX7_isNode 0 [27, 16, 12, 162, 0, 29, 27, 42, 180, 0, 189, 162, 0, 17, 42, 180, 0, 62, 27, 46, 28, 160, 0, 7, 4, 167, 0, 23, 3, 167, 0, 19, 27, 16, 12, 100, 42, 180, 0, 192, 162, 0, 7, 4, 167, 0, 4, 3, 172] := CHb_of (by decide +kernel)
theorem dX7_isNode_0 : decode cX7_isNode 0 = .ok (.iload_n 1, 1) := dw_27 (kcX7_isNode_0 0 27 rfl)
theorem dX7_isNode_1 : decode cX7_isNode 1 = .ok (.bipush 12, 2) := dw_16 (kcX7_isNode_0 1 16 rfl) (kcX7_isNode_0 2 12 rfl) rfl
theorem dX7_isNode_3 : decode cX7_isNode 3 = .ok (.if_icmp .ge 29, 3) := dw_162 (kcX7_isNode_0 3 162 rfl) (kcX7_isNode_0 4 0 rfl) (kcX7_isNode_0 5 29 rfl) rfl
theorem dX7_isNode_32 : decode cX7_isNode 32 = .ok (.iload_n 1, 1) := dw_27 (kcX7_isNode_0 32 27 rfl)
theorem dX7_isNode_33 : decode cX7_isNode 33 = .ok (.bipush 12, 2) := dw_16 (kcX7_isNode_0 33 16 rfl) (kcX7_isNode_0 34 12 rfl) rfl
theorem dX7_isNode_35 : decode cX7_isNode 35 = .ok (.isub, 1) := dw_100 (kcX7_isNode_0 35 100 rfl)
theorem dX7_isNode_36 : decode cX7_isNode 36 = .ok (.aload_n 0, 1) := dw_42 (kcX7_isNode_0 36 42 rfl)
theorem dX7_isNode_37 : decode cX7_isNode 37 = .ok (.getfield 192, 3) := dw_180 (kcX7_isNode_0 37 180 rfl) (kcX7_isNode_0 38 0 rfl) (kcX7_isNode_0 39 192 rfl) rfl
theorem dX7_isNode_40 : decode cX7_isNode 40 = .ok (.if_icmp .ge 7, 3) := dw_162 (kcX7_isNode_0 40 162 rfl) (kcX7_isNode_0 41 0 rfl) (kcX7_isNode_0 42 7 rfl) rfl
theorem dX7_isNode_47 : decode cX7_isNode 47 = .ok (.iconst 0, 1) := dw_3 (kcX7_isNode_0 47 3 rfl)
theorem dX7_isNode_48 : decode cX7_isNode 48 = .ok (.ireturn, 1) := dw_172 (kcX7_isNode_0 48 172 rfl)
theorem dX7_isNode_43 : decode cX7_isNode 43 = .ok (.iconst 1, 1) := dw_4 (kcX7_isNode_0 43 4 rfl)
theorem dX7_isNode_44 : decode cX7_isNode 44 = .ok (.goto 4, 3) := dw_167 (kcX7_isNode_0 44 167 rfl) (kcX7_isNode_0 45 0 rfl) (kcX7_isNode_0 46 4 rfl) rfl
theorem dX7_isNode_6 : decode cX7_isNode 6 = .ok (.iload_n 1, 1) := dw_27 (kcX7_isNode_0 6 27 rfl)
theorem dX7_isNode_7 : decode cX7_isNode 7 = .ok (.aload_n 0, 1) := dw_42 (kcX7_isNode_0 7 42 rfl)
theorem dX7_isNode_8 : decode cX7_isNode 8 = .ok (.getfield 189, 3) := dw_180 (kcX7_isNode_0 8 180 rfl) (kcX7_isNode_0 9 0 rfl) (kcX7_isNode_0 10 189 rfl) rfl
theorem dX7_isNode_11 : decode cX7_isNode 11 = .ok (.if_icmp .ge 17, 3) := dw_162 (kcX7_isNode_0 11 162 rfl) (kcX7_isNode_0 12 0 rfl) (kcX7_isNode_0 13 17 rfl) rfl
theorem dX7_isNode_28 : decode cX7_isNode 28 = .ok (.iconst 0, 1) := dw_3 (kcX7_isNode_0 28 3 rfl)
theorem dX7_isNode_29 : decode cX7_isNode 29 = .ok (.goto 19, 3) := dw_167 (kcX7_isNode_0 29 167 rfl) (kcX7_isNode_0 30 0 rfl) (kcX7_isNode_0 31 19 rfl) rfl
theorem dX7_isNode_14 : decode cX7_isNode 14 = .ok (.aload_n 0, 1) := dw_42 (kcX7_isNode_0 14 42 rfl)
theorem dX7_isNode_15 : decode cX7_isNode 15 = .ok (.getfield 62, 3) := dw_180 (kcX7_isNode_0 15 180 rfl) (kcX7_isNode_0 16 0 rfl) (kcX7_isNode_0 17 62 rfl) rfl
theorem dX7_isNode_18 : decode cX7_isNode 18 = .ok (.iload_n 1, 1) := dw_27 (kcX7_isNode_0 18 27 rfl)
theorem dX7_isNode_19 : decode cX7_isNode 19 = .ok (.iaload, 1) := dw_46 (kcX7_isNode_0 19 46 rfl)
theorem dX7_isNode_20 : decode cX7_isNode 20 = .ok (.iload_n 2, 1) := dw_28 (kcX7_isNode_0 20 28 rfl)
theorem dX7_isNode_21 : decode cX7_isNode 21 = .ok (.if_icmp .ne 7, 3) := dw_160 (kcX7_isNode_0 21 160 rfl) (kcX7_isNode_0 22 0 rfl) (kcX7_isNode_0 23 7 rfl) rfl
theorem dX7_isNode_24 : decode cX7_isNode 24 = .ok (.iconst 1, 1) := dw_4 (kcX7_isNode_0 24 4 rfl)
theorem dX7_isNode_25 : decode cX7_isNode 25 = .ok (.goto 23, 3) := dw_167 (kcX7_isNode_0 25 167 rfl) (kcX7_isNode_0 26 0 rfl) (kcX7_isNode_0 27 23 rfl) rfl
theorem kcX7_way_0 : CHb cX7_way 0 [3, 54, 4, 21, 4, 16, 24, 162, 0, 17, 42, 180, 0, 68, 21, 4, 2, 79, 132, 4, 1, 167, 255, 238, 42, 180, 0, 68, 27, 27, 79, 42, 180, 0, 71, 3, 27, 79, 4, 54, 4, 3, 54, 5, 21, 5, 21, 4, 162, 0, 119, 42, 180, 0, 68, 28, 46, 2, 160, 0, 109, 42, 180, 0] := CHb_of (by decide +kernel)
theorem dX7_way_0 : decode cX7_way 0 = .ok (.iconst 0, 1) := dw_3 (kcX7_way_0 0 3 rfl)
theorem dX7_way_1 : decode cX7_way 1 = .ok (.istore 4, 2) := dw_54 (kcX7_way_0 1 54 rfl) (kcX7_way_0 2 4 rfl)
theorem dX7_way_3 : decode cX7_way 3 = .ok (.iload 4, 2) := dw_21 (kcX7_way_0 3 21 rfl) (kcX7_way_0 4 4 rfl)
theorem dX7_way_5 : decode cX7_way 5 = .ok (.bipush 24, 2) := dw_16 (kcX7_way_0 5 16 rfl) (kcX7_way_0 6 24 rfl) rfl
theorem dX7_way_7 : decode cX7_way 7 = .ok (.if_icmp .ge 17, 3) := dw_162 (kcX7_way_0 7 162 rfl) (kcX7_way_0 8 0 rfl) (kcX7_way_0 9 17 rfl) rfl
theorem dX7_way_10 : decode cX7_way 10 = .ok (.aload_n 0, 1) := dw_42 (kcX7_way_0 10 42 rfl)
theorem dX7_way_11 : decode cX7_way 11 = .ok (.getfield 68, 3) := dw_180 (kcX7_way_0 11 180 rfl) (kcX7_way_0 12 0 rfl) (kcX7_way_0 13 68 rfl) rfl
theorem dX7_way_14 : decode cX7_way 14 = .ok (.iload 4, 2) := dw_21 (kcX7_way_0 14 21 rfl) (kcX7_way_0 15 4 rfl)
theorem dX7_way_16 : decode cX7_way 16 = .ok (.iconst (-1), 1) := dw_2 (kcX7_way_0 16 2 rfl)
theorem dX7_way_17 : decode cX7_way 17 = .ok (.iastore, 1) := dw_79 (kcX7_way_0 17 79 rfl)
theorem dX7_way_18 : decode cX7_way 18 = .ok (.iinc 4 1, 3) := dw_132 (kcX7_way_0 18 132 rfl) (kcX7_way_0 19 4 rfl) (kcX7_way_0 20 1 rfl) rfl
theorem dX7_way_21 : decode cX7_way 21 = .ok (.goto (-18), 3) := dw_167 (kcX7_way_0 21 167 rfl) (kcX7_way_0 22 255 rfl) (kcX7_way_0 23 238 rfl) rfl
theorem dX7_way_24 : decode cX7_way 24 = .ok (.aload_n 0, 1) := dw_42 (kcX7_way_0 24 42 rfl)
theorem dX7_way_25 : decode cX7_way 25 = .ok (.getfield 68, 3) := dw_180 (kcX7_way_0 25 180 rfl) (kcX7_way_0 26 0 rfl) (kcX7_way_0 27 68 rfl) rfl
theorem dX7_way_28 : decode cX7_way 28 = .ok (.iload_n 1, 1) := dw_27 (kcX7_way_0 28 27 rfl)
theorem dX7_way_29 : decode cX7_way 29 = .ok (.iload_n 1, 1) := dw_27 (kcX7_way_0 29 27 rfl)
theorem dX7_way_30 : decode cX7_way 30 = .ok (.iastore, 1) := dw_79 (kcX7_way_0 30 79 rfl)
theorem dX7_way_31 : decode cX7_way 31 = .ok (.aload_n 0, 1) := dw_42 (kcX7_way_0 31 42 rfl)
theorem dX7_way_32 : decode cX7_way 32 = .ok (.getfield 71, 3) := dw_180 (kcX7_way_0 32 180 rfl) (kcX7_way_0 33 0 rfl) (kcX7_way_0 34 71 rfl) rfl
theorem dX7_way_35 : decode cX7_way 35 = .ok (.iconst 0, 1) := dw_3 (kcX7_way_0 35 3 rfl)
theorem dX7_way_36 : decode cX7_way 36 = .ok (.iload_n 1, 1) := dw_27 (kcX7_way_0 36 27 rfl)
theorem dX7_way_37 : decode cX7_way 37 = .ok (.iastore, 1) := dw_79 (kcX7_way_0 37 79 rfl)
theorem dX7_way_38 : decode cX7_way 38 = .ok (.iconst 1, 1) := dw_4 (kcX7_way_0 38 4 rfl)
theorem dX7_way_39 : decode cX7_way 39 = .ok (.istore 4, 2) := dw_54 (kcX7_way_0 39 54 rfl) (kcX7_way_0 40 4 rfl)
theorem dX7_way_41 : decode cX7_way 41 = .ok (.iconst 0, 1) := dw_3 (kcX7_way_0 41 3 rfl)
theorem dX7_way_42 : decode cX7_way 42 = .ok (.istore 5, 2) := dw_54 (kcX7_way_0 42 54 rfl) (kcX7_way_0 43 5 rfl)
theorem dX7_way_44 : decode cX7_way 44 = .ok (.iload 5, 2) := dw_21 (kcX7_way_0 44 21 rfl) (kcX7_way_0 45 5 rfl)
theorem dX7_way_46 : decode cX7_way 46 = .ok (.iload 4, 2) := dw_21 (kcX7_way_0 46 21 rfl) (kcX7_way_0 47 4 rfl)
theorem dX7_way_48 : decode cX7_way 48 = .ok (.if_icmp .ge 119, 3) := dw_162 (kcX7_way_0 48 162 rfl) (kcX7_way_0 49 0 rfl) (kcX7_way_0 50 119 rfl) rfl
theorem kcX7_way_2 : CHb cX7_way 128 [157, 0, 6, 167, 0, 24, 42, 180, 0, 68, 21, 8, 21, 6, 79, 42, 180, 0, 71, 21, 4, 21, 8, 79, 132, 4, 1, 132, 8, 1, 167, 255, 187, 132, 5, 1, 167, 255, 136, 42, 180, 0, 68, 28, 46, 2, 159, 0, 7, 4, 167, 0, 4, 3, 172] := CHb_of (by decide +kernel)
theorem dX7_way_167 : decode cX7_way 167 = .ok (.aload_n 0, 1) := dw_42 (kcX7_way_2 39 42 rfl)
theorem dX7_way_168 : decode cX7_way 168 = .ok (.getfield 68, 3) := dw_180 (kcX7_way_2 40 180 rfl) (kcX7_way_2 41 0 rfl) (kcX7_way_2 42 68 rfl) rfl
theorem dX7_way_171 : decode cX7_way 171 = .ok (.iload_n 2, 1) := dw_28 (kcX7_way_2 43 28 rfl)
theorem dX7_way_172 : decode cX7_way 172 = .ok (.iaload, 1) := dw_46 (kcX7_way_2 44 46 rfl)
theorem dX7_way_173 : decode cX7_way 173 = .ok (.iconst (-1), 1) := dw_2 (kcX7_way_2 45 2 rfl)
theorem dX7_way_174 : decode cX7_way 174 = .ok (.if_icmp .eq 7, 3) := dw_159 (kcX7_way_2 46 159 rfl) (kcX7_way_2 47 0 rfl) (kcX7_way_2 48 7 rfl) rfl
theorem dX7_way_181 : decode cX7_way 181 = .ok (.iconst 0, 1) := dw_3 (kcX7_way_2 53 3 rfl)
theorem dX7_way_182 : decode cX7_way 182 = .ok (.ireturn, 1) := dw_172 (kcX7_way_2 54 172 rfl)
theorem dX7_way_177 : decode cX7_way 177 = .ok (.iconst 1, 1) := dw_4 (kcX7_way_2 49 4 rfl)
theorem dX7_way_178 : decode cX7_way 178 = .ok (.goto 4, 3) := dw_167 (kcX7_way_2 50 167 rfl) (kcX7_way_2 51 0 rfl) (kcX7_way_2 52 4 rfl) rfl
theorem dX7_way_51 : decode cX7_way 51 = .ok (.aload_n 0, 1) := dw_42 (kcX7_way_0 51 42 rfl)
theorem dX7_way_52 : decode cX7_way 52 = .ok (.getfield 68, 3) := dw_180 (kcX7_way_0 52 180 rfl) (kcX7_way_0 53 0 rfl) (kcX7_way_0 54 68 rfl) rfl
theorem dX7_way_55 : decode cX7_way 55 = .ok (.iload_n 2, 1) := dw_28 (kcX7_way_0 55 28 rfl)
theorem dX7_way_56 : decode cX7_way 56 = .ok (.iaload, 1) := dw_46 (kcX7_way_0 56 46 rfl)
theorem dX7_way_57 : decode cX7_way 57 = .ok (.iconst (-1), 1) := dw_2 (kcX7_way_0 57 2 rfl)
theorem dX7_way_58 : decode cX7_way 58 = .ok (.if_icmp .ne 109, 3) := dw_160 (kcX7_way_0 58 160 rfl) (kcX7_way_0 59 0 rfl) (kcX7_way_0 60 109 rfl) rfl
theorem dX7_way_61 : decode cX7_way 61 = .ok (.aload_n 0, 1) := dw_42 (kcX7_way_0 61 42 rfl)
theorem kcX7_way_1 : CHb cX7_way 64 [71, 21, 5, 46, 54, 6, 21, 6, 16, 12, 162, 0, 8, 16, 12, 167, 0, 4, 3, 54, 7, 21, 7, 54, 8, 21, 8, 21, 7, 16, 12, 96, 162, 0, 65, 42, 180, 0, 68, 21, 8, 46, 2, 160, 0, 48, 42, 21, 8, 29, 182, 0, 198, 153, 0, 38, 42, 21, 6, 21, 8, 182, 0, 201] := CHb_of (by decide +kernel)
theorem dX7_way_62 : decode cX7_way 62 = .ok (.getfield 71, 3) := dw_180 (kcX7_way_0 62 180 rfl) (kcX7_way_0 63 0 rfl) (kcX7_way_1 0 71 rfl) rfl
theorem dX7_way_65 : decode cX7_way 65 = .ok (.iload 5, 2) := dw_21 (kcX7_way_1 1 21 rfl) (kcX7_way_1 2 5 rfl)
theorem dX7_way_67 : decode cX7_way 67 = .ok (.iaload, 1) := dw_46 (kcX7_way_1 3 46 rfl)
theorem dX7_way_68 : decode cX7_way 68 = .ok (.istore 6, 2) := dw_54 (kcX7_way_1 4 54 rfl) (kcX7_way_1 5 6 rfl)
theorem dX7_way_70 : decode cX7_way 70 = .ok (.iload 6, 2) := dw_21 (kcX7_way_1 6 21 rfl) (kcX7_way_1 7 6 rfl)
theorem dX7_way_72 : decode cX7_way 72 = .ok (.bipush 12, 2) := dw_16 (kcX7_way_1 8 16 rfl) (kcX7_way_1 9 12 rfl) rfl
theorem dX7_way_74 : decode cX7_way 74 = .ok (.if_icmp .ge 8, 3) := dw_162 (kcX7_way_1 10 162 rfl) (kcX7_way_1 11 0 rfl) (kcX7_way_1 12 8 rfl) rfl
theorem dX7_way_82 : decode cX7_way 82 = .ok (.iconst 0, 1) := dw_3 (kcX7_way_1 18 3 rfl)
theorem dX7_way_83 : decode cX7_way 83 = .ok (.istore 7, 2) := dw_54 (kcX7_way_1 19 54 rfl) (kcX7_way_1 20 7 rfl)
theorem dX7_way_85 : decode cX7_way 85 = .ok (.iload 7, 2) := dw_21 (kcX7_way_1 21 21 rfl) (kcX7_way_1 22 7 rfl)
theorem dX7_way_87 : decode cX7_way 87 = .ok (.istore 8, 2) := dw_54 (kcX7_way_1 23 54 rfl) (kcX7_way_1 24 8 rfl)
theorem dX7_way_89 : decode cX7_way 89 = .ok (.iload 8, 2) := dw_21 (kcX7_way_1 25 21 rfl) (kcX7_way_1 26 8 rfl)
theorem dX7_way_91 : decode cX7_way 91 = .ok (.iload 7, 2) := dw_21 (kcX7_way_1 27 21 rfl) (kcX7_way_1 28 7 rfl)
theorem dX7_way_93 : decode cX7_way 93 = .ok (.bipush 12, 2) := dw_16 (kcX7_way_1 29 16 rfl) (kcX7_way_1 30 12 rfl) rfl
theorem dX7_way_95 : decode cX7_way 95 = .ok (.iadd, 1) := dw_96 (kcX7_way_1 31 96 rfl)
theorem dX7_way_96 : decode cX7_way 96 = .ok (.if_icmp .ge 65, 3) := dw_162 (kcX7_way_1 32 162 rfl) (kcX7_way_1 33 0 rfl) (kcX7_way_1 34 65 rfl) rfl
theorem dX7_way_99 : decode cX7_way 99 = .ok (.aload_n 0, 1) := dw_42 (kcX7_way_1 35 42 rfl)
theorem dX7_way_100 : decode cX7_way 100 = .ok (.getfield 68, 3) := dw_180 (kcX7_way_1 36 180 rfl) (kcX7_way_1 37 0 rfl) (kcX7_way_1 38 68 rfl) rfl
theorem dX7_way_103 : decode cX7_way 103 = .ok (.iload 8, 2) := dw_21 (kcX7_way_1 39 21 rfl) (kcX7_way_1 40 8 rfl)
theorem dX7_way_105 : decode cX7_way 105 = .ok (.iaload, 1) := dw_46 (kcX7_way_1 41 46 rfl)
theorem dX7_way_106 : decode cX7_way 106 = .ok (.iconst (-1), 1) := dw_2 (kcX7_way_1 42 2 rfl)
theorem dX7_way_107 : decode cX7_way 107 = .ok (.if_icmp .ne 48, 3) := dw_160 (kcX7_way_1 43 160 rfl) (kcX7_way_1 44 0 rfl) (kcX7_way_1 45 48 rfl) rfl
theorem dX7_way_155 : decode cX7_way 155 = .ok (.iinc 8 1, 3) := dw_132 (kcX7_way_2 27 132 rfl) (kcX7_way_2 28 8 rfl) (kcX7_way_2 29 1 rfl) rfl
theorem dX7_way_158 : decode cX7_way 158 = .ok (.goto (-69), 3) := dw_167 (kcX7_way_2 30 167 rfl) (kcX7_way_2 31 255 rfl) (kcX7_way_2 32 187 rfl) rfl
theorem dX7_way_110 : decode cX7_way 110 = .ok (.aload_n 0, 1) := dw_42 (kcX7_way_1 46 42 rfl)
theorem dX7_way_111 : decode cX7_way 111 = .ok (.iload 8, 2) := dw_21 (kcX7_way_1 47 21 rfl) (kcX7_way_1 48 8 rfl)
theorem dX7_way_113 : decode cX7_way 113 = .ok (.iload_n 3, 1) := dw_29 (kcX7_way_1 49 29 rfl)
theorem dX7_way_114 : decode cX7_way 114 = .ok (.invokevirtual 198, 3) := dw_182 (kcX7_way_1 50 182 rfl) (kcX7_way_1 51 0 rfl) (kcX7_way_1 52 198 rfl) rfl
theorem dX7_way_117 : decode cX7_way 117 = .ok (.ifCond .eq 38, 3) := dw_153 (kcX7_way_1 53 153 rfl) (kcX7_way_1 54 0 rfl) (kcX7_way_1 55 38 rfl) rfl
theorem dX7_way_120 : decode cX7_way 120 = .ok (.aload_n 0, 1) := dw_42 (kcX7_way_1 56 42 rfl)
theorem dX7_way_121 : decode cX7_way 121 = .ok (.iload 6, 2) := dw_21 (kcX7_way_1 57 21 rfl) (kcX7_way_1 58 6 rfl)
theorem dX7_way_123 : decode cX7_way 123 = .ok (.iload 8, 2) := dw_21 (kcX7_way_1 59 21 rfl) (kcX7_way_1 60 8 rfl)
theorem dX7_way_125 : decode cX7_way 125 = .ok (.invokevirtual 201, 3) := dw_182 (kcX7_way_1 61 182 rfl) (kcX7_way_1 62 0 rfl) (kcX7_way_1 63 201 rfl) rfl
theorem dX7_way_128 : decode cX7_way 128 = .ok (.ifCond .gt 6, 3) := dw_157 (kcX7_way_2 0 157 rfl) (kcX7_way_2 1 0 rfl) (kcX7_way_2 2 6 rfl) rfl
theorem dX7_way_134 : decode cX7_way 134 = .ok (.aload_n 0, 1) := dw_42 (kcX7_way_2 6 42 rfl)
theorem dX7_way_135 : decode cX7_way 135 = .ok (.getfield 68, 3) := dw_180 (kcX7_way_2 7 180 rfl) (kcX7_way_2 8 0 rfl) (kcX7_way_2 9 68 rfl) rfl
theorem dX7_way_138 : decode cX7_way 138 = .ok (.iload 8, 2) := dw_21 (kcX7_way_2 10 21 rfl) (kcX7_way_2 11 8 rfl)
theorem dX7_way_140 : decode cX7_way 140 = .ok (.iload 6, 2) := dw_21 (kcX7_way_2 12 21 rfl) (kcX7_way_2 13 6 rfl)
theorem dX7_way_142 : decode cX7_way 142 = .ok (.iastore, 1) := dw_79 (kcX7_way_2 14 79 rfl)
theorem dX7_way_143 : decode cX7_way 143 = .ok (.aload_n 0, 1) := dw_42 (kcX7_way_2 15 42 rfl)
theorem dX7_way_144 : decode cX7_way 144 = .ok (.getfield 71, 3) := dw_180 (kcX7_way_2 16 180 rfl) (kcX7_way_2 17 0 rfl) (kcX7_way_2 18 71 rfl) rfl
theorem dX7_way_147 : decode cX7_way 147 = .ok (.iload 4, 2) := dw_21 (kcX7_way_2 19 21 rfl) (kcX7_way_2 20 4 rfl)
theorem dX7_way_149 : decode cX7_way 149 = .ok (.iload 8, 2) := dw_21 (kcX7_way_2 21 21 rfl) (kcX7_way_2 22 8 rfl)
theorem dX7_way_151 : decode cX7_way 151 = .ok (.iastore, 1) := dw_79 (kcX7_way_2 23 79 rfl)
theorem dX7_way_152 : decode cX7_way 152 = .ok (.iinc 4 1, 3) := dw_132 (kcX7_way_2 24 132 rfl) (kcX7_way_2 25 4 rfl) (kcX7_way_2 26 1 rfl) rfl
theorem dX7_way_131 : decode cX7_way 131 = .ok (.goto 24, 3) := dw_167 (kcX7_way_2 3 167 rfl) (kcX7_way_2 4 0 rfl) (kcX7_way_2 5 24 rfl) rfl
theorem dX7_way_161 : decode cX7_way 161 = .ok (.iinc 5 1, 3) := dw_132 (kcX7_way_2 33 132 rfl) (kcX7_way_2 34 5 rfl) (kcX7_way_2 35 1 rfl) rfl
theorem dX7_way_164 : decode cX7_way 164 = .ok (.goto (-120), 3) := dw_167 (kcX7_way_2 36 167 rfl) (kcX7_way_2 37 255 rfl) (kcX7_way_2 38 136 rfl) rfl
theorem dX7_way_77 : decode cX7_way 77 = .ok (.bipush 12, 2) := dw_16 (kcX7_way_1 13 16 rfl) (kcX7_way_1 14 12 rfl) rfl
theorem dX7_way_79 : decode cX7_way 79 = .ok (.goto 4, 3) := dw_167 (kcX7_way_1 15 167 rfl) (kcX7_way_1 16 0 rfl) (kcX7_way_1 17 4 rfl) rfl
theorem kcX7_push_0 : CHb cX7_push 0 [3, 54, 5, 21, 5, 21, 4, 162, 0, 160, 42, 27, 28, 29, 182, 0, 204, 153, 0, 150, 21, 4, 21, 5, 100, 54, 6, 28, 54, 7, 21, 7, 27, 159, 0, 35, 21, 6, 42, 42, 180, 0, 68, 21, 7, 46, 21, 7, 182, 0, 201, 184, 0, 207, 54, 6, 42, 180, 0, 68, 21, 7, 46, 54] := CHb_of (by decide +kernel)
theorem dX7_push_0 : decode cX7_push 0 = .ok (.iconst 0, 1) := dw_3 (kcX7_push_0 0 3 rfl)
theorem dX7_push_1 : decode cX7_push 1 = .ok (.istore 5, 2) := dw_54 (kcX7_push_0 1 54 rfl) (kcX7_push_0 2 5 rfl)
theorem dX7_push_3 : decode cX7_push 3 = .ok (.iload 5, 2) := dw_21 (kcX7_push_0 3 21 rfl) (kcX7_push_0 4 5 rfl)
theorem dX7_push_5 : decode cX7_push 5 = .ok (.iload 4, 2) := dw_21 (kcX7_push_0 5 21 rfl) (kcX7_push_0 6 4 rfl)
theorem dX7_push_7 : decode cX7_push 7 = .ok (.if_icmp .ge 160, 3) := dw_162 (kcX7_push_0 7 162 rfl) (kcX7_push_0 8 0 rfl) (kcX7_push_0 9 160 rfl) rfl
theorem kcX7_push_2 : CHb cX7_push 128 [21, 8, 16, 12, 162, 0, 8, 21, 6, 167, 0, 6, 21, 6, 116, 96, 79, 42, 180, 0, 68, 21, 7, 46, 54, 7, 167, 255, 173, 21, 5, 21, 6, 96, 54, 5, 167, 255, 95, 21, 5, 172] := CHb_of (by decide +kernel)
theorem dX7_push_167 : decode cX7_push 167 = .ok (.iload 5, 2) := dw_21 (kcX7_push_2 39 21 rfl) (kcX7_push_2 40 5 rfl)
theorem dX7_push_169 : decode cX7_push 169 = .ok (.ireturn, 1) := dw_172 (kcX7_push_2 41 172 rfl)
theorem dX7_push_10 : decode cX7_push 10 = .ok (.aload_n 0, 1) := dw_42 (kcX7_push_0 10 42 rfl)
theorem dX7_push_11 : decode cX7_push 11 = .ok (.iload_n 1, 1) := dw_27 (kcX7_push_0 11 27 rfl)
theorem dX7_push_12 : decode cX7_push 12 = .ok (.iload_n 2, 1) := dw_28 (kcX7_push_0 12 28 rfl)
theorem dX7_push_13 : decode cX7_push 13 = .ok (.iload_n 3, 1) := dw_29 (kcX7_push_0 13 29 rfl)
theorem dX7_push_14 : decode cX7_push 14 = .ok (.invokevirtual 204, 3) := dw_182 (kcX7_push_0 14 182 rfl) (kcX7_push_0 15 0 rfl) (kcX7_push_0 16 204 rfl) rfl
theorem dX7_push_17 : decode cX7_push 17 = .ok (.ifCond .eq 150, 3) := dw_153 (kcX7_push_0 17 153 rfl) (kcX7_push_0 18 0 rfl) (kcX7_push_0 19 150 rfl) rfl
theorem dX7_push_20 : decode cX7_push 20 = .ok (.iload 4, 2) := dw_21 (kcX7_push_0 20 21 rfl) (kcX7_push_0 21 4 rfl)
theorem dX7_push_22 : decode cX7_push 22 = .ok (.iload 5, 2) := dw_21 (kcX7_push_0 22 21 rfl) (kcX7_push_0 23 5 rfl)
theorem dX7_push_24 : decode cX7_push 24 = .ok (.isub, 1) := dw_100 (kcX7_push_0 24 100 rfl)
theorem dX7_push_25 : decode cX7_push 25 = .ok (.istore 6, 2) := dw_54 (kcX7_push_0 25 54 rfl) (kcX7_push_0 26 6 rfl)
theorem dX7_push_27 : decode cX7_push 27 = .ok (.iload_n 2, 1) := dw_28 (kcX7_push_0 27 28 rfl)
theorem dX7_push_28 : decode cX7_push 28 = .ok (.istore 7, 2) := dw_54 (kcX7_push_0 28 54 rfl) (kcX7_push_0 29 7 rfl)
theorem dX7_push_30 : decode cX7_push 30 = .ok (.iload 7, 2) := dw_21 (kcX7_push_0 30 21 rfl) (kcX7_push_0 31 7 rfl)
theorem dX7_push_32 : decode cX7_push 32 = .ok (.iload_n 1, 1) := dw_27 (kcX7_push_0 32 27 rfl)
theorem dX7_push_33 : decode cX7_push 33 = .ok (.if_icmp .eq 35, 3) := dw_159 (kcX7_push_0 33 159 rfl) (kcX7_push_0 34 0 rfl) (kcX7_push_0 35 35 rfl) rfl
theorem dX7_push_36 : decode cX7_push 36 = .ok (.iload 6, 2) := dw_21 (kcX7_push_0 36 21 rfl) (kcX7_push_0 37 6 rfl)
theorem dX7_push_38 : decode cX7_push 38 = .ok (.aload_n 0, 1) := dw_42 (kcX7_push_0 38 42 rfl)
theorem dX7_push_39 : decode cX7_push 39 = .ok (.aload_n 0, 1) := dw_42 (kcX7_push_0 39 42 rfl)
theorem dX7_push_40 : decode cX7_push 40 = .ok (.getfield 68, 3) := dw_180 (kcX7_push_0 40 180 rfl) (kcX7_push_0 41 0 rfl) (kcX7_push_0 42 68 rfl) rfl
theorem dX7_push_43 : decode cX7_push 43 = .ok (.iload 7, 2) := dw_21 (kcX7_push_0 43 21 rfl) (kcX7_push_0 44 7 rfl)
theorem dX7_push_45 : decode cX7_push 45 = .ok (.iaload, 1) := dw_46 (kcX7_push_0 45 46 rfl)
theorem dX7_push_46 : decode cX7_push 46 = .ok (.iload 7, 2) := dw_21 (kcX7_push_0 46 21 rfl) (kcX7_push_0 47 7 rfl)
theorem dX7_push_48 : decode cX7_push 48 = .ok (.invokevirtual 201, 3) := dw_182 (kcX7_push_0 48 182 rfl) (kcX7_push_0 49 0 rfl) (kcX7_push_0 50 201 rfl) rfl
theorem dX7_push_51 : decode cX7_push 51 = .ok (.invokestatic 207, 3) := dw_184 (kcX7_push_0 51 184 rfl) (kcX7_push_0 52 0 rfl) (kcX7_push_0 53 207 rfl) rfl
theorem dX7_push_54 : decode cX7_push 54 = .ok (.istore 6, 2) := dw_54 (kcX7_push_0 54 54 rfl) (kcX7_push_0 55 6 rfl)
theorem dX7_push_56 : decode cX7_push 56 = .ok (.aload_n 0, 1) := dw_42 (kcX7_push_0 56 42 rfl)
theorem dX7_push_57 : decode cX7_push 57 = .ok (.getfield 68, 3) := dw_180 (kcX7_push_0 57 180 rfl) (kcX7_push_0 58 0 rfl) (kcX7_push_0 59 68 rfl) rfl
theorem dX7_push_60 : decode cX7_push 60 = .ok (.iload 7, 2) := dw_21 (kcX7_push_0 60 21 rfl) (kcX7_push_0 61 7 rfl)
theorem dX7_push_62 : decode cX7_push 62 = .ok (.iaload, 1) := dw_46 (kcX7_push_0 62 46 rfl)
theorem kcX7_push_1 : CHb cX7_push 64 [7, 167, 255, 221, 28, 54, 7, 21, 7, 27, 159, 0, 83, 42, 180, 0, 68, 21, 7, 46, 54, 8, 21, 8, 16, 12, 162, 0, 17, 16, 12, 21, 8, 104, 21, 7, 96, 16, 12, 100, 167, 0, 14, 16, 12, 21, 7, 104, 21, 8, 96, 16, 12, 100, 54, 9, 42, 180, 0, 53, 21, 9, 92, 46] := CHb_of (by decide +kernel)
theorem dX7_push_63 : decode cX7_push 63 = .ok (.istore 7, 2) := dw_54 (kcX7_push_0 63 54 rfl) (kcX7_push_1 0 7 rfl)
theorem dX7_push_65 : decode cX7_push 65 = .ok (.goto (-35), 3) := dw_167 (kcX7_push_1 1 167 rfl) (kcX7_push_1 2 255 rfl) (kcX7_push_1 3 221 rfl) rfl
theorem dX7_push_68 : decode cX7_push 68 = .ok (.iload_n 2, 1) := dw_28 (kcX7_push_1 4 28 rfl)
theorem dX7_push_69 : decode cX7_push 69 = .ok (.istore 7, 2) := dw_54 (kcX7_push_1 5 54 rfl) (kcX7_push_1 6 7 rfl)
theorem dX7_push_71 : decode cX7_push 71 = .ok (.iload 7, 2) := dw_21 (kcX7_push_1 7 21 rfl) (kcX7_push_1 8 7 rfl)
theorem dX7_push_73 : decode cX7_push 73 = .ok (.iload_n 1, 1) := dw_27 (kcX7_push_1 9 27 rfl)
theorem dX7_push_74 : decode cX7_push 74 = .ok (.if_icmp .eq 83, 3) := dw_159 (kcX7_push_1 10 159 rfl) (kcX7_push_1 11 0 rfl) (kcX7_push_1 12 83 rfl) rfl
theorem dX7_push_77 : decode cX7_push 77 = .ok (.aload_n 0, 1) := dw_42 (kcX7_push_1 13 42 rfl)
theorem dX7_push_78 : decode cX7_push 78 = .ok (.getfield 68, 3) := dw_180 (kcX7_push_1 14 180 rfl) (kcX7_push_1 15 0 rfl) (kcX7_push_1 16 68 rfl) rfl
theorem dX7_push_81 : decode cX7_push 81 = .ok (.iload 7, 2) := dw_21 (kcX7_push_1 17 21 rfl) (kcX7_push_1 18 7 rfl)
theorem dX7_push_83 : decode cX7_push 83 = .ok (.iaload, 1) := dw_46 (kcX7_push_1 19 46 rfl)
theorem dX7_push_84 : decode cX7_push 84 = .ok (.istore 8, 2) := dw_54 (kcX7_push_1 20 54 rfl) (kcX7_push_1 21 8 rfl)
theorem dX7_push_86 : decode cX7_push 86 = .ok (.iload 8, 2) := dw_21 (kcX7_push_1 22 21 rfl) (kcX7_push_1 23 8 rfl)
theorem dX7_push_88 : decode cX7_push 88 = .ok (.bipush 12, 2) := dw_16 (kcX7_push_1 24 16 rfl) (kcX7_push_1 25 12 rfl) rfl
theorem dX7_push_90 : decode cX7_push 90 = .ok (.if_icmp .ge 17, 3) := dw_162 (kcX7_push_1 26 162 rfl) (kcX7_push_1 27 0 rfl) (kcX7_push_1 28 17 rfl) rfl
theorem dX7_push_107 : decode cX7_push 107 = .ok (.bipush 12, 2) := dw_16 (kcX7_push_1 43 16 rfl) (kcX7_push_1 44 12 rfl) rfl
theorem dX7_push_109 : decode cX7_push 109 = .ok (.iload 7, 2) := dw_21 (kcX7_push_1 45 21 rfl) (kcX7_push_1 46 7 rfl)
theorem dX7_push_111 : decode cX7_push 111 = .ok (.imul, 1) := dw_104 (kcX7_push_1 47 104 rfl)
theorem dX7_push_112 : decode cX7_push 112 = .ok (.iload 8, 2) := dw_21 (kcX7_push_1 48 21 rfl) (kcX7_push_1 49 8 rfl)
theorem dX7_push_114 : decode cX7_push 114 = .ok (.iadd, 1) := dw_96 (kcX7_push_1 50 96 rfl)
theorem dX7_push_115 : decode cX7_push 115 = .ok (.bipush 12, 2) := dw_16 (kcX7_push_1 51 16 rfl) (kcX7_push_1 52 12 rfl) rfl
theorem dX7_push_117 : decode cX7_push 117 = .ok (.isub, 1) := dw_100 (kcX7_push_1 53 100 rfl)
theorem dX7_push_93 : decode cX7_push 93 = .ok (.bipush 12, 2) := dw_16 (kcX7_push_1 29 16 rfl) (kcX7_push_1 30 12 rfl) rfl
theorem dX7_push_95 : decode cX7_push 95 = .ok (.iload 8, 2) := dw_21 (kcX7_push_1 31 21 rfl) (kcX7_push_1 32 8 rfl)
theorem dX7_push_97 : decode cX7_push 97 = .ok (.imul, 1) := dw_104 (kcX7_push_1 33 104 rfl)
theorem dX7_push_98 : decode cX7_push 98 = .ok (.iload 7, 2) := dw_21 (kcX7_push_1 34 21 rfl) (kcX7_push_1 35 7 rfl)
theorem dX7_push_100 : decode cX7_push 100 = .ok (.iadd, 1) := dw_96 (kcX7_push_1 36 96 rfl)
theorem dX7_push_101 : decode cX7_push 101 = .ok (.bipush 12, 2) := dw_16 (kcX7_push_1 37 16 rfl) (kcX7_push_1 38 12 rfl) rfl
theorem dX7_push_103 : decode cX7_push 103 = .ok (.isub, 1) := dw_100 (kcX7_push_1 39 100 rfl)
theorem dX7_push_104 : decode cX7_push 104 = .ok (.goto 14, 3) := dw_167 (kcX7_push_1 40 167 rfl) (kcX7_push_1 41 0 rfl) (kcX7_push_1 42 14 rfl) rfl
theorem dX7_push_118 : decode cX7_push 118 = .ok (.istore 9, 2) := dw_54 (kcX7_push_1 54 54 rfl) (kcX7_push_1 55 9 rfl)
theorem dX7_push_120 : decode cX7_push 120 = .ok (.aload_n 0, 1) := dw_42 (kcX7_push_1 56 42 rfl)
theorem dX7_push_121 : decode cX7_push 121 = .ok (.getfield 53, 3) := dw_180 (kcX7_push_1 57 180 rfl) (kcX7_push_1 58 0 rfl) (kcX7_push_1 59 53 rfl) rfl
theorem dX7_push_124 : decode cX7_push 124 = .ok (.iload 9, 2) := dw_21 (kcX7_push_1 60 21 rfl) (kcX7_push_1 61 9 rfl)
theorem dX7_push_126 : decode cX7_push 126 = .ok (.dup2, 1) := dw_92 (kcX7_push_1 62 92 rfl)
theorem dX7_push_127 : decode cX7_push 127 = .ok (.iaload, 1) := dw_46 (kcX7_push_1 63 46 rfl)
theorem dX7_push_128 : decode cX7_push 128 = .ok (.iload 8, 2) := dw_21 (kcX7_push_2 0 21 rfl) (kcX7_push_2 1 8 rfl)
theorem dX7_push_130 : decode cX7_push 130 = .ok (.bipush 12, 2) := dw_16 (kcX7_push_2 2 16 rfl) (kcX7_push_2 3 12 rfl) rfl
theorem dX7_push_132 : decode cX7_push 132 = .ok (.if_icmp .ge 8, 3) := dw_162 (kcX7_push_2 4 162 rfl) (kcX7_push_2 5 0 rfl) (kcX7_push_2 6 8 rfl) rfl
theorem dX7_push_140 : decode cX7_push 140 = .ok (.iload 6, 2) := dw_21 (kcX7_push_2 12 21 rfl) (kcX7_push_2 13 6 rfl)
theorem dX7_push_142 : decode cX7_push 142 = .ok (.ineg, 1) := dw_116 (kcX7_push_2 14 116 rfl)
theorem dX7_push_135 : decode cX7_push 135 = .ok (.iload 6, 2) := dw_21 (kcX7_push_2 7 21 rfl) (kcX7_push_2 8 6 rfl)
theorem dX7_push_137 : decode cX7_push 137 = .ok (.goto 6, 3) := dw_167 (kcX7_push_2 9 167 rfl) (kcX7_push_2 10 0 rfl) (kcX7_push_2 11 6 rfl) rfl
theorem dX7_push_143 : decode cX7_push 143 = .ok (.iadd, 1) := dw_96 (kcX7_push_2 15 96 rfl)
theorem dX7_push_144 : decode cX7_push 144 = .ok (.iastore, 1) := dw_79 (kcX7_push_2 16 79 rfl)
theorem dX7_push_145 : decode cX7_push 145 = .ok (.aload_n 0, 1) := dw_42 (kcX7_push_2 17 42 rfl)
theorem dX7_push_146 : decode cX7_push 146 = .ok (.getfield 68, 3) := dw_180 (kcX7_push_2 18 180 rfl) (kcX7_push_2 19 0 rfl) (kcX7_push_2 20 68 rfl) rfl
theorem dX7_push_149 : decode cX7_push 149 = .ok (.iload 7, 2) := dw_21 (kcX7_push_2 21 21 rfl) (kcX7_push_2 22 7 rfl)
theorem dX7_push_151 : decode cX7_push 151 = .ok (.iaload, 1) := dw_46 (kcX7_push_2 23 46 rfl)
theorem dX7_push_152 : decode cX7_push 152 = .ok (.istore 7, 2) := dw_54 (kcX7_push_2 24 54 rfl) (kcX7_push_2 25 7 rfl)
theorem dX7_push_154 : decode cX7_push 154 = .ok (.goto (-83), 3) := dw_167 (kcX7_push_2 26 167 rfl) (kcX7_push_2 27 255 rfl) (kcX7_push_2 28 173 rfl) rfl
theorem dX7_push_157 : decode cX7_push 157 = .ok (.iload 5, 2) := dw_21 (kcX7_push_2 29 21 rfl) (kcX7_push_2 30 5 rfl)
theorem dX7_push_159 : decode cX7_push 159 = .ok (.iload 6, 2) := dw_21 (kcX7_push_2 31 21 rfl) (kcX7_push_2 32 6 rfl)
theorem dX7_push_161 : decode cX7_push 161 = .ok (.iadd, 1) := dw_96 (kcX7_push_2 33 96 rfl)
theorem dX7_push_162 : decode cX7_push 162 = .ok (.istore 5, 2) := dw_54 (kcX7_push_2 34 54 rfl) (kcX7_push_2 35 5 rfl)
theorem dX7_push_164 : decode cX7_push 164 = .ok (.goto (-161), 3) := dw_167 (kcX7_push_2 36 167 rfl) (kcX7_push_2 37 255 rfl) (kcX7_push_2 38 95 rfl) rfl
theorem kcX7_settle_0 : CHb cX7_settle 0 [16, 12, 27, 104, 28, 96, 54, 4, 42, 180, 0, 65, 21, 4, 51, 154, 0, 4, 177, 42, 180, 0, 65, 21, 4, 3, 84, 29, 153, 0, 36, 42, 16, 12, 28, 96, 27, 42, 180, 0, 62, 27, 46, 42, 180, 0, 59, 21, 4, 46, 42, 180, 0, 53, 21, 4, 46, 100, 182, 0, 212, 167, 0, 33] := CHb_of (by decide +kernel)
theorem dX7_settle_0 : decode cX7_settle 0 = .ok (.bipush 12, 2) := dw_16 (kcX7_settle_0 0 16 rfl) (kcX7_settle_0 1 12 rfl) rfl
theorem dX7_settle_2 : decode cX7_settle 2 = .ok (.iload_n 1, 1) := dw_27 (kcX7_settle_0 2 27 rfl)
theorem dX7_settle_3 : decode cX7_settle 3 = .ok (.imul, 1) := dw_104 (kcX7_settle_0 3 104 rfl)
theorem dX7_settle_4 : decode cX7_settle 4 = .ok (.iload_n 2, 1) := dw_28 (kcX7_settle_0 4 28 rfl)
theorem dX7_settle_5 : decode cX7_settle 5 = .ok (.iadd, 1) := dw_96 (kcX7_settle_0 5 96 rfl)
theorem dX7_settle_6 : decode cX7_settle 6 = .ok (.istore 4, 2) := dw_54 (kcX7_settle_0 6 54 rfl) (kcX7_settle_0 7 4 rfl)
theorem dX7_settle_8 : decode cX7_settle 8 = .ok (.aload_n 0, 1) := dw_42 (kcX7_settle_0 8 42 rfl)
theorem dX7_settle_9 : decode cX7_settle 9 = .ok (.getfield 65, 3) := dw_180 (kcX7_settle_0 9 180 rfl) (kcX7_settle_0 10 0 rfl) (kcX7_settle_0 11 65 rfl) rfl
theorem dX7_settle_12 : decode cX7_settle 12 = .ok (.iload 4, 2) := dw_21 (kcX7_settle_0 12 21 rfl) (kcX7_settle_0 13 4 rfl)
theorem dX7_settle_14 : decode cX7_settle 14 = .ok (.baload, 1) := dw_51 (kcX7_settle_0 14 51 rfl)
theorem dX7_settle_15 : decode cX7_settle 15 = .ok (.ifCond .ne 4, 3) := dw_154 (kcX7_settle_0 15 154 rfl) (kcX7_settle_0 16 0 rfl) (kcX7_settle_0 17 4 rfl) rfl
theorem dX7_settle_19 : decode cX7_settle 19 = .ok (.aload_n 0, 1) := dw_42 (kcX7_settle_0 19 42 rfl)
theorem dX7_settle_20 : decode cX7_settle 20 = .ok (.getfield 65, 3) := dw_180 (kcX7_settle_0 20 180 rfl) (kcX7_settle_0 21 0 rfl) (kcX7_settle_0 22 65 rfl) rfl
theorem dX7_settle_23 : decode cX7_settle 23 = .ok (.iload 4, 2) := dw_21 (kcX7_settle_0 23 21 rfl) (kcX7_settle_0 24 4 rfl)
theorem dX7_settle_25 : decode cX7_settle 25 = .ok (.iconst 0, 1) := dw_3 (kcX7_settle_0 25 3 rfl)
theorem dX7_settle_26 : decode cX7_settle 26 = .ok (.bastore, 1) := dw_84 (kcX7_settle_0 26 84 rfl)
theorem dX7_settle_27 : decode cX7_settle 27 = .ok (.iload_n 3, 1) := dw_29 (kcX7_settle_0 27 29 rfl)
theorem dX7_settle_28 : decode cX7_settle 28 = .ok (.ifCond .eq 36, 3) := dw_153 (kcX7_settle_0 28 153 rfl) (kcX7_settle_0 29 0 rfl) (kcX7_settle_0 30 36 rfl) rfl
theorem kcX7_settle_1 : CHb cX7_settle 64 [42, 27, 16, 12, 28, 96, 42, 180, 0, 62, 27, 46, 42, 180, 0, 53, 21, 4, 46, 42, 180, 0, 56, 21, 4, 46, 100, 182, 0, 212, 54, 5, 42, 180, 0, 53, 21, 4, 92, 46, 29, 153, 0, 8, 21, 5, 167, 0, 6, 21, 5, 116, 96, 79, 177] := CHb_of (by decide +kernel)
theorem dX7_settle_64 : decode cX7_settle 64 = .ok (.aload_n 0, 1) := dw_42 (kcX7_settle_1 0 42 rfl)
theorem dX7_settle_65 : decode cX7_settle 65 = .ok (.iload_n 1, 1) := dw_27 (kcX7_settle_1 1 27 rfl)
theorem dX7_settle_66 : decode cX7_settle 66 = .ok (.bipush 12, 2) := dw_16 (kcX7_settle_1 2 16 rfl) (kcX7_settle_1 3 12 rfl) rfl
theorem dX7_settle_68 : decode cX7_settle 68 = .ok (.iload_n 2, 1) := dw_28 (kcX7_settle_1 4 28 rfl)
theorem dX7_settle_69 : decode cX7_settle 69 = .ok (.iadd, 1) := dw_96 (kcX7_settle_1 5 96 rfl)
theorem dX7_settle_70 : decode cX7_settle 70 = .ok (.aload_n 0, 1) := dw_42 (kcX7_settle_1 6 42 rfl)
theorem dX7_settle_71 : decode cX7_settle 71 = .ok (.getfield 62, 3) := dw_180 (kcX7_settle_1 7 180 rfl) (kcX7_settle_1 8 0 rfl) (kcX7_settle_1 9 62 rfl) rfl
theorem dX7_settle_74 : decode cX7_settle 74 = .ok (.iload_n 1, 1) := dw_27 (kcX7_settle_1 10 27 rfl)
theorem dX7_settle_75 : decode cX7_settle 75 = .ok (.iaload, 1) := dw_46 (kcX7_settle_1 11 46 rfl)
theorem dX7_settle_76 : decode cX7_settle 76 = .ok (.aload_n 0, 1) := dw_42 (kcX7_settle_1 12 42 rfl)
theorem dX7_settle_77 : decode cX7_settle 77 = .ok (.getfield 53, 3) := dw_180 (kcX7_settle_1 13 180 rfl) (kcX7_settle_1 14 0 rfl) (kcX7_settle_1 15 53 rfl) rfl
theorem dX7_settle_80 : decode cX7_settle 80 = .ok (.iload 4, 2) := dw_21 (kcX7_settle_1 16 21 rfl) (kcX7_settle_1 17 4 rfl)
theorem dX7_settle_82 : decode cX7_settle 82 = .ok (.iaload, 1) := dw_46 (kcX7_settle_1 18 46 rfl)
theorem dX7_settle_83 : decode cX7_settle 83 = .ok (.aload_n 0, 1) := dw_42 (kcX7_settle_1 19 42 rfl)
theorem dX7_settle_84 : decode cX7_settle 84 = .ok (.getfield 56, 3) := dw_180 (kcX7_settle_1 20 180 rfl) (kcX7_settle_1 21 0 rfl) (kcX7_settle_1 22 56 rfl) rfl
theorem dX7_settle_87 : decode cX7_settle 87 = .ok (.iload 4, 2) := dw_21 (kcX7_settle_1 23 21 rfl) (kcX7_settle_1 24 4 rfl)
theorem dX7_settle_89 : decode cX7_settle 89 = .ok (.iaload, 1) := dw_46 (kcX7_settle_1 25 46 rfl)
theorem dX7_settle_90 : decode cX7_settle 90 = .ok (.isub, 1) := dw_100 (kcX7_settle_1 26 100 rfl)
theorem dX7_settle_91 : decode cX7_settle 91 = .ok (.invokevirtual 212, 3) := dw_182 (kcX7_settle_1 27 182 rfl) (kcX7_settle_1 28 0 rfl) (kcX7_settle_1 29 212 rfl) rfl
theorem dX7_settle_31 : decode cX7_settle 31 = .ok (.aload_n 0, 1) := dw_42 (kcX7_settle_0 31 42 rfl)
theorem dX7_settle_32 : decode cX7_settle 32 = .ok (.bipush 12, 2) := dw_16 (kcX7_settle_0 32 16 rfl) (kcX7_settle_0 33 12 rfl) rfl
theorem dX7_settle_34 : decode cX7_settle 34 = .ok (.iload_n 2, 1) := dw_28 (kcX7_settle_0 34 28 rfl)
theorem dX7_settle_35 : decode cX7_settle 35 = .ok (.iadd, 1) := dw_96 (kcX7_settle_0 35 96 rfl)
theorem dX7_settle_36 : decode cX7_settle 36 = .ok (.iload_n 1, 1) := dw_27 (kcX7_settle_0 36 27 rfl)
theorem dX7_settle_37 : decode cX7_settle 37 = .ok (.aload_n 0, 1) := dw_42 (kcX7_settle_0 37 42 rfl)
theorem dX7_settle_38 : decode cX7_settle 38 = .ok (.getfield 62, 3) := dw_180 (kcX7_settle_0 38 180 rfl) (kcX7_settle_0 39 0 rfl) (kcX7_settle_0 40 62 rfl) rfl
theorem dX7_settle_41 : decode cX7_settle 41 = .ok (.iload_n 1, 1) := dw_27 (kcX7_settle_0 41 27 rfl)
theorem dX7_settle_42 : decode cX7_settle 42 = .ok (.iaload, 1) := dw_46 (kcX7_settle_0 42 46 rfl)
theorem dX7_settle_43 : decode cX7_settle 43 = .ok (.aload_n 0, 1) := dw_42 (kcX7_settle_0 43 42 rfl)
theorem dX7_settle_44 : decode cX7_settle 44 = .ok (.getfield 59, 3) := dw_180 (kcX7_settle_0 44 180 rfl) (kcX7_settle_0 45 0 rfl) (kcX7_settle_0 46 59 rfl) rfl
theorem dX7_settle_47 : decode cX7_settle 47 = .ok (.iload 4, 2) := dw_21 (kcX7_settle_0 47 21 rfl) (kcX7_settle_0 48 4 rfl)
theorem dX7_settle_49 : decode cX7_settle 49 = .ok (.iaload, 1) := dw_46 (kcX7_settle_0 49 46 rfl)
theorem dX7_settle_50 : decode cX7_settle 50 = .ok (.aload_n 0, 1) := dw_42 (kcX7_settle_0 50 42 rfl)
theorem dX7_settle_51 : decode cX7_settle 51 = .ok (.getfield 53, 3) := dw_180 (kcX7_settle_0 51 180 rfl) (kcX7_settle_0 52 0 rfl) (kcX7_settle_0 53 53 rfl) rfl
theorem dX7_settle_54 : decode cX7_settle 54 = .ok (.iload 4, 2) := dw_21 (kcX7_settle_0 54 21 rfl) (kcX7_settle_0 55 4 rfl)
theorem dX7_settle_56 : decode cX7_settle 56 = .ok (.iaload, 1) := dw_46 (kcX7_settle_0 56 46 rfl)
theorem dX7_settle_57 : decode cX7_settle 57 = .ok (.isub, 1) := dw_100 (kcX7_settle_0 57 100 rfl)
theorem dX7_settle_58 : decode cX7_settle 58 = .ok (.invokevirtual 212, 3) := dw_182 (kcX7_settle_0 58 182 rfl) (kcX7_settle_0 59 0 rfl) (kcX7_settle_0 60 212 rfl) rfl
theorem dX7_settle_61 : decode cX7_settle 61 = .ok (.goto 33, 3) := dw_167 (kcX7_settle_0 61 167 rfl) (kcX7_settle_0 62 0 rfl) (kcX7_settle_0 63 33 rfl) rfl
theorem dX7_settle_94 : decode cX7_settle 94 = .ok (.istore 5, 2) := dw_54 (kcX7_settle_1 30 54 rfl) (kcX7_settle_1 31 5 rfl)
theorem dX7_settle_96 : decode cX7_settle 96 = .ok (.aload_n 0, 1) := dw_42 (kcX7_settle_1 32 42 rfl)
theorem dX7_settle_97 : decode cX7_settle 97 = .ok (.getfield 53, 3) := dw_180 (kcX7_settle_1 33 180 rfl) (kcX7_settle_1 34 0 rfl) (kcX7_settle_1 35 53 rfl) rfl
theorem dX7_settle_100 : decode cX7_settle 100 = .ok (.iload 4, 2) := dw_21 (kcX7_settle_1 36 21 rfl) (kcX7_settle_1 37 4 rfl)
theorem dX7_settle_102 : decode cX7_settle 102 = .ok (.dup2, 1) := dw_92 (kcX7_settle_1 38 92 rfl)
theorem dX7_settle_103 : decode cX7_settle 103 = .ok (.iaload, 1) := dw_46 (kcX7_settle_1 39 46 rfl)
theorem dX7_settle_104 : decode cX7_settle 104 = .ok (.iload_n 3, 1) := dw_29 (kcX7_settle_1 40 29 rfl)
theorem dX7_settle_105 : decode cX7_settle 105 = .ok (.ifCond .eq 8, 3) := dw_153 (kcX7_settle_1 41 153 rfl) (kcX7_settle_1 42 0 rfl) (kcX7_settle_1 43 8 rfl) rfl
theorem dX7_settle_113 : decode cX7_settle 113 = .ok (.iload 5, 2) := dw_21 (kcX7_settle_1 49 21 rfl) (kcX7_settle_1 50 5 rfl)
theorem dX7_settle_115 : decode cX7_settle 115 = .ok (.ineg, 1) := dw_116 (kcX7_settle_1 51 116 rfl)
theorem dX7_settle_108 : decode cX7_settle 108 = .ok (.iload 5, 2) := dw_21 (kcX7_settle_1 44 21 rfl) (kcX7_settle_1 45 5 rfl)
theorem dX7_settle_110 : decode cX7_settle 110 = .ok (.goto 6, 3) := dw_167 (kcX7_settle_1 46 167 rfl) (kcX7_settle_1 47 0 rfl) (kcX7_settle_1 48 6 rfl) rfl
theorem dX7_settle_116 : decode cX7_settle 116 = .ok (.iadd, 1) := dw_96 (kcX7_settle_1 52 96 rfl)
theorem dX7_settle_117 : decode cX7_settle 117 = .ok (.iastore, 1) := dw_79 (kcX7_settle_1 53 79 rfl)
theorem dX7_settle_118 : decode cX7_settle 118 = .ok (.return_, 1) := dw_177 (kcX7_settle_1 54 177 rfl)
theorem dX7_settle_18 : decode cX7_settle 18 = .ok (.return_, 1) := dw_177 (kcX7_settle_0 18 177 rfl)
theorem kcX7_endOf_0 : CHb cX7_endOf 0 [42, 27, 182, 0, 216, 42, 28, 29, 21, 4, 182, 0, 219, 42, 180, 0, 53, 16, 12, 28, 104, 29, 96, 46, 172] := CHb_of (by decide +kernel)
theorem dX7_endOf_0 : decode cX7_endOf 0 = .ok (.aload_n 0, 1) := dw_42 (kcX7_endOf_0 0 42 rfl)
theorem dX7_endOf_1 : decode cX7_endOf 1 = .ok (.iload_n 1, 1) := dw_27 (kcX7_endOf_0 1 27 rfl)
theorem dX7_endOf_2 : decode cX7_endOf 2 = .ok (.invokevirtual 216, 3) := dw_182 (kcX7_endOf_0 2 182 rfl) (kcX7_endOf_0 3 0 rfl) (kcX7_endOf_0 4 216 rfl) rfl
theorem dX7_endOf_5 : decode cX7_endOf 5 = .ok (.aload_n 0, 1) := dw_42 (kcX7_endOf_0 5 42 rfl)
theorem dX7_endOf_6 : decode cX7_endOf 6 = .ok (.iload_n 2, 1) := dw_28 (kcX7_endOf_0 6 28 rfl)
theorem dX7_endOf_7 : decode cX7_endOf 7 = .ok (.iload_n 3, 1) := dw_29 (kcX7_endOf_0 7 29 rfl)
theorem dX7_endOf_8 : decode cX7_endOf 8 = .ok (.iload 4, 2) := dw_21 (kcX7_endOf_0 8 21 rfl) (kcX7_endOf_0 9 4 rfl)
theorem dX7_endOf_10 : decode cX7_endOf 10 = .ok (.invokevirtual 219, 3) := dw_182 (kcX7_endOf_0 10 182 rfl) (kcX7_endOf_0 11 0 rfl) (kcX7_endOf_0 12 219 rfl) rfl
theorem dX7_endOf_13 : decode cX7_endOf 13 = .ok (.aload_n 0, 1) := dw_42 (kcX7_endOf_0 13 42 rfl)
theorem dX7_endOf_14 : decode cX7_endOf 14 = .ok (.getfield 53, 3) := dw_180 (kcX7_endOf_0 14 180 rfl) (kcX7_endOf_0 15 0 rfl) (kcX7_endOf_0 16 53 rfl) rfl
theorem dX7_endOf_17 : decode cX7_endOf 17 = .ok (.bipush 12, 2) := dw_16 (kcX7_endOf_0 17 16 rfl) (kcX7_endOf_0 18 12 rfl) rfl
theorem dX7_endOf_19 : decode cX7_endOf 19 = .ok (.iload_n 2, 1) := dw_28 (kcX7_endOf_0 19 28 rfl)
theorem dX7_endOf_20 : decode cX7_endOf 20 = .ok (.imul, 1) := dw_104 (kcX7_endOf_0 20 104 rfl)
theorem dX7_endOf_21 : decode cX7_endOf 21 = .ok (.iload_n 3, 1) := dw_29 (kcX7_endOf_0 21 29 rfl)
theorem dX7_endOf_22 : decode cX7_endOf 22 = .ok (.iadd, 1) := dw_96 (kcX7_endOf_0 22 96 rfl)
theorem dX7_endOf_23 : decode cX7_endOf 23 = .ok (.iaload, 1) := dw_46 (kcX7_endOf_0 23 46 rfl)
theorem dX7_endOf_24 : decode cX7_endOf 24 = .ok (.ireturn, 1) := dw_172 (kcX7_endOf_0 24 172 rfl)
theorem kcX7_least_0 : CHb cX7_least 0 [42, 42, 27, 28, 29, 182, 0, 178, 181, 0, 116, 42, 180, 0, 116, 158, 0, 7, 2, 167, 0, 11, 42, 27, 28, 29, 3, 182, 0, 223, 172] := CHb_of (by decide +kernel)
theorem dX7_least_0 : decode cX7_least 0 = .ok (.aload_n 0, 1) := dw_42 (kcX7_least_0 0 42 rfl)
theorem dX7_least_1 : decode cX7_least 1 = .ok (.aload_n 0, 1) := dw_42 (kcX7_least_0 1 42 rfl)
theorem dX7_least_2 : decode cX7_least 2 = .ok (.iload_n 1, 1) := dw_27 (kcX7_least_0 2 27 rfl)
theorem dX7_least_3 : decode cX7_least 3 = .ok (.iload_n 2, 1) := dw_28 (kcX7_least_0 3 28 rfl)
theorem dX7_least_4 : decode cX7_least 4 = .ok (.iload_n 3, 1) := dw_29 (kcX7_least_0 4 29 rfl)
theorem dX7_least_5 : decode cX7_least 5 = .ok (.invokevirtual 178, 3) := dw_182 (kcX7_least_0 5 182 rfl) (kcX7_least_0 6 0 rfl) (kcX7_least_0 7 178 rfl) rfl
theorem dX7_least_8 : decode cX7_least 8 = .ok (.putfield 116, 3) := dw_181 (kcX7_least_0 8 181 rfl) (kcX7_least_0 9 0 rfl) (kcX7_least_0 10 116 rfl) rfl
theorem dX7_least_11 : decode cX7_least 11 = .ok (.aload_n 0, 1) := dw_42 (kcX7_least_0 11 42 rfl)
theorem dX7_least_12 : decode cX7_least 12 = .ok (.getfield 116, 3) := dw_180 (kcX7_least_0 12 180 rfl) (kcX7_least_0 13 0 rfl) (kcX7_least_0 14 116 rfl) rfl
theorem dX7_least_15 : decode cX7_least 15 = .ok (.ifCond .le 7, 3) := dw_158 (kcX7_least_0 15 158 rfl) (kcX7_least_0 16 0 rfl) (kcX7_least_0 17 7 rfl) rfl
theorem dX7_least_22 : decode cX7_least 22 = .ok (.aload_n 0, 1) := dw_42 (kcX7_least_0 22 42 rfl)
theorem dX7_least_23 : decode cX7_least 23 = .ok (.iload_n 1, 1) := dw_27 (kcX7_least_0 23 27 rfl)
theorem dX7_least_24 : decode cX7_least 24 = .ok (.iload_n 2, 1) := dw_28 (kcX7_least_0 24 28 rfl)
theorem dX7_least_25 : decode cX7_least 25 = .ok (.iload_n 3, 1) := dw_29 (kcX7_least_0 25 29 rfl)
theorem dX7_least_26 : decode cX7_least 26 = .ok (.iconst 0, 1) := dw_3 (kcX7_least_0 26 3 rfl)
theorem dX7_least_27 : decode cX7_least 27 = .ok (.invokevirtual 223, 3) := dw_182 (kcX7_least_0 27 182 rfl) (kcX7_least_0 28 0 rfl) (kcX7_least_0 29 223 rfl) rfl
theorem dX7_least_30 : decode cX7_least 30 = .ok (.ireturn, 1) := dw_172 (kcX7_least_0 30 172 rfl)
theorem dX7_least_18 : decode cX7_least 18 = .ok (.iconst (-1), 1) := dw_2 (kcX7_least_0 18 2 rfl)
theorem dX7_least_19 : decode cX7_least 19 = .ok (.goto 11, 3) := dw_167 (kcX7_least_0 19 167 rfl) (kcX7_least_0 20 0 rfl) (kcX7_least_0 21 11 rfl) rfl
theorem kcX7_greatest_0 : CHb cX7_greatest 0 [42, 42, 27, 28, 29, 182, 0, 178, 181, 0, 116, 42, 180, 0, 116, 158, 0, 7, 2, 167, 0, 11, 42, 27, 28, 29, 4, 182, 0, 223, 172] := CHb_of (by decide +kernel)
theorem dX7_greatest_0 : decode cX7_greatest 0 = .ok (.aload_n 0, 1) := dw_42 (kcX7_greatest_0 0 42 rfl)
theorem dX7_greatest_1 : decode cX7_greatest 1 = .ok (.aload_n 0, 1) := dw_42 (kcX7_greatest_0 1 42 rfl)
theorem dX7_greatest_2 : decode cX7_greatest 2 = .ok (.iload_n 1, 1) := dw_27 (kcX7_greatest_0 2 27 rfl)
theorem dX7_greatest_3 : decode cX7_greatest 3 = .ok (.iload_n 2, 1) := dw_28 (kcX7_greatest_0 3 28 rfl)
theorem dX7_greatest_4 : decode cX7_greatest 4 = .ok (.iload_n 3, 1) := dw_29 (kcX7_greatest_0 4 29 rfl)
theorem dX7_greatest_5 : decode cX7_greatest 5 = .ok (.invokevirtual 178, 3) := dw_182 (kcX7_greatest_0 5 182 rfl) (kcX7_greatest_0 6 0 rfl) (kcX7_greatest_0 7 178 rfl) rfl
theorem dX7_greatest_8 : decode cX7_greatest 8 = .ok (.putfield 116, 3) := dw_181 (kcX7_greatest_0 8 181 rfl) (kcX7_greatest_0 9 0 rfl) (kcX7_greatest_0 10 116 rfl) rfl
theorem dX7_greatest_11 : decode cX7_greatest 11 = .ok (.aload_n 0, 1) := dw_42 (kcX7_greatest_0 11 42 rfl)
theorem dX7_greatest_12 : decode cX7_greatest 12 = .ok (.getfield 116, 3) := dw_180 (kcX7_greatest_0 12 180 rfl) (kcX7_greatest_0 13 0 rfl) (kcX7_greatest_0 14 116 rfl) rfl
theorem dX7_greatest_15 : decode cX7_greatest 15 = .ok (.ifCond .le 7, 3) := dw_158 (kcX7_greatest_0 15 158 rfl) (kcX7_greatest_0 16 0 rfl) (kcX7_greatest_0 17 7 rfl) rfl
theorem dX7_greatest_22 : decode cX7_greatest 22 = .ok (.aload_n 0, 1) := dw_42 (kcX7_greatest_0 22 42 rfl)
theorem dX7_greatest_23 : decode cX7_greatest 23 = .ok (.iload_n 1, 1) := dw_27 (kcX7_greatest_0 23 27 rfl)
theorem dX7_greatest_24 : decode cX7_greatest 24 = .ok (.iload_n 2, 1) := dw_28 (kcX7_greatest_0 24 28 rfl)
theorem dX7_greatest_25 : decode cX7_greatest 25 = .ok (.iload_n 3, 1) := dw_29 (kcX7_greatest_0 25 29 rfl)
theorem dX7_greatest_26 : decode cX7_greatest 26 = .ok (.iconst 1, 1) := dw_4 (kcX7_greatest_0 26 4 rfl)
theorem dX7_greatest_27 : decode cX7_greatest 27 = .ok (.invokevirtual 223, 3) := dw_182 (kcX7_greatest_0 27 182 rfl) (kcX7_greatest_0 28 0 rfl) (kcX7_greatest_0 29 223 rfl) rfl
theorem dX7_greatest_30 : decode cX7_greatest 30 = .ok (.ireturn, 1) := dw_172 (kcX7_greatest_0 30 172 rfl)
theorem dX7_greatest_18 : decode cX7_greatest 18 = .ok (.iconst (-1), 1) := dw_2 (kcX7_greatest_0 18 2 rfl)
theorem dX7_greatest_19 : decode cX7_greatest 19 = .ok (.goto 11, 3) := dw_167 (kcX7_greatest_0 19 167 rfl) (kcX7_greatest_0 20 0 rfl) (kcX7_greatest_0 21 11 rfl) rfl
theorem kcX7_isSafe_0 : CHb cX7_isSafe 0 [42, 180, 0, 26, 27, 28, 29, 184, 0, 147, 46, 54, 4, 42, 27, 28, 29, 3, 182, 0, 223, 54, 5, 21, 5, 153, 0, 24, 21, 5, 21, 4, 42, 180, 0, 20, 16, 6, 27, 104, 6, 96, 46, 100, 164, 0, 5, 3, 172, 42, 27, 28, 29, 4, 182, 0, 223, 21, 4, 42, 180, 0, 20, 16] := CHb_of (by decide +kernel)
theorem dX7_isSafe_0 : decode cX7_isSafe 0 = .ok (.aload_n 0, 1) := dw_42 (kcX7_isSafe_0 0 42 rfl)
theorem dX7_isSafe_1 : decode cX7_isSafe 1 = .ok (.getfield 26, 3) := dw_180 (kcX7_isSafe_0 1 180 rfl) (kcX7_isSafe_0 2 0 rfl) (kcX7_isSafe_0 3 26 rfl) rfl
theorem dX7_isSafe_4 : decode cX7_isSafe 4 = .ok (.iload_n 1, 1) := dw_27 (kcX7_isSafe_0 4 27 rfl)
theorem dX7_isSafe_5 : decode cX7_isSafe 5 = .ok (.iload_n 2, 1) := dw_28 (kcX7_isSafe_0 5 28 rfl)
theorem dX7_isSafe_6 : decode cX7_isSafe 6 = .ok (.iload_n 3, 1) := dw_29 (kcX7_isSafe_0 6 29 rfl)
theorem dX7_isSafe_7 : decode cX7_isSafe 7 = .ok (.invokestatic 147, 3) := dw_184 (kcX7_isSafe_0 7 184 rfl) (kcX7_isSafe_0 8 0 rfl) (kcX7_isSafe_0 9 147 rfl) rfl
theorem dX7_isSafe_10 : decode cX7_isSafe 10 = .ok (.iaload, 1) := dw_46 (kcX7_isSafe_0 10 46 rfl)
theorem dX7_isSafe_11 : decode cX7_isSafe 11 = .ok (.istore 4, 2) := dw_54 (kcX7_isSafe_0 11 54 rfl) (kcX7_isSafe_0 12 4 rfl)
theorem dX7_isSafe_13 : decode cX7_isSafe 13 = .ok (.aload_n 0, 1) := dw_42 (kcX7_isSafe_0 13 42 rfl)
theorem dX7_isSafe_14 : decode cX7_isSafe 14 = .ok (.iload_n 1, 1) := dw_27 (kcX7_isSafe_0 14 27 rfl)
theorem dX7_isSafe_15 : decode cX7_isSafe 15 = .ok (.iload_n 2, 1) := dw_28 (kcX7_isSafe_0 15 28 rfl)
theorem dX7_isSafe_16 : decode cX7_isSafe 16 = .ok (.iload_n 3, 1) := dw_29 (kcX7_isSafe_0 16 29 rfl)
theorem dX7_isSafe_17 : decode cX7_isSafe 17 = .ok (.iconst 0, 1) := dw_3 (kcX7_isSafe_0 17 3 rfl)
theorem dX7_isSafe_18 : decode cX7_isSafe 18 = .ok (.invokevirtual 223, 3) := dw_182 (kcX7_isSafe_0 18 182 rfl) (kcX7_isSafe_0 19 0 rfl) (kcX7_isSafe_0 20 223 rfl) rfl
theorem dX7_isSafe_21 : decode cX7_isSafe 21 = .ok (.istore 5, 2) := dw_54 (kcX7_isSafe_0 21 54 rfl) (kcX7_isSafe_0 22 5 rfl)
theorem dX7_isSafe_23 : decode cX7_isSafe 23 = .ok (.iload 5, 2) := dw_21 (kcX7_isSafe_0 23 21 rfl) (kcX7_isSafe_0 24 5 rfl)
theorem dX7_isSafe_25 : decode cX7_isSafe 25 = .ok (.ifCond .eq 24, 3) := dw_153 (kcX7_isSafe_0 25 153 rfl) (kcX7_isSafe_0 26 0 rfl) (kcX7_isSafe_0 27 24 rfl) rfl
theorem dX7_isSafe_49 : decode cX7_isSafe 49 = .ok (.aload_n 0, 1) := dw_42 (kcX7_isSafe_0 49 42 rfl)
theorem dX7_isSafe_50 : decode cX7_isSafe 50 = .ok (.iload_n 1, 1) := dw_27 (kcX7_isSafe_0 50 27 rfl)
theorem dX7_isSafe_51 : decode cX7_isSafe 51 = .ok (.iload_n 2, 1) := dw_28 (kcX7_isSafe_0 51 28 rfl)
theorem dX7_isSafe_52 : decode cX7_isSafe 52 = .ok (.iload_n 3, 1) := dw_29 (kcX7_isSafe_0 52 29 rfl)
theorem dX7_isSafe_53 : decode cX7_isSafe 53 = .ok (.iconst 1, 1) := dw_4 (kcX7_isSafe_0 53 4 rfl)
theorem dX7_isSafe_54 : decode cX7_isSafe 54 = .ok (.invokevirtual 223, 3) := dw_182 (kcX7_isSafe_0 54 182 rfl) (kcX7_isSafe_0 55 0 rfl) (kcX7_isSafe_0 56 223 rfl) rfl
theorem dX7_isSafe_57 : decode cX7_isSafe 57 = .ok (.iload 4, 2) := dw_21 (kcX7_isSafe_0 57 21 rfl) (kcX7_isSafe_0 58 4 rfl)
theorem dX7_isSafe_59 : decode cX7_isSafe 59 = .ok (.aload_n 0, 1) := dw_42 (kcX7_isSafe_0 59 42 rfl)
theorem dX7_isSafe_60 : decode cX7_isSafe 60 = .ok (.getfield 20, 3) := dw_180 (kcX7_isSafe_0 60 180 rfl) (kcX7_isSafe_0 61 0 rfl) (kcX7_isSafe_0 62 20 rfl) rfl
theorem kcX7_isSafe_1 : CHb cX7_isSafe 64 [6, 27, 104, 7, 96, 46, 96, 161, 0, 7, 4, 167, 0, 4, 3, 172] := CHb_of (by decide +kernel)
theorem dX7_isSafe_63 : decode cX7_isSafe 63 = .ok (.bipush 6, 2) := dw_16 (kcX7_isSafe_0 63 16 rfl) (kcX7_isSafe_1 0 6 rfl) rfl
theorem dX7_isSafe_65 : decode cX7_isSafe 65 = .ok (.iload_n 1, 1) := dw_27 (kcX7_isSafe_1 1 27 rfl)
theorem dX7_isSafe_66 : decode cX7_isSafe 66 = .ok (.imul, 1) := dw_104 (kcX7_isSafe_1 2 104 rfl)
theorem dX7_isSafe_67 : decode cX7_isSafe 67 = .ok (.iconst 4, 1) := dw_7 (kcX7_isSafe_1 3 7 rfl)
theorem dX7_isSafe_68 : decode cX7_isSafe 68 = .ok (.iadd, 1) := dw_96 (kcX7_isSafe_1 4 96 rfl)
theorem dX7_isSafe_69 : decode cX7_isSafe 69 = .ok (.iaload, 1) := dw_46 (kcX7_isSafe_1 5 46 rfl)
theorem dX7_isSafe_70 : decode cX7_isSafe 70 = .ok (.iadd, 1) := dw_96 (kcX7_isSafe_1 6 96 rfl)
theorem dX7_isSafe_71 : decode cX7_isSafe 71 = .ok (.if_icmp .lt 7, 3) := dw_161 (kcX7_isSafe_1 7 161 rfl) (kcX7_isSafe_1 8 0 rfl) (kcX7_isSafe_1 9 7 rfl) rfl
theorem dX7_isSafe_78 : decode cX7_isSafe 78 = .ok (.iconst 0, 1) := dw_3 (kcX7_isSafe_1 14 3 rfl)
theorem dX7_isSafe_79 : decode cX7_isSafe 79 = .ok (.ireturn, 1) := dw_172 (kcX7_isSafe_1 15 172 rfl)
theorem dX7_isSafe_74 : decode cX7_isSafe 74 = .ok (.iconst 1, 1) := dw_4 (kcX7_isSafe_1 10 4 rfl)
theorem dX7_isSafe_75 : decode cX7_isSafe 75 = .ok (.goto 4, 3) := dw_167 (kcX7_isSafe_1 11 167 rfl) (kcX7_isSafe_1 12 0 rfl) (kcX7_isSafe_1 13 4 rfl) rfl
theorem dX7_isSafe_28 : decode cX7_isSafe 28 = .ok (.iload 5, 2) := dw_21 (kcX7_isSafe_0 28 21 rfl) (kcX7_isSafe_0 29 5 rfl)
theorem dX7_isSafe_30 : decode cX7_isSafe 30 = .ok (.iload 4, 2) := dw_21 (kcX7_isSafe_0 30 21 rfl) (kcX7_isSafe_0 31 4 rfl)
theorem dX7_isSafe_32 : decode cX7_isSafe 32 = .ok (.aload_n 0, 1) := dw_42 (kcX7_isSafe_0 32 42 rfl)
theorem dX7_isSafe_33 : decode cX7_isSafe 33 = .ok (.getfield 20, 3) := dw_180 (kcX7_isSafe_0 33 180 rfl) (kcX7_isSafe_0 34 0 rfl) (kcX7_isSafe_0 35 20 rfl) rfl
theorem dX7_isSafe_36 : decode cX7_isSafe 36 = .ok (.bipush 6, 2) := dw_16 (kcX7_isSafe_0 36 16 rfl) (kcX7_isSafe_0 37 6 rfl) rfl
theorem dX7_isSafe_38 : decode cX7_isSafe 38 = .ok (.iload_n 1, 1) := dw_27 (kcX7_isSafe_0 38 27 rfl)
theorem dX7_isSafe_39 : decode cX7_isSafe 39 = .ok (.imul, 1) := dw_104 (kcX7_isSafe_0 39 104 rfl)
theorem dX7_isSafe_40 : decode cX7_isSafe 40 = .ok (.iconst 3, 1) := dw_6 (kcX7_isSafe_0 40 6 rfl)
theorem dX7_isSafe_41 : decode cX7_isSafe 41 = .ok (.iadd, 1) := dw_96 (kcX7_isSafe_0 41 96 rfl)
theorem dX7_isSafe_42 : decode cX7_isSafe 42 = .ok (.iaload, 1) := dw_46 (kcX7_isSafe_0 42 46 rfl)
theorem dX7_isSafe_43 : decode cX7_isSafe 43 = .ok (.isub, 1) := dw_100 (kcX7_isSafe_0 43 100 rfl)
theorem dX7_isSafe_44 : decode cX7_isSafe 44 = .ok (.if_icmp .le 5, 3) := dw_164 (kcX7_isSafe_0 44 164 rfl) (kcX7_isSafe_0 45 0 rfl) (kcX7_isSafe_0 46 5 rfl) rfl
theorem dX7_isSafe_47 : decode cX7_isSafe 47 = .ok (.iconst 0, 1) := dw_3 (kcX7_isSafe_0 47 3 rfl)
theorem dX7_isSafe_48 : decode cX7_isSafe 48 = .ok (.ireturn, 1) := dw_172 (kcX7_isSafe_0 48 172 rfl)
theorem kcX7_safe_0 : CHb cX7_safe 0 [42, 42, 27, 28, 29, 182, 0, 178, 181, 0, 116, 42, 180, 0, 116, 158, 0, 7, 2, 167, 0, 18, 42, 27, 28, 29, 182, 0, 227, 153, 0, 7, 4, 167, 0, 4, 3, 172] := CHb_of (by decide +kernel)
theorem dX7_safe_0 : decode cX7_safe 0 = .ok (.aload_n 0, 1) := dw_42 (kcX7_safe_0 0 42 rfl)
theorem dX7_safe_1 : decode cX7_safe 1 = .ok (.aload_n 0, 1) := dw_42 (kcX7_safe_0 1 42 rfl)
theorem dX7_safe_2 : decode cX7_safe 2 = .ok (.iload_n 1, 1) := dw_27 (kcX7_safe_0 2 27 rfl)
theorem dX7_safe_3 : decode cX7_safe 3 = .ok (.iload_n 2, 1) := dw_28 (kcX7_safe_0 3 28 rfl)
theorem dX7_safe_4 : decode cX7_safe 4 = .ok (.iload_n 3, 1) := dw_29 (kcX7_safe_0 4 29 rfl)
theorem dX7_safe_5 : decode cX7_safe 5 = .ok (.invokevirtual 178, 3) := dw_182 (kcX7_safe_0 5 182 rfl) (kcX7_safe_0 6 0 rfl) (kcX7_safe_0 7 178 rfl) rfl
theorem dX7_safe_8 : decode cX7_safe 8 = .ok (.putfield 116, 3) := dw_181 (kcX7_safe_0 8 181 rfl) (kcX7_safe_0 9 0 rfl) (kcX7_safe_0 10 116 rfl) rfl
theorem dX7_safe_11 : decode cX7_safe 11 = .ok (.aload_n 0, 1) := dw_42 (kcX7_safe_0 11 42 rfl)
theorem dX7_safe_12 : decode cX7_safe 12 = .ok (.getfield 116, 3) := dw_180 (kcX7_safe_0 12 180 rfl) (kcX7_safe_0 13 0 rfl) (kcX7_safe_0 14 116 rfl) rfl
theorem dX7_safe_15 : decode cX7_safe 15 = .ok (.ifCond .le 7, 3) := dw_158 (kcX7_safe_0 15 158 rfl) (kcX7_safe_0 16 0 rfl) (kcX7_safe_0 17 7 rfl) rfl
theorem dX7_safe_22 : decode cX7_safe 22 = .ok (.aload_n 0, 1) := dw_42 (kcX7_safe_0 22 42 rfl)
theorem dX7_safe_23 : decode cX7_safe 23 = .ok (.iload_n 1, 1) := dw_27 (kcX7_safe_0 23 27 rfl)
theorem dX7_safe_24 : decode cX7_safe 24 = .ok (.iload_n 2, 1) := dw_28 (kcX7_safe_0 24 28 rfl)
theorem dX7_safe_25 : decode cX7_safe 25 = .ok (.iload_n 3, 1) := dw_29 (kcX7_safe_0 25 29 rfl)
theorem dX7_safe_26 : decode cX7_safe 26 = .ok (.invokevirtual 227, 3) := dw_182 (kcX7_safe_0 26 182 rfl) (kcX7_safe_0 27 0 rfl) (kcX7_safe_0 28 227 rfl) rfl
theorem dX7_safe_29 : decode cX7_safe 29 = .ok (.ifCond .eq 7, 3) := dw_153 (kcX7_safe_0 29 153 rfl) (kcX7_safe_0 30 0 rfl) (kcX7_safe_0 31 7 rfl) rfl
theorem dX7_safe_36 : decode cX7_safe 36 = .ok (.iconst 0, 1) := dw_3 (kcX7_safe_0 36 3 rfl)
theorem dX7_safe_37 : decode cX7_safe 37 = .ok (.ireturn, 1) := dw_172 (kcX7_safe_0 37 172 rfl)
theorem dX7_safe_32 : decode cX7_safe 32 = .ok (.iconst 1, 1) := dw_4 (kcX7_safe_0 32 4 rfl)
theorem dX7_safe_33 : decode cX7_safe 33 = .ok (.goto 4, 3) := dw_167 (kcX7_safe_0 33 167 rfl) (kcX7_safe_0 34 0 rfl) (kcX7_safe_0 35 4 rfl) rfl
theorem dX7_safe_18 : decode cX7_safe 18 = .ok (.iconst (-1), 1) := dw_2 (kcX7_safe_0 18 2 rfl)
theorem dX7_safe_19 : decode cX7_safe 19 = .ok (.goto 18, 3) := dw_167 (kcX7_safe_0 19 167 rfl) (kcX7_safe_0 20 0 rfl) (kcX7_safe_0 21 18 rfl) rfl
theorem kcX7_unsafeFrom_0 : CHb cX7_unsafeFrom 0 [28, 62, 29, 16, 12, 42, 180, 0, 13, 27, 46, 104, 162, 0, 72, 29, 16, 12, 108, 54, 4, 29, 16, 12, 112, 54, 5, 21, 5, 42, 180, 0, 17, 27, 46, 162, 0, 43, 42, 27, 21, 4, 182, 0, 161, 153, 0, 33, 42, 27, 27, 21, 4, 21, 5, 184, 0, 147, 182, 0, 175, 158, 0, 17] := CHb_of (by decide +kernel)
theorem dX7_unsafeFrom_0 : decode cX7_unsafeFrom 0 = .ok (.iload_n 2, 1) := dw_28 (kcX7_unsafeFrom_0 0 28 rfl)
theorem dX7_unsafeFrom_1 : decode cX7_unsafeFrom 1 = .ok (.istore_n 3, 1) := dw_62 (kcX7_unsafeFrom_0 1 62 rfl)
theorem dX7_unsafeFrom_2 : decode cX7_unsafeFrom 2 = .ok (.iload_n 3, 1) := dw_29 (kcX7_unsafeFrom_0 2 29 rfl)
theorem dX7_unsafeFrom_3 : decode cX7_unsafeFrom 3 = .ok (.bipush 12, 2) := dw_16 (kcX7_unsafeFrom_0 3 16 rfl) (kcX7_unsafeFrom_0 4 12 rfl) rfl
theorem dX7_unsafeFrom_5 : decode cX7_unsafeFrom 5 = .ok (.aload_n 0, 1) := dw_42 (kcX7_unsafeFrom_0 5 42 rfl)
theorem dX7_unsafeFrom_6 : decode cX7_unsafeFrom 6 = .ok (.getfield 13, 3) := dw_180 (kcX7_unsafeFrom_0 6 180 rfl) (kcX7_unsafeFrom_0 7 0 rfl) (kcX7_unsafeFrom_0 8 13 rfl) rfl
theorem dX7_unsafeFrom_9 : decode cX7_unsafeFrom 9 = .ok (.iload_n 1, 1) := dw_27 (kcX7_unsafeFrom_0 9 27 rfl)
theorem dX7_unsafeFrom_10 : decode cX7_unsafeFrom 10 = .ok (.iaload, 1) := dw_46 (kcX7_unsafeFrom_0 10 46 rfl)
theorem dX7_unsafeFrom_11 : decode cX7_unsafeFrom 11 = .ok (.imul, 1) := dw_104 (kcX7_unsafeFrom_0 11 104 rfl)
theorem dX7_unsafeFrom_12 : decode cX7_unsafeFrom 12 = .ok (.if_icmp .ge 72, 3) := dw_162 (kcX7_unsafeFrom_0 12 162 rfl) (kcX7_unsafeFrom_0 13 0 rfl) (kcX7_unsafeFrom_0 14 72 rfl) rfl
theorem kcX7_unsafeFrom_1 : CHb cX7_unsafeFrom 64 [42, 27, 21, 4, 21, 5, 182, 0, 227, 154, 0, 5, 29, 172, 132, 3, 1, 167, 255, 177, 2, 172] := CHb_of (by decide +kernel)
theorem dX7_unsafeFrom_84 : decode cX7_unsafeFrom 84 = .ok (.iconst (-1), 1) := dw_2 (kcX7_unsafeFrom_1 20 2 rfl)
theorem dX7_unsafeFrom_85 : decode cX7_unsafeFrom 85 = .ok (.ireturn, 1) := dw_172 (kcX7_unsafeFrom_1 21 172 rfl)
theorem dX7_unsafeFrom_15 : decode cX7_unsafeFrom 15 = .ok (.iload_n 3, 1) := dw_29 (kcX7_unsafeFrom_0 15 29 rfl)
theorem dX7_unsafeFrom_16 : decode cX7_unsafeFrom 16 = .ok (.bipush 12, 2) := dw_16 (kcX7_unsafeFrom_0 16 16 rfl) (kcX7_unsafeFrom_0 17 12 rfl) rfl
theorem dX7_unsafeFrom_18 : decode cX7_unsafeFrom 18 = .ok (.idiv, 1) := dw_108 (kcX7_unsafeFrom_0 18 108 rfl)
theorem dX7_unsafeFrom_19 : decode cX7_unsafeFrom 19 = .ok (.istore 4, 2) := dw_54 (kcX7_unsafeFrom_0 19 54 rfl) (kcX7_unsafeFrom_0 20 4 rfl)
theorem dX7_unsafeFrom_21 : decode cX7_unsafeFrom 21 = .ok (.iload_n 3, 1) := dw_29 (kcX7_unsafeFrom_0 21 29 rfl)
theorem dX7_unsafeFrom_22 : decode cX7_unsafeFrom 22 = .ok (.bipush 12, 2) := dw_16 (kcX7_unsafeFrom_0 22 16 rfl) (kcX7_unsafeFrom_0 23 12 rfl) rfl
theorem dX7_unsafeFrom_24 : decode cX7_unsafeFrom 24 = .ok (.irem, 1) := dw_112 (kcX7_unsafeFrom_0 24 112 rfl)
theorem dX7_unsafeFrom_25 : decode cX7_unsafeFrom 25 = .ok (.istore 5, 2) := dw_54 (kcX7_unsafeFrom_0 25 54 rfl) (kcX7_unsafeFrom_0 26 5 rfl)
theorem dX7_unsafeFrom_27 : decode cX7_unsafeFrom 27 = .ok (.iload 5, 2) := dw_21 (kcX7_unsafeFrom_0 27 21 rfl) (kcX7_unsafeFrom_0 28 5 rfl)
theorem dX7_unsafeFrom_29 : decode cX7_unsafeFrom 29 = .ok (.aload_n 0, 1) := dw_42 (kcX7_unsafeFrom_0 29 42 rfl)
theorem dX7_unsafeFrom_30 : decode cX7_unsafeFrom 30 = .ok (.getfield 17, 3) := dw_180 (kcX7_unsafeFrom_0 30 180 rfl) (kcX7_unsafeFrom_0 31 0 rfl) (kcX7_unsafeFrom_0 32 17 rfl) rfl
theorem dX7_unsafeFrom_33 : decode cX7_unsafeFrom 33 = .ok (.iload_n 1, 1) := dw_27 (kcX7_unsafeFrom_0 33 27 rfl)
theorem dX7_unsafeFrom_34 : decode cX7_unsafeFrom 34 = .ok (.iaload, 1) := dw_46 (kcX7_unsafeFrom_0 34 46 rfl)
theorem dX7_unsafeFrom_35 : decode cX7_unsafeFrom 35 = .ok (.if_icmp .ge 43, 3) := dw_162 (kcX7_unsafeFrom_0 35 162 rfl) (kcX7_unsafeFrom_0 36 0 rfl) (kcX7_unsafeFrom_0 37 43 rfl) rfl
theorem dX7_unsafeFrom_78 : decode cX7_unsafeFrom 78 = .ok (.iinc 3 1, 3) := dw_132 (kcX7_unsafeFrom_1 14 132 rfl) (kcX7_unsafeFrom_1 15 3 rfl) (kcX7_unsafeFrom_1 16 1 rfl) rfl
theorem dX7_unsafeFrom_81 : decode cX7_unsafeFrom 81 = .ok (.goto (-79), 3) := dw_167 (kcX7_unsafeFrom_1 17 167 rfl) (kcX7_unsafeFrom_1 18 255 rfl) (kcX7_unsafeFrom_1 19 177 rfl) rfl
theorem dX7_unsafeFrom_38 : decode cX7_unsafeFrom 38 = .ok (.aload_n 0, 1) := dw_42 (kcX7_unsafeFrom_0 38 42 rfl)
theorem dX7_unsafeFrom_39 : decode cX7_unsafeFrom 39 = .ok (.iload_n 1, 1) := dw_27 (kcX7_unsafeFrom_0 39 27 rfl)
theorem dX7_unsafeFrom_40 : decode cX7_unsafeFrom 40 = .ok (.iload 4, 2) := dw_21 (kcX7_unsafeFrom_0 40 21 rfl) (kcX7_unsafeFrom_0 41 4 rfl)
theorem dX7_unsafeFrom_42 : decode cX7_unsafeFrom 42 = .ok (.invokevirtual 161, 3) := dw_182 (kcX7_unsafeFrom_0 42 182 rfl) (kcX7_unsafeFrom_0 43 0 rfl) (kcX7_unsafeFrom_0 44 161 rfl) rfl
theorem dX7_unsafeFrom_45 : decode cX7_unsafeFrom 45 = .ok (.ifCond .eq 33, 3) := dw_153 (kcX7_unsafeFrom_0 45 153 rfl) (kcX7_unsafeFrom_0 46 0 rfl) (kcX7_unsafeFrom_0 47 33 rfl) rfl
theorem dX7_unsafeFrom_48 : decode cX7_unsafeFrom 48 = .ok (.aload_n 0, 1) := dw_42 (kcX7_unsafeFrom_0 48 42 rfl)
theorem dX7_unsafeFrom_49 : decode cX7_unsafeFrom 49 = .ok (.iload_n 1, 1) := dw_27 (kcX7_unsafeFrom_0 49 27 rfl)
theorem dX7_unsafeFrom_50 : decode cX7_unsafeFrom 50 = .ok (.iload_n 1, 1) := dw_27 (kcX7_unsafeFrom_0 50 27 rfl)
theorem dX7_unsafeFrom_51 : decode cX7_unsafeFrom 51 = .ok (.iload 4, 2) := dw_21 (kcX7_unsafeFrom_0 51 21 rfl) (kcX7_unsafeFrom_0 52 4 rfl)
theorem dX7_unsafeFrom_53 : decode cX7_unsafeFrom 53 = .ok (.iload 5, 2) := dw_21 (kcX7_unsafeFrom_0 53 21 rfl) (kcX7_unsafeFrom_0 54 5 rfl)
theorem dX7_unsafeFrom_55 : decode cX7_unsafeFrom 55 = .ok (.invokestatic 147, 3) := dw_184 (kcX7_unsafeFrom_0 55 184 rfl) (kcX7_unsafeFrom_0 56 0 rfl) (kcX7_unsafeFrom_0 57 147 rfl) rfl
theorem dX7_unsafeFrom_58 : decode cX7_unsafeFrom 58 = .ok (.invokevirtual 175, 3) := dw_182 (kcX7_unsafeFrom_0 58 182 rfl) (kcX7_unsafeFrom_0 59 0 rfl) (kcX7_unsafeFrom_0 60 175 rfl) rfl
theorem dX7_unsafeFrom_61 : decode cX7_unsafeFrom 61 = .ok (.ifCond .le 17, 3) := dw_158 (kcX7_unsafeFrom_0 61 158 rfl) (kcX7_unsafeFrom_0 62 0 rfl) (kcX7_unsafeFrom_0 63 17 rfl) rfl
theorem dX7_unsafeFrom_64 : decode cX7_unsafeFrom 64 = .ok (.aload_n 0, 1) := dw_42 (kcX7_unsafeFrom_1 0 42 rfl)
theorem dX7_unsafeFrom_65 : decode cX7_unsafeFrom 65 = .ok (.iload_n 1, 1) := dw_27 (kcX7_unsafeFrom_1 1 27 rfl)
theorem dX7_unsafeFrom_66 : decode cX7_unsafeFrom 66 = .ok (.iload 4, 2) := dw_21 (kcX7_unsafeFrom_1 2 21 rfl) (kcX7_unsafeFrom_1 3 4 rfl)
theorem dX7_unsafeFrom_68 : decode cX7_unsafeFrom 68 = .ok (.iload 5, 2) := dw_21 (kcX7_unsafeFrom_1 4 21 rfl) (kcX7_unsafeFrom_1 5 5 rfl)
theorem dX7_unsafeFrom_70 : decode cX7_unsafeFrom 70 = .ok (.invokevirtual 227, 3) := dw_182 (kcX7_unsafeFrom_1 6 182 rfl) (kcX7_unsafeFrom_1 7 0 rfl) (kcX7_unsafeFrom_1 8 227 rfl) rfl
theorem dX7_unsafeFrom_73 : decode cX7_unsafeFrom 73 = .ok (.ifCond .ne 5, 3) := dw_154 (kcX7_unsafeFrom_1 9 154 rfl) (kcX7_unsafeFrom_1 10 0 rfl) (kcX7_unsafeFrom_1 11 5 rfl) rfl
theorem dX7_unsafeFrom_76 : decode cX7_unsafeFrom 76 = .ok (.iload_n 3, 1) := dw_29 (kcX7_unsafeFrom_1 12 29 rfl)
theorem dX7_unsafeFrom_77 : decode cX7_unsafeFrom 77 = .ok (.ireturn, 1) := dw_172 (kcX7_unsafeFrom_1 13 172 rfl)
theorem kcX7_unsafe_0 : CHb cX7_unsafe 0 [42, 42, 27, 182, 0, 120, 153, 0, 7, 3, 167, 0, 4, 4, 181, 0, 116, 42, 180, 0, 116, 158, 0, 5, 2, 172, 3, 61, 42, 27, 3, 182, 0, 230, 62, 29, 2, 159, 0, 18, 132, 2, 1, 42, 27, 29, 4, 96, 182, 0, 230, 62, 167, 255, 239, 28, 172] := CHb_of (by decide +kernel)
theorem dX7_unsafe_0 : decode cX7_unsafe 0 = .ok (.aload_n 0, 1) := dw_42 (kcX7_unsafe_0 0 42 rfl)
theorem dX7_unsafe_1 : decode cX7_unsafe 1 = .ok (.aload_n 0, 1) := dw_42 (kcX7_unsafe_0 1 42 rfl)
theorem dX7_unsafe_2 : decode cX7_unsafe 2 = .ok (.iload_n 1, 1) := dw_27 (kcX7_unsafe_0 2 27 rfl)
theorem dX7_unsafe_3 : decode cX7_unsafe 3 = .ok (.invokevirtual 120, 3) := dw_182 (kcX7_unsafe_0 3 182 rfl) (kcX7_unsafe_0 4 0 rfl) (kcX7_unsafe_0 5 120 rfl) rfl
theorem dX7_unsafe_6 : decode cX7_unsafe 6 = .ok (.ifCond .eq 7, 3) := dw_153 (kcX7_unsafe_0 6 153 rfl) (kcX7_unsafe_0 7 0 rfl) (kcX7_unsafe_0 8 7 rfl) rfl
theorem dX7_unsafe_13 : decode cX7_unsafe 13 = .ok (.iconst 1, 1) := dw_4 (kcX7_unsafe_0 13 4 rfl)
theorem dX7_unsafe_14 : decode cX7_unsafe 14 = .ok (.putfield 116, 3) := dw_181 (kcX7_unsafe_0 14 181 rfl) (kcX7_unsafe_0 15 0 rfl) (kcX7_unsafe_0 16 116 rfl) rfl
theorem dX7_unsafe_17 : decode cX7_unsafe 17 = .ok (.aload_n 0, 1) := dw_42 (kcX7_unsafe_0 17 42 rfl)
theorem dX7_unsafe_18 : decode cX7_unsafe 18 = .ok (.getfield 116, 3) := dw_180 (kcX7_unsafe_0 18 180 rfl) (kcX7_unsafe_0 19 0 rfl) (kcX7_unsafe_0 20 116 rfl) rfl
theorem dX7_unsafe_21 : decode cX7_unsafe 21 = .ok (.ifCond .le 5, 3) := dw_158 (kcX7_unsafe_0 21 158 rfl) (kcX7_unsafe_0 22 0 rfl) (kcX7_unsafe_0 23 5 rfl) rfl
theorem dX7_unsafe_24 : decode cX7_unsafe 24 = .ok (.iconst (-1), 1) := dw_2 (kcX7_unsafe_0 24 2 rfl)
theorem dX7_unsafe_25 : decode cX7_unsafe 25 = .ok (.ireturn, 1) := dw_172 (kcX7_unsafe_0 25 172 rfl)
theorem dX7_unsafe_9 : decode cX7_unsafe 9 = .ok (.iconst 0, 1) := dw_3 (kcX7_unsafe_0 9 3 rfl)
theorem dX7_unsafe_10 : decode cX7_unsafe 10 = .ok (.goto 4, 3) := dw_167 (kcX7_unsafe_0 10 167 rfl) (kcX7_unsafe_0 11 0 rfl) (kcX7_unsafe_0 12 4 rfl) rfl
theorem dX7_unsafe_26 : decode cX7_unsafe 26 = .ok (.iconst 0, 1) := dw_3 (kcX7_unsafe_0 26 3 rfl)
theorem dX7_unsafe_27 : decode cX7_unsafe 27 = .ok (.istore_n 2, 1) := dw_61 (kcX7_unsafe_0 27 61 rfl)
theorem dX7_unsafe_28 : decode cX7_unsafe 28 = .ok (.aload_n 0, 1) := dw_42 (kcX7_unsafe_0 28 42 rfl)
theorem dX7_unsafe_29 : decode cX7_unsafe 29 = .ok (.iload_n 1, 1) := dw_27 (kcX7_unsafe_0 29 27 rfl)
theorem dX7_unsafe_30 : decode cX7_unsafe 30 = .ok (.iconst 0, 1) := dw_3 (kcX7_unsafe_0 30 3 rfl)
theorem dX7_unsafe_31 : decode cX7_unsafe 31 = .ok (.invokevirtual 230, 3) := dw_182 (kcX7_unsafe_0 31 182 rfl) (kcX7_unsafe_0 32 0 rfl) (kcX7_unsafe_0 33 230 rfl) rfl
theorem dX7_unsafe_34 : decode cX7_unsafe 34 = .ok (.istore_n 3, 1) := dw_62 (kcX7_unsafe_0 34 62 rfl)
theorem dX7_unsafe_35 : decode cX7_unsafe 35 = .ok (.iload_n 3, 1) := dw_29 (kcX7_unsafe_0 35 29 rfl)
theorem dX7_unsafe_36 : decode cX7_unsafe 36 = .ok (.iconst (-1), 1) := dw_2 (kcX7_unsafe_0 36 2 rfl)
theorem dX7_unsafe_37 : decode cX7_unsafe 37 = .ok (.if_icmp .eq 18, 3) := dw_159 (kcX7_unsafe_0 37 159 rfl) (kcX7_unsafe_0 38 0 rfl) (kcX7_unsafe_0 39 18 rfl) rfl
theorem dX7_unsafe_40 : decode cX7_unsafe 40 = .ok (.iinc 2 1, 3) := dw_132 (kcX7_unsafe_0 40 132 rfl) (kcX7_unsafe_0 41 2 rfl) (kcX7_unsafe_0 42 1 rfl) rfl
theorem dX7_unsafe_43 : decode cX7_unsafe 43 = .ok (.aload_n 0, 1) := dw_42 (kcX7_unsafe_0 43 42 rfl)
theorem dX7_unsafe_44 : decode cX7_unsafe 44 = .ok (.iload_n 1, 1) := dw_27 (kcX7_unsafe_0 44 27 rfl)
theorem dX7_unsafe_45 : decode cX7_unsafe 45 = .ok (.iload_n 3, 1) := dw_29 (kcX7_unsafe_0 45 29 rfl)
theorem dX7_unsafe_46 : decode cX7_unsafe 46 = .ok (.iconst 1, 1) := dw_4 (kcX7_unsafe_0 46 4 rfl)
theorem dX7_unsafe_47 : decode cX7_unsafe 47 = .ok (.iadd, 1) := dw_96 (kcX7_unsafe_0 47 96 rfl)
theorem dX7_unsafe_48 : decode cX7_unsafe 48 = .ok (.invokevirtual 230, 3) := dw_182 (kcX7_unsafe_0 48 182 rfl) (kcX7_unsafe_0 49 0 rfl) (kcX7_unsafe_0 50 230 rfl) rfl
theorem dX7_unsafe_51 : decode cX7_unsafe 51 = .ok (.istore_n 3, 1) := dw_62 (kcX7_unsafe_0 51 62 rfl)
theorem dX7_unsafe_52 : decode cX7_unsafe 52 = .ok (.goto (-17), 3) := dw_167 (kcX7_unsafe_0 52 167 rfl) (kcX7_unsafe_0 53 255 rfl) (kcX7_unsafe_0 54 239 rfl) rfl
theorem dX7_unsafe_55 : decode cX7_unsafe 55 = .ok (.iload_n 2, 1) := dw_28 (kcX7_unsafe_0 55 28 rfl)
theorem dX7_unsafe_56 : decode cX7_unsafe 56 = .ok (.ireturn, 1) := dw_172 (kcX7_unsafe_0 56 172 rfl)
theorem nI_nm1 {n : Nat} (h : n < 2147483648) : ¬ nI n = -1 := fun q => by
  have h2 := congrArg Int32.toInt q
  rw [nI_toInt h] at h2
  exact absurd h2 (by rw [show (-1 : Int32).toInt = -1 by decide]; omega)
/-- how many of the first are set -/
def cN (fr : Nat → Int32) : Nat → Nat
  | 0 => 0
  | k + 1 => cN fr k + (if fr k = -1 then 0 else 1)
theorem cN_le (fr : Nat → Int32) : ∀ N, cN fr N ≤ N
  | 0 => Nat.le_refl 0
  | k + 1 => by have h := cN_le fr k; simp only [cN]; split <;> omega
theorem cN_lt {fr : Nat → Int32} {y : Nat} (hf : fr y = -1) : ∀ N, y < N → cN fr N < N
  | 0, h => absurd h (Nat.not_lt_zero _)
  | k + 1, h => by
    have h1 := cN_le fr k
    simp only [cN]
    by_cases e : y = k
    · subst e; rw [if_pos hf]; omega
    · have h2 := cN_lt hf k (by omega); split <;> omega
theorem cN_out {fr : Nat → Int32} {y : Nat} {v : Int32} : ∀ N, N ≤ y → cN (upd fr y v) N = cN fr N
  | 0, _ => rfl
  | k + 1, h => by simp only [cN]; rw [cN_out k (by omega), pk_un (by omega)]
theorem cN_upd {fr : Nat → Int32} {y : Nat} {v : Int32} (hf : fr y = -1) (hv : ¬ v = -1) : ∀ N, y < N → cN (upd fr y v) N = cN fr N + 1
  | 0, h => absurd h (Nat.not_lt_zero _)
  | k + 1, h => by
    simp only [cN]
    by_cases e : y = k
    · subst e; rw [cN_out y (Nat.le_refl _), pk_us, if_neg hv, if_pos hf]
    · rw [cN_upd hf hv k (by omega), pk_un (fun q => e q.symm)]; omega
theorem cN_0 {fr : Nat → Int32} : ∀ N, (∀ n, n < N → fr n = -1) → cN fr N = 0
  | 0, _ => rfl
  | k + 1, h => by simp only [cN]; rw [cN_0 k (fun n q => h n (by omega)), if_pos (h k (by omega))]
def wJ (N : Nat) (adj : Nat → Nat → Prop) (a : Nat) (fr qu : Nat → Int32) (mn : Nat) : Prop := (∀ k, k < mn → ∃ n, n < N ∧ qu k = nI n ∧ ¬ fr n = -1 ∧ (n = a ∨ ∃ k' u, k' < k ∧ u < N ∧ qu k' = nI u ∧ fr n = nI u ∧ adj u n)) ∧ (∀ n, n < N → ¬ fr n = -1 → ∃ k, k < mn ∧ qu k = nI n) ∧ cN fr N = mn
theorem fr_s {fr : Nat → Int32} {i : Nat} (h : ∀ n, n < i → fr n = -1) : ∀ n, n < i + 1 → upd fr i (-1) n = -1 := fun n hn => by
  by_cases e : n = i
  · subst e; exact pk_us
  · rw [pk_un e]; exact h n (by omega)
section WJ
variable {N a mn : Nat} {adj : Nat → Nat → Prop} {fr qu : Nat → Int32}
theorem wJ_0 (h : ∀ n, n < N → fr n = -1) (ha : a < N) (hN : N < 1000) : wJ N adj a (upd fr a (nI a)) (upd qu 0 (nI a)) 1 := by
  have hm := nI_nm1 (n := a) (by omega)
  refine ⟨fun k hk => ⟨a, ha, by obtain rfl : k = 0 := by omega
                                 exact pk_us, by rw [pk_us]; exact hm, Or.inl rfl⟩, fun n hn hf => ?_, ?_⟩
  · by_cases e : n = a
    · subst e; exact ⟨0, by omega, pk_us⟩
    · rw [pk_un e] at hf; exact absurd (h n hn) hf
  · rw [cN_upd (h a ha) hm N ha, cN_0 N h]
theorem wJ_at {k : Nat} (h : wJ N adj a fr qu mn) (hk : k < mn) : ∃ n, n < N ∧ qu k = nI n := by
  obtain ⟨n, h1, h2, _⟩ := h.1 k hk
  exact ⟨n, h1, h2⟩
theorem wJ_lt {y : Nat} (h : wJ N adj a fr qu mn) (hy : y < N) (hf : fr y = -1) : mn < N := by rw [← h.2.2]; exact cN_lt hf N hy
theorem wJ_s {k0 x y : Nat} (h : wJ N adj a fr qu mn) (hk : k0 < mn) (hq : qu k0 = nI x) (hx : x < N) (hy : y < N) (hf : fr y = -1) (hadj : adj x y) (hN : N < 1000) : wJ N adj a (upd fr y (nI x)) (upd qu mn (nI y)) (mn + 1) := by
  have hm := nI_nm1 (n := x) (by omega)
  refine ⟨fun k hk2 => ?_, fun n hn hf2 => ?_, ?_⟩
  · by_cases e : k = mn
    · subst e; exact ⟨y, hy, pk_us, by rw [pk_us]; exact hm, Or.inr ⟨k0, x, hk, hx, by rw [pk_un (by omega)]; exact hq, pk_us, hadj⟩⟩
    · obtain ⟨n, h1, h2, h3, h4⟩ := h.1 k (by omega)
      have hne : n ≠ y := fun q => h3 (by rw [q]; exact hf)
      refine ⟨n, h1, by rw [pk_un e]; exact h2, by rw [pk_un hne]; exact h3, h4.imp id (fun ⟨k', u, q1, q2, q3, q4, q5⟩ => ⟨k', u, q1, q2, by rw [pk_un (by omega)]; exact q3, by rw [pk_un hne]; exact q4, q5⟩)⟩
  · by_cases e : n = y
    · subst e; exact ⟨mn, by omega, pk_us⟩
    · rw [pk_un e] at hf2
      obtain ⟨k, h1, h2⟩ := h.2.1 n hn hf2
      exact ⟨k, by omega, by rw [pk_un (by omega)]; exact h2⟩
  · rw [cN_upd hf hm N hy, h.2.2]
theorem wJ_up {k y : Nat} (h : wJ N adj a fr qu mn) (hk : k < mn) (hq : qu k = nI y) (hy : y < N) (hne : y ≠ a) (hN : N < 1000) : ∃ k' u, k' < k ∧ u < N ∧ qu k' = nI u ∧ fr y = nI u ∧ adj u y := by
  obtain ⟨n, h1, h2, h3, h4⟩ := h.1 k hk
  obtain rfl : n = y := (nI_eq (by omega) (by omega)).mp (h2.symm.trans hq)
  exact h4.resolve_left hne
end WJ
def kAt (u v : Nat) : Nat := if u < 12 then 12 * u + v - 12 else 12 * v + u - 12
def rmF (mv hi lo nw : Nat → Int32) (u v : Nat) : Int32 := if mv (kAt u v) = 0 then 0 else if u < 12 then hi (kAt u v) - nw (kAt u v) else nw (kAt u v) - lo (kAt u v)
theorem rm_a {mv hi lo nw : Nat → Int32} {u v : Nat} (h : u < 12) : rmF mv hi lo nw u v = if mv (12 * u + v - 12) = 0 then 0 else hi (12 * u + v - 12) - nw (12 * u + v - 12) := by unfold rmF kAt; simp only [if_pos h]
theorem rm_b {mv hi lo nw : Nat → Int32} {u v : Nat} (h : ¬ u < 12) : rmF mv hi lo nw u v = if mv (12 * v + u - 12) = 0 then 0 else nw (12 * v + u - 12) - lo (12 * v + u - 12) := by unfold rmF kAt; simp only [if_neg h]
def bip (u v : Nat) : Prop := (u < 12 ∧ 12 ≤ v ∧ v < 24) ∨ (12 ≤ u ∧ u < 24 ∧ v < 12)
set_option maxHeartbeats 4000000 in
set_option maxRecDepth 100000 in
theorem m_X7_room (l : Launch) (G : GG) (y : Nat) (b : Nat → Nat) (f : Nat → Int32) (r : Nat → Nat → Int32) (u : Nat) (v : Nat) (huv : bip u v) : RdI l yX7_room cX7_room 4 (some .int) ({ frames := 0, cells := 0, slots := 0, locals := 0 }) G (mM G y b f r) [.ref y, .int (nI u), .int (nI v)] (fun q => q = rmF (r 19) (r 17) (r 16) (r 15) u v) := by
  refine rd_entry (by decide +kernel) (Nat.le_of_ble_eq_true rfl) ?_
  intro p e s m below meth c C0 hP hK ls hl
  have hS : va_S (fun q => s.heap.size ≤ q) s.heap s.heap [] := va_S.rf
  have hA : ∀ q, s.heap.size ≤ q → (fun q => s.heap.size ≤ q) q := fun _ h => h
  obtain ⟨hx, hb, hml, hown, hts, hr, hlocks, hin⟩ := C0
  have hown : s.vm.findClass RX7 = some m.cls := hown
  have hl : lv_has ls 4 [(0, .ref y), (1, .int (nI u)), (2, .int (nI v))] := hl
  have hq := huv
  unfold bip at hq
  refine lv_iload_n hx hb dX7_room_0 rfl (lv_at hl 1 rfl) ?_
  refine lv_bipush (v := 12) hx hb dX7_room_1 (by decide) ?_
  refine lv_icmp_ge (tgt := 18) hx hb dX7_room_3 (by decide) (fun c1 => ?_) (fun c1 => ?_)
  · have b3 := qge_t (a := u) (b := 12) (by omega) (by omega) c1
    refine lv_bipush (v := 12) hx hb dX7_room_18 (by decide) ?_
    refine lv_iload_n hx hb dX7_room_20 rfl (lv_at hl 2 rfl) ?_
    refine lv_imul hx hb dX7_room_21 ?_
    refine lv_topi (fun v2 ev2 => ?_)
    obtain rfl : v2 = nI (12 * v) := nI_times ev2 rfl rfl
    refine lv_iload_n hx hb dX7_room_22 rfl (lv_at hl 1 rfl) ?_
    refine lv_iadd hx hb dX7_room_23 ?_
    refine lv_topi (fun v3 ev3 => ?_)
    obtain rfl : v3 = nI ((12 * v) + u) := nI_plus ev3 rfl rfl
    refine lv_bipush (v := 12) hx hb dX7_room_24 (by decide) ?_
    refine lv_isub hx hb dX7_room_26 ?_
    refine lv_topi (fun v4 ev4 => ?_)
    obtain rfl : v4 = nI (((12 * v) + u) - 12) := nI_minus ev4 rfl rfl (by omega)
    refine lv_istore_n (lv' := [(3, .int (nI (((12 * v) + u) - 12))), (0, .ref y), (1, .int (nI u)), (2, .int (nI v))]) hx hb dX7_room_27 rfl hl (by decide) rfl (fun ls hl => ?_)
    refine lv_aload_n hx hb dX7_room_28 rfl (lv_at hl 1 rfl) ?_
    refine va_get (D := G.1) (ci := 7) (v := .ref (b 19)) (C := RX7) (T := TX7) (N := 43) hx hb hts inX7 hown hK.1 hP 0 rfl rfl 19 (by decide) (hts _ mf_X7_65) (fun _ h9 => h9) rfl dX7_room_29 ?_
    refine lv_iload_n hx hb dX7_room_32 rfl (lv_at hl 0 rfl) ?_
    refine xzald (f := (r 19)) hx hb hK hP 19 ((((12 * v) + u) - 12)) (rfl) (by omega) (by decide) rfl dX7_room_33 ?_
    refine lv_topi (fun v5 ev5 => ?_)
    refine lv_if_ne (tgt := 39) hx hb dX7_room_34 (by decide) (fun c6 => ?_) (fun c6 => ?_)
    · refine lv_iload_n hx hb dX7_room_39 rfl (lv_at hl 2 rfl) ?_
      refine lv_bipush (v := 12) hx hb dX7_room_40 (by decide) ?_
      refine lv_icmp_ge (tgt := 61) hx hb dX7_room_42 (by decide) (fun c7 => ?_) (fun c7 => ?_)
      · have b42 := qge_t (a := u) (b := 12) (by omega) (by omega) c7
        refine lv_aload_n hx hb dX7_room_61 rfl (lv_at hl 1 rfl) ?_
        refine va_get (D := G.1) (ci := 7) (v := .ref (b 15)) (C := RX7) (T := TX7) (N := 43) hx hb hts inX7 hown hK.1 hP 0 rfl rfl 15 (by decide) (hts _ mf_X7_53) (fun _ h9 => h9) rfl dX7_room_62 ?_
        refine lv_iload_n hx hb dX7_room_65 rfl (lv_at hl 0 rfl) ?_
        refine xiald (f := (r 15)) hx hb hK hP 15 ((((12 * v) + u) - 12)) (rfl) (by omega) (by decide) rfl dX7_room_66 ?_
        refine lv_topi (fun v8 ev8 => ?_)
        refine lv_aload_n hx hb dX7_room_67 rfl (lv_at hl 1 rfl) ?_
        refine va_get (D := G.1) (ci := 7) (v := .ref (b 16)) (C := RX7) (T := TX7) (N := 43) hx hb hts inX7 hown hK.1 hP 0 rfl rfl 16 (by decide) (hts _ mf_X7_56) (fun _ h9 => h9) rfl dX7_room_68 ?_
        refine lv_iload_n hx hb dX7_room_71 rfl (lv_at hl 0 rfl) ?_
        refine xiald (f := (r 16)) hx hb hK hP 16 ((((12 * v) + u) - 12)) (rfl) (by omega) (by decide) rfl dX7_room_72 ?_
        refine lv_topi (fun v9 ev9 => ?_)
        refine lv_isub hx hb dX7_room_73 ?_
        refine lv_topi (fun v10 ev10 => ?_)
        exact rd_iret hx hb hr hlocks hS ((by rw [rm_b (show ¬ u < 12 by omega), if_neg (fun h => c6 (by rw [ev5]; exact h))]; rw [ev10, ev9, ev8])) dX7_room_74
      · have b42 := qge_f (a := u) (b := 12) (by omega) (by omega) c7
        exact absurd b42 (by omega)
    · refine lv_iconst (v := 0) hx hb dX7_room_37 (by decide) ?_
      exact rd_iret hx hb hr hlocks hS ((by rw [rm_b (show ¬ u < 12 by omega), if_pos (by rw [← ev5]; exact c6)])) dX7_room_38
  · have b3 := qge_f (a := u) (b := 12) (by omega) (by omega) c1
    refine lv_bipush (v := 12) hx hb dX7_room_6 (by decide) ?_
    refine lv_iload_n hx hb dX7_room_8 rfl (lv_at hl 1 rfl) ?_
    refine lv_imul hx hb dX7_room_9 ?_
    refine lv_topi (fun v11 ev11 => ?_)
    obtain rfl : v11 = nI (12 * u) := nI_times ev11 rfl rfl
    refine lv_iload_n hx hb dX7_room_10 rfl (lv_at hl 2 rfl) ?_
    refine lv_iadd hx hb dX7_room_11 ?_
    refine lv_topi (fun v12 ev12 => ?_)
    obtain rfl : v12 = nI ((12 * u) + v) := nI_plus ev12 rfl rfl
    refine lv_bipush (v := 12) hx hb dX7_room_12 (by decide) ?_
    refine lv_isub hx hb dX7_room_14 ?_
    refine lv_topi (fun v13 ev13 => ?_)
    obtain rfl : v13 = nI (((12 * u) + v) - 12) := nI_minus ev13 rfl rfl (by omega)
    refine lv_goto (tgt := 27) hx hb dX7_room_15 (by decide) ?_
    refine lv_istore_n (lv' := [(3, .int (nI (((12 * u) + v) - 12))), (0, .ref y), (1, .int (nI u)), (2, .int (nI v))]) hx hb dX7_room_27 rfl hl (by decide) rfl (fun ls hl => ?_)
    refine lv_aload_n hx hb dX7_room_28 rfl (lv_at hl 1 rfl) ?_
    refine va_get (D := G.1) (ci := 7) (v := .ref (b 19)) (C := RX7) (T := TX7) (N := 43) hx hb hts inX7 hown hK.1 hP 0 rfl rfl 19 (by decide) (hts _ mf_X7_65) (fun _ h9 => h9) rfl dX7_room_29 ?_
    refine lv_iload_n hx hb dX7_room_32 rfl (lv_at hl 0 rfl) ?_
    refine xzald (f := (r 19)) hx hb hK hP 19 ((((12 * u) + v) - 12)) (rfl) (by omega) (by decide) rfl dX7_room_33 ?_
    refine lv_topi (fun v14 ev14 => ?_)
    refine lv_if_ne (tgt := 39) hx hb dX7_room_34 (by decide) (fun c15 => ?_) (fun c15 => ?_)
    · refine lv_iload_n hx hb dX7_room_39 rfl (lv_at hl 2 rfl) ?_
      refine lv_bipush (v := 12) hx hb dX7_room_40 (by decide) ?_
      refine lv_icmp_ge (tgt := 61) hx hb dX7_room_42 (by decide) (fun c16 => ?_) (fun c16 => ?_)
      · have b42 := qge_t (a := u) (b := 12) (by omega) (by omega) c16
        exact absurd b42 (by omega)
      · have b42 := qge_f (a := u) (b := 12) (by omega) (by omega) c16
        refine lv_aload_n hx hb dX7_room_45 rfl (lv_at hl 1 rfl) ?_
        refine va_get (D := G.1) (ci := 7) (v := .ref (b 17)) (C := RX7) (T := TX7) (N := 43) hx hb hts inX7 hown hK.1 hP 0 rfl rfl 17 (by decide) (hts _ mf_X7_59) (fun _ h9 => h9) rfl dX7_room_46 ?_
        refine lv_iload_n hx hb dX7_room_49 rfl (lv_at hl 0 rfl) ?_
        refine xiald (f := (r 17)) hx hb hK hP 17 ((((12 * u) + v) - 12)) (rfl) (by omega) (by decide) rfl dX7_room_50 ?_
        refine lv_topi (fun v17 ev17 => ?_)
        refine lv_aload_n hx hb dX7_room_51 rfl (lv_at hl 1 rfl) ?_
        refine va_get (D := G.1) (ci := 7) (v := .ref (b 15)) (C := RX7) (T := TX7) (N := 43) hx hb hts inX7 hown hK.1 hP 0 rfl rfl 15 (by decide) (hts _ mf_X7_53) (fun _ h9 => h9) rfl dX7_room_52 ?_
        refine lv_iload_n hx hb dX7_room_55 rfl (lv_at hl 0 rfl) ?_
        refine xiald (f := (r 15)) hx hb hK hP 15 ((((12 * u) + v) - 12)) (rfl) (by omega) (by decide) rfl dX7_room_56 ?_
        refine lv_topi (fun v18 ev18 => ?_)
        refine lv_isub hx hb dX7_room_57 ?_
        refine lv_topi (fun v19 ev19 => ?_)
        refine lv_goto (tgt := 74) hx hb dX7_room_58 (by decide) ?_
        exact rd_iret hx hb hr hlocks hS ((by rw [rm_a (show u < 12 by omega), if_neg (fun h => c15 (by rw [ev14]; exact h))]; rw [ev19, ev18, ev17])) dX7_room_74
    · refine lv_iconst (v := 0) hx hb dX7_room_37 (by decide) ?_
      exact rd_iret hx hb hr hlocks hS ((by rw [rm_a (show u < 12 by omega), if_pos (by rw [← ev14]; exact c15)])) dX7_room_38
set_option maxHeartbeats 4000000 in
set_option maxRecDepth 100000 in
theorem m_X7_isNode (l : Launch) (G : GG) (y : Nat) (b : Nat → Nat) (f : Nat → Int32) (r : Nat → Nat → Int32) (n : Nat) (its : Int32) (hn : n < 24) : RdI l yX7_isNode cX7_isNode 3 (some .boolean) ({ frames := 0, cells := 0, slots := 0, locals := 0 }) G (mM G y b f r) [.ref y, .int (nI n), .int its] (fun q => (q = 0 ∨ q = 1)) := by
  refine rd_entry (by decide +kernel) (Nat.le_of_ble_eq_true rfl) ?_
  intro p e s m below meth c C0 hP hK ls hl
  have hS : va_S (fun q => s.heap.size ≤ q) s.heap s.heap [] := va_S.rf
  have hA : ∀ q, s.heap.size ≤ q → (fun q => s.heap.size ≤ q) q := fun _ h => h
  obtain ⟨hx, hb, hml, hown, hts, hr, hlocks, hin⟩ := C0
  have hown : s.vm.findClass RX7 = some m.cls := hown
  have hl : lv_has ls 3 [(0, .ref y), (1, .int (nI n)), (2, .int its)] := hl
  refine lv_iload_n hx hb dX7_isNode_0 rfl (lv_at hl 1 rfl) ?_
  refine lv_bipush (v := 12) hx hb dX7_isNode_1 (by decide) ?_
  refine lv_icmp_ge (tgt := 32) hx hb dX7_isNode_3 (by decide) (fun c1 => ?_) (fun c1 => ?_)
  · have b3 := qge_t (a := n) (b := 12) (by omega) (by omega) c1
    refine lv_iload_n hx hb dX7_isNode_32 rfl (lv_at hl 1 rfl) ?_
    refine lv_bipush (v := 12) hx hb dX7_isNode_33 (by decide) ?_
    refine lv_isub hx hb dX7_isNode_35 ?_
    refine lv_topi (fun v2 ev2 => ?_)
    obtain rfl : v2 = nI (n - 12) := nI_minus ev2 rfl rfl (by omega)
    refine lv_aload_n hx hb dX7_isNode_36 rfl (lv_at hl 0 rfl) ?_
    refine va_get (D := G.1) (ci := 7) (v := .int (f 21)) (C := RX7) (T := TX7) (N := 43) hx hb hts inX7 hown hK.1 hP 0 rfl rfl 21 (by decide) (hts _ mf_X7_192) (fun _ h9 => h9) rfl dX7_isNode_37 ?_
    refine lv_icmp_ge (tgt := 47) hx hb dX7_isNode_40 (by decide) (fun c3 => ?_) (fun c3 => ?_)
    · refine lv_iconst (v := 0) hx hb dX7_isNode_47 (by decide) ?_
      exact rd_zret hx hb hr hlocks (Or.inl rfl) hS ((Or.inl rfl)) dX7_isNode_48
    · refine lv_iconst (v := 1) hx hb dX7_isNode_43 (by decide) ?_
      refine lv_goto (tgt := 48) hx hb dX7_isNode_44 (by decide) ?_
      exact rd_zret hx hb hr hlocks (Or.inr rfl) hS ((Or.inr rfl)) dX7_isNode_48
  · have b3 := qge_f (a := n) (b := 12) (by omega) (by omega) c1
    refine lv_iload_n hx hb dX7_isNode_6 rfl (lv_at hl 1 rfl) ?_
    refine lv_aload_n hx hb dX7_isNode_7 rfl (lv_at hl 0 rfl) ?_
    refine va_get (D := G.1) (ci := 7) (v := .int (f 20)) (C := RX7) (T := TX7) (N := 43) hx hb hts inX7 hown hK.1 hP 0 rfl rfl 20 (by decide) (hts _ mf_X7_189) (fun _ h9 => h9) rfl dX7_isNode_8 ?_
    refine lv_icmp_ge (tgt := 28) hx hb dX7_isNode_11 (by decide) (fun c4 => ?_) (fun c4 => ?_)
    · refine lv_iconst (v := 0) hx hb dX7_isNode_28 (by decide) ?_
      refine lv_goto (tgt := 48) hx hb dX7_isNode_29 (by decide) ?_
      exact rd_zret hx hb hr hlocks (Or.inl rfl) hS ((Or.inl rfl)) dX7_isNode_48
    · refine lv_aload_n hx hb dX7_isNode_14 rfl (lv_at hl 0 rfl) ?_
      refine va_get (D := G.1) (ci := 7) (v := .ref (b 18)) (C := RX7) (T := TX7) (N := 43) hx hb hts inX7 hown hK.1 hP 0 rfl rfl 18 (by decide) (hts _ mf_X7_62) (fun _ h9 => h9) rfl dX7_isNode_15 ?_
      refine lv_iload_n hx hb dX7_isNode_18 rfl (lv_at hl 1 rfl) ?_
      refine xiald (f := (r 18)) hx hb hK hP 18 (n) (rfl) (by omega) (by decide) rfl dX7_isNode_19 ?_
      refine lv_topi (fun v5 ev5 => ?_)
      refine lv_iload_n hx hb dX7_isNode_20 rfl (lv_at hl 2 rfl) ?_
      refine lv_icmp_ne (tgt := 28) hx hb dX7_isNode_21 (by decide) (fun c6 => ?_) (fun c6 => ?_)
      · refine lv_iconst (v := 0) hx hb dX7_isNode_28 (by decide) ?_
        refine lv_goto (tgt := 48) hx hb dX7_isNode_29 (by decide) ?_
        exact rd_zret hx hb hr hlocks (Or.inl rfl) hS ((Or.inl rfl)) dX7_isNode_48
      · refine lv_iconst (v := 1) hx hb dX7_isNode_24 (by decide) ?_
        refine lv_goto (tgt := 48) hx hb dX7_isNode_25 (by decide) ?_
        exact rd_zret hx hb hr hlocks (Or.inr rfl) hS ((Or.inr rfl)) dX7_isNode_48