theorem mf_X7_23 : Cond.fieldLink RX7 23 "CellKeeperModel" "kinds" "[I" ∈ TB := TB_t4 105 rfl rfl
theorem mf_X7_26 : Cond.fieldLink RX7 26 "CellKeeperModel" "numbers" "[I" ∈ TB := TB_t4 106 rfl rfl
theorem mf_X7_29 : Cond.fieldLink RX7 29 "CellKeeperModel" "giverMany" "[I" ∈ TB := TB_t4 107 rfl rfl
theorem mf_X7_35 : Cond.fieldLink RX7 35 "CellKeeperModel" "byHand" "[Z" ∈ TB := TB_t4 109 rfl rfl
theorem mf_X7_38 : Cond.fieldLink RX7 38 "CellKeeperModel" "toKeep" "[Z" ∈ TB := TB_t4 110 rfl rfl
theorem ml_X7_131 : Cond.methodLink RX7 131 yX7_refuse ∈ TB := TB_t4 238 rfl rfl
theorem mcode_yX7_refuse : Cond.code yX7_refuse cX7_refuse 2 (some .boolean) ∈ TB := TB_t5 1 rfl rfl
theorem mi_yX7_refuse : MI yX7_refuse cX7_refuse 2 (some .boolean) 1 := ⟨mz_RX7, mcode_yX7_refuse, by decide +kernel, by decide +kernel, by decide +kernel⟩
theorem mim_yX7_refuse : Cond.instanceMethod yX7_refuse ∈ TB := TB_t5 0 rfl rfl
theorem msel_yX7_refuse : Cond.selects yX7_refuse.cls yX7_refuse yX7_refuse ∈ TB := TB_s (n := 43) 41 (by decide +kernel)
theorem mv_yX7_refuse : Cond.instanceMethod yX7_refuse ∈ TB ∧ Cond.selects yX7_refuse.cls yX7_refuse yX7_refuse ∈ TB := ⟨mim_yX7_refuse, msel_yX7_refuse⟩
theorem mf_X7_44 : Cond.fieldLink RX7 44 "CellKeeperModel" "blockMany" "[I" ∈ TB := TB_t4 112 rfl rfl
theorem mf_X7_20 : Cond.fieldLink RX7 20 "CellKeeperModel" "rules" "[I" ∈ TB := TB_t4 104 rfl rfl
theorem ml_X7_134 : Cond.methodLink RX7 134 yX7_empty ∈ TB := TB_t5 2 rfl rfl
theorem mcode_yX7_empty : Cond.code yX7_empty cX7_empty 2 none ∈ TB := TB_t5 5 rfl rfl
theorem mi_yX7_empty : MI yX7_empty cX7_empty 2 none 1 := ⟨mz_RX7, mcode_yX7_empty, by decide +kernel, by decide +kernel, by decide +kernel⟩
theorem mim_yX7_empty : Cond.instanceMethod yX7_empty ∈ TB := TB_t5 4 rfl rfl
theorem msel_yX7_empty : Cond.selects yX7_empty.cls yX7_empty yX7_empty ∈ TB := TB_s (n := 43) 42 (by decide +kernel)
theorem mv_yX7_empty : Cond.instanceMethod yX7_empty ∈ TB ∧ Cond.selects yX7_empty.cls yX7_empty yX7_empty ∈ TB := ⟨mim_yX7_empty, msel_yX7_empty⟩
theorem ml_X7_138 : Cond.methodLink RX7 138 yX7_good ∈ TB := TB_t5 6 rfl rfl
theorem mcode_yX7_good : Cond.code yX7_good cX7_good 1 (some .boolean) ∈ TB := TB_t5 9 rfl rfl
theorem mi_yX7_good : MI yX7_good cX7_good 1 (some .boolean) 0 := ⟨mz_RX7, mcode_yX7_good, by decide +kernel, by decide +kernel, by decide +kernel⟩
theorem mim_yX7_good : Cond.instanceMethod yX7_good ∈ TB := TB_t5 8 rfl rfl
theorem msel_yX7_good : Cond.selects yX7_good.cls yX7_good yX7_good ∈ TB := TB_s (n := 43) 43 (by decide +kernel)
theorem mv_yX7_good : Cond.instanceMethod yX7_good ∈ TB ∧ Cond.selects yX7_good.cls yX7_good yX7_good ∈ TB := ⟨mim_yX7_good, msel_yX7_good⟩
theorem mk_X7_142 : Cond.constant RX7 142 (1000000) ∈ TB := TB_t5 22 rfl rfl
theorem ml_X7_143 : Cond.methodLink RX7 143 yX7_wrongPlace ∈ TB := TB_t5 27 rfl rfl
theorem mcode_yX7_wrongPlace : Cond.code yX7_wrongPlace cX7_wrongPlace 4 (some .int) ∈ TB := TB_t5 30 rfl rfl
theorem mi_yX7_wrongPlace : MI yX7_wrongPlace cX7_wrongPlace 4 (some .int) 3 := ⟨mz_RX7, mcode_yX7_wrongPlace, by decide +kernel, by decide +kernel, by decide +kernel⟩
theorem mim_yX7_wrongPlace : Cond.instanceMethod yX7_wrongPlace ∈ TB := TB_t5 29 rfl rfl
theorem msel_yX7_wrongPlace : Cond.selects yX7_wrongPlace.cls yX7_wrongPlace yX7_wrongPlace ∈ TB := TB_s (n := 43) 45 (by decide +kernel)
theorem mv_yX7_wrongPlace : Cond.instanceMethod yX7_wrongPlace ∈ TB ∧ Cond.selects yX7_wrongPlace.cls yX7_wrongPlace yX7_wrongPlace ∈ TB := ⟨mim_yX7_wrongPlace, msel_yX7_wrongPlace⟩
theorem ml_X7_147 : Cond.methodLink RX7 147 yX7_at ∈ TB := TB_t5 39 rfl rfl
theorem mcode_yX7_at : Cond.code yX7_at cX7_at 3 (some .int) ∈ TB := TB_t5 41 rfl rfl
theorem mi_yX7_at : MI yX7_at cX7_at 3 (some .int) 3 := ⟨mz_RX7, mcode_yX7_at, by decide +kernel, by decide +kernel, by decide +kernel⟩
theorem mst_yX7_at : Cond.static yX7_at ∈ TB := TB_t5 40 rfl rfl
theorem mk_X7_150 : Cond.constant RX7 150 (100000) ∈ TB := TB_t5 46 rfl rfl
theorem mf_X7_32 : Cond.fieldLink RX7 32 "CellKeeperModel" "parts" "[I" ∈ TB := TB_t4 108 rfl rfl
theorem mf_X7_47 : Cond.fieldLink RX7 47 "CellKeeperModel" "blockFirst" "[I" ∈ TB := TB_t4 113 rfl rfl
theorem mf_X7_50 : Cond.fieldLink RX7 50 "CellKeeperModel" "blockLast" "[I" ∈ TB := TB_t4 114 rfl rfl
theorem ml_X7_151 : Cond.methodLink RX7 151 yX7_isLaid ∈ TB := TB_t5 59 rfl rfl
theorem mcode_yX7_isLaid : Cond.code yX7_isLaid cX7_isLaid 9 (some .boolean) ∈ TB := TB_t5 62 rfl rfl
theorem mi_yX7_isLaid : MI yX7_isLaid cX7_isLaid 9 (some .boolean) 3 := ⟨mz_RX7, mcode_yX7_isLaid, by decide +kernel, by decide +kernel, by decide +kernel⟩
theorem mim_yX7_isLaid : Cond.instanceMethod yX7_isLaid ∈ TB := TB_t5 61 rfl rfl
theorem msel_yX7_isLaid : Cond.selects yX7_isLaid.cls yX7_isLaid yX7_isLaid ∈ TB := TB_s (n := 43) 48 (by decide +kernel)
theorem mv_yX7_isLaid : Cond.instanceMethod yX7_isLaid ∈ TB ∧ Cond.selects yX7_isLaid.cls yX7_isLaid yX7_isLaid ∈ TB := ⟨mim_yX7_isLaid, msel_yX7_isLaid⟩
theorem kcX7_empty_0 : CHb cX7_empty 0 [42, 180, 0, 23, 27, 3, 79, 42, 180, 0, 26, 27, 3, 79, 42, 180, 0, 29, 27, 3, 79, 42, 180, 0, 35, 27, 3, 84, 42, 180, 0, 38, 27, 3, 84, 177] := CHb_of (by decide +kernel)
theorem dX7_empty_0 : decode cX7_empty 0 = .ok (.aload_n 0, 1) := dw_42 (kcX7_empty_0 0 42 rfl)
theorem dX7_empty_1 : decode cX7_empty 1 = .ok (.getfield 23, 3) := dw_180 (kcX7_empty_0 1 180 rfl) (kcX7_empty_0 2 0 rfl) (kcX7_empty_0 3 23 rfl) rfl
theorem dX7_empty_4 : decode cX7_empty 4 = .ok (.iload_n 1, 1) := dw_27 (kcX7_empty_0 4 27 rfl)
theorem dX7_empty_5 : decode cX7_empty 5 = .ok (.iconst 0, 1) := dw_3 (kcX7_empty_0 5 3 rfl)
theorem dX7_empty_6 : decode cX7_empty 6 = .ok (.iastore, 1) := dw_79 (kcX7_empty_0 6 79 rfl)
theorem dX7_empty_7 : decode cX7_empty 7 = .ok (.aload_n 0, 1) := dw_42 (kcX7_empty_0 7 42 rfl)
theorem dX7_empty_8 : decode cX7_empty 8 = .ok (.getfield 26, 3) := dw_180 (kcX7_empty_0 8 180 rfl) (kcX7_empty_0 9 0 rfl) (kcX7_empty_0 10 26 rfl) rfl
theorem dX7_empty_11 : decode cX7_empty 11 = .ok (.iload_n 1, 1) := dw_27 (kcX7_empty_0 11 27 rfl)
theorem dX7_empty_12 : decode cX7_empty 12 = .ok (.iconst 0, 1) := dw_3 (kcX7_empty_0 12 3 rfl)
theorem dX7_empty_13 : decode cX7_empty 13 = .ok (.iastore, 1) := dw_79 (kcX7_empty_0 13 79 rfl)
theorem dX7_empty_14 : decode cX7_empty 14 = .ok (.aload_n 0, 1) := dw_42 (kcX7_empty_0 14 42 rfl)
theorem dX7_empty_15 : decode cX7_empty 15 = .ok (.getfield 29, 3) := dw_180 (kcX7_empty_0 15 180 rfl) (kcX7_empty_0 16 0 rfl) (kcX7_empty_0 17 29 rfl) rfl
theorem dX7_empty_18 : decode cX7_empty 18 = .ok (.iload_n 1, 1) := dw_27 (kcX7_empty_0 18 27 rfl)
theorem dX7_empty_19 : decode cX7_empty 19 = .ok (.iconst 0, 1) := dw_3 (kcX7_empty_0 19 3 rfl)
theorem dX7_empty_20 : decode cX7_empty 20 = .ok (.iastore, 1) := dw_79 (kcX7_empty_0 20 79 rfl)
theorem dX7_empty_21 : decode cX7_empty 21 = .ok (.aload_n 0, 1) := dw_42 (kcX7_empty_0 21 42 rfl)
theorem dX7_empty_22 : decode cX7_empty 22 = .ok (.getfield 35, 3) := dw_180 (kcX7_empty_0 22 180 rfl) (kcX7_empty_0 23 0 rfl) (kcX7_empty_0 24 35 rfl) rfl
theorem dX7_empty_25 : decode cX7_empty 25 = .ok (.iload_n 1, 1) := dw_27 (kcX7_empty_0 25 27 rfl)
theorem dX7_empty_26 : decode cX7_empty 26 = .ok (.iconst 0, 1) := dw_3 (kcX7_empty_0 26 3 rfl)
theorem dX7_empty_27 : decode cX7_empty 27 = .ok (.bastore, 1) := dw_84 (kcX7_empty_0 27 84 rfl)
theorem dX7_empty_28 : decode cX7_empty 28 = .ok (.aload_n 0, 1) := dw_42 (kcX7_empty_0 28 42 rfl)
theorem dX7_empty_29 : decode cX7_empty 29 = .ok (.getfield 38, 3) := dw_180 (kcX7_empty_0 29 180 rfl) (kcX7_empty_0 30 0 rfl) (kcX7_empty_0 31 38 rfl) rfl
theorem dX7_empty_32 : decode cX7_empty 32 = .ok (.iload_n 1, 1) := dw_27 (kcX7_empty_0 32 27 rfl)
theorem dX7_empty_33 : decode cX7_empty 33 = .ok (.iconst 0, 1) := dw_3 (kcX7_empty_0 33 3 rfl)
theorem dX7_empty_34 : decode cX7_empty 34 = .ok (.bastore, 1) := dw_84 (kcX7_empty_0 34 84 rfl)
theorem dX7_empty_35 : decode cX7_empty 35 = .ok (.return_, 1) := dw_177 (kcX7_empty_0 35 177 rfl)
theorem kcX7_open_0 : CHb cX7_open 0 [27, 155, 0, 18, 27, 16, 6, 162, 0, 12, 42, 180, 0, 7, 27, 51, 153, 0, 9, 42, 4, 182, 0, 131, 172, 28, 4, 161, 0, 20, 28, 16, 12, 163, 0, 14, 29, 4, 161, 0, 9, 29, 16, 12, 164, 0, 9, 42, 5, 182, 0, 131, 172, 42, 180, 0, 7, 27, 4, 84, 42, 180, 0, 13] := CHb_of (by decide +kernel)
theorem dX7_open_0 : decode cX7_open 0 = .ok (.iload_n 1, 1) := dw_27 (kcX7_open_0 0 27 rfl)
theorem dX7_open_1 : decode cX7_open 1 = .ok (.ifCond .lt 18, 3) := dw_155 (kcX7_open_0 1 155 rfl) (kcX7_open_0 2 0 rfl) (kcX7_open_0 3 18 rfl) rfl
theorem dX7_open_19 : decode cX7_open 19 = .ok (.aload_n 0, 1) := dw_42 (kcX7_open_0 19 42 rfl)
theorem dX7_open_20 : decode cX7_open 20 = .ok (.iconst 1, 1) := dw_4 (kcX7_open_0 20 4 rfl)
theorem dX7_open_21 : decode cX7_open 21 = .ok (.invokevirtual 131, 3) := dw_182 (kcX7_open_0 21 182 rfl) (kcX7_open_0 22 0 rfl) (kcX7_open_0 23 131 rfl) rfl
theorem dX7_open_24 : decode cX7_open 24 = .ok (.ireturn, 1) := dw_172 (kcX7_open_0 24 172 rfl)
theorem dX7_open_4 : decode cX7_open 4 = .ok (.iload_n 1, 1) := dw_27 (kcX7_open_0 4 27 rfl)
theorem dX7_open_5 : decode cX7_open 5 = .ok (.bipush 6, 2) := dw_16 (kcX7_open_0 5 16 rfl) (kcX7_open_0 6 6 rfl) rfl
theorem dX7_open_7 : decode cX7_open 7 = .ok (.if_icmp .ge 12, 3) := dw_162 (kcX7_open_0 7 162 rfl) (kcX7_open_0 8 0 rfl) (kcX7_open_0 9 12 rfl) rfl
theorem dX7_open_10 : decode cX7_open 10 = .ok (.aload_n 0, 1) := dw_42 (kcX7_open_0 10 42 rfl)
theorem dX7_open_11 : decode cX7_open 11 = .ok (.getfield 7, 3) := dw_180 (kcX7_open_0 11 180 rfl) (kcX7_open_0 12 0 rfl) (kcX7_open_0 13 7 rfl) rfl
theorem dX7_open_14 : decode cX7_open 14 = .ok (.iload_n 1, 1) := dw_27 (kcX7_open_0 14 27 rfl)
theorem dX7_open_15 : decode cX7_open 15 = .ok (.baload, 1) := dw_51 (kcX7_open_0 15 51 rfl)
theorem dX7_open_16 : decode cX7_open 16 = .ok (.ifCond .eq 9, 3) := dw_153 (kcX7_open_0 16 153 rfl) (kcX7_open_0 17 0 rfl) (kcX7_open_0 18 9 rfl) rfl
theorem dX7_open_25 : decode cX7_open 25 = .ok (.iload_n 2, 1) := dw_28 (kcX7_open_0 25 28 rfl)
theorem dX7_open_26 : decode cX7_open 26 = .ok (.iconst 1, 1) := dw_4 (kcX7_open_0 26 4 rfl)
theorem dX7_open_27 : decode cX7_open 27 = .ok (.if_icmp .lt 20, 3) := dw_161 (kcX7_open_0 27 161 rfl) (kcX7_open_0 28 0 rfl) (kcX7_open_0 29 20 rfl) rfl
theorem dX7_open_47 : decode cX7_open 47 = .ok (.aload_n 0, 1) := dw_42 (kcX7_open_0 47 42 rfl)
theorem dX7_open_48 : decode cX7_open 48 = .ok (.iconst 2, 1) := dw_5 (kcX7_open_0 48 5 rfl)
theorem dX7_open_49 : decode cX7_open 49 = .ok (.invokevirtual 131, 3) := dw_182 (kcX7_open_0 49 182 rfl) (kcX7_open_0 50 0 rfl) (kcX7_open_0 51 131 rfl) rfl
theorem dX7_open_52 : decode cX7_open 52 = .ok (.ireturn, 1) := dw_172 (kcX7_open_0 52 172 rfl)
theorem dX7_open_30 : decode cX7_open 30 = .ok (.iload_n 2, 1) := dw_28 (kcX7_open_0 30 28 rfl)
theorem dX7_open_31 : decode cX7_open 31 = .ok (.bipush 12, 2) := dw_16 (kcX7_open_0 31 16 rfl) (kcX7_open_0 32 12 rfl) rfl
theorem dX7_open_33 : decode cX7_open 33 = .ok (.if_icmp .gt 14, 3) := dw_163 (kcX7_open_0 33 163 rfl) (kcX7_open_0 34 0 rfl) (kcX7_open_0 35 14 rfl) rfl
theorem dX7_open_36 : decode cX7_open 36 = .ok (.iload_n 3, 1) := dw_29 (kcX7_open_0 36 29 rfl)
theorem dX7_open_37 : decode cX7_open 37 = .ok (.iconst 1, 1) := dw_4 (kcX7_open_0 37 4 rfl)
theorem dX7_open_38 : decode cX7_open 38 = .ok (.if_icmp .lt 9, 3) := dw_161 (kcX7_open_0 38 161 rfl) (kcX7_open_0 39 0 rfl) (kcX7_open_0 40 9 rfl) rfl
theorem dX7_open_41 : decode cX7_open 41 = .ok (.iload_n 3, 1) := dw_29 (kcX7_open_0 41 29 rfl)
theorem dX7_open_42 : decode cX7_open 42 = .ok (.bipush 12, 2) := dw_16 (kcX7_open_0 42 16 rfl) (kcX7_open_0 43 12 rfl) rfl
theorem dX7_open_44 : decode cX7_open 44 = .ok (.if_icmp .le 9, 3) := dw_164 (kcX7_open_0 44 164 rfl) (kcX7_open_0 45 0 rfl) (kcX7_open_0 46 9 rfl) rfl
theorem dX7_open_53 : decode cX7_open 53 = .ok (.aload_n 0, 1) := dw_42 (kcX7_open_0 53 42 rfl)
theorem dX7_open_54 : decode cX7_open 54 = .ok (.getfield 7, 3) := dw_180 (kcX7_open_0 54 180 rfl) (kcX7_open_0 55 0 rfl) (kcX7_open_0 56 7 rfl) rfl
theorem dX7_open_57 : decode cX7_open 57 = .ok (.iload_n 1, 1) := dw_27 (kcX7_open_0 57 27 rfl)
theorem dX7_open_58 : decode cX7_open 58 = .ok (.iconst 1, 1) := dw_4 (kcX7_open_0 58 4 rfl)
theorem dX7_open_59 : decode cX7_open 59 = .ok (.bastore, 1) := dw_84 (kcX7_open_0 59 84 rfl)
theorem dX7_open_60 : decode cX7_open 60 = .ok (.aload_n 0, 1) := dw_42 (kcX7_open_0 60 42 rfl)
theorem dX7_open_61 : decode cX7_open 61 = .ok (.getfield 13, 3) := dw_180 (kcX7_open_0 61 180 rfl) (kcX7_open_0 62 0 rfl) (kcX7_open_0 63 13 rfl) rfl
theorem kcX7_open_1 : CHb cX7_open 64 [27, 28, 79, 42, 180, 0, 17, 27, 29, 79, 42, 180, 0, 44, 27, 3, 79, 42, 180, 0, 20, 16, 6, 27, 104, 6, 79, 42, 180, 0, 20, 16, 6, 27, 104, 4, 96, 5, 79, 42, 180, 0, 20, 16, 6, 27, 104, 5, 96, 16, 10, 79, 42, 180, 0, 20, 16, 6, 27, 104, 6, 96, 4, 79] := CHb_of (by decide +kernel)
theorem dX7_open_64 : decode cX7_open 64 = .ok (.iload_n 1, 1) := dw_27 (kcX7_open_1 0 27 rfl)
theorem dX7_open_65 : decode cX7_open 65 = .ok (.iload_n 2, 1) := dw_28 (kcX7_open_1 1 28 rfl)
theorem dX7_open_66 : decode cX7_open 66 = .ok (.iastore, 1) := dw_79 (kcX7_open_1 2 79 rfl)
theorem dX7_open_67 : decode cX7_open 67 = .ok (.aload_n 0, 1) := dw_42 (kcX7_open_1 3 42 rfl)
theorem dX7_open_68 : decode cX7_open 68 = .ok (.getfield 17, 3) := dw_180 (kcX7_open_1 4 180 rfl) (kcX7_open_1 5 0 rfl) (kcX7_open_1 6 17 rfl) rfl
theorem dX7_open_71 : decode cX7_open 71 = .ok (.iload_n 1, 1) := dw_27 (kcX7_open_1 7 27 rfl)
theorem dX7_open_72 : decode cX7_open 72 = .ok (.iload_n 3, 1) := dw_29 (kcX7_open_1 8 29 rfl)
theorem dX7_open_73 : decode cX7_open 73 = .ok (.iastore, 1) := dw_79 (kcX7_open_1 9 79 rfl)
theorem dX7_open_74 : decode cX7_open 74 = .ok (.aload_n 0, 1) := dw_42 (kcX7_open_1 10 42 rfl)
theorem dX7_open_75 : decode cX7_open 75 = .ok (.getfield 44, 3) := dw_180 (kcX7_open_1 11 180 rfl) (kcX7_open_1 12 0 rfl) (kcX7_open_1 13 44 rfl) rfl
theorem dX7_open_78 : decode cX7_open 78 = .ok (.iload_n 1, 1) := dw_27 (kcX7_open_1 14 27 rfl)
theorem dX7_open_79 : decode cX7_open 79 = .ok (.iconst 0, 1) := dw_3 (kcX7_open_1 15 3 rfl)
theorem dX7_open_80 : decode cX7_open 80 = .ok (.iastore, 1) := dw_79 (kcX7_open_1 16 79 rfl)
theorem dX7_open_81 : decode cX7_open 81 = .ok (.aload_n 0, 1) := dw_42 (kcX7_open_1 17 42 rfl)
theorem dX7_open_82 : decode cX7_open 82 = .ok (.getfield 20, 3) := dw_180 (kcX7_open_1 18 180 rfl) (kcX7_open_1 19 0 rfl) (kcX7_open_1 20 20 rfl) rfl
theorem dX7_open_85 : decode cX7_open 85 = .ok (.bipush 6, 2) := dw_16 (kcX7_open_1 21 16 rfl) (kcX7_open_1 22 6 rfl) rfl
theorem dX7_open_87 : decode cX7_open 87 = .ok (.iload_n 1, 1) := dw_27 (kcX7_open_1 23 27 rfl)
theorem dX7_open_88 : decode cX7_open 88 = .ok (.imul, 1) := dw_104 (kcX7_open_1 24 104 rfl)
theorem dX7_open_89 : decode cX7_open 89 = .ok (.iconst 3, 1) := dw_6 (kcX7_open_1 25 6 rfl)
theorem dX7_open_90 : decode cX7_open 90 = .ok (.iastore, 1) := dw_79 (kcX7_open_1 26 79 rfl)
theorem dX7_open_91 : decode cX7_open 91 = .ok (.aload_n 0, 1) := dw_42 (kcX7_open_1 27 42 rfl)
theorem dX7_open_92 : decode cX7_open 92 = .ok (.getfield 20, 3) := dw_180 (kcX7_open_1 28 180 rfl) (kcX7_open_1 29 0 rfl) (kcX7_open_1 30 20 rfl) rfl
theorem dX7_open_95 : decode cX7_open 95 = .ok (.bipush 6, 2) := dw_16 (kcX7_open_1 31 16 rfl) (kcX7_open_1 32 6 rfl) rfl
theorem dX7_open_97 : decode cX7_open 97 = .ok (.iload_n 1, 1) := dw_27 (kcX7_open_1 33 27 rfl)
theorem dX7_open_98 : decode cX7_open 98 = .ok (.imul, 1) := dw_104 (kcX7_open_1 34 104 rfl)
theorem dX7_open_99 : decode cX7_open 99 = .ok (.iconst 1, 1) := dw_4 (kcX7_open_1 35 4 rfl)
theorem dX7_open_100 : decode cX7_open 100 = .ok (.iadd, 1) := dw_96 (kcX7_open_1 36 96 rfl)
theorem dX7_open_101 : decode cX7_open 101 = .ok (.iconst 2, 1) := dw_5 (kcX7_open_1 37 5 rfl)
theorem dX7_open_102 : decode cX7_open 102 = .ok (.iastore, 1) := dw_79 (kcX7_open_1 38 79 rfl)
theorem dX7_open_103 : decode cX7_open 103 = .ok (.aload_n 0, 1) := dw_42 (kcX7_open_1 39 42 rfl)
theorem dX7_open_104 : decode cX7_open 104 = .ok (.getfield 20, 3) := dw_180 (kcX7_open_1 40 180 rfl) (kcX7_open_1 41 0 rfl) (kcX7_open_1 42 20 rfl) rfl
theorem dX7_open_107 : decode cX7_open 107 = .ok (.bipush 6, 2) := dw_16 (kcX7_open_1 43 16 rfl) (kcX7_open_1 44 6 rfl) rfl
theorem dX7_open_109 : decode cX7_open 109 = .ok (.iload_n 1, 1) := dw_27 (kcX7_open_1 45 27 rfl)
theorem dX7_open_110 : decode cX7_open 110 = .ok (.imul, 1) := dw_104 (kcX7_open_1 46 104 rfl)
theorem dX7_open_111 : decode cX7_open 111 = .ok (.iconst 2, 1) := dw_5 (kcX7_open_1 47 5 rfl)
theorem dX7_open_112 : decode cX7_open 112 = .ok (.iadd, 1) := dw_96 (kcX7_open_1 48 96 rfl)
theorem dX7_open_113 : decode cX7_open 113 = .ok (.bipush 10, 2) := dw_16 (kcX7_open_1 49 16 rfl) (kcX7_open_1 50 10 rfl) rfl
theorem dX7_open_115 : decode cX7_open 115 = .ok (.iastore, 1) := dw_79 (kcX7_open_1 51 79 rfl)
theorem dX7_open_116 : decode cX7_open 116 = .ok (.aload_n 0, 1) := dw_42 (kcX7_open_1 52 42 rfl)
theorem dX7_open_117 : decode cX7_open 117 = .ok (.getfield 20, 3) := dw_180 (kcX7_open_1 53 180 rfl) (kcX7_open_1 54 0 rfl) (kcX7_open_1 55 20 rfl) rfl
theorem dX7_open_120 : decode cX7_open 120 = .ok (.bipush 6, 2) := dw_16 (kcX7_open_1 56 16 rfl) (kcX7_open_1 57 6 rfl) rfl
theorem dX7_open_122 : decode cX7_open 122 = .ok (.iload_n 1, 1) := dw_27 (kcX7_open_1 58 27 rfl)
theorem dX7_open_123 : decode cX7_open 123 = .ok (.imul, 1) := dw_104 (kcX7_open_1 59 104 rfl)
theorem dX7_open_124 : decode cX7_open 124 = .ok (.iconst 3, 1) := dw_6 (kcX7_open_1 60 6 rfl)
theorem dX7_open_125 : decode cX7_open 125 = .ok (.iadd, 1) := dw_96 (kcX7_open_1 61 96 rfl)
theorem dX7_open_126 : decode cX7_open 126 = .ok (.iconst 1, 1) := dw_4 (kcX7_open_1 62 4 rfl)
theorem dX7_open_127 : decode cX7_open 127 = .ok (.iastore, 1) := dw_79 (kcX7_open_1 63 79 rfl)
theorem kcX7_open_2 : CHb cX7_open 128 [42, 180, 0, 20, 16, 6, 27, 104, 7, 96, 4, 79, 42, 180, 0, 20, 16, 6, 27, 104, 8, 96, 3, 79, 3, 54, 4, 21, 4, 17, 0, 144, 162, 0, 21, 42, 17, 0, 144, 27, 104, 21, 4, 96, 182, 0, 134, 132, 4, 1, 167, 255, 233, 3, 54, 4, 21, 4, 16, 12, 162, 0, 22, 42] := CHb_of (by decide +kernel)
theorem dX7_open_128 : decode cX7_open 128 = .ok (.aload_n 0, 1) := dw_42 (kcX7_open_2 0 42 rfl)
theorem dX7_open_129 : decode cX7_open 129 = .ok (.getfield 20, 3) := dw_180 (kcX7_open_2 1 180 rfl) (kcX7_open_2 2 0 rfl) (kcX7_open_2 3 20 rfl) rfl
theorem dX7_open_132 : decode cX7_open 132 = .ok (.bipush 6, 2) := dw_16 (kcX7_open_2 4 16 rfl) (kcX7_open_2 5 6 rfl) rfl
theorem dX7_open_134 : decode cX7_open 134 = .ok (.iload_n 1, 1) := dw_27 (kcX7_open_2 6 27 rfl)
theorem dX7_open_135 : decode cX7_open 135 = .ok (.imul, 1) := dw_104 (kcX7_open_2 7 104 rfl)
theorem dX7_open_136 : decode cX7_open 136 = .ok (.iconst 4, 1) := dw_7 (kcX7_open_2 8 7 rfl)
theorem dX7_open_137 : decode cX7_open 137 = .ok (.iadd, 1) := dw_96 (kcX7_open_2 9 96 rfl)
theorem dX7_open_138 : decode cX7_open 138 = .ok (.iconst 1, 1) := dw_4 (kcX7_open_2 10 4 rfl)
theorem dX7_open_139 : decode cX7_open 139 = .ok (.iastore, 1) := dw_79 (kcX7_open_2 11 79 rfl)
theorem dX7_open_140 : decode cX7_open 140 = .ok (.aload_n 0, 1) := dw_42 (kcX7_open_2 12 42 rfl)
theorem dX7_open_141 : decode cX7_open 141 = .ok (.getfield 20, 3) := dw_180 (kcX7_open_2 13 180 rfl) (kcX7_open_2 14 0 rfl) (kcX7_open_2 15 20 rfl) rfl
theorem dX7_open_144 : decode cX7_open 144 = .ok (.bipush 6, 2) := dw_16 (kcX7_open_2 16 16 rfl) (kcX7_open_2 17 6 rfl) rfl
theorem dX7_open_146 : decode cX7_open 146 = .ok (.iload_n 1, 1) := dw_27 (kcX7_open_2 18 27 rfl)
theorem dX7_open_147 : decode cX7_open 147 = .ok (.imul, 1) := dw_104 (kcX7_open_2 19 104 rfl)
theorem dX7_open_148 : decode cX7_open 148 = .ok (.iconst 5, 1) := dw_8 (kcX7_open_2 20 8 rfl)
theorem dX7_open_149 : decode cX7_open 149 = .ok (.iadd, 1) := dw_96 (kcX7_open_2 21 96 rfl)
theorem dX7_open_150 : decode cX7_open 150 = .ok (.iconst 0, 1) := dw_3 (kcX7_open_2 22 3 rfl)
theorem dX7_open_151 : decode cX7_open 151 = .ok (.iastore, 1) := dw_79 (kcX7_open_2 23 79 rfl)
theorem dX7_open_152 : decode cX7_open 152 = .ok (.iconst 0, 1) := dw_3 (kcX7_open_2 24 3 rfl)
theorem dX7_open_153 : decode cX7_open 153 = .ok (.istore 4, 2) := dw_54 (kcX7_open_2 25 54 rfl) (kcX7_open_2 26 4 rfl)
theorem dX7_open_155 : decode cX7_open 155 = .ok (.iload 4, 2) := dw_21 (kcX7_open_2 27 21 rfl) (kcX7_open_2 28 4 rfl)
theorem dX7_open_157 : decode cX7_open 157 = .ok (.sipush 144, 3) := dw_17 (kcX7_open_2 29 17 rfl) (kcX7_open_2 30 0 rfl) (kcX7_open_2 31 144 rfl) rfl
theorem dX7_open_160 : decode cX7_open 160 = .ok (.if_icmp .ge 21, 3) := dw_162 (kcX7_open_2 32 162 rfl) (kcX7_open_2 33 0 rfl) (kcX7_open_2 34 21 rfl) rfl
theorem dX7_open_163 : decode cX7_open 163 = .ok (.aload_n 0, 1) := dw_42 (kcX7_open_2 35 42 rfl)
theorem dX7_open_164 : decode cX7_open 164 = .ok (.sipush 144, 3) := dw_17 (kcX7_open_2 36 17 rfl) (kcX7_open_2 37 0 rfl) (kcX7_open_2 38 144 rfl) rfl
theorem dX7_open_167 : decode cX7_open 167 = .ok (.iload_n 1, 1) := dw_27 (kcX7_open_2 39 27 rfl)
theorem dX7_open_168 : decode cX7_open 168 = .ok (.imul, 1) := dw_104 (kcX7_open_2 40 104 rfl)
theorem dX7_open_169 : decode cX7_open 169 = .ok (.iload 4, 2) := dw_21 (kcX7_open_2 41 21 rfl) (kcX7_open_2 42 4 rfl)
theorem dX7_open_171 : decode cX7_open 171 = .ok (.iadd, 1) := dw_96 (kcX7_open_2 43 96 rfl)
theorem dX7_open_172 : decode cX7_open 172 = .ok (.invokevirtual 134, 3) := dw_182 (kcX7_open_2 44 182 rfl) (kcX7_open_2 45 0 rfl) (kcX7_open_2 46 134 rfl) rfl
theorem dX7_open_175 : decode cX7_open 175 = .ok (.iinc 4 1, 3) := dw_132 (kcX7_open_2 47 132 rfl) (kcX7_open_2 48 4 rfl) (kcX7_open_2 49 1 rfl) rfl
theorem dX7_open_178 : decode cX7_open 178 = .ok (.goto (-23), 3) := dw_167 (kcX7_open_2 50 167 rfl) (kcX7_open_2 51 255 rfl) (kcX7_open_2 52 233 rfl) rfl
theorem dX7_open_181 : decode cX7_open 181 = .ok (.iconst 0, 1) := dw_3 (kcX7_open_2 53 3 rfl)
theorem dX7_open_182 : decode cX7_open 182 = .ok (.istore 4, 2) := dw_54 (kcX7_open_2 54 54 rfl) (kcX7_open_2 55 4 rfl)
theorem dX7_open_184 : decode cX7_open 184 = .ok (.iload 4, 2) := dw_21 (kcX7_open_2 56 21 rfl) (kcX7_open_2 57 4 rfl)
theorem dX7_open_186 : decode cX7_open 186 = .ok (.bipush 12, 2) := dw_16 (kcX7_open_2 58 16 rfl) (kcX7_open_2 59 12 rfl) rfl
theorem dX7_open_188 : decode cX7_open 188 = .ok (.if_icmp .ge 22, 3) := dw_162 (kcX7_open_2 60 162 rfl) (kcX7_open_2 61 0 rfl) (kcX7_open_2 62 22 rfl) rfl
theorem dX7_open_191 : decode cX7_open 191 = .ok (.aload_n 0, 1) := dw_42 (kcX7_open_2 63 42 rfl)
theorem kcX7_open_3 : CHb cX7_open 192 [180, 0, 41, 16, 12, 27, 104, 21, 4, 96, 29, 79, 132, 4, 1, 167, 255, 233, 42, 182, 0, 138, 172] := CHb_of (by decide +kernel)
theorem dX7_open_192 : decode cX7_open 192 = .ok (.getfield 41, 3) := dw_180 (kcX7_open_3 0 180 rfl) (kcX7_open_3 1 0 rfl) (kcX7_open_3 2 41 rfl) rfl
theorem dX7_open_195 : decode cX7_open 195 = .ok (.bipush 12, 2) := dw_16 (kcX7_open_3 3 16 rfl) (kcX7_open_3 4 12 rfl) rfl
theorem dX7_open_197 : decode cX7_open 197 = .ok (.iload_n 1, 1) := dw_27 (kcX7_open_3 5 27 rfl)
theorem dX7_open_198 : decode cX7_open 198 = .ok (.imul, 1) := dw_104 (kcX7_open_3 6 104 rfl)
theorem dX7_open_199 : decode cX7_open 199 = .ok (.iload 4, 2) := dw_21 (kcX7_open_3 7 21 rfl) (kcX7_open_3 8 4 rfl)
theorem dX7_open_201 : decode cX7_open 201 = .ok (.iadd, 1) := dw_96 (kcX7_open_3 9 96 rfl)
theorem dX7_open_202 : decode cX7_open 202 = .ok (.iload_n 3, 1) := dw_29 (kcX7_open_3 10 29 rfl)
theorem dX7_open_203 : decode cX7_open 203 = .ok (.iastore, 1) := dw_79 (kcX7_open_3 11 79 rfl)
theorem dX7_open_204 : decode cX7_open 204 = .ok (.iinc 4 1, 3) := dw_132 (kcX7_open_3 12 132 rfl) (kcX7_open_3 13 4 rfl) (kcX7_open_3 14 1 rfl) rfl
theorem dX7_open_207 : decode cX7_open 207 = .ok (.goto (-23), 3) := dw_167 (kcX7_open_3 15 167 rfl) (kcX7_open_3 16 255 rfl) (kcX7_open_3 17 233 rfl) rfl
theorem dX7_open_210 : decode cX7_open 210 = .ok (.aload_n 0, 1) := dw_42 (kcX7_open_3 18 42 rfl)
theorem dX7_open_211 : decode cX7_open 211 = .ok (.invokevirtual 138, 3) := dw_182 (kcX7_open_3 19 182 rfl) (kcX7_open_3 20 0 rfl) (kcX7_open_3 21 138 rfl) rfl
theorem dX7_open_214 : decode cX7_open 214 = .ok (.ireturn, 1) := dw_172 (kcX7_open_3 22 172 rfl)
theorem kcX7_close_0 : CHb cX7_close 0 [42, 27, 182, 0, 120, 154, 0, 9, 42, 4, 182, 0, 131, 172, 42, 180, 0, 7, 27, 3, 84, 42, 182, 0, 138, 172] := CHb_of (by decide +kernel)
theorem dX7_close_0 : decode cX7_close 0 = .ok (.aload_n 0, 1) := dw_42 (kcX7_close_0 0 42 rfl)
theorem dX7_close_1 : decode cX7_close 1 = .ok (.iload_n 1, 1) := dw_27 (kcX7_close_0 1 27 rfl)
theorem dX7_close_2 : decode cX7_close 2 = .ok (.invokevirtual 120, 3) := dw_182 (kcX7_close_0 2 182 rfl) (kcX7_close_0 3 0 rfl) (kcX7_close_0 4 120 rfl) rfl
theorem dX7_close_5 : decode cX7_close 5 = .ok (.ifCond .ne 9, 3) := dw_154 (kcX7_close_0 5 154 rfl) (kcX7_close_0 6 0 rfl) (kcX7_close_0 7 9 rfl) rfl
theorem dX7_close_14 : decode cX7_close 14 = .ok (.aload_n 0, 1) := dw_42 (kcX7_close_0 14 42 rfl)
theorem dX7_close_15 : decode cX7_close 15 = .ok (.getfield 7, 3) := dw_180 (kcX7_close_0 15 180 rfl) (kcX7_close_0 16 0 rfl) (kcX7_close_0 17 7 rfl) rfl
theorem dX7_close_18 : decode cX7_close 18 = .ok (.iload_n 1, 1) := dw_27 (kcX7_close_0 18 27 rfl)
theorem dX7_close_19 : decode cX7_close 19 = .ok (.iconst 0, 1) := dw_3 (kcX7_close_0 19 3 rfl)
theorem dX7_close_20 : decode cX7_close 20 = .ok (.bastore, 1) := dw_84 (kcX7_close_0 20 84 rfl)
theorem dX7_close_21 : decode cX7_close 21 = .ok (.aload_n 0, 1) := dw_42 (kcX7_close_0 21 42 rfl)
theorem dX7_close_22 : decode cX7_close 22 = .ok (.invokevirtual 138, 3) := dw_182 (kcX7_close_0 22 182 rfl) (kcX7_close_0 23 0 rfl) (kcX7_close_0 24 138 rfl) rfl
theorem dX7_close_25 : decode cX7_close 25 = .ok (.ireturn, 1) := dw_172 (kcX7_close_0 25 172 rfl)
theorem dX7_close_8 : decode cX7_close 8 = .ok (.aload_n 0, 1) := dw_42 (kcX7_close_0 8 42 rfl)
theorem dX7_close_9 : decode cX7_close 9 = .ok (.iconst 1, 1) := dw_4 (kcX7_close_0 9 4 rfl)
theorem dX7_close_10 : decode cX7_close 10 = .ok (.invokevirtual 131, 3) := dw_182 (kcX7_close_0 10 182 rfl) (kcX7_close_0 11 0 rfl) (kcX7_close_0 12 131 rfl) rfl
theorem dX7_close_13 : decode cX7_close 13 = .ok (.ireturn, 1) := dw_172 (kcX7_close_0 13 172 rfl)
theorem kcX7_rule_0 : CHb cX7_rule 0 [42, 27, 182, 0, 120, 154, 0, 9, 42, 4, 182, 0, 131, 172, 28, 153, 0, 8, 28, 5, 160, 0, 8, 16, 100, 167, 0, 24, 28, 4, 160, 0, 8, 16, 6, 167, 0, 14, 28, 8, 160, 0, 7, 4, 167, 0, 5, 18, 142, 54, 4, 28, 155, 0, 18, 28, 8, 163, 0, 13, 29, 155, 0, 9] := CHb_of (by decide +kernel)
theorem dX7_rule_0 : decode cX7_rule 0 = .ok (.aload_n 0, 1) := dw_42 (kcX7_rule_0 0 42 rfl)
theorem dX7_rule_1 : decode cX7_rule 1 = .ok (.iload_n 1, 1) := dw_27 (kcX7_rule_0 1 27 rfl)
theorem dX7_rule_2 : decode cX7_rule 2 = .ok (.invokevirtual 120, 3) := dw_182 (kcX7_rule_0 2 182 rfl) (kcX7_rule_0 3 0 rfl) (kcX7_rule_0 4 120 rfl) rfl
theorem dX7_rule_5 : decode cX7_rule 5 = .ok (.ifCond .ne 9, 3) := dw_154 (kcX7_rule_0 5 154 rfl) (kcX7_rule_0 6 0 rfl) (kcX7_rule_0 7 9 rfl) rfl
theorem dX7_rule_14 : decode cX7_rule 14 = .ok (.iload_n 2, 1) := dw_28 (kcX7_rule_0 14 28 rfl)
theorem dX7_rule_15 : decode cX7_rule 15 = .ok (.ifCond .eq 8, 3) := dw_153 (kcX7_rule_0 15 153 rfl) (kcX7_rule_0 16 0 rfl) (kcX7_rule_0 17 8 rfl) rfl
theorem dX7_rule_23 : decode cX7_rule 23 = .ok (.bipush 100, 2) := dw_16 (kcX7_rule_0 23 16 rfl) (kcX7_rule_0 24 100 rfl) rfl
theorem dX7_rule_25 : decode cX7_rule 25 = .ok (.goto 24, 3) := dw_167 (kcX7_rule_0 25 167 rfl) (kcX7_rule_0 26 0 rfl) (kcX7_rule_0 27 24 rfl) rfl
theorem dX7_rule_49 : decode cX7_rule 49 = .ok (.istore 4, 2) := dw_54 (kcX7_rule_0 49 54 rfl) (kcX7_rule_0 50 4 rfl)
theorem dX7_rule_51 : decode cX7_rule 51 = .ok (.iload_n 2, 1) := dw_28 (kcX7_rule_0 51 28 rfl)
theorem dX7_rule_52 : decode cX7_rule 52 = .ok (.ifCond .lt 18, 3) := dw_155 (kcX7_rule_0 52 155 rfl) (kcX7_rule_0 53 0 rfl) (kcX7_rule_0 54 18 rfl) rfl
theorem kcX7_rule_1 : CHb cX7_rule 64 [29, 21, 4, 164, 0, 10, 42, 16, 7, 182, 0, 131, 172, 42, 180, 0, 20, 16, 6, 27, 104, 28, 96, 29, 79, 42, 182, 0, 138, 172] := CHb_of (by decide +kernel)
theorem dX7_rule_70 : decode cX7_rule 70 = .ok (.aload_n 0, 1) := dw_42 (kcX7_rule_1 6 42 rfl)
theorem dX7_rule_71 : decode cX7_rule 71 = .ok (.bipush 7, 2) := dw_16 (kcX7_rule_1 7 16 rfl) (kcX7_rule_1 8 7 rfl) rfl
theorem dX7_rule_73 : decode cX7_rule 73 = .ok (.invokevirtual 131, 3) := dw_182 (kcX7_rule_1 9 182 rfl) (kcX7_rule_1 10 0 rfl) (kcX7_rule_1 11 131 rfl) rfl
theorem dX7_rule_76 : decode cX7_rule 76 = .ok (.ireturn, 1) := dw_172 (kcX7_rule_1 12 172 rfl)
theorem dX7_rule_55 : decode cX7_rule 55 = .ok (.iload_n 2, 1) := dw_28 (kcX7_rule_0 55 28 rfl)
theorem dX7_rule_56 : decode cX7_rule 56 = .ok (.iconst 5, 1) := dw_8 (kcX7_rule_0 56 8 rfl)
theorem dX7_rule_57 : decode cX7_rule 57 = .ok (.if_icmp .gt 13, 3) := dw_163 (kcX7_rule_0 57 163 rfl) (kcX7_rule_0 58 0 rfl) (kcX7_rule_0 59 13 rfl) rfl
theorem dX7_rule_60 : decode cX7_rule 60 = .ok (.iload_n 3, 1) := dw_29 (kcX7_rule_0 60 29 rfl)
theorem dX7_rule_61 : decode cX7_rule 61 = .ok (.ifCond .lt 9, 3) := dw_155 (kcX7_rule_0 61 155 rfl) (kcX7_rule_0 62 0 rfl) (kcX7_rule_0 63 9 rfl) rfl
theorem dX7_rule_64 : decode cX7_rule 64 = .ok (.iload_n 3, 1) := dw_29 (kcX7_rule_1 0 29 rfl)
theorem dX7_rule_65 : decode cX7_rule 65 = .ok (.iload 4, 2) := dw_21 (kcX7_rule_1 1 21 rfl) (kcX7_rule_1 2 4 rfl)
theorem dX7_rule_67 : decode cX7_rule 67 = .ok (.if_icmp .le 10, 3) := dw_164 (kcX7_rule_1 3 164 rfl) (kcX7_rule_1 4 0 rfl) (kcX7_rule_1 5 10 rfl) rfl
theorem dX7_rule_77 : decode cX7_rule 77 = .ok (.aload_n 0, 1) := dw_42 (kcX7_rule_1 13 42 rfl)
theorem dX7_rule_78 : decode cX7_rule 78 = .ok (.getfield 20, 3) := dw_180 (kcX7_rule_1 14 180 rfl) (kcX7_rule_1 15 0 rfl) (kcX7_rule_1 16 20 rfl) rfl
theorem dX7_rule_81 : decode cX7_rule 81 = .ok (.bipush 6, 2) := dw_16 (kcX7_rule_1 17 16 rfl) (kcX7_rule_1 18 6 rfl) rfl
theorem dX7_rule_83 : decode cX7_rule 83 = .ok (.iload_n 1, 1) := dw_27 (kcX7_rule_1 19 27 rfl)
theorem dX7_rule_84 : decode cX7_rule 84 = .ok (.imul, 1) := dw_104 (kcX7_rule_1 20 104 rfl)
theorem dX7_rule_85 : decode cX7_rule 85 = .ok (.iload_n 2, 1) := dw_28 (kcX7_rule_1 21 28 rfl)
theorem dX7_rule_86 : decode cX7_rule 86 = .ok (.iadd, 1) := dw_96 (kcX7_rule_1 22 96 rfl)
theorem dX7_rule_87 : decode cX7_rule 87 = .ok (.iload_n 3, 1) := dw_29 (kcX7_rule_1 23 29 rfl)
theorem dX7_rule_88 : decode cX7_rule 88 = .ok (.iastore, 1) := dw_79 (kcX7_rule_1 24 79 rfl)
theorem dX7_rule_89 : decode cX7_rule 89 = .ok (.aload_n 0, 1) := dw_42 (kcX7_rule_1 25 42 rfl)
theorem dX7_rule_90 : decode cX7_rule 90 = .ok (.invokevirtual 138, 3) := dw_182 (kcX7_rule_1 26 182 rfl) (kcX7_rule_1 27 0 rfl) (kcX7_rule_1 28 138 rfl) rfl
theorem dX7_rule_93 : decode cX7_rule 93 = .ok (.ireturn, 1) := dw_172 (kcX7_rule_1 29 172 rfl)
theorem dX7_rule_18 : decode cX7_rule 18 = .ok (.iload_n 2, 1) := dw_28 (kcX7_rule_0 18 28 rfl)
theorem dX7_rule_19 : decode cX7_rule 19 = .ok (.iconst 2, 1) := dw_5 (kcX7_rule_0 19 5 rfl)
theorem dX7_rule_20 : decode cX7_rule 20 = .ok (.if_icmp .ne 8, 3) := dw_160 (kcX7_rule_0 20 160 rfl) (kcX7_rule_0 21 0 rfl) (kcX7_rule_0 22 8 rfl) rfl
theorem dX7_rule_28 : decode cX7_rule 28 = .ok (.iload_n 2, 1) := dw_28 (kcX7_rule_0 28 28 rfl)
theorem dX7_rule_29 : decode cX7_rule 29 = .ok (.iconst 1, 1) := dw_4 (kcX7_rule_0 29 4 rfl)
theorem dX7_rule_30 : decode cX7_rule 30 = .ok (.if_icmp .ne 8, 3) := dw_160 (kcX7_rule_0 30 160 rfl) (kcX7_rule_0 31 0 rfl) (kcX7_rule_0 32 8 rfl) rfl
theorem dX7_rule_38 : decode cX7_rule 38 = .ok (.iload_n 2, 1) := dw_28 (kcX7_rule_0 38 28 rfl)
theorem dX7_rule_39 : decode cX7_rule 39 = .ok (.iconst 5, 1) := dw_8 (kcX7_rule_0 39 8 rfl)
theorem dX7_rule_40 : decode cX7_rule 40 = .ok (.if_icmp .ne 7, 3) := dw_160 (kcX7_rule_0 40 160 rfl) (kcX7_rule_0 41 0 rfl) (kcX7_rule_0 42 7 rfl) rfl
theorem dX7_rule_47 : decode cX7_rule 47 = .ok (.ldc 142, 2) := dw_18 (kcX7_rule_0 47 18 rfl) (kcX7_rule_0 48 142 rfl)
theorem dX7_rule_43 : decode cX7_rule 43 = .ok (.iconst 1, 1) := dw_4 (kcX7_rule_0 43 4 rfl)
theorem dX7_rule_44 : decode cX7_rule 44 = .ok (.goto 5, 3) := dw_167 (kcX7_rule_0 44 167 rfl) (kcX7_rule_0 45 0 rfl) (kcX7_rule_0 46 5 rfl) rfl
theorem dX7_rule_33 : decode cX7_rule 33 = .ok (.bipush 6, 2) := dw_16 (kcX7_rule_0 33 16 rfl) (kcX7_rule_0 34 6 rfl) rfl
theorem dX7_rule_35 : decode cX7_rule 35 = .ok (.goto 14, 3) := dw_167 (kcX7_rule_0 35 167 rfl) (kcX7_rule_0 36 0 rfl) (kcX7_rule_0 37 14 rfl) rfl
theorem dX7_rule_8 : decode cX7_rule 8 = .ok (.aload_n 0, 1) := dw_42 (kcX7_rule_0 8 42 rfl)
theorem dX7_rule_9 : decode cX7_rule 9 = .ok (.iconst 1, 1) := dw_4 (kcX7_rule_0 9 4 rfl)
theorem dX7_rule_10 : decode cX7_rule 10 = .ok (.invokevirtual 131, 3) := dw_182 (kcX7_rule_0 10 182 rfl) (kcX7_rule_0 11 0 rfl) (kcX7_rule_0 12 131 rfl) rfl
theorem dX7_rule_13 : decode cX7_rule 13 = .ok (.ireturn, 1) := dw_172 (kcX7_rule_0 13 172 rfl)
theorem kcX7_cell_0 : CHb cX7_cell 0 [42, 27, 28, 29, 182, 0, 143, 54, 6, 21, 6, 158, 0, 10, 42, 21, 6, 182, 0, 131, 172, 21, 4, 155, 0, 9, 21, 4, 7, 164, 0, 10, 42, 16, 7, 182, 0, 131, 172, 21, 4, 154, 0, 7, 4, 167, 0, 4, 3, 54, 7, 21, 4, 154, 0, 8, 16, 99, 167, 0, 21, 21, 4, 4] := CHb_of (by decide +kernel)
theorem dX7_cell_0 : decode cX7_cell 0 = .ok (.aload_n 0, 1) := dw_42 (kcX7_cell_0 0 42 rfl)
theorem dX7_cell_1 : decode cX7_cell 1 = .ok (.iload_n 1, 1) := dw_27 (kcX7_cell_0 1 27 rfl)
theorem dX7_cell_2 : decode cX7_cell 2 = .ok (.iload_n 2, 1) := dw_28 (kcX7_cell_0 2 28 rfl)
theorem dX7_cell_3 : decode cX7_cell 3 = .ok (.iload_n 3, 1) := dw_29 (kcX7_cell_0 3 29 rfl)
theorem dX7_cell_4 : decode cX7_cell 4 = .ok (.invokevirtual 143, 3) := dw_182 (kcX7_cell_0 4 182 rfl) (kcX7_cell_0 5 0 rfl) (kcX7_cell_0 6 143 rfl) rfl
theorem dX7_cell_7 : decode cX7_cell 7 = .ok (.istore 6, 2) := dw_54 (kcX7_cell_0 7 54 rfl) (kcX7_cell_0 8 6 rfl)
theorem dX7_cell_9 : decode cX7_cell 9 = .ok (.iload 6, 2) := dw_21 (kcX7_cell_0 9 21 rfl) (kcX7_cell_0 10 6 rfl)
theorem dX7_cell_11 : decode cX7_cell 11 = .ok (.ifCond .le 10, 3) := dw_158 (kcX7_cell_0 11 158 rfl) (kcX7_cell_0 12 0 rfl) (kcX7_cell_0 13 10 rfl) rfl
theorem dX7_cell_21 : decode cX7_cell 21 = .ok (.iload 4, 2) := dw_21 (kcX7_cell_0 21 21 rfl) (kcX7_cell_0 22 4 rfl)
theorem dX7_cell_23 : decode cX7_cell 23 = .ok (.ifCond .lt 9, 3) := dw_155 (kcX7_cell_0 23 155 rfl) (kcX7_cell_0 24 0 rfl) (kcX7_cell_0 25 9 rfl) rfl
theorem dX7_cell_32 : decode cX7_cell 32 = .ok (.aload_n 0, 1) := dw_42 (kcX7_cell_0 32 42 rfl)
theorem dX7_cell_33 : decode cX7_cell 33 = .ok (.bipush 7, 2) := dw_16 (kcX7_cell_0 33 16 rfl) (kcX7_cell_0 34 7 rfl) rfl
theorem dX7_cell_35 : decode cX7_cell 35 = .ok (.invokevirtual 131, 3) := dw_182 (kcX7_cell_0 35 182 rfl) (kcX7_cell_0 36 0 rfl) (kcX7_cell_0 37 131 rfl) rfl
theorem dX7_cell_38 : decode cX7_cell 38 = .ok (.ireturn, 1) := dw_172 (kcX7_cell_0 38 172 rfl)
theorem dX7_cell_26 : decode cX7_cell 26 = .ok (.iload 4, 2) := dw_21 (kcX7_cell_0 26 21 rfl) (kcX7_cell_0 27 4 rfl)
theorem dX7_cell_28 : decode cX7_cell 28 = .ok (.iconst 4, 1) := dw_7 (kcX7_cell_0 28 7 rfl)
theorem dX7_cell_29 : decode cX7_cell 29 = .ok (.if_icmp .le 10, 3) := dw_164 (kcX7_cell_0 29 164 rfl) (kcX7_cell_0 30 0 rfl) (kcX7_cell_0 31 10 rfl) rfl
theorem dX7_cell_39 : decode cX7_cell 39 = .ok (.iload 4, 2) := dw_21 (kcX7_cell_0 39 21 rfl) (kcX7_cell_0 40 4 rfl)
theorem dX7_cell_41 : decode cX7_cell 41 = .ok (.ifCond .ne 7, 3) := dw_154 (kcX7_cell_0 41 154 rfl) (kcX7_cell_0 42 0 rfl) (kcX7_cell_0 43 7 rfl) rfl
theorem dX7_cell_48 : decode cX7_cell 48 = .ok (.iconst 0, 1) := dw_3 (kcX7_cell_0 48 3 rfl)
theorem dX7_cell_49 : decode cX7_cell 49 = .ok (.istore 7, 2) := dw_54 (kcX7_cell_0 49 54 rfl) (kcX7_cell_0 50 7 rfl)
theorem dX7_cell_51 : decode cX7_cell 51 = .ok (.iload 4, 2) := dw_21 (kcX7_cell_0 51 21 rfl) (kcX7_cell_0 52 4 rfl)
theorem dX7_cell_53 : decode cX7_cell 53 = .ok (.ifCond .ne 8, 3) := dw_154 (kcX7_cell_0 53 154 rfl) (kcX7_cell_0 54 0 rfl) (kcX7_cell_0 55 8 rfl) rfl
theorem dX7_cell_61 : decode cX7_cell 61 = .ok (.iload 4, 2) := dw_21 (kcX7_cell_0 61 21 rfl) (kcX7_cell_0 62 4 rfl)
theorem dX7_cell_63 : decode cX7_cell 63 = .ok (.iconst 1, 1) := dw_4 (kcX7_cell_0 63 4 rfl)
theorem kcX7_cell_1 : CHb cX7_cell 64 [159, 0, 9, 21, 4, 6, 160, 0, 8, 18, 142, 167, 0, 4, 3, 54, 8, 21, 5, 21, 7, 161, 0, 10, 21, 5, 21, 8, 164, 0, 10, 42, 16, 7, 182, 0, 131, 172, 27, 28, 29, 184, 0, 147, 54, 9, 42, 21, 9, 182, 0, 134, 42, 180, 0, 23, 21, 9, 21, 4, 154, 0, 7, 8] := CHb_of (by decide +kernel)
theorem dX7_cell_64 : decode cX7_cell 64 = .ok (.if_icmp .eq 9, 3) := dw_159 (kcX7_cell_1 0 159 rfl) (kcX7_cell_1 1 0 rfl) (kcX7_cell_1 2 9 rfl) rfl
theorem dX7_cell_73 : decode cX7_cell 73 = .ok (.ldc 142, 2) := dw_18 (kcX7_cell_1 9 18 rfl) (kcX7_cell_1 10 142 rfl)
theorem dX7_cell_75 : decode cX7_cell 75 = .ok (.goto 4, 3) := dw_167 (kcX7_cell_1 11 167 rfl) (kcX7_cell_1 12 0 rfl) (kcX7_cell_1 13 4 rfl) rfl
theorem dX7_cell_79 : decode cX7_cell 79 = .ok (.istore 8, 2) := dw_54 (kcX7_cell_1 15 54 rfl) (kcX7_cell_1 16 8 rfl)
theorem dX7_cell_81 : decode cX7_cell 81 = .ok (.iload 5, 2) := dw_21 (kcX7_cell_1 17 21 rfl) (kcX7_cell_1 18 5 rfl)
theorem dX7_cell_83 : decode cX7_cell 83 = .ok (.iload 7, 2) := dw_21 (kcX7_cell_1 19 21 rfl) (kcX7_cell_1 20 7 rfl)
theorem dX7_cell_85 : decode cX7_cell 85 = .ok (.if_icmp .lt 10, 3) := dw_161 (kcX7_cell_1 21 161 rfl) (kcX7_cell_1 22 0 rfl) (kcX7_cell_1 23 10 rfl) rfl
theorem dX7_cell_95 : decode cX7_cell 95 = .ok (.aload_n 0, 1) := dw_42 (kcX7_cell_1 31 42 rfl)
theorem dX7_cell_96 : decode cX7_cell 96 = .ok (.bipush 7, 2) := dw_16 (kcX7_cell_1 32 16 rfl) (kcX7_cell_1 33 7 rfl) rfl
theorem dX7_cell_98 : decode cX7_cell 98 = .ok (.invokevirtual 131, 3) := dw_182 (kcX7_cell_1 34 182 rfl) (kcX7_cell_1 35 0 rfl) (kcX7_cell_1 36 131 rfl) rfl
theorem dX7_cell_101 : decode cX7_cell 101 = .ok (.ireturn, 1) := dw_172 (kcX7_cell_1 37 172 rfl)
theorem dX7_cell_88 : decode cX7_cell 88 = .ok (.iload 5, 2) := dw_21 (kcX7_cell_1 24 21 rfl) (kcX7_cell_1 25 5 rfl)
theorem dX7_cell_90 : decode cX7_cell 90 = .ok (.iload 8, 2) := dw_21 (kcX7_cell_1 26 21 rfl) (kcX7_cell_1 27 8 rfl)
theorem dX7_cell_92 : decode cX7_cell 92 = .ok (.if_icmp .le 10, 3) := dw_164 (kcX7_cell_1 28 164 rfl) (kcX7_cell_1 29 0 rfl) (kcX7_cell_1 30 10 rfl) rfl
theorem dX7_cell_102 : decode cX7_cell 102 = .ok (.iload_n 1, 1) := dw_27 (kcX7_cell_1 38 27 rfl)
theorem dX7_cell_103 : decode cX7_cell 103 = .ok (.iload_n 2, 1) := dw_28 (kcX7_cell_1 39 28 rfl)
theorem dX7_cell_104 : decode cX7_cell 104 = .ok (.iload_n 3, 1) := dw_29 (kcX7_cell_1 40 29 rfl)
theorem dX7_cell_105 : decode cX7_cell 105 = .ok (.invokestatic 147, 3) := dw_184 (kcX7_cell_1 41 184 rfl) (kcX7_cell_1 42 0 rfl) (kcX7_cell_1 43 147 rfl) rfl
theorem dX7_cell_108 : decode cX7_cell 108 = .ok (.istore 9, 2) := dw_54 (kcX7_cell_1 44 54 rfl) (kcX7_cell_1 45 9 rfl)
theorem dX7_cell_110 : decode cX7_cell 110 = .ok (.aload_n 0, 1) := dw_42 (kcX7_cell_1 46 42 rfl)
theorem dX7_cell_111 : decode cX7_cell 111 = .ok (.iload 9, 2) := dw_21 (kcX7_cell_1 47 21 rfl) (kcX7_cell_1 48 9 rfl)
theorem dX7_cell_113 : decode cX7_cell 113 = .ok (.invokevirtual 134, 3) := dw_182 (kcX7_cell_1 49 182 rfl) (kcX7_cell_1 50 0 rfl) (kcX7_cell_1 51 134 rfl) rfl
theorem dX7_cell_116 : decode cX7_cell 116 = .ok (.aload_n 0, 1) := dw_42 (kcX7_cell_1 52 42 rfl)
theorem dX7_cell_117 : decode cX7_cell 117 = .ok (.getfield 23, 3) := dw_180 (kcX7_cell_1 53 180 rfl) (kcX7_cell_1 54 0 rfl) (kcX7_cell_1 55 23 rfl) rfl
theorem dX7_cell_120 : decode cX7_cell 120 = .ok (.iload 9, 2) := dw_21 (kcX7_cell_1 56 21 rfl) (kcX7_cell_1 57 9 rfl)
theorem dX7_cell_122 : decode cX7_cell 122 = .ok (.iload 4, 2) := dw_21 (kcX7_cell_1 58 21 rfl) (kcX7_cell_1 59 4 rfl)
theorem dX7_cell_124 : decode cX7_cell 124 = .ok (.ifCond .ne 7, 3) := dw_154 (kcX7_cell_1 60 154 rfl) (kcX7_cell_1 61 0 rfl) (kcX7_cell_1 62 7 rfl) rfl
theorem kcX7_cell_2 : CHb cX7_cell 128 [167, 0, 5, 21, 4, 79, 42, 180, 0, 26, 21, 9, 21, 5, 79, 42, 182, 0, 138, 172] := CHb_of (by decide +kernel)
theorem dX7_cell_131 : decode cX7_cell 131 = .ok (.iload 4, 2) := dw_21 (kcX7_cell_2 3 21 rfl) (kcX7_cell_2 4 4 rfl)
theorem dX7_cell_133 : decode cX7_cell 133 = .ok (.iastore, 1) := dw_79 (kcX7_cell_2 5 79 rfl)
theorem dX7_cell_134 : decode cX7_cell 134 = .ok (.aload_n 0, 1) := dw_42 (kcX7_cell_2 6 42 rfl)
theorem dX7_cell_135 : decode cX7_cell 135 = .ok (.getfield 26, 3) := dw_180 (kcX7_cell_2 7 180 rfl) (kcX7_cell_2 8 0 rfl) (kcX7_cell_2 9 26 rfl) rfl
theorem dX7_cell_138 : decode cX7_cell 138 = .ok (.iload 9, 2) := dw_21 (kcX7_cell_2 10 21 rfl) (kcX7_cell_2 11 9 rfl)
theorem dX7_cell_140 : decode cX7_cell 140 = .ok (.iload 5, 2) := dw_21 (kcX7_cell_2 12 21 rfl) (kcX7_cell_2 13 5 rfl)
theorem dX7_cell_142 : decode cX7_cell 142 = .ok (.iastore, 1) := dw_79 (kcX7_cell_2 14 79 rfl)
theorem dX7_cell_143 : decode cX7_cell 143 = .ok (.aload_n 0, 1) := dw_42 (kcX7_cell_2 15 42 rfl)
theorem dX7_cell_144 : decode cX7_cell 144 = .ok (.invokevirtual 138, 3) := dw_182 (kcX7_cell_2 16 182 rfl) (kcX7_cell_2 17 0 rfl) (kcX7_cell_2 18 138 rfl) rfl
theorem dX7_cell_147 : decode cX7_cell 147 = .ok (.ireturn, 1) := dw_172 (kcX7_cell_2 19 172 rfl)
theorem dX7_cell_67 : decode cX7_cell 67 = .ok (.iload 4, 2) := dw_21 (kcX7_cell_1 3 21 rfl) (kcX7_cell_1 4 4 rfl)
theorem dX7_cell_69 : decode cX7_cell 69 = .ok (.iconst 3, 1) := dw_6 (kcX7_cell_1 5 6 rfl)
theorem dX7_cell_70 : decode cX7_cell 70 = .ok (.if_icmp .ne 8, 3) := dw_160 (kcX7_cell_1 6 160 rfl) (kcX7_cell_1 7 0 rfl) (kcX7_cell_1 8 8 rfl) rfl
theorem dX7_cell_78 : decode cX7_cell 78 = .ok (.iconst 0, 1) := dw_3 (kcX7_cell_1 14 3 rfl)
theorem dX7_cell_44 : decode cX7_cell 44 = .ok (.iconst 1, 1) := dw_4 (kcX7_cell_0 44 4 rfl)
theorem dX7_cell_45 : decode cX7_cell 45 = .ok (.goto 4, 3) := dw_167 (kcX7_cell_0 45 167 rfl) (kcX7_cell_0 46 0 rfl) (kcX7_cell_0 47 4 rfl) rfl
theorem dX7_cell_56 : decode cX7_cell 56 = .ok (.bipush 99, 2) := dw_16 (kcX7_cell_0 56 16 rfl) (kcX7_cell_0 57 99 rfl) rfl
theorem dX7_cell_58 : decode cX7_cell 58 = .ok (.goto 21, 3) := dw_167 (kcX7_cell_0 58 167 rfl) (kcX7_cell_0 59 0 rfl) (kcX7_cell_0 60 21 rfl) rfl
theorem dX7_cell_127 : decode cX7_cell 127 = .ok (.iconst 5, 1) := dw_8 (kcX7_cell_1 63 8 rfl)
theorem dX7_cell_128 : decode cX7_cell 128 = .ok (.goto 5, 3) := dw_167 (kcX7_cell_2 0 167 rfl) (kcX7_cell_2 1 0 rfl) (kcX7_cell_2 2 5 rfl) rfl
theorem dX7_cell_14 : decode cX7_cell 14 = .ok (.aload_n 0, 1) := dw_42 (kcX7_cell_0 14 42 rfl)
theorem dX7_cell_15 : decode cX7_cell 15 = .ok (.iload 6, 2) := dw_21 (kcX7_cell_0 15 21 rfl) (kcX7_cell_0 16 6 rfl)
theorem dX7_cell_17 : decode cX7_cell 17 = .ok (.invokevirtual 131, 3) := dw_182 (kcX7_cell_0 17 182 rfl) (kcX7_cell_0 18 0 rfl) (kcX7_cell_0 19 131 rfl) rfl
theorem dX7_cell_20 : decode cX7_cell 20 = .ok (.ireturn, 1) := dw_172 (kcX7_cell_0 20 172 rfl)
theorem kcX7_giver_0 : CHb cX7_giver 0 [42, 27, 28, 29, 182, 0, 143, 54, 5, 21, 5, 158, 0, 10, 42, 21, 5, 182, 0, 131, 172, 27, 28, 29, 184, 0, 147, 54, 6, 42, 180, 0, 23, 21, 6, 46, 154, 0, 9, 42, 8, 182, 0, 131, 172, 42, 180, 0, 23, 21, 6, 46, 5, 159, 0, 10, 42, 16, 6, 182, 0, 131, 172, 21] := CHb_of (by decide +kernel)
theorem dX7_giver_0 : decode cX7_giver 0 = .ok (.aload_n 0, 1) := dw_42 (kcX7_giver_0 0 42 rfl)
theorem dX7_giver_1 : decode cX7_giver 1 = .ok (.iload_n 1, 1) := dw_27 (kcX7_giver_0 1 27 rfl)
theorem dX7_giver_2 : decode cX7_giver 2 = .ok (.iload_n 2, 1) := dw_28 (kcX7_giver_0 2 28 rfl)
theorem dX7_giver_3 : decode cX7_giver 3 = .ok (.iload_n 3, 1) := dw_29 (kcX7_giver_0 3 29 rfl)
theorem dX7_giver_4 : decode cX7_giver 4 = .ok (.invokevirtual 143, 3) := dw_182 (kcX7_giver_0 4 182 rfl) (kcX7_giver_0 5 0 rfl) (kcX7_giver_0 6 143 rfl) rfl
theorem dX7_giver_7 : decode cX7_giver 7 = .ok (.istore 5, 2) := dw_54 (kcX7_giver_0 7 54 rfl) (kcX7_giver_0 8 5 rfl)
theorem dX7_giver_9 : decode cX7_giver 9 = .ok (.iload 5, 2) := dw_21 (kcX7_giver_0 9 21 rfl) (kcX7_giver_0 10 5 rfl)
theorem dX7_giver_11 : decode cX7_giver 11 = .ok (.ifCond .le 10, 3) := dw_158 (kcX7_giver_0 11 158 rfl) (kcX7_giver_0 12 0 rfl) (kcX7_giver_0 13 10 rfl) rfl
theorem dX7_giver_21 : decode cX7_giver 21 = .ok (.iload_n 1, 1) := dw_27 (kcX7_giver_0 21 27 rfl)
theorem dX7_giver_22 : decode cX7_giver 22 = .ok (.iload_n 2, 1) := dw_28 (kcX7_giver_0 22 28 rfl)
theorem dX7_giver_23 : decode cX7_giver 23 = .ok (.iload_n 3, 1) := dw_29 (kcX7_giver_0 23 29 rfl)
theorem dX7_giver_24 : decode cX7_giver 24 = .ok (.invokestatic 147, 3) := dw_184 (kcX7_giver_0 24 184 rfl) (kcX7_giver_0 25 0 rfl) (kcX7_giver_0 26 147 rfl) rfl
theorem dX7_giver_27 : decode cX7_giver 27 = .ok (.istore 6, 2) := dw_54 (kcX7_giver_0 27 54 rfl) (kcX7_giver_0 28 6 rfl)
theorem dX7_giver_29 : decode cX7_giver 29 = .ok (.aload_n 0, 1) := dw_42 (kcX7_giver_0 29 42 rfl)
theorem dX7_giver_30 : decode cX7_giver 30 = .ok (.getfield 23, 3) := dw_180 (kcX7_giver_0 30 180 rfl) (kcX7_giver_0 31 0 rfl) (kcX7_giver_0 32 23 rfl) rfl
theorem dX7_giver_33 : decode cX7_giver 33 = .ok (.iload 6, 2) := dw_21 (kcX7_giver_0 33 21 rfl) (kcX7_giver_0 34 6 rfl)
theorem dX7_giver_35 : decode cX7_giver 35 = .ok (.iaload, 1) := dw_46 (kcX7_giver_0 35 46 rfl)
theorem dX7_giver_36 : decode cX7_giver 36 = .ok (.ifCond .ne 9, 3) := dw_154 (kcX7_giver_0 36 154 rfl) (kcX7_giver_0 37 0 rfl) (kcX7_giver_0 38 9 rfl) rfl
theorem dX7_giver_45 : decode cX7_giver 45 = .ok (.aload_n 0, 1) := dw_42 (kcX7_giver_0 45 42 rfl)
theorem dX7_giver_46 : decode cX7_giver 46 = .ok (.getfield 23, 3) := dw_180 (kcX7_giver_0 46 180 rfl) (kcX7_giver_0 47 0 rfl) (kcX7_giver_0 48 23 rfl) rfl
theorem dX7_giver_49 : decode cX7_giver 49 = .ok (.iload 6, 2) := dw_21 (kcX7_giver_0 49 21 rfl) (kcX7_giver_0 50 6 rfl)
theorem dX7_giver_51 : decode cX7_giver 51 = .ok (.iaload, 1) := dw_46 (kcX7_giver_0 51 46 rfl)
theorem dX7_giver_52 : decode cX7_giver 52 = .ok (.iconst 2, 1) := dw_5 (kcX7_giver_0 52 5 rfl)
theorem dX7_giver_53 : decode cX7_giver 53 = .ok (.if_icmp .eq 10, 3) := dw_159 (kcX7_giver_0 53 159 rfl) (kcX7_giver_0 54 0 rfl) (kcX7_giver_0 55 10 rfl) rfl
theorem kcX7_giver_1 : CHb cX7_giver 64 [4, 4, 161, 0, 10, 21, 4, 18, 150, 164, 0, 10, 42, 16, 7, 182, 0, 131, 172, 42, 180, 0, 29, 21, 6, 46, 16, 6, 160, 0, 10, 42, 16, 8, 182, 0, 131, 172, 42, 180, 0, 32, 16, 6, 21, 6, 104, 42, 180, 0, 29, 21, 6, 46, 96, 21, 4, 79, 42, 180, 0, 29, 21, 6] := CHb_of (by decide +kernel)
theorem dX7_giver_63 : decode cX7_giver 63 = .ok (.iload 4, 2) := dw_21 (kcX7_giver_0 63 21 rfl) (kcX7_giver_1 0 4 rfl)
theorem dX7_giver_65 : decode cX7_giver 65 = .ok (.iconst 1, 1) := dw_4 (kcX7_giver_1 1 4 rfl)
theorem dX7_giver_66 : decode cX7_giver 66 = .ok (.if_icmp .lt 10, 3) := dw_161 (kcX7_giver_1 2 161 rfl) (kcX7_giver_1 3 0 rfl) (kcX7_giver_1 4 10 rfl) rfl
theorem dX7_giver_76 : decode cX7_giver 76 = .ok (.aload_n 0, 1) := dw_42 (kcX7_giver_1 12 42 rfl)
theorem dX7_giver_77 : decode cX7_giver 77 = .ok (.bipush 7, 2) := dw_16 (kcX7_giver_1 13 16 rfl) (kcX7_giver_1 14 7 rfl) rfl
theorem dX7_giver_79 : decode cX7_giver 79 = .ok (.invokevirtual 131, 3) := dw_182 (kcX7_giver_1 15 182 rfl) (kcX7_giver_1 16 0 rfl) (kcX7_giver_1 17 131 rfl) rfl
theorem dX7_giver_82 : decode cX7_giver 82 = .ok (.ireturn, 1) := dw_172 (kcX7_giver_1 18 172 rfl)
theorem dX7_giver_69 : decode cX7_giver 69 = .ok (.iload 4, 2) := dw_21 (kcX7_giver_1 5 21 rfl) (kcX7_giver_1 6 4 rfl)
theorem dX7_giver_71 : decode cX7_giver 71 = .ok (.ldc 150, 2) := dw_18 (kcX7_giver_1 7 18 rfl) (kcX7_giver_1 8 150 rfl)
theorem dX7_giver_73 : decode cX7_giver 73 = .ok (.if_icmp .le 10, 3) := dw_164 (kcX7_giver_1 9 164 rfl) (kcX7_giver_1 10 0 rfl) (kcX7_giver_1 11 10 rfl) rfl
theorem dX7_giver_83 : decode cX7_giver 83 = .ok (.aload_n 0, 1) := dw_42 (kcX7_giver_1 19 42 rfl)
theorem dX7_giver_84 : decode cX7_giver 84 = .ok (.getfield 29, 3) := dw_180 (kcX7_giver_1 20 180 rfl) (kcX7_giver_1 21 0 rfl) (kcX7_giver_1 22 29 rfl) rfl
theorem dX7_giver_87 : decode cX7_giver 87 = .ok (.iload 6, 2) := dw_21 (kcX7_giver_1 23 21 rfl) (kcX7_giver_1 24 6 rfl)
theorem dX7_giver_89 : decode cX7_giver 89 = .ok (.iaload, 1) := dw_46 (kcX7_giver_1 25 46 rfl)
theorem dX7_giver_90 : decode cX7_giver 90 = .ok (.bipush 6, 2) := dw_16 (kcX7_giver_1 26 16 rfl) (kcX7_giver_1 27 6 rfl) rfl
theorem dX7_giver_92 : decode cX7_giver 92 = .ok (.if_icmp .ne 10, 3) := dw_160 (kcX7_giver_1 28 160 rfl) (kcX7_giver_1 29 0 rfl) (kcX7_giver_1 30 10 rfl) rfl
theorem dX7_giver_102 : decode cX7_giver 102 = .ok (.aload_n 0, 1) := dw_42 (kcX7_giver_1 38 42 rfl)
theorem dX7_giver_103 : decode cX7_giver 103 = .ok (.getfield 32, 3) := dw_180 (kcX7_giver_1 39 180 rfl) (kcX7_giver_1 40 0 rfl) (kcX7_giver_1 41 32 rfl) rfl
theorem dX7_giver_106 : decode cX7_giver 106 = .ok (.bipush 6, 2) := dw_16 (kcX7_giver_1 42 16 rfl) (kcX7_giver_1 43 6 rfl) rfl
theorem dX7_giver_108 : decode cX7_giver 108 = .ok (.iload 6, 2) := dw_21 (kcX7_giver_1 44 21 rfl) (kcX7_giver_1 45 6 rfl)
theorem dX7_giver_110 : decode cX7_giver 110 = .ok (.imul, 1) := dw_104 (kcX7_giver_1 46 104 rfl)
theorem dX7_giver_111 : decode cX7_giver 111 = .ok (.aload_n 0, 1) := dw_42 (kcX7_giver_1 47 42 rfl)
theorem dX7_giver_112 : decode cX7_giver 112 = .ok (.getfield 29, 3) := dw_180 (kcX7_giver_1 48 180 rfl) (kcX7_giver_1 49 0 rfl) (kcX7_giver_1 50 29 rfl) rfl
theorem dX7_giver_115 : decode cX7_giver 115 = .ok (.iload 6, 2) := dw_21 (kcX7_giver_1 51 21 rfl) (kcX7_giver_1 52 6 rfl)
theorem dX7_giver_117 : decode cX7_giver 117 = .ok (.iaload, 1) := dw_46 (kcX7_giver_1 53 46 rfl)
theorem dX7_giver_118 : decode cX7_giver 118 = .ok (.iadd, 1) := dw_96 (kcX7_giver_1 54 96 rfl)
theorem dX7_giver_119 : decode cX7_giver 119 = .ok (.iload 4, 2) := dw_21 (kcX7_giver_1 55 21 rfl) (kcX7_giver_1 56 4 rfl)
theorem dX7_giver_121 : decode cX7_giver 121 = .ok (.iastore, 1) := dw_79 (kcX7_giver_1 57 79 rfl)
theorem dX7_giver_122 : decode cX7_giver 122 = .ok (.aload_n 0, 1) := dw_42 (kcX7_giver_1 58 42 rfl)
theorem dX7_giver_123 : decode cX7_giver 123 = .ok (.getfield 29, 3) := dw_180 (kcX7_giver_1 59 180 rfl) (kcX7_giver_1 60 0 rfl) (kcX7_giver_1 61 29 rfl) rfl
theorem dX7_giver_126 : decode cX7_giver 126 = .ok (.iload 6, 2) := dw_21 (kcX7_giver_1 62 21 rfl) (kcX7_giver_1 63 6 rfl)
theorem kcX7_giver_2 : CHb cX7_giver 128 [92, 46, 4, 96, 79, 42, 180, 0, 26, 21, 6, 92, 46, 21, 4, 96, 79, 42, 182, 0, 138, 172] := CHb_of (by decide +kernel)
theorem dX7_giver_128 : decode cX7_giver 128 = .ok (.dup2, 1) := dw_92 (kcX7_giver_2 0 92 rfl)
theorem dX7_giver_129 : decode cX7_giver 129 = .ok (.iaload, 1) := dw_46 (kcX7_giver_2 1 46 rfl)
theorem dX7_giver_130 : decode cX7_giver 130 = .ok (.iconst 1, 1) := dw_4 (kcX7_giver_2 2 4 rfl)
theorem dX7_giver_131 : decode cX7_giver 131 = .ok (.iadd, 1) := dw_96 (kcX7_giver_2 3 96 rfl)
theorem dX7_giver_132 : decode cX7_giver 132 = .ok (.iastore, 1) := dw_79 (kcX7_giver_2 4 79 rfl)
theorem dX7_giver_133 : decode cX7_giver 133 = .ok (.aload_n 0, 1) := dw_42 (kcX7_giver_2 5 42 rfl)
theorem dX7_giver_134 : decode cX7_giver 134 = .ok (.getfield 26, 3) := dw_180 (kcX7_giver_2 6 180 rfl) (kcX7_giver_2 7 0 rfl) (kcX7_giver_2 8 26 rfl) rfl
theorem dX7_giver_137 : decode cX7_giver 137 = .ok (.iload 6, 2) := dw_21 (kcX7_giver_2 9 21 rfl) (kcX7_giver_2 10 6 rfl)
theorem dX7_giver_139 : decode cX7_giver 139 = .ok (.dup2, 1) := dw_92 (kcX7_giver_2 11 92 rfl)
theorem dX7_giver_140 : decode cX7_giver 140 = .ok (.iaload, 1) := dw_46 (kcX7_giver_2 12 46 rfl)
theorem dX7_giver_141 : decode cX7_giver 141 = .ok (.iload 4, 2) := dw_21 (kcX7_giver_2 13 21 rfl) (kcX7_giver_2 14 4 rfl)
theorem dX7_giver_143 : decode cX7_giver 143 = .ok (.iadd, 1) := dw_96 (kcX7_giver_2 15 96 rfl)
theorem dX7_giver_144 : decode cX7_giver 144 = .ok (.iastore, 1) := dw_79 (kcX7_giver_2 16 79 rfl)
theorem dX7_giver_145 : decode cX7_giver 145 = .ok (.aload_n 0, 1) := dw_42 (kcX7_giver_2 17 42 rfl)
theorem dX7_giver_146 : decode cX7_giver 146 = .ok (.invokevirtual 138, 3) := dw_182 (kcX7_giver_2 18 182 rfl) (kcX7_giver_2 19 0 rfl) (kcX7_giver_2 20 138 rfl) rfl
theorem dX7_giver_149 : decode cX7_giver 149 = .ok (.ireturn, 1) := dw_172 (kcX7_giver_2 21 172 rfl)
theorem dX7_giver_95 : decode cX7_giver 95 = .ok (.aload_n 0, 1) := dw_42 (kcX7_giver_1 31 42 rfl)
theorem dX7_giver_96 : decode cX7_giver 96 = .ok (.bipush 8, 2) := dw_16 (kcX7_giver_1 32 16 rfl) (kcX7_giver_1 33 8 rfl) rfl
theorem dX7_giver_98 : decode cX7_giver 98 = .ok (.invokevirtual 131, 3) := dw_182 (kcX7_giver_1 34 182 rfl) (kcX7_giver_1 35 0 rfl) (kcX7_giver_1 36 131 rfl) rfl
theorem dX7_giver_101 : decode cX7_giver 101 = .ok (.ireturn, 1) := dw_172 (kcX7_giver_1 37 172 rfl)
theorem dX7_giver_56 : decode cX7_giver 56 = .ok (.aload_n 0, 1) := dw_42 (kcX7_giver_0 56 42 rfl)
theorem dX7_giver_57 : decode cX7_giver 57 = .ok (.bipush 6, 2) := dw_16 (kcX7_giver_0 57 16 rfl) (kcX7_giver_0 58 6 rfl) rfl
theorem dX7_giver_59 : decode cX7_giver 59 = .ok (.invokevirtual 131, 3) := dw_182 (kcX7_giver_0 59 182 rfl) (kcX7_giver_0 60 0 rfl) (kcX7_giver_0 61 131 rfl) rfl
theorem dX7_giver_62 : decode cX7_giver 62 = .ok (.ireturn, 1) := dw_172 (kcX7_giver_0 62 172 rfl)
theorem dX7_giver_39 : decode cX7_giver 39 = .ok (.aload_n 0, 1) := dw_42 (kcX7_giver_0 39 42 rfl)
theorem dX7_giver_40 : decode cX7_giver 40 = .ok (.iconst 5, 1) := dw_8 (kcX7_giver_0 40 8 rfl)
theorem dX7_giver_41 : decode cX7_giver 41 = .ok (.invokevirtual 131, 3) := dw_182 (kcX7_giver_0 41 182 rfl) (kcX7_giver_0 42 0 rfl) (kcX7_giver_0 43 131 rfl) rfl
theorem dX7_giver_44 : decode cX7_giver 44 = .ok (.ireturn, 1) := dw_172 (kcX7_giver_0 44 172 rfl)
theorem dX7_giver_14 : decode cX7_giver 14 = .ok (.aload_n 0, 1) := dw_42 (kcX7_giver_0 14 42 rfl)
theorem dX7_giver_15 : decode cX7_giver 15 = .ok (.iload 5, 2) := dw_21 (kcX7_giver_0 15 21 rfl) (kcX7_giver_0 16 5 rfl)
theorem dX7_giver_17 : decode cX7_giver 17 = .ok (.invokevirtual 131, 3) := dw_182 (kcX7_giver_0 17 182 rfl) (kcX7_giver_0 18 0 rfl) (kcX7_giver_0 19 131 rfl) rfl
theorem dX7_giver_20 : decode cX7_giver 20 = .ok (.ireturn, 1) := dw_172 (kcX7_giver_0 20 172 rfl)
theorem kcX7_clear_0 : CHb cX7_clear 0 [42, 27, 28, 29, 182, 0, 143, 54, 4, 21, 4, 158, 0, 10, 42, 21, 4, 182, 0, 131, 172, 27, 28, 29, 184, 0, 147, 54, 5, 42, 180, 0, 23, 21, 5, 46, 154, 0, 9, 42, 8, 182, 0, 131, 172, 42, 21, 5, 182, 0, 134, 42, 182, 0, 138, 172] := CHb_of (by decide +kernel)
theorem dX7_clear_0 : decode cX7_clear 0 = .ok (.aload_n 0, 1) := dw_42 (kcX7_clear_0 0 42 rfl)
theorem dX7_clear_1 : decode cX7_clear 1 = .ok (.iload_n 1, 1) := dw_27 (kcX7_clear_0 1 27 rfl)
theorem dX7_clear_2 : decode cX7_clear 2 = .ok (.iload_n 2, 1) := dw_28 (kcX7_clear_0 2 28 rfl)
theorem dX7_clear_3 : decode cX7_clear 3 = .ok (.iload_n 3, 1) := dw_29 (kcX7_clear_0 3 29 rfl)
theorem dX7_clear_4 : decode cX7_clear 4 = .ok (.invokevirtual 143, 3) := dw_182 (kcX7_clear_0 4 182 rfl) (kcX7_clear_0 5 0 rfl) (kcX7_clear_0 6 143 rfl) rfl
theorem dX7_clear_7 : decode cX7_clear 7 = .ok (.istore 4, 2) := dw_54 (kcX7_clear_0 7 54 rfl) (kcX7_clear_0 8 4 rfl)
theorem dX7_clear_9 : decode cX7_clear 9 = .ok (.iload 4, 2) := dw_21 (kcX7_clear_0 9 21 rfl) (kcX7_clear_0 10 4 rfl)
theorem dX7_clear_11 : decode cX7_clear 11 = .ok (.ifCond .le 10, 3) := dw_158 (kcX7_clear_0 11 158 rfl) (kcX7_clear_0 12 0 rfl) (kcX7_clear_0 13 10 rfl) rfl
theorem dX7_clear_21 : decode cX7_clear 21 = .ok (.iload_n 1, 1) := dw_27 (kcX7_clear_0 21 27 rfl)
theorem dX7_clear_22 : decode cX7_clear 22 = .ok (.iload_n 2, 1) := dw_28 (kcX7_clear_0 22 28 rfl)
theorem dX7_clear_23 : decode cX7_clear 23 = .ok (.iload_n 3, 1) := dw_29 (kcX7_clear_0 23 29 rfl)
theorem dX7_clear_24 : decode cX7_clear 24 = .ok (.invokestatic 147, 3) := dw_184 (kcX7_clear_0 24 184 rfl) (kcX7_clear_0 25 0 rfl) (kcX7_clear_0 26 147 rfl) rfl
theorem dX7_clear_27 : decode cX7_clear 27 = .ok (.istore 5, 2) := dw_54 (kcX7_clear_0 27 54 rfl) (kcX7_clear_0 28 5 rfl)
theorem dX7_clear_29 : decode cX7_clear 29 = .ok (.aload_n 0, 1) := dw_42 (kcX7_clear_0 29 42 rfl)
theorem dX7_clear_30 : decode cX7_clear 30 = .ok (.getfield 23, 3) := dw_180 (kcX7_clear_0 30 180 rfl) (kcX7_clear_0 31 0 rfl) (kcX7_clear_0 32 23 rfl) rfl
theorem dX7_clear_33 : decode cX7_clear 33 = .ok (.iload 5, 2) := dw_21 (kcX7_clear_0 33 21 rfl) (kcX7_clear_0 34 5 rfl)
theorem dX7_clear_35 : decode cX7_clear 35 = .ok (.iaload, 1) := dw_46 (kcX7_clear_0 35 46 rfl)
theorem dX7_clear_36 : decode cX7_clear 36 = .ok (.ifCond .ne 9, 3) := dw_154 (kcX7_clear_0 36 154 rfl) (kcX7_clear_0 37 0 rfl) (kcX7_clear_0 38 9 rfl) rfl
theorem dX7_clear_45 : decode cX7_clear 45 = .ok (.aload_n 0, 1) := dw_42 (kcX7_clear_0 45 42 rfl)
theorem dX7_clear_46 : decode cX7_clear 46 = .ok (.iload 5, 2) := dw_21 (kcX7_clear_0 46 21 rfl) (kcX7_clear_0 47 5 rfl)
theorem dX7_clear_48 : decode cX7_clear 48 = .ok (.invokevirtual 134, 3) := dw_182 (kcX7_clear_0 48 182 rfl) (kcX7_clear_0 49 0 rfl) (kcX7_clear_0 50 134 rfl) rfl
theorem dX7_clear_51 : decode cX7_clear 51 = .ok (.aload_n 0, 1) := dw_42 (kcX7_clear_0 51 42 rfl)
theorem dX7_clear_52 : decode cX7_clear 52 = .ok (.invokevirtual 138, 3) := dw_182 (kcX7_clear_0 52 182 rfl) (kcX7_clear_0 53 0 rfl) (kcX7_clear_0 54 138 rfl) rfl
theorem dX7_clear_55 : decode cX7_clear 55 = .ok (.ireturn, 1) := dw_172 (kcX7_clear_0 55 172 rfl)
theorem dX7_clear_39 : decode cX7_clear 39 = .ok (.aload_n 0, 1) := dw_42 (kcX7_clear_0 39 42 rfl)
theorem dX7_clear_40 : decode cX7_clear 40 = .ok (.iconst 5, 1) := dw_8 (kcX7_clear_0 40 8 rfl)
theorem dX7_clear_41 : decode cX7_clear 41 = .ok (.invokevirtual 131, 3) := dw_182 (kcX7_clear_0 41 182 rfl) (kcX7_clear_0 42 0 rfl) (kcX7_clear_0 43 131 rfl) rfl
theorem dX7_clear_44 : decode cX7_clear 44 = .ok (.ireturn, 1) := dw_172 (kcX7_clear_0 44 172 rfl)
theorem dX7_clear_14 : decode cX7_clear 14 = .ok (.aload_n 0, 1) := dw_42 (kcX7_clear_0 14 42 rfl)
theorem dX7_clear_15 : decode cX7_clear 15 = .ok (.iload 4, 2) := dw_21 (kcX7_clear_0 15 21 rfl) (kcX7_clear_0 16 4 rfl)
theorem dX7_clear_17 : decode cX7_clear 17 = .ok (.invokevirtual 131, 3) := dw_182 (kcX7_clear_0 17 182 rfl) (kcX7_clear_0 18 0 rfl) (kcX7_clear_0 19 131 rfl) rfl
theorem dX7_clear_20 : decode cX7_clear 20 = .ok (.ireturn, 1) := dw_172 (kcX7_clear_0 20 172 rfl)
theorem kcX7_tear_0 : CHb cX7_tear 0 [42, 27, 182, 0, 120, 154, 0, 9, 42, 4, 182, 0, 131, 172, 42, 27, 28, 182, 0, 124, 154, 0, 9, 42, 5, 182, 0, 131, 172, 42, 180, 0, 41, 16, 12, 27, 104, 28, 96, 46, 54, 4, 21, 4, 154, 0, 9, 42, 6, 182, 0, 131, 172, 29, 21, 4, 164, 0, 9, 42, 7, 182, 0, 131] := CHb_of (by decide +kernel)
theorem dX7_tear_0 : decode cX7_tear 0 = .ok (.aload_n 0, 1) := dw_42 (kcX7_tear_0 0 42 rfl)
theorem dX7_tear_1 : decode cX7_tear 1 = .ok (.iload_n 1, 1) := dw_27 (kcX7_tear_0 1 27 rfl)
theorem dX7_tear_2 : decode cX7_tear 2 = .ok (.invokevirtual 120, 3) := dw_182 (kcX7_tear_0 2 182 rfl) (kcX7_tear_0 3 0 rfl) (kcX7_tear_0 4 120 rfl) rfl
theorem dX7_tear_5 : decode cX7_tear 5 = .ok (.ifCond .ne 9, 3) := dw_154 (kcX7_tear_0 5 154 rfl) (kcX7_tear_0 6 0 rfl) (kcX7_tear_0 7 9 rfl) rfl
theorem dX7_tear_14 : decode cX7_tear 14 = .ok (.aload_n 0, 1) := dw_42 (kcX7_tear_0 14 42 rfl)
theorem dX7_tear_15 : decode cX7_tear 15 = .ok (.iload_n 1, 1) := dw_27 (kcX7_tear_0 15 27 rfl)
theorem dX7_tear_16 : decode cX7_tear 16 = .ok (.iload_n 2, 1) := dw_28 (kcX7_tear_0 16 28 rfl)
theorem dX7_tear_17 : decode cX7_tear 17 = .ok (.invokevirtual 124, 3) := dw_182 (kcX7_tear_0 17 182 rfl) (kcX7_tear_0 18 0 rfl) (kcX7_tear_0 19 124 rfl) rfl
theorem dX7_tear_20 : decode cX7_tear 20 = .ok (.ifCond .ne 9, 3) := dw_154 (kcX7_tear_0 20 154 rfl) (kcX7_tear_0 21 0 rfl) (kcX7_tear_0 22 9 rfl) rfl
theorem dX7_tear_29 : decode cX7_tear 29 = .ok (.aload_n 0, 1) := dw_42 (kcX7_tear_0 29 42 rfl)
theorem dX7_tear_30 : decode cX7_tear 30 = .ok (.getfield 41, 3) := dw_180 (kcX7_tear_0 30 180 rfl) (kcX7_tear_0 31 0 rfl) (kcX7_tear_0 32 41 rfl) rfl
theorem dX7_tear_33 : decode cX7_tear 33 = .ok (.bipush 12, 2) := dw_16 (kcX7_tear_0 33 16 rfl) (kcX7_tear_0 34 12 rfl) rfl
theorem dX7_tear_35 : decode cX7_tear 35 = .ok (.iload_n 1, 1) := dw_27 (kcX7_tear_0 35 27 rfl)
theorem dX7_tear_36 : decode cX7_tear 36 = .ok (.imul, 1) := dw_104 (kcX7_tear_0 36 104 rfl)
theorem dX7_tear_37 : decode cX7_tear 37 = .ok (.iload_n 2, 1) := dw_28 (kcX7_tear_0 37 28 rfl)
theorem dX7_tear_38 : decode cX7_tear 38 = .ok (.iadd, 1) := dw_96 (kcX7_tear_0 38 96 rfl)
theorem dX7_tear_39 : decode cX7_tear 39 = .ok (.iaload, 1) := dw_46 (kcX7_tear_0 39 46 rfl)
theorem dX7_tear_40 : decode cX7_tear 40 = .ok (.istore 4, 2) := dw_54 (kcX7_tear_0 40 54 rfl) (kcX7_tear_0 41 4 rfl)
theorem dX7_tear_42 : decode cX7_tear 42 = .ok (.iload 4, 2) := dw_21 (kcX7_tear_0 42 21 rfl) (kcX7_tear_0 43 4 rfl)
theorem dX7_tear_44 : decode cX7_tear 44 = .ok (.ifCond .ne 9, 3) := dw_154 (kcX7_tear_0 44 154 rfl) (kcX7_tear_0 45 0 rfl) (kcX7_tear_0 46 9 rfl) rfl
theorem dX7_tear_53 : decode cX7_tear 53 = .ok (.iload_n 3, 1) := dw_29 (kcX7_tear_0 53 29 rfl)
theorem dX7_tear_54 : decode cX7_tear 54 = .ok (.iload 4, 2) := dw_21 (kcX7_tear_0 54 21 rfl) (kcX7_tear_0 55 4 rfl)
theorem dX7_tear_56 : decode cX7_tear 56 = .ok (.if_icmp .le 9, 3) := dw_164 (kcX7_tear_0 56 164 rfl) (kcX7_tear_0 57 0 rfl) (kcX7_tear_0 58 9 rfl) rfl
theorem kcX7_tear_1 : CHb cX7_tear 64 [172, 29, 156, 0, 10, 42, 16, 7, 182, 0, 131, 172, 42, 180, 0, 41, 16, 12, 27, 104, 28, 96, 29, 79, 29, 54, 5, 21, 5, 16, 12, 162, 0, 20, 42, 27, 28, 21, 5, 184, 0, 147, 182, 0, 134, 132, 5, 1, 167, 255, 235, 42, 182, 0, 138, 172] := CHb_of (by decide +kernel)
theorem dX7_tear_65 : decode cX7_tear 65 = .ok (.iload_n 3, 1) := dw_29 (kcX7_tear_1 1 29 rfl)
theorem dX7_tear_66 : decode cX7_tear 66 = .ok (.ifCond .ge 10, 3) := dw_156 (kcX7_tear_1 2 156 rfl) (kcX7_tear_1 3 0 rfl) (kcX7_tear_1 4 10 rfl) rfl
theorem dX7_tear_76 : decode cX7_tear 76 = .ok (.aload_n 0, 1) := dw_42 (kcX7_tear_1 12 42 rfl)
theorem dX7_tear_77 : decode cX7_tear 77 = .ok (.getfield 41, 3) := dw_180 (kcX7_tear_1 13 180 rfl) (kcX7_tear_1 14 0 rfl) (kcX7_tear_1 15 41 rfl) rfl
theorem dX7_tear_80 : decode cX7_tear 80 = .ok (.bipush 12, 2) := dw_16 (kcX7_tear_1 16 16 rfl) (kcX7_tear_1 17 12 rfl) rfl
theorem dX7_tear_82 : decode cX7_tear 82 = .ok (.iload_n 1, 1) := dw_27 (kcX7_tear_1 18 27 rfl)
theorem dX7_tear_83 : decode cX7_tear 83 = .ok (.imul, 1) := dw_104 (kcX7_tear_1 19 104 rfl)
theorem dX7_tear_84 : decode cX7_tear 84 = .ok (.iload_n 2, 1) := dw_28 (kcX7_tear_1 20 28 rfl)
theorem dX7_tear_85 : decode cX7_tear 85 = .ok (.iadd, 1) := dw_96 (kcX7_tear_1 21 96 rfl)
theorem dX7_tear_86 : decode cX7_tear 86 = .ok (.iload_n 3, 1) := dw_29 (kcX7_tear_1 22 29 rfl)
theorem dX7_tear_87 : decode cX7_tear 87 = .ok (.iastore, 1) := dw_79 (kcX7_tear_1 23 79 rfl)
theorem dX7_tear_88 : decode cX7_tear 88 = .ok (.iload_n 3, 1) := dw_29 (kcX7_tear_1 24 29 rfl)
theorem dX7_tear_89 : decode cX7_tear 89 = .ok (.istore 5, 2) := dw_54 (kcX7_tear_1 25 54 rfl) (kcX7_tear_1 26 5 rfl)
theorem dX7_tear_91 : decode cX7_tear 91 = .ok (.iload 5, 2) := dw_21 (kcX7_tear_1 27 21 rfl) (kcX7_tear_1 28 5 rfl)
theorem dX7_tear_93 : decode cX7_tear 93 = .ok (.bipush 12, 2) := dw_16 (kcX7_tear_1 29 16 rfl) (kcX7_tear_1 30 12 rfl) rfl
theorem dX7_tear_95 : decode cX7_tear 95 = .ok (.if_icmp .ge 20, 3) := dw_162 (kcX7_tear_1 31 162 rfl) (kcX7_tear_1 32 0 rfl) (kcX7_tear_1 33 20 rfl) rfl
theorem dX7_tear_98 : decode cX7_tear 98 = .ok (.aload_n 0, 1) := dw_42 (kcX7_tear_1 34 42 rfl)
theorem dX7_tear_99 : decode cX7_tear 99 = .ok (.iload_n 1, 1) := dw_27 (kcX7_tear_1 35 27 rfl)
theorem dX7_tear_100 : decode cX7_tear 100 = .ok (.iload_n 2, 1) := dw_28 (kcX7_tear_1 36 28 rfl)
theorem dX7_tear_101 : decode cX7_tear 101 = .ok (.iload 5, 2) := dw_21 (kcX7_tear_1 37 21 rfl) (kcX7_tear_1 38 5 rfl)
theorem dX7_tear_103 : decode cX7_tear 103 = .ok (.invokestatic 147, 3) := dw_184 (kcX7_tear_1 39 184 rfl) (kcX7_tear_1 40 0 rfl) (kcX7_tear_1 41 147 rfl) rfl
theorem dX7_tear_106 : decode cX7_tear 106 = .ok (.invokevirtual 134, 3) := dw_182 (kcX7_tear_1 42 182 rfl) (kcX7_tear_1 43 0 rfl) (kcX7_tear_1 44 134 rfl) rfl
theorem dX7_tear_109 : decode cX7_tear 109 = .ok (.iinc 5 1, 3) := dw_132 (kcX7_tear_1 45 132 rfl) (kcX7_tear_1 46 5 rfl) (kcX7_tear_1 47 1 rfl) rfl
theorem dX7_tear_112 : decode cX7_tear 112 = .ok (.goto (-21), 3) := dw_167 (kcX7_tear_1 48 167 rfl) (kcX7_tear_1 49 255 rfl) (kcX7_tear_1 50 235 rfl) rfl
theorem dX7_tear_115 : decode cX7_tear 115 = .ok (.aload_n 0, 1) := dw_42 (kcX7_tear_1 51 42 rfl)
theorem dX7_tear_116 : decode cX7_tear 116 = .ok (.invokevirtual 138, 3) := dw_182 (kcX7_tear_1 52 182 rfl) (kcX7_tear_1 53 0 rfl) (kcX7_tear_1 54 138 rfl) rfl
theorem dX7_tear_119 : decode cX7_tear 119 = .ok (.ireturn, 1) := dw_172 (kcX7_tear_1 55 172 rfl)
theorem dX7_tear_69 : decode cX7_tear 69 = .ok (.aload_n 0, 1) := dw_42 (kcX7_tear_1 5 42 rfl)
theorem dX7_tear_70 : decode cX7_tear 70 = .ok (.bipush 7, 2) := dw_16 (kcX7_tear_1 6 16 rfl) (kcX7_tear_1 7 7 rfl) rfl
theorem dX7_tear_72 : decode cX7_tear 72 = .ok (.invokevirtual 131, 3) := dw_182 (kcX7_tear_1 8 182 rfl) (kcX7_tear_1 9 0 rfl) (kcX7_tear_1 10 131 rfl) rfl
theorem dX7_tear_75 : decode cX7_tear 75 = .ok (.ireturn, 1) := dw_172 (kcX7_tear_1 11 172 rfl)
theorem dX7_tear_59 : decode cX7_tear 59 = .ok (.aload_n 0, 1) := dw_42 (kcX7_tear_0 59 42 rfl)
theorem dX7_tear_60 : decode cX7_tear 60 = .ok (.iconst 4, 1) := dw_7 (kcX7_tear_0 60 7 rfl)
theorem dX7_tear_61 : decode cX7_tear 61 = .ok (.invokevirtual 131, 3) := dw_182 (kcX7_tear_0 61 182 rfl) (kcX7_tear_0 62 0 rfl) (kcX7_tear_0 63 131 rfl) rfl
theorem dX7_tear_64 : decode cX7_tear 64 = .ok (.ireturn, 1) := dw_172 (kcX7_tear_1 0 172 rfl)
theorem dX7_tear_47 : decode cX7_tear 47 = .ok (.aload_n 0, 1) := dw_42 (kcX7_tear_0 47 42 rfl)
theorem dX7_tear_48 : decode cX7_tear 48 = .ok (.iconst 3, 1) := dw_6 (kcX7_tear_0 48 6 rfl)
theorem dX7_tear_49 : decode cX7_tear 49 = .ok (.invokevirtual 131, 3) := dw_182 (kcX7_tear_0 49 182 rfl) (kcX7_tear_0 50 0 rfl) (kcX7_tear_0 51 131 rfl) rfl
theorem dX7_tear_52 : decode cX7_tear 52 = .ok (.ireturn, 1) := dw_172 (kcX7_tear_0 52 172 rfl)
theorem dX7_tear_23 : decode cX7_tear 23 = .ok (.aload_n 0, 1) := dw_42 (kcX7_tear_0 23 42 rfl)
theorem dX7_tear_24 : decode cX7_tear 24 = .ok (.iconst 2, 1) := dw_5 (kcX7_tear_0 24 5 rfl)
theorem dX7_tear_25 : decode cX7_tear 25 = .ok (.invokevirtual 131, 3) := dw_182 (kcX7_tear_0 25 182 rfl) (kcX7_tear_0 26 0 rfl) (kcX7_tear_0 27 131 rfl) rfl
theorem dX7_tear_28 : decode cX7_tear 28 = .ok (.ireturn, 1) := dw_172 (kcX7_tear_0 28 172 rfl)
theorem dX7_tear_8 : decode cX7_tear 8 = .ok (.aload_n 0, 1) := dw_42 (kcX7_tear_0 8 42 rfl)
theorem dX7_tear_9 : decode cX7_tear 9 = .ok (.iconst 1, 1) := dw_4 (kcX7_tear_0 9 4 rfl)
theorem dX7_tear_10 : decode cX7_tear 10 = .ok (.invokevirtual 131, 3) := dw_182 (kcX7_tear_0 10 182 rfl) (kcX7_tear_0 11 0 rfl) (kcX7_tear_0 12 131 rfl) rfl
theorem dX7_tear_13 : decode cX7_tear 13 = .ok (.ireturn, 1) := dw_172 (kcX7_tear_0 13 172 rfl)
theorem kcX7_isLaid_0 : CHb cX7_isLaid 0 [3, 54, 4, 21, 4, 42, 180, 0, 44, 27, 46, 162, 0, 113, 42, 180, 0, 47, 16, 12, 27, 104, 21, 4, 96, 46, 54, 5, 42, 180, 0, 50, 16, 12, 27, 104, 21, 4, 96, 46, 54, 6, 21, 5, 28, 160, 0, 11, 21, 6, 29, 160, 0, 5, 3, 172, 21, 6, 28, 161, 0, 9, 21, 5] := CHb_of (by decide +kernel)
theorem dX7_isLaid_0 : decode cX7_isLaid 0 = .ok (.iconst 0, 1) := dw_3 (kcX7_isLaid_0 0 3 rfl)
theorem dX7_isLaid_1 : decode cX7_isLaid 1 = .ok (.istore 4, 2) := dw_54 (kcX7_isLaid_0 1 54 rfl) (kcX7_isLaid_0 2 4 rfl)
theorem dX7_isLaid_3 : decode cX7_isLaid 3 = .ok (.iload 4, 2) := dw_21 (kcX7_isLaid_0 3 21 rfl) (kcX7_isLaid_0 4 4 rfl)
theorem dX7_isLaid_5 : decode cX7_isLaid 5 = .ok (.aload_n 0, 1) := dw_42 (kcX7_isLaid_0 5 42 rfl)
theorem dX7_isLaid_6 : decode cX7_isLaid 6 = .ok (.getfield 44, 3) := dw_180 (kcX7_isLaid_0 6 180 rfl) (kcX7_isLaid_0 7 0 rfl) (kcX7_isLaid_0 8 44 rfl) rfl
theorem dX7_isLaid_9 : decode cX7_isLaid 9 = .ok (.iload_n 1, 1) := dw_27 (kcX7_isLaid_0 9 27 rfl)
theorem dX7_isLaid_10 : decode cX7_isLaid 10 = .ok (.iaload, 1) := dw_46 (kcX7_isLaid_0 10 46 rfl)
theorem dX7_isLaid_11 : decode cX7_isLaid 11 = .ok (.if_icmp .ge 113, 3) := dw_162 (kcX7_isLaid_0 11 162 rfl) (kcX7_isLaid_0 12 0 rfl) (kcX7_isLaid_0 13 113 rfl) rfl
theorem kcX7_isLaid_1 : CHb cX7_isLaid 64 [29, 164, 0, 7, 4, 167, 0, 4, 3, 54, 7, 21, 5, 28, 163, 0, 9, 21, 6, 29, 162, 0, 15, 21, 5, 28, 161, 0, 13, 21, 6, 29, 163, 0, 7, 4, 167, 0, 4, 3, 54, 8, 21, 7, 154, 0, 10, 21, 8, 154, 0, 5, 3, 172, 132, 4, 1, 167, 255, 138, 4, 172] := CHb_of (by decide +kernel)
theorem dX7_isLaid_124 : decode cX7_isLaid 124 = .ok (.iconst 1, 1) := dw_4 (kcX7_isLaid_1 60 4 rfl)
theorem dX7_isLaid_125 : decode cX7_isLaid 125 = .ok (.ireturn, 1) := dw_172 (kcX7_isLaid_1 61 172 rfl)
theorem dX7_isLaid_14 : decode cX7_isLaid 14 = .ok (.aload_n 0, 1) := dw_42 (kcX7_isLaid_0 14 42 rfl)
theorem dX7_isLaid_15 : decode cX7_isLaid 15 = .ok (.getfield 47, 3) := dw_180 (kcX7_isLaid_0 15 180 rfl) (kcX7_isLaid_0 16 0 rfl) (kcX7_isLaid_0 17 47 rfl) rfl
theorem dX7_isLaid_18 : decode cX7_isLaid 18 = .ok (.bipush 12, 2) := dw_16 (kcX7_isLaid_0 18 16 rfl) (kcX7_isLaid_0 19 12 rfl) rfl
theorem dX7_isLaid_20 : decode cX7_isLaid 20 = .ok (.iload_n 1, 1) := dw_27 (kcX7_isLaid_0 20 27 rfl)
theorem dX7_isLaid_21 : decode cX7_isLaid 21 = .ok (.imul, 1) := dw_104 (kcX7_isLaid_0 21 104 rfl)
theorem dX7_isLaid_22 : decode cX7_isLaid 22 = .ok (.iload 4, 2) := dw_21 (kcX7_isLaid_0 22 21 rfl) (kcX7_isLaid_0 23 4 rfl)
theorem dX7_isLaid_24 : decode cX7_isLaid 24 = .ok (.iadd, 1) := dw_96 (kcX7_isLaid_0 24 96 rfl)
theorem dX7_isLaid_25 : decode cX7_isLaid 25 = .ok (.iaload, 1) := dw_46 (kcX7_isLaid_0 25 46 rfl)
theorem dX7_isLaid_26 : decode cX7_isLaid 26 = .ok (.istore 5, 2) := dw_54 (kcX7_isLaid_0 26 54 rfl) (kcX7_isLaid_0 27 5 rfl)
theorem dX7_isLaid_28 : decode cX7_isLaid 28 = .ok (.aload_n 0, 1) := dw_42 (kcX7_isLaid_0 28 42 rfl)
theorem dX7_isLaid_29 : decode cX7_isLaid 29 = .ok (.getfield 50, 3) := dw_180 (kcX7_isLaid_0 29 180 rfl) (kcX7_isLaid_0 30 0 rfl) (kcX7_isLaid_0 31 50 rfl) rfl
theorem dX7_isLaid_32 : decode cX7_isLaid 32 = .ok (.bipush 12, 2) := dw_16 (kcX7_isLaid_0 32 16 rfl) (kcX7_isLaid_0 33 12 rfl) rfl
theorem dX7_isLaid_34 : decode cX7_isLaid 34 = .ok (.iload_n 1, 1) := dw_27 (kcX7_isLaid_0 34 27 rfl)
theorem dX7_isLaid_35 : decode cX7_isLaid 35 = .ok (.imul, 1) := dw_104 (kcX7_isLaid_0 35 104 rfl)
theorem dX7_isLaid_36 : decode cX7_isLaid 36 = .ok (.iload 4, 2) := dw_21 (kcX7_isLaid_0 36 21 rfl) (kcX7_isLaid_0 37 4 rfl)
theorem dX7_isLaid_38 : decode cX7_isLaid 38 = .ok (.iadd, 1) := dw_96 (kcX7_isLaid_0 38 96 rfl)
theorem dX7_isLaid_39 : decode cX7_isLaid 39 = .ok (.iaload, 1) := dw_46 (kcX7_isLaid_0 39 46 rfl)
theorem dX7_isLaid_40 : decode cX7_isLaid 40 = .ok (.istore 6, 2) := dw_54 (kcX7_isLaid_0 40 54 rfl) (kcX7_isLaid_0 41 6 rfl)
theorem dX7_isLaid_42 : decode cX7_isLaid 42 = .ok (.iload 5, 2) := dw_21 (kcX7_isLaid_0 42 21 rfl) (kcX7_isLaid_0 43 5 rfl)
theorem dX7_isLaid_44 : decode cX7_isLaid 44 = .ok (.iload_n 2, 1) := dw_28 (kcX7_isLaid_0 44 28 rfl)
theorem dX7_isLaid_45 : decode cX7_isLaid 45 = .ok (.if_icmp .ne 11, 3) := dw_160 (kcX7_isLaid_0 45 160 rfl) (kcX7_isLaid_0 46 0 rfl) (kcX7_isLaid_0 47 11 rfl) rfl
theorem dX7_isLaid_56 : decode cX7_isLaid 56 = .ok (.iload 6, 2) := dw_21 (kcX7_isLaid_0 56 21 rfl) (kcX7_isLaid_0 57 6 rfl)
theorem dX7_isLaid_58 : decode cX7_isLaid 58 = .ok (.iload_n 2, 1) := dw_28 (kcX7_isLaid_0 58 28 rfl)
theorem dX7_isLaid_59 : decode cX7_isLaid 59 = .ok (.if_icmp .lt 9, 3) := dw_161 (kcX7_isLaid_0 59 161 rfl) (kcX7_isLaid_0 60 0 rfl) (kcX7_isLaid_0 61 9 rfl) rfl
theorem dX7_isLaid_68 : decode cX7_isLaid 68 = .ok (.iconst 1, 1) := dw_4 (kcX7_isLaid_1 4 4 rfl)
theorem dX7_isLaid_69 : decode cX7_isLaid 69 = .ok (.goto 4, 3) := dw_167 (kcX7_isLaid_1 5 167 rfl) (kcX7_isLaid_1 6 0 rfl) (kcX7_isLaid_1 7 4 rfl) rfl
theorem dX7_isLaid_62 : decode cX7_isLaid 62 = .ok (.iload 5, 2) := dw_21 (kcX7_isLaid_0 62 21 rfl) (kcX7_isLaid_0 63 5 rfl)
theorem dX7_isLaid_64 : decode cX7_isLaid 64 = .ok (.iload_n 3, 1) := dw_29 (kcX7_isLaid_1 0 29 rfl)
theorem dX7_isLaid_65 : decode cX7_isLaid 65 = .ok (.if_icmp .le 7, 3) := dw_164 (kcX7_isLaid_1 1 164 rfl) (kcX7_isLaid_1 2 0 rfl) (kcX7_isLaid_1 3 7 rfl) rfl
theorem dX7_isLaid_72 : decode cX7_isLaid 72 = .ok (.iconst 0, 1) := dw_3 (kcX7_isLaid_1 8 3 rfl)
theorem dX7_isLaid_73 : decode cX7_isLaid 73 = .ok (.istore 7, 2) := dw_54 (kcX7_isLaid_1 9 54 rfl) (kcX7_isLaid_1 10 7 rfl)
theorem dX7_isLaid_75 : decode cX7_isLaid 75 = .ok (.iload 5, 2) := dw_21 (kcX7_isLaid_1 11 21 rfl) (kcX7_isLaid_1 12 5 rfl)
theorem dX7_isLaid_77 : decode cX7_isLaid 77 = .ok (.iload_n 2, 1) := dw_28 (kcX7_isLaid_1 13 28 rfl)
theorem dX7_isLaid_78 : decode cX7_isLaid 78 = .ok (.if_icmp .gt 9, 3) := dw_163 (kcX7_isLaid_1 14 163 rfl) (kcX7_isLaid_1 15 0 rfl) (kcX7_isLaid_1 16 9 rfl) rfl
theorem dX7_isLaid_87 : decode cX7_isLaid 87 = .ok (.iload 5, 2) := dw_21 (kcX7_isLaid_1 23 21 rfl) (kcX7_isLaid_1 24 5 rfl)
theorem dX7_isLaid_89 : decode cX7_isLaid 89 = .ok (.iload_n 2, 1) := dw_28 (kcX7_isLaid_1 25 28 rfl)
theorem dX7_isLaid_90 : decode cX7_isLaid 90 = .ok (.if_icmp .lt 13, 3) := dw_161 (kcX7_isLaid_1 26 161 rfl) (kcX7_isLaid_1 27 0 rfl) (kcX7_isLaid_1 28 13 rfl) rfl
theorem dX7_isLaid_103 : decode cX7_isLaid 103 = .ok (.iconst 0, 1) := dw_3 (kcX7_isLaid_1 39 3 rfl)
theorem dX7_isLaid_93 : decode cX7_isLaid 93 = .ok (.iload 6, 2) := dw_21 (kcX7_isLaid_1 29 21 rfl) (kcX7_isLaid_1 30 6 rfl)
theorem dX7_isLaid_95 : decode cX7_isLaid 95 = .ok (.iload_n 3, 1) := dw_29 (kcX7_isLaid_1 31 29 rfl)
theorem dX7_isLaid_96 : decode cX7_isLaid 96 = .ok (.if_icmp .gt 7, 3) := dw_163 (kcX7_isLaid_1 32 163 rfl) (kcX7_isLaid_1 33 0 rfl) (kcX7_isLaid_1 34 7 rfl) rfl
theorem dX7_isLaid_99 : decode cX7_isLaid 99 = .ok (.iconst 1, 1) := dw_4 (kcX7_isLaid_1 35 4 rfl)
theorem dX7_isLaid_100 : decode cX7_isLaid 100 = .ok (.goto 4, 3) := dw_167 (kcX7_isLaid_1 36 167 rfl) (kcX7_isLaid_1 37 0 rfl) (kcX7_isLaid_1 38 4 rfl) rfl
theorem dX7_isLaid_81 : decode cX7_isLaid 81 = .ok (.iload 6, 2) := dw_21 (kcX7_isLaid_1 17 21 rfl) (kcX7_isLaid_1 18 6 rfl)
theorem dX7_isLaid_83 : decode cX7_isLaid 83 = .ok (.iload_n 3, 1) := dw_29 (kcX7_isLaid_1 19 29 rfl)
theorem dX7_isLaid_84 : decode cX7_isLaid 84 = .ok (.if_icmp .ge 15, 3) := dw_162 (kcX7_isLaid_1 20 162 rfl) (kcX7_isLaid_1 21 0 rfl) (kcX7_isLaid_1 22 15 rfl) rfl
theorem dX7_isLaid_104 : decode cX7_isLaid 104 = .ok (.istore 8, 2) := dw_54 (kcX7_isLaid_1 40 54 rfl) (kcX7_isLaid_1 41 8 rfl)
theorem dX7_isLaid_106 : decode cX7_isLaid 106 = .ok (.iload 7, 2) := dw_21 (kcX7_isLaid_1 42 21 rfl) (kcX7_isLaid_1 43 7 rfl)
theorem dX7_isLaid_108 : decode cX7_isLaid 108 = .ok (.ifCond .ne 10, 3) := dw_154 (kcX7_isLaid_1 44 154 rfl) (kcX7_isLaid_1 45 0 rfl) (kcX7_isLaid_1 46 10 rfl) rfl
theorem dX7_isLaid_118 : decode cX7_isLaid 118 = .ok (.iinc 4 1, 3) := dw_132 (kcX7_isLaid_1 54 132 rfl) (kcX7_isLaid_1 55 4 rfl) (kcX7_isLaid_1 56 1 rfl) rfl
theorem dX7_isLaid_121 : decode cX7_isLaid 121 = .ok (.goto (-118), 3) := dw_167 (kcX7_isLaid_1 57 167 rfl) (kcX7_isLaid_1 58 255 rfl) (kcX7_isLaid_1 59 138 rfl) rfl
theorem dX7_isLaid_111 : decode cX7_isLaid 111 = .ok (.iload 8, 2) := dw_21 (kcX7_isLaid_1 47 21 rfl) (kcX7_isLaid_1 48 8 rfl)
theorem dX7_isLaid_113 : decode cX7_isLaid 113 = .ok (.ifCond .ne 5, 3) := dw_154 (kcX7_isLaid_1 49 154 rfl) (kcX7_isLaid_1 50 0 rfl) (kcX7_isLaid_1 51 5 rfl) rfl
theorem dX7_isLaid_116 : decode cX7_isLaid 116 = .ok (.iconst 0, 1) := dw_3 (kcX7_isLaid_1 52 3 rfl)
theorem dX7_isLaid_117 : decode cX7_isLaid 117 = .ok (.ireturn, 1) := dw_172 (kcX7_isLaid_1 53 172 rfl)
theorem dX7_isLaid_48 : decode cX7_isLaid 48 = .ok (.iload 6, 2) := dw_21 (kcX7_isLaid_0 48 21 rfl) (kcX7_isLaid_0 49 6 rfl)
theorem dX7_isLaid_50 : decode cX7_isLaid 50 = .ok (.iload_n 3, 1) := dw_29 (kcX7_isLaid_0 50 29 rfl)
theorem dX7_isLaid_51 : decode cX7_isLaid 51 = .ok (.if_icmp .ne 5, 3) := dw_160 (kcX7_isLaid_0 51 160 rfl) (kcX7_isLaid_0 52 0 rfl) (kcX7_isLaid_0 53 5 rfl) rfl
theorem dX7_isLaid_54 : decode cX7_isLaid 54 = .ok (.iconst 0, 1) := dw_3 (kcX7_isLaid_0 54 3 rfl)
theorem dX7_isLaid_55 : decode cX7_isLaid 55 = .ok (.ireturn, 1) := dw_172 (kcX7_isLaid_0 55 172 rfl)
theorem kcX7_block_0 : CHb cX7_block 0 [42, 27, 182, 0, 120, 154, 0, 7, 4, 167, 0, 62, 42, 27, 28, 182, 0, 124, 153, 0, 17, 42, 27, 29, 182, 0, 124, 153, 0, 8, 29, 28, 162, 0, 7, 5, 167, 0, 35, 42, 180, 0, 44, 27, 46, 16, 12, 160, 0, 8, 16, 8, 167, 0, 19, 42, 27, 28, 29, 182, 0, 151, 154, 0] := CHb_of (by decide +kernel)
theorem dX7_block_0 : decode cX7_block 0 = .ok (.aload_n 0, 1) := dw_42 (kcX7_block_0 0 42 rfl)
theorem dX7_block_1 : decode cX7_block 1 = .ok (.iload_n 1, 1) := dw_27 (kcX7_block_0 1 27 rfl)
theorem dX7_block_2 : decode cX7_block 2 = .ok (.invokevirtual 120, 3) := dw_182 (kcX7_block_0 2 182 rfl) (kcX7_block_0 3 0 rfl) (kcX7_block_0 4 120 rfl) rfl
theorem dX7_block_5 : decode cX7_block 5 = .ok (.ifCond .ne 7, 3) := dw_154 (kcX7_block_0 5 154 rfl) (kcX7_block_0 6 0 rfl) (kcX7_block_0 7 7 rfl) rfl
theorem dX7_block_12 : decode cX7_block 12 = .ok (.aload_n 0, 1) := dw_42 (kcX7_block_0 12 42 rfl)
theorem dX7_block_13 : decode cX7_block 13 = .ok (.iload_n 1, 1) := dw_27 (kcX7_block_0 13 27 rfl)
theorem dX7_block_14 : decode cX7_block 14 = .ok (.iload_n 2, 1) := dw_28 (kcX7_block_0 14 28 rfl)
theorem dX7_block_15 : decode cX7_block 15 = .ok (.invokevirtual 124, 3) := dw_182 (kcX7_block_0 15 182 rfl) (kcX7_block_0 16 0 rfl) (kcX7_block_0 17 124 rfl) rfl
theorem dX7_block_18 : decode cX7_block 18 = .ok (.ifCond .eq 17, 3) := dw_153 (kcX7_block_0 18 153 rfl) (kcX7_block_0 19 0 rfl) (kcX7_block_0 20 17 rfl) rfl
theorem dX7_block_35 : decode cX7_block 35 = .ok (.iconst 2, 1) := dw_5 (kcX7_block_0 35 5 rfl)
theorem dX7_block_36 : decode cX7_block 36 = .ok (.goto 35, 3) := dw_167 (kcX7_block_0 36 167 rfl) (kcX7_block_0 37 0 rfl) (kcX7_block_0 38 35 rfl) rfl
theorem kcX7_block_1 : CHb cX7_block 64 [8, 16, 9, 167, 0, 4, 3, 54, 4, 42, 21, 4, 181, 0, 116, 21, 4, 158, 0, 5, 2, 172, 16, 12, 27, 104, 42, 180, 0, 44, 27, 46, 96, 54, 5, 42, 180, 0, 47, 21, 5, 28, 79, 42, 180, 0, 50, 21, 5, 29, 79, 42, 180, 0, 44, 27, 92, 46, 4, 96, 79, 42, 180, 0] := CHb_of (by decide +kernel)
theorem dX7_block_71 : decode cX7_block 71 = .ok (.istore 4, 2) := dw_54 (kcX7_block_1 7 54 rfl) (kcX7_block_1 8 4 rfl)
theorem dX7_block_73 : decode cX7_block 73 = .ok (.aload_n 0, 1) := dw_42 (kcX7_block_1 9 42 rfl)
theorem dX7_block_74 : decode cX7_block 74 = .ok (.iload 4, 2) := dw_21 (kcX7_block_1 10 21 rfl) (kcX7_block_1 11 4 rfl)
theorem dX7_block_76 : decode cX7_block 76 = .ok (.putfield 116, 3) := dw_181 (kcX7_block_1 12 181 rfl) (kcX7_block_1 13 0 rfl) (kcX7_block_1 14 116 rfl) rfl
theorem dX7_block_79 : decode cX7_block 79 = .ok (.iload 4, 2) := dw_21 (kcX7_block_1 15 21 rfl) (kcX7_block_1 16 4 rfl)
theorem dX7_block_81 : decode cX7_block 81 = .ok (.ifCond .le 5, 3) := dw_158 (kcX7_block_1 17 158 rfl) (kcX7_block_1 18 0 rfl) (kcX7_block_1 19 5 rfl) rfl
theorem dX7_block_84 : decode cX7_block 84 = .ok (.iconst (-1), 1) := dw_2 (kcX7_block_1 20 2 rfl)
theorem dX7_block_85 : decode cX7_block 85 = .ok (.ireturn, 1) := dw_172 (kcX7_block_1 21 172 rfl)
theorem dX7_block_21 : decode cX7_block 21 = .ok (.aload_n 0, 1) := dw_42 (kcX7_block_0 21 42 rfl)
theorem dX7_block_22 : decode cX7_block 22 = .ok (.iload_n 1, 1) := dw_27 (kcX7_block_0 22 27 rfl)
theorem dX7_block_23 : decode cX7_block 23 = .ok (.iload_n 3, 1) := dw_29 (kcX7_block_0 23 29 rfl)
theorem dX7_block_24 : decode cX7_block 24 = .ok (.invokevirtual 124, 3) := dw_182 (kcX7_block_0 24 182 rfl) (kcX7_block_0 25 0 rfl) (kcX7_block_0 26 124 rfl) rfl
theorem dX7_block_27 : decode cX7_block 27 = .ok (.ifCond .eq 8, 3) := dw_153 (kcX7_block_0 27 153 rfl) (kcX7_block_0 28 0 rfl) (kcX7_block_0 29 8 rfl) rfl
theorem dX7_block_30 : decode cX7_block 30 = .ok (.iload_n 3, 1) := dw_29 (kcX7_block_0 30 29 rfl)
theorem dX7_block_31 : decode cX7_block 31 = .ok (.iload_n 2, 1) := dw_28 (kcX7_block_0 31 28 rfl)
theorem dX7_block_32 : decode cX7_block 32 = .ok (.if_icmp .ge 7, 3) := dw_162 (kcX7_block_0 32 162 rfl) (kcX7_block_0 33 0 rfl) (kcX7_block_0 34 7 rfl) rfl
theorem dX7_block_39 : decode cX7_block 39 = .ok (.aload_n 0, 1) := dw_42 (kcX7_block_0 39 42 rfl)
theorem dX7_block_40 : decode cX7_block 40 = .ok (.getfield 44, 3) := dw_180 (kcX7_block_0 40 180 rfl) (kcX7_block_0 41 0 rfl) (kcX7_block_0 42 44 rfl) rfl
theorem dX7_block_43 : decode cX7_block 43 = .ok (.iload_n 1, 1) := dw_27 (kcX7_block_0 43 27 rfl)
theorem dX7_block_44 : decode cX7_block 44 = .ok (.iaload, 1) := dw_46 (kcX7_block_0 44 46 rfl)
theorem dX7_block_45 : decode cX7_block 45 = .ok (.bipush 12, 2) := dw_16 (kcX7_block_0 45 16 rfl) (kcX7_block_0 46 12 rfl) rfl
theorem dX7_block_47 : decode cX7_block 47 = .ok (.if_icmp .ne 8, 3) := dw_160 (kcX7_block_0 47 160 rfl) (kcX7_block_0 48 0 rfl) (kcX7_block_0 49 8 rfl) rfl
theorem dX7_block_55 : decode cX7_block 55 = .ok (.aload_n 0, 1) := dw_42 (kcX7_block_0 55 42 rfl)
theorem dX7_block_56 : decode cX7_block 56 = .ok (.iload_n 1, 1) := dw_27 (kcX7_block_0 56 27 rfl)
theorem dX7_block_57 : decode cX7_block 57 = .ok (.iload_n 2, 1) := dw_28 (kcX7_block_0 57 28 rfl)
theorem dX7_block_58 : decode cX7_block 58 = .ok (.iload_n 3, 1) := dw_29 (kcX7_block_0 58 29 rfl)
theorem dX7_block_59 : decode cX7_block 59 = .ok (.invokevirtual 151, 3) := dw_182 (kcX7_block_0 59 182 rfl) (kcX7_block_0 60 0 rfl) (kcX7_block_0 61 151 rfl) rfl
theorem dX7_block_62 : decode cX7_block 62 = .ok (.ifCond .ne 8, 3) := dw_154 (kcX7_block_0 62 154 rfl) (kcX7_block_0 63 0 rfl) (kcX7_block_1 0 8 rfl) rfl
theorem dX7_block_70 : decode cX7_block 70 = .ok (.iconst 0, 1) := dw_3 (kcX7_block_1 6 3 rfl)
theorem dX7_block_86 : decode cX7_block 86 = .ok (.bipush 12, 2) := dw_16 (kcX7_block_1 22 16 rfl) (kcX7_block_1 23 12 rfl) rfl
theorem dX7_block_88 : decode cX7_block 88 = .ok (.iload_n 1, 1) := dw_27 (kcX7_block_1 24 27 rfl)
theorem dX7_block_89 : decode cX7_block 89 = .ok (.imul, 1) := dw_104 (kcX7_block_1 25 104 rfl)
theorem dX7_block_90 : decode cX7_block 90 = .ok (.aload_n 0, 1) := dw_42 (kcX7_block_1 26 42 rfl)
theorem dX7_block_91 : decode cX7_block 91 = .ok (.getfield 44, 3) := dw_180 (kcX7_block_1 27 180 rfl) (kcX7_block_1 28 0 rfl) (kcX7_block_1 29 44 rfl) rfl
theorem dX7_block_94 : decode cX7_block 94 = .ok (.iload_n 1, 1) := dw_27 (kcX7_block_1 30 27 rfl)
theorem dX7_block_95 : decode cX7_block 95 = .ok (.iaload, 1) := dw_46 (kcX7_block_1 31 46 rfl)
theorem dX7_block_96 : decode cX7_block 96 = .ok (.iadd, 1) := dw_96 (kcX7_block_1 32 96 rfl)
theorem dX7_block_97 : decode cX7_block 97 = .ok (.istore 5, 2) := dw_54 (kcX7_block_1 33 54 rfl) (kcX7_block_1 34 5 rfl)
theorem dX7_block_99 : decode cX7_block 99 = .ok (.aload_n 0, 1) := dw_42 (kcX7_block_1 35 42 rfl)
theorem dX7_block_100 : decode cX7_block 100 = .ok (.getfield 47, 3) := dw_180 (kcX7_block_1 36 180 rfl) (kcX7_block_1 37 0 rfl) (kcX7_block_1 38 47 rfl) rfl
theorem dX7_block_103 : decode cX7_block 103 = .ok (.iload 5, 2) := dw_21 (kcX7_block_1 39 21 rfl) (kcX7_block_1 40 5 rfl)
theorem dX7_block_105 : decode cX7_block 105 = .ok (.iload_n 2, 1) := dw_28 (kcX7_block_1 41 28 rfl)
theorem dX7_block_106 : decode cX7_block 106 = .ok (.iastore, 1) := dw_79 (kcX7_block_1 42 79 rfl)
theorem dX7_block_107 : decode cX7_block 107 = .ok (.aload_n 0, 1) := dw_42 (kcX7_block_1 43 42 rfl)
theorem dX7_block_108 : decode cX7_block 108 = .ok (.getfield 50, 3) := dw_180 (kcX7_block_1 44 180 rfl) (kcX7_block_1 45 0 rfl) (kcX7_block_1 46 50 rfl) rfl
theorem dX7_block_111 : decode cX7_block 111 = .ok (.iload 5, 2) := dw_21 (kcX7_block_1 47 21 rfl) (kcX7_block_1 48 5 rfl)
theorem dX7_block_113 : decode cX7_block 113 = .ok (.iload_n 3, 1) := dw_29 (kcX7_block_1 49 29 rfl)
theorem dX7_block_114 : decode cX7_block 114 = .ok (.iastore, 1) := dw_79 (kcX7_block_1 50 79 rfl)
theorem dX7_block_115 : decode cX7_block 115 = .ok (.aload_n 0, 1) := dw_42 (kcX7_block_1 51 42 rfl)
theorem dX7_block_116 : decode cX7_block 116 = .ok (.getfield 44, 3) := dw_180 (kcX7_block_1 52 180 rfl) (kcX7_block_1 53 0 rfl) (kcX7_block_1 54 44 rfl) rfl
theorem dX7_block_119 : decode cX7_block 119 = .ok (.iload_n 1, 1) := dw_27 (kcX7_block_1 55 27 rfl)
theorem dX7_block_120 : decode cX7_block 120 = .ok (.dup2, 1) := dw_92 (kcX7_block_1 56 92 rfl)
theorem dX7_block_121 : decode cX7_block 121 = .ok (.iaload, 1) := dw_46 (kcX7_block_1 57 46 rfl)
theorem dX7_block_122 : decode cX7_block 122 = .ok (.iconst 1, 1) := dw_4 (kcX7_block_1 58 4 rfl)
theorem dX7_block_123 : decode cX7_block 123 = .ok (.iadd, 1) := dw_96 (kcX7_block_1 59 96 rfl)
theorem dX7_block_124 : decode cX7_block 124 = .ok (.iastore, 1) := dw_79 (kcX7_block_1 60 79 rfl)
theorem dX7_block_125 : decode cX7_block 125 = .ok (.aload_n 0, 1) := dw_42 (kcX7_block_1 61 42 rfl)
theorem kcX7_block_2 : CHb cX7_block 128 [44, 27, 46, 172] := CHb_of (by decide +kernel)
theorem dX7_block_126 : decode cX7_block 126 = .ok (.getfield 44, 3) := dw_180 (kcX7_block_1 62 180 rfl) (kcX7_block_1 63 0 rfl) (kcX7_block_2 0 44 rfl) rfl
theorem dX7_block_129 : decode cX7_block 129 = .ok (.iload_n 1, 1) := dw_27 (kcX7_block_2 1 27 rfl)
theorem dX7_block_130 : decode cX7_block 130 = .ok (.iaload, 1) := dw_46 (kcX7_block_2 2 46 rfl)
theorem dX7_block_131 : decode cX7_block 131 = .ok (.ireturn, 1) := dw_172 (kcX7_block_2 3 172 rfl)
theorem dX7_block_65 : decode cX7_block 65 = .ok (.bipush 9, 2) := dw_16 (kcX7_block_1 1 16 rfl) (kcX7_block_1 2 9 rfl) rfl
theorem dX7_block_67 : decode cX7_block 67 = .ok (.goto 4, 3) := dw_167 (kcX7_block_1 3 167 rfl) (kcX7_block_1 4 0 rfl) (kcX7_block_1 5 4 rfl) rfl
theorem dX7_block_50 : decode cX7_block 50 = .ok (.bipush 8, 2) := dw_16 (kcX7_block_0 50 16 rfl) (kcX7_block_0 51 8 rfl) rfl
theorem dX7_block_52 : decode cX7_block 52 = .ok (.goto 19, 3) := dw_167 (kcX7_block_0 52 167 rfl) (kcX7_block_0 53 0 rfl) (kcX7_block_0 54 19 rfl) rfl
theorem dX7_block_8 : decode cX7_block 8 = .ok (.iconst 1, 1) := dw_4 (kcX7_block_0 8 4 rfl)
theorem dX7_block_9 : decode cX7_block 9 = .ok (.goto 62, 3) := dw_167 (kcX7_block_0 9 167 rfl) (kcX7_block_0 10 0 rfl) (kcX7_block_0 11 62 rfl) rfl
theorem kcX7_classOf_0 : CHb cX7_classOf 0 [2, 62, 16, 13, 54, 4, 3, 54, 5, 21, 5, 42, 180, 0, 44, 27, 46, 162, 0, 72, 42, 180, 0, 47, 16, 12, 27, 104, 21, 5, 96, 46, 54, 6, 42, 180, 0, 50, 16, 12, 27, 104, 21, 5, 96, 46, 54, 7, 21, 6, 28, 163, 0, 32, 21, 7, 28, 161, 0, 26, 21, 7, 21, 6] := CHb_of (by decide +kernel)
theorem dX7_classOf_0 : decode cX7_classOf 0 = .ok (.iconst (-1), 1) := dw_2 (kcX7_classOf_0 0 2 rfl)
theorem dX7_classOf_1 : decode cX7_classOf 1 = .ok (.istore_n 3, 1) := dw_62 (kcX7_classOf_0 1 62 rfl)
theorem dX7_classOf_2 : decode cX7_classOf 2 = .ok (.bipush 13, 2) := dw_16 (kcX7_classOf_0 2 16 rfl) (kcX7_classOf_0 3 13 rfl) rfl
theorem dX7_classOf_4 : decode cX7_classOf 4 = .ok (.istore 4, 2) := dw_54 (kcX7_classOf_0 4 54 rfl) (kcX7_classOf_0 5 4 rfl)
theorem dX7_classOf_6 : decode cX7_classOf 6 = .ok (.iconst 0, 1) := dw_3 (kcX7_classOf_0 6 3 rfl)
theorem dX7_classOf_7 : decode cX7_classOf 7 = .ok (.istore 5, 2) := dw_54 (kcX7_classOf_0 7 54 rfl) (kcX7_classOf_0 8 5 rfl)
theorem dX7_classOf_9 : decode cX7_classOf 9 = .ok (.iload 5, 2) := dw_21 (kcX7_classOf_0 9 21 rfl) (kcX7_classOf_0 10 5 rfl)
theorem dX7_classOf_11 : decode cX7_classOf 11 = .ok (.aload_n 0, 1) := dw_42 (kcX7_classOf_0 11 42 rfl)
theorem dX7_classOf_12 : decode cX7_classOf 12 = .ok (.getfield 44, 3) := dw_180 (kcX7_classOf_0 12 180 rfl) (kcX7_classOf_0 13 0 rfl) (kcX7_classOf_0 14 44 rfl) rfl
theorem dX7_classOf_15 : decode cX7_classOf 15 = .ok (.iload_n 1, 1) := dw_27 (kcX7_classOf_0 15 27 rfl)
theorem dX7_classOf_16 : decode cX7_classOf 16 = .ok (.iaload, 1) := dw_46 (kcX7_classOf_0 16 46 rfl)
theorem dX7_classOf_17 : decode cX7_classOf 17 = .ok (.if_icmp .ge 72, 3) := dw_162 (kcX7_classOf_0 17 162 rfl) (kcX7_classOf_0 18 0 rfl) (kcX7_classOf_0 19 72 rfl) rfl
theorem dX7_classOf_20 : decode cX7_classOf 20 = .ok (.aload_n 0, 1) := dw_42 (kcX7_classOf_0 20 42 rfl)
theorem dX7_classOf_21 : decode cX7_classOf 21 = .ok (.getfield 47, 3) := dw_180 (kcX7_classOf_0 21 180 rfl) (kcX7_classOf_0 22 0 rfl) (kcX7_classOf_0 23 47 rfl) rfl
theorem dX7_classOf_24 : decode cX7_classOf 24 = .ok (.bipush 12, 2) := dw_16 (kcX7_classOf_0 24 16 rfl) (kcX7_classOf_0 25 12 rfl) rfl
theorem dX7_classOf_26 : decode cX7_classOf 26 = .ok (.iload_n 1, 1) := dw_27 (kcX7_classOf_0 26 27 rfl)
theorem dX7_classOf_27 : decode cX7_classOf 27 = .ok (.imul, 1) := dw_104 (kcX7_classOf_0 27 104 rfl)
theorem dX7_classOf_28 : decode cX7_classOf 28 = .ok (.iload 5, 2) := dw_21 (kcX7_classOf_0 28 21 rfl) (kcX7_classOf_0 29 5 rfl)
theorem dX7_classOf_30 : decode cX7_classOf 30 = .ok (.iadd, 1) := dw_96 (kcX7_classOf_0 30 96 rfl)
theorem dX7_classOf_31 : decode cX7_classOf 31 = .ok (.iaload, 1) := dw_46 (kcX7_classOf_0 31 46 rfl)
theorem dX7_classOf_32 : decode cX7_classOf 32 = .ok (.istore 6, 2) := dw_54 (kcX7_classOf_0 32 54 rfl) (kcX7_classOf_0 33 6 rfl)
theorem dX7_classOf_34 : decode cX7_classOf 34 = .ok (.aload_n 0, 1) := dw_42 (kcX7_classOf_0 34 42 rfl)
theorem dX7_classOf_35 : decode cX7_classOf 35 = .ok (.getfield 50, 3) := dw_180 (kcX7_classOf_0 35 180 rfl) (kcX7_classOf_0 36 0 rfl) (kcX7_classOf_0 37 50 rfl) rfl
theorem dX7_classOf_38 : decode cX7_classOf 38 = .ok (.bipush 12, 2) := dw_16 (kcX7_classOf_0 38 16 rfl) (kcX7_classOf_0 39 12 rfl) rfl
theorem dX7_classOf_40 : decode cX7_classOf 40 = .ok (.iload_n 1, 1) := dw_27 (kcX7_classOf_0 40 27 rfl)
theorem dX7_classOf_41 : decode cX7_classOf 41 = .ok (.imul, 1) := dw_104 (kcX7_classOf_0 41 104 rfl)
theorem dX7_classOf_42 : decode cX7_classOf 42 = .ok (.iload 5, 2) := dw_21 (kcX7_classOf_0 42 21 rfl) (kcX7_classOf_0 43 5 rfl)
theorem dX7_classOf_44 : decode cX7_classOf 44 = .ok (.iadd, 1) := dw_96 (kcX7_classOf_0 44 96 rfl)
theorem dX7_classOf_45 : decode cX7_classOf 45 = .ok (.iaload, 1) := dw_46 (kcX7_classOf_0 45 46 rfl)
theorem dX7_classOf_46 : decode cX7_classOf 46 = .ok (.istore 7, 2) := dw_54 (kcX7_classOf_0 46 54 rfl) (kcX7_classOf_0 47 7 rfl)
theorem dX7_classOf_48 : decode cX7_classOf 48 = .ok (.iload 6, 2) := dw_21 (kcX7_classOf_0 48 21 rfl) (kcX7_classOf_0 49 6 rfl)
theorem dX7_classOf_50 : decode cX7_classOf 50 = .ok (.iload_n 2, 1) := dw_28 (kcX7_classOf_0 50 28 rfl)
theorem dX7_classOf_51 : decode cX7_classOf 51 = .ok (.if_icmp .gt 32, 3) := dw_163 (kcX7_classOf_0 51 163 rfl) (kcX7_classOf_0 52 0 rfl) (kcX7_classOf_0 53 32 rfl) rfl
theorem kcX7_classOf_1 : CHb cX7_classOf 64 [100, 21, 4, 161, 0, 6, 167, 0, 13, 21, 5, 62, 21, 7, 21, 6, 100, 54, 4, 132, 5, 1, 167, 255, 179, 29, 172] := CHb_of (by decide +kernel)
theorem dX7_classOf_83 : decode cX7_classOf 83 = .ok (.iinc 5 1, 3) := dw_132 (kcX7_classOf_1 19 132 rfl) (kcX7_classOf_1 20 5 rfl) (kcX7_classOf_1 21 1 rfl) rfl
theorem dX7_classOf_86 : decode cX7_classOf 86 = .ok (.goto (-77), 3) := dw_167 (kcX7_classOf_1 22 167 rfl) (kcX7_classOf_1 23 255 rfl) (kcX7_classOf_1 24 179 rfl) rfl
theorem dX7_classOf_54 : decode cX7_classOf 54 = .ok (.iload 7, 2) := dw_21 (kcX7_classOf_0 54 21 rfl) (kcX7_classOf_0 55 7 rfl)
theorem dX7_classOf_56 : decode cX7_classOf 56 = .ok (.iload_n 2, 1) := dw_28 (kcX7_classOf_0 56 28 rfl)
theorem dX7_classOf_57 : decode cX7_classOf 57 = .ok (.if_icmp .lt 26, 3) := dw_161 (kcX7_classOf_0 57 161 rfl) (kcX7_classOf_0 58 0 rfl) (kcX7_classOf_0 59 26 rfl) rfl
theorem dX7_classOf_60 : decode cX7_classOf 60 = .ok (.iload 7, 2) := dw_21 (kcX7_classOf_0 60 21 rfl) (kcX7_classOf_0 61 7 rfl)
theorem dX7_classOf_62 : decode cX7_classOf 62 = .ok (.iload 6, 2) := dw_21 (kcX7_classOf_0 62 21 rfl) (kcX7_classOf_0 63 6 rfl)
theorem dX7_classOf_64 : decode cX7_classOf 64 = .ok (.isub, 1) := dw_100 (kcX7_classOf_1 0 100 rfl)
theorem dX7_classOf_65 : decode cX7_classOf 65 = .ok (.iload 4, 2) := dw_21 (kcX7_classOf_1 1 21 rfl) (kcX7_classOf_1 2 4 rfl)
theorem dX7_classOf_67 : decode cX7_classOf 67 = .ok (.if_icmp .lt 6, 3) := dw_161 (kcX7_classOf_1 3 161 rfl) (kcX7_classOf_1 4 0 rfl) (kcX7_classOf_1 5 6 rfl) rfl
theorem dX7_classOf_73 : decode cX7_classOf 73 = .ok (.iload 5, 2) := dw_21 (kcX7_classOf_1 9 21 rfl) (kcX7_classOf_1 10 5 rfl)
theorem dX7_classOf_75 : decode cX7_classOf 75 = .ok (.istore_n 3, 1) := dw_62 (kcX7_classOf_1 11 62 rfl)
theorem dX7_classOf_76 : decode cX7_classOf 76 = .ok (.iload 7, 2) := dw_21 (kcX7_classOf_1 12 21 rfl) (kcX7_classOf_1 13 7 rfl)
theorem dX7_classOf_78 : decode cX7_classOf 78 = .ok (.iload 6, 2) := dw_21 (kcX7_classOf_1 14 21 rfl) (kcX7_classOf_1 15 6 rfl)
theorem dX7_classOf_80 : decode cX7_classOf 80 = .ok (.isub, 1) := dw_100 (kcX7_classOf_1 16 100 rfl)
theorem dX7_classOf_81 : decode cX7_classOf 81 = .ok (.istore 4, 2) := dw_54 (kcX7_classOf_1 17 54 rfl) (kcX7_classOf_1 18 4 rfl)
theorem dX7_classOf_70 : decode cX7_classOf 70 = .ok (.goto 13, 3) := dw_167 (kcX7_classOf_1 6 167 rfl) (kcX7_classOf_1 7 0 rfl) (kcX7_classOf_1 8 13 rfl) rfl
theorem dX7_classOf_89 : decode cX7_classOf 89 = .ok (.iload_n 3, 1) := dw_29 (kcX7_classOf_1 25 29 rfl)
theorem dX7_classOf_90 : decode cX7_classOf 90 = .ok (.ireturn, 1) := dw_172 (kcX7_classOf_1 26 172 rfl)
theorem nOK_0 {n m t : Nat} {x : Nat → Int32} (h : nOK n m x) : nOK n m (upd x t 0) := nOK_u (k := 0) h (Nat.zero_le _)
theorem le_12 {x : Int32} (h1 : ¬ x < 1) (h2 : ¬ 12 < x) : ∃ k, k ≤ 12 ∧ x = nI k := by
  rcases pk_ix x (n := 13) (by decide) with h | h | ⟨j, hj, rfl⟩
  · exact absurd (Int32.lt_trans h (by decide : (0 : Int32) < 1)) h1
  · exact absurd (Int32.lt_of_lt_of_le (by decide : (12 : Int32) < nI 13) h) h2
  · exact ⟨j, by omega, rfl⟩
theorem le_n {x y : Int32} (h : x ≤ y) : ¬ y < x := Int32.not_lt.mpr h
theorem n_le {x y : Int32} (h : ¬ x ≤ y) : y < x := Int32.not_le.mp h
def opC (op : Nat → Int32) (t ra ca : Int32) (j : Nat) : Prop := j < 6 ∧ t = nI j ∧ op j = 0 ∧ ¬ ra < 1 ∧ ¬ 12 < ra ∧ ¬ ca < 1 ∧ ¬ 12 < ca
def opA (op op2 : Nat → Int32) (t ra ca q : Int32) : Prop := (q = 1 ∧ ∃ j, opC op t ra ca j ∧ op2 = upd op j 1) ∨ (q = 0 ∧ (¬ ∃ j, opC op t ra ca j) ∧ op2 = op)
def clA (op op2 : Nat → Int32) (t q : Int32) : Prop := (q = 1 ∧ ∃ j, j < 6 ∧ t = nI j ∧ ¬ op j = 0 ∧ op2 = upd op j 0) ∨ (q = 0 ∧ ¬ opn op t ∧ op2 = op)
theorem nI_le_n {x : Int32} {n : Nat} (hn : n < 2147483647) (h1 : ¬ x < 0) (h2 : ¬ nI n < x) : ∃ k, k ≤ n ∧ x = nI k := by
  obtain ⟨k, hk, rfl⟩ := nI_of h1
  exact ⟨k, Nat.not_lt.mp (fun q => h2 (nI_lt q hk)), rfl⟩
def ruX (j : Nat) : Int32 := match j with | 0 => 100 | 1 => 6 | 2 => 100 | 3 => 1000000 | 4 => 1000000 | _ => 1
def mostW (wh : Int32) : Int32 := if wh = 0 ∨ wh = 2 then 100 else if wh = 1 then 6 else if wh = 5 then 1 else 1000000
theorem ruX_most {n : Nat} {wh : Int32} (hn : n < 6) (e : wh = nI n) : ruX n = mostW wh := by
  subst e
  rcases (show n = 0 ∨ n = 1 ∨ n = 2 ∨ n = 3 ∨ n = 4 ∨ n = 5 by omega) with rfl | rfl | rfl | rfl | rfl | rfl <;> decide
def only (p : Nat) (v : Int32) (a b : Nat → Int32) : Prop := b p = v ∧ ∀ q, q ≠ p → b q = a q
theorem only_u {p : Nat} {v : Int32} {a : Nat → Int32} : only p v a (upd a p v) := ⟨pk_us, fun _ h => pk_un h⟩
theorem only_2 {p : Nat} {v w : Int32} {a b : Nat → Int32} (h : only p w a b) : only p v a (upd b p v) := ⟨pk_us, fun q hq => (pk_un hq).trans (h.2 q hq)⟩
def rv (s n : Nat) (v : Int32) (a b : Nat → Int32) : Prop := ∀ p, (s ≤ p ∧ p < s + n → b p = v) ∧ (¬ (s ≤ p ∧ p < s + n) → b p = a p)
theorem rv_0 {s : Nat} {v : Int32} {a : Nat → Int32} : rv s 0 v a a := fun p => ⟨fun h => absurd h (by omega), fun _ => rfl⟩
theorem rv_s {s n : Nat} {v : Int32} {a b c : Nat → Int32} (h : rv s n v a b) (g : only (s + n) v b c) : rv s (n + 1) v a c := fun p => by
  by_cases e : p = s + n
  · subst e; exact ⟨fun _ => g.1, fun z => absurd ⟨by omega, by omega⟩ z⟩
  · rw [g.2 p e]; exact ⟨fun z => (h p).1 ⟨z.1, by omega⟩, fun z => (h p).2 (fun y => z ⟨y.1, by omega⟩)⟩
theorem plQ_u {rw cl row col q q2 : Int32} {pl : Nat → Int32} (h : plQ rw cl pl row col q) (g : plQ rw cl pl row col q2) : q = q2 := by
  rcases h with ⟨rfl, a⟩ | ⟨a, b, ⟨rfl, c⟩ | ⟨rfl, c, d⟩ | ⟨rfl, c, d⟩⟩ <;> rcases g with ⟨rfl, a2⟩ | ⟨a2, b2, ⟨rfl, c2⟩ | ⟨rfl, c2, d2⟩ | ⟨rfl, c2, d2⟩⟩ <;> first | rfl | exact absurd ⟨a2, b2⟩ a | exact absurd ⟨a, b⟩ a2 | exact absurd c c2 | exact absurd c2 c | exact absurd d d2 | exact absurd d2 d
theorem pl_le0 {op rs cs pl : Nat → Int32} {t row col q : Int32} (h1 : nOK 6 12 rs) (h2 : nOK 6 12 cs) (h : plS op rs cs pl t row col q) (hq : q ≤ 0) : plS op rs cs pl t row col 0 := by
  have e : q = 0 := ((wS_of h1 h2 h).resolve_left (npos_of_le hq)).1
  subst e; exact h
theorem le_of_0 {x : Int32} (h : x = 0) : x ≤ 0 := by subst h; decide
theorem nlt_0 {x : Int32} (h : x = 0) : ¬ x < 0 := by subst h; decide
def tol (kd nm : Int32) : Prop := (kd = 0 ∧ ¬ nm < 1 ∧ ¬ 99 < nm) ∨ ((kd = 1 ∨ kd = 3) ∧ ¬ nm < 0 ∧ ¬ 1000000 < nm) ∨ ((kd = 2 ∨ kd = 4) ∧ nm = 0)
theorem tol_ge {kd nm : Int32} (h : tol kd nm) : ¬ kd < 0 := by
  rcases h with ⟨e, _⟩ | ⟨e | e, _⟩ | ⟨e | e, _⟩ <;> rw [e] <;> decide
theorem tol_le {kd nm : Int32} (h : tol kd nm) : kd ≤ 4 := by
  rcases h with ⟨e, _⟩ | ⟨e | e, _⟩ | ⟨e | e, _⟩ <;> rw [e] <;> decide
theorem tol_0 {kd nm : Int32} (e : kd = 0) (h : tol kd nm) : ¬ nm < 1 ∧ ¬ 99 < nm := by
  rcases h with ⟨_, h⟩ | ⟨e2 | e2, _⟩ | ⟨e2 | e2, _⟩
  · exact h
  all_goals exact absurd (e.symm.trans e2) (by decide)
theorem tol_13 {kd nm : Int32} (e : kd = 1 ∨ kd = 3) (h : tol kd nm) : ¬ nm < 0 ∧ ¬ 1000000 < nm := by
  rcases h with ⟨e2, _⟩ | ⟨_, h⟩ | ⟨e2 | e2, _⟩
  · rcases e with e | e <;> exact absurd (e.symm.trans e2) (by decide)
  · exact h
  all_goals rcases e with e | e <;> exact absurd (e.symm.trans e2) (by decide)
theorem tol_e {kd nm : Int32} (h0 : ¬ kd = 0) (h1 : ¬ kd = 1) (h3 : ¬ kd = 3) (h : tol kd nm) : nm = 0 := by
  rcases h with ⟨e2, _⟩ | ⟨e2 | e2, _⟩ | ⟨_, h⟩
  · exact absurd e2 h0
  · exact absurd e2 h1
  · exact absurd e2 h3
  · exact h
theorem tol_m {kd nm : Int32} (a : ¬ kd < 0) (b : kd ≤ 4) (h0 : ¬ kd = 0) (h1 : ¬ kd = 1) (h3 : ¬ kd = 3) (c : ¬ nm < 0) (d : nm ≤ 0) : tol kd nm := by
  obtain ⟨n, hn, rfl⟩ := nI_le_n (n := 4) (by decide) a (le_n b)
  refine Or.inr (Or.inr ⟨?_, Int32.le_antisymm d (Int32.not_lt.mp c)⟩)
  rcases (show n = 0 ∨ n = 1 ∨ n = 2 ∨ n = 3 ∨ n = 4 by omega) with rfl | rfl | rfl | rfl | rfl
  · exact absurd rfl h0
  · exact absurd rfl h1
  · exact Or.inl rfl
  · exact absurd rfl h3
  · exact Or.inr rfl
def opR (tb ra ca q : Int32) (a2 a3 a11 b2 b3 b11 : Nat → Int32) : Prop := (q = 0 ∧ b2 = a2 ∧ b3 = a3 ∧ b11 = a11) ∨ (q = 1 ∧ ∃ t, t < 6 ∧ tb = nI t ∧ b2 = upd a2 t ra ∧ b3 = upd a3 t ca ∧ rv (12 * t) 12 ca a11 b11)
def tkM (op rs pl : Nat → Int32) (tb row pn : Int32) (t i : Nat) : Prop := t < 6 ∧ i < 12 ∧ tb = nI t ∧ row = nI i ∧ ¬ op t = 0 ∧ inR (rs t) row ∧ ¬ pl (12 * t + i) = 0 ∧ ¬ pl (12 * t + i) < pn ∧ ¬ pn < 0
def teM (op rs pl : Nat → Int32) (tb row pn q : Int32) (b11 : Nat → Int32) : Prop := (q = 1 ∧ ∃ t i, tkM op rs pl tb row pn t i ∧ b11 = upd pl (12 * t + i) pn) ∨ (q = 0 ∧ (¬ ∃ t i, tkM op rs pl tb row pn t i) ∧ b11 = pl)
def ruC (P : Prop) (wh nm : Int32) : Prop := P ∧ ∃ n, n < 6 ∧ wh = nI n ∧ ¬ nm < 0 ∧ ¬ ruX n < nm
def ruB (P : Prop) (wh nm q : Int32) : Prop := (q = 1 ∧ ruC P wh nm) ∨ (q = 0 ∧ ¬ ruC P wh nm)
theorem ru_same {P P2 : Prop} {wh nm q q2 : Int32} (hp : P ↔ P2) (h : ruB P wh nm q) (h2 : ruB P2 wh nm q2) : q = q2 := by
  have e : P = P2 := propext hp
  subst e
  rcases h with ⟨a, b⟩ | ⟨a, b⟩ <;> rcases h2 with ⟨c, d⟩ | ⟨c, d⟩
  · rw [a, c]
  · exact absurd b d
  · exact absurd d b
  · rw [a, c]
def sv (C A B : Prop) : Prop := (C ∧ A) ∨ (¬ C ∧ B)
def atM (op rs cs pl : Nat → Int32) (tb row col : Int32) (B : Nat → Nat → Nat → Prop) (N : Prop) : Prop := (∃ z, ¬ z = 0 ∧ plS op rs cs pl tb row col z ∧ N) ∨ (plS op rs cs pl tb row col 0 ∧ ∃ t i k, t < 6 ∧ i < 12 ∧ k < 12 ∧ tb = nI t ∧ row = nI i ∧ col = nI k ∧ B t i k)
def kf1 (x : Int32) : Int32 := if x = 0 then 5 else 0
def kf2 (x : Int32) : Int32 := if x = 0 then 5 else if x = 5 then 6 else 0
def kf3 (x : Int32) : Int32 := if x = 0 then 5 else if x = 5 then 6 else if x = 4 then 6 else 0
def kf4 (x : Int32) : Int32 := if x = 0 then 5 else if x = 2 then 0 else 6
def gdK (x : Int32) : Prop := ¬ x = 0 ∧ ¬ x = 5 ∧ ¬ x = 4
theorem kf3_i {x : Int32} (h : kf3 x = 0) : gdK x := by
  unfold kf3 at h
  by_cases a : x = 0
  · rw [if_pos a] at h; exact absurd h (by decide)
  rw [if_neg a] at h
  by_cases b : x = 5
  · rw [if_pos b] at h; exact absurd h (by decide)
  rw [if_neg b] at h
  by_cases c : x = 4
  · rw [if_pos c] at h; exact absurd h (by decide)
  exact ⟨a, b, c⟩
theorem kf3_g {x : Int32} (h : gdK x) : kf3 x = 0 := by unfold kf3; rw [if_neg h.1, if_neg h.2.1, if_neg h.2.2]
theorem kf4_i {x : Int32} (h : kf4 x = 0) : x = 2 := by
  unfold kf4 at h
  by_cases a : x = 0
  · rw [if_pos a] at h; exact absurd h (by decide)
  rw [if_neg a] at h
  by_cases b : x = 2
  · exact b
  · rw [if_neg b] at h; exact absurd h (by decide)
theorem kf4_g {x : Int32} (h : x = 2) : kf4 x = 0 := by subst h; decide
theorem kf1_i {x : Int32} (h : kf1 x = 0) : ¬ x = 0 := fun a => by
  unfold kf1 at h; rw [if_pos a] at h; exact absurd h (by decide)
theorem kf1_g {x : Int32} (h : ¬ x = 0) : kf1 x = 0 := if_neg h
theorem kf3_0 {x : Int32} (h : x = 0) : kf3 x = 5 := if_pos h
theorem kf3_5 {x : Int32} (a : ¬ x = 0) (h : x = 5) : kf3 x = 6 := by unfold kf3; rw [if_neg a, if_pos h]
theorem kf3_4 {x : Int32} (a : ¬ x = 0) (b : ¬ x = 5) (h : x = 4) : kf3 x = 6 := by unfold kf3; rw [if_neg a, if_neg b, if_pos h]
theorem kf4_0 {x : Int32} (h : x = 0) : kf4 x = 5 := if_pos h
theorem kf4_6 {x : Int32} (a : ¬ x = 0) (h : ¬ x = 2) : kf4 x = 6 := by unfold kf4; rw [if_neg a, if_neg h]
theorem kf3_p (x : Int32) : ¬ kf3 x < 0 := by
  unfold kf3; split
  · decide
  split
  · decide
  split <;> decide
theorem kf4_p (x : Int32) : ¬ kf4 x < 0 := by
  unfold kf4; split
  · decide
  split <;> decide
def stM (op rs cs pl : Nat → Int32) (tb row col : Int32) (K : Nat → Nat → Nat → Int32) (q : Int32) : Prop := (¬ q = 0 ∧ plS op rs cs pl tb row col q) ∨ (plS op rs cs pl tb row col 0 ∧ ∃ t i k, t < 6 ∧ i < 12 ∧ k < 12 ∧ tb = nI t ∧ row = nI i ∧ col = nI k ∧ q = K t i k)
theorem stM_0 {op rs cs pl : Nat → Int32} {tb row col q : Int32} {K : Nat → Nat → Nat → Int32} (h1 : nOK 6 12 rs) (h2 : nOK 6 12 cs) (hn : ∀ t i k, ¬ K t i k < 0) (h : stM op rs cs pl tb row col K q) (hq : q ≤ 0) : plS op rs cs pl tb row col 0 ∧ ∃ t i k, t < 6 ∧ i < 12 ∧ k < 12 ∧ tb = nI t ∧ row = nI i ∧ col = nI k ∧ K t i k = 0 := by
  rcases h with ⟨a, b⟩ | ⟨a, t, i, k, ht, hi, hk, e1, e2, e3, e4⟩
  · exact absurd (((wS_of h1 h2 b).resolve_left (npos_of_le hq)).1) a
  · exact ⟨a, t, i, k, ht, hi, hk, e1, e2, e3, Int32.le_antisymm (e4 ▸ hq) (Int32.not_lt.mp (hn t i k))⟩
theorem stM_w {op rs cs pl : Nat → Int32} {tb row col q : Int32} {K : Nat → Nat → Nat → Int32} (h1 : nOK 6 12 rs) (h2 : nOK 6 12 cs) (hn : ∀ t i k, ¬ K t i k < 0) (h : stM op rs cs pl tb row col K q) : wS rs cs tb row col q := by
  by_cases hq : q ≤ 0
  · have e : q = 0 := by
      rcases h with ⟨a, b⟩ | ⟨a, t, i, k, ht, hi, hk, e1, e2, e3, e4⟩
      · exact absurd (((wS_of h1 h2 b).resolve_left (npos_of_le hq)).1) a
      · exact Int32.le_antisymm hq (Int32.not_lt.mp (e4 ▸ hn t i k))
    exact Or.inr ⟨e, wS_ok (wS_of h1 h2 (stM_0 h1 h2 hn h hq).1) (by decide)⟩
  · exact Or.inl (Int32.not_le.mp hq)
theorem stM_k {op rs cs pl : Nat → Int32} {tb row col q : Int32} {t i k : Nat} {K : Nat → Nat → Nat → Int32} (h1 : nOK 6 12 rs) (h2 : nOK 6 12 cs) (hn : ∀ t i k, ¬ K t i k < 0) (h : stM op rs cs pl tb row col K q) (hq : q ≤ 0) (ht : t < 6) (hi : i < 12) (hk : k < 12) (e1 : tb = nI t) (e2 : row = nI i) (e3 : col = nI k) : K t i k = 0 := by
  obtain ⟨_, t2, i2, k2, ht2, hi2, hk2, g1, g2, g3, g4⟩ := stM_0 h1 h2 hn h hq
  have a := (nI_eq (by omega) (by omega)).mp (e1.symm.trans g1)
  have b := (nI_eq (by omega) (by omega)).mp (e2.symm.trans g2)
  have c := (nI_eq (by omega) (by omega)).mp (e3.symm.trans g3)
  subst a; subst b; subst c; exact g4
theorem atM_n {op rs cs pl : Nat → Int32} {tb row col q : Int32} {K : Nat → Nat → Nat → Int32} {B : Nat → Nat → Nat → Prop} {N : Prop} (h : stM op rs cs pl tb row col K q) (hq : ¬ q ≤ 0) (hN : N) (hB : ∀ t i k, ¬ K t i k = 0 → B t i k) : atM op rs cs pl tb row col B N := by
  rcases h with ⟨a, b⟩ | ⟨a, t, i, k, ht, hi, hk, e1, e2, e3, e4⟩
  · exact Or.inl ⟨q, a, b, hN⟩
  · exact Or.inr ⟨a, t, i, k, ht, hi, hk, e1, e2, e3, hB t i k (fun z => hq (le_of_0 (e4.trans z)))⟩
theorem only_v {p : Nat} {v w : Int32} {a b : Nat → Int32} (e : w = v) (h : only p v a b) : only p w a b := by subst e; exact h
def mkK (kd : Int32) : Int32 := if kd = 0 then 5 else kd
theorem mkK_0 {kd : Int32} (h : kd = 0) : mkK kd = 5 := if_pos h
theorem mkK_n {kd : Int32} (h : ¬ kd = 0) : mkK kd = kd := if_neg h
def puM (pa : Nat) (kd nm : Int32) (a5 a6 a7 a9 b5 b6 b7 b9 : Nat → Int32) : Prop := only pa kd a5 b5 ∧ only pa nm a6 b6 ∧ only pa 0 a7 b7 ∧ only pa 0 a9 b9
def sm4 (a5 a6 a7 a9 b5 b6 b7 b9 : Nat → Int32) : Prop := b5 = a5 ∧ b6 = a6 ∧ b7 = a7 ∧ b9 = a9
def gvM (pa : Nat) (pt : Int32) (a6 a7 a8 b6 b7 b8 : Nat → Int32) : Prop := ∃ gm, gm < 6 ∧ a7 pa = nI gm ∧ only (6 * pa + gm) pt a8 b8 ∧ only pa (nI (gm + 1)) a7 b7 ∧ only pa (a6 pa + pt) a6 b6
def ru6 (t : Nat) (a : Nat → Int32) : Nat → Int32 := upd (upd (upd (upd (upd (upd a (6 * t) 3) (6 * t + 1) 2) (6 * t + 2) 10) (6 * t + 3) 1) (6 * t + 4) 1) (6 * t + 5) 0
def opR2 (tb q : Int32) (a4 a5 a6 a7 a9 a12 b4 b5 b6 b7 b9 b12 : Nat → Int32) : Prop := (q = 0 ∧ b4 = a4 ∧ b5 = a5 ∧ b6 = a6 ∧ b7 = a7 ∧ b9 = a9 ∧ b12 = a12) ∨ (q = 1 ∧ ∃ t, t < 6 ∧ tb = nI t ∧ b4 = ru6 t a4 ∧ rv (144 * t) 144 0 a5 b5 ∧ rv (144 * t) 144 0 a6 b6 ∧ rv (144 * t) 144 0 a7 b7 ∧ rv (144 * t) 144 0 a9 b9 ∧ b12 = upd a12 t 0)
def ruR (tb wh nm q : Int32) (a4 b4 : Nat → Int32) : Prop := (q = 0 ∧ b4 = a4) ∨ (q = 1 ∧ ∃ t n, t < 6 ∧ n < 6 ∧ tb = nI t ∧ wh = nI n ∧ b4 = upd a4 (6 * t + n) nm)
def okN (f0 l0 fi la : Int32) : Prop := ¬ (f0 = fi ∧ l0 = la) ∧ ((l0 < fi ∨ la < f0) ∨ ((f0 ≤ fi ∧ la ≤ l0) ∨ (fi ≤ f0 ∧ l0 ≤ la)))
def okM (bf bl : Nat → Int32) (fi la : Int32) (t n : Nat) : Prop := ∀ k, k < n → okN (bf (12 * t + k)) (bl (12 * t + k)) fi la
theorem okM_s {bf bl : Nat → Int32} {fi la f0 l0 : Int32} {t j : Nat} (h : okM bf bl fi la t j) (e1 : f0 = bf (12 * t + j)) (e2 : l0 = bl (12 * t + j)) (h1 : ¬ (f0 = fi ∧ l0 = la)) (h2 : (l0 < fi ∨ la < f0) ∨ ((f0 ≤ fi ∧ la ≤ l0) ∨ (fi ≤ f0 ∧ l0 ≤ la))) : okM bf bl fi la t (j + 1) := fun k hk => by
  rcases Nat.lt_or_ge k j with c | c
  · exact h k c
  · obtain rfl : k = j := by omega
    rw [← e1, ← e2]; exact ⟨h1, h2⟩
theorem okM_n {bf bl : Nat → Int32} {fi la f0 l0 : Int32} {t j n : Nat} (h : okM bf bl fi la t n) (hj : j < n) (e1 : f0 = bf (12 * t + j)) (e2 : l0 = bl (12 * t + j)) : okN f0 l0 fi la := by rw [e1, e2]; exact h j hj
def blD (op rs bm bf bl : Nat → Int32) (tb fi la : Int32) (t n : Nat) : Prop := t < 6 ∧ n < 12 ∧ tb = nI t ∧ ¬ op t = 0 ∧ bm t = nI n ∧ inR (rs t) fi ∧ inR (rs t) la ∧ ¬ la < fi ∧ okM bf bl fi la t n
def blM (op rs bm bf bl : Nat → Int32) (tb fi la q : Int32) (bm2 bf2 bl2 : Nat → Int32) : Prop := (∃ t n, blD op rs bm bf bl tb fi la t n ∧ q = nI (n + 1) ∧ bm2 = upd bm t (nI (n + 1)) ∧ bf2 = upd bf (12 * t + n) fi ∧ bl2 = upd bl (12 * t + n) la) ∨ ((¬ ∃ t n, blD op rs bm bf bl tb fi la t n) ∧ q = -1 ∧ bm2 = bm ∧ bf2 = bf ∧ bl2 = bl)
def outR (s e : Nat) (a b : Nat → Int32) : Prop := ∀ p, ¬ (s ≤ p ∧ p < e) → b p = a p
theorem outR_0 {s e : Nat} {a : Nat → Int32} : outR s e a a := fun _ _ => rfl
theorem outR_s {s e p : Nat} {v : Int32} {a b c : Nat → Int32} (h : outR s e a b) (g : only p v b c) (h1 : s ≤ p) (h2 : p < e) : outR s e a c := fun n hn => (g.2 n (fun z => hn (by omega))).trans (h n hn)
def teR (tb row pn q : Int32) (a5 a6 a7 a9 b5 b6 b7 b9 : Nat → Int32) : Prop := (q = 0 ∧ sm4 a5 a6 a7 a9 b5 b6 b7 b9) ∨ (q = 1 ∧ ∃ t i k, t < 6 ∧ i < 12 ∧ tb = nI t ∧ row = nI i ∧ pn = nI k ∧ outR (144 * t + 12 * i + k) (144 * t + 12 * i + 12) a5 b5 ∧ outR (144 * t + 12 * i + k) (144 * t + 12 * i + 12) a6 b6 ∧ outR (144 * t + 12 * i + k) (144 * t + 12 * i + 12) a7 b7 ∧ outR (144 * t + 12 * i + k) (144 * t + 12 * i + 12) a9 b9)
set_option maxHeartbeats 4000000 in
set_option maxRecDepth 100000 in
theorem m_X7_empty (l : Launch) (G : GG) (y : Nat) (b : Nat → Nat) (f : Nat → Int32) (r : Nat → Nat → Int32) (pa : Nat) (hp : pa < 864) (hG : nOK 864 6 (r 7)) : WrV l yX7_empty cX7_empty 2 ({ frames := 0, cells := 0, slots := 0, locals := 0 }) G (mM G y b f r) [.ref y, .int (nI pa)] (fun w => ∃ (n_r_5 : Nat → Int32) (n_r_6 : Nat → Int32) (n_r_7 : Nat → Int32) (n_r_9 : Nat → Int32) (n_r_10 : Nat → Int32), w = mM G y b f (up2 (up2 (up2 (up2 (up2 r 5 n_r_5) 6 n_r_6) 7 n_r_7) 9 n_r_9) 10 n_r_10) ∧ (nOK 864 6 n_r_7) ∧ (only pa 0 (r 5) n_r_5) ∧ (only pa 0 (r 6) n_r_6) ∧ (only pa 0 (r 7) n_r_7) ∧ (only pa 0 (r 9) n_r_9)) := by
  refine wr_entryV (by decide +kernel) (Nat.le_of_ble_eq_true rfl) ?_
  intro p e s m below meth c A C0 hP hK hD hA ls hl
  have hS : va_S A s.heap s.heap [] := va_S.rf
  obtain ⟨hx, hb, hml, hown, hts, hr, hlocks, hin⟩ := C0
  have hown : s.vm.findClass RX7 = some m.cls := hown
  have hDD : ∀ f' r', va_D A (mM G y b f' r') := fun f' r' => D_same hD rfl
  have hl : lv_has ls 2 [(0, .ref y), (1, .int (nI pa))] := hl
  refine lv_aload_n hx hb dX7_empty_0 rfl (lv_at hl 0 rfl) ?_
  refine va_get (D := G.1) (ci := 7) (v := .ref (b 5)) (C := RX7) (T := TX7) (N := 43) hx hb hts inX7 hown hK.1 hP 0 rfl rfl 5 (by decide) (hts _ mf_X7_23) (fun _ h9 => h9) rfl dX7_empty_1 ?_
  refine lv_iload_n hx hb dX7_empty_4 rfl (lv_at hl 1 rfl) ?_
  refine lv_iconst (v := 0) hx hb dX7_empty_5 (by decide) ?_
  refine xiast (f := (r 5)) (x := 0) hx hb hK hP (hDD _ _) hS 5 (pa) (rfl) (by omega) (by decide) rfl dX7_empty_6 (fun H locs hP _ hS => ?_)
  have hP : PP G (mM G y b f (up2 r 5 (upd (r 5) (pa) (0)))) H := hP
  refine lv_aload_n hx hb dX7_empty_7 rfl (lv_at hl 0 rfl) ?_
  refine va_get (D := G.1) (ci := 7) (v := .ref (b 6)) (C := RX7) (T := TX7) (N := 43) hx hb hts inX7 hown hK.1 hP 0 rfl rfl 6 (by decide) (hts _ mf_X7_26) (fun _ h9 => h9) rfl dX7_empty_8 ?_
  refine lv_iload_n hx hb dX7_empty_11 rfl (lv_at hl 1 rfl) ?_
  refine lv_iconst (v := 0) hx hb dX7_empty_12 (by decide) ?_
  refine xiast (f := (r 6)) (x := 0) hx hb hK hP (hDD _ _) hS 6 (pa) (rfl) (by omega) (by decide) rfl dX7_empty_13 (fun H locs hP _ hS => ?_)
  have hP : PP G (mM G y b f (up2 (up2 r 5 (upd (r 5) (pa) (0))) 6 (upd (r 6) (pa) (0)))) H := hP
  refine lv_aload_n hx hb dX7_empty_14 rfl (lv_at hl 0 rfl) ?_
  refine va_get (D := G.1) (ci := 7) (v := .ref (b 7)) (C := RX7) (T := TX7) (N := 43) hx hb hts inX7 hown hK.1 hP 0 rfl rfl 7 (by decide) (hts _ mf_X7_29) (fun _ h9 => h9) rfl dX7_empty_15 ?_
  refine lv_iload_n hx hb dX7_empty_18 rfl (lv_at hl 1 rfl) ?_
  refine lv_iconst (v := 0) hx hb dX7_empty_19 (by decide) ?_
  refine xiast (f := (r 7)) (x := 0) hx hb hK hP (hDD _ _) hS 7 (pa) (rfl) (by omega) (by decide) rfl dX7_empty_20 (fun H locs hP _ hS => ?_)
  have hP : PP G (mM G y b f (up2 (up2 (up2 r 5 (upd (r 5) (pa) (0))) 6 (upd (r 6) (pa) (0))) 7 (upd (r 7) (pa) (0)))) H := hP
  have hG : nOK 864 6 (upd (r 7) (pa) (0)) := nOK_0 hG
  refine lv_aload_n hx hb dX7_empty_21 rfl (lv_at hl 0 rfl) ?_
  refine va_get (D := G.1) (ci := 7) (v := .ref (b 9)) (C := RX7) (T := TX7) (N := 43) hx hb hts inX7 hown hK.1 hP 0 rfl rfl 9 (by decide) (hts _ mf_X7_35) (fun _ h9 => h9) rfl dX7_empty_22 ?_
  refine lv_iload_n hx hb dX7_empty_25 rfl (lv_at hl 1 rfl) ?_
  refine lv_iconst (v := 0) hx hb dX7_empty_26 (by decide) ?_
  refine xzast (f := (r 9)) (x := 0) hx hb hK hP (hDD _ _) hS 9 (pa) (rfl) (by omega) (by decide) (Or.inl rfl) rfl dX7_empty_27 (fun H locs hP _ hS => ?_)
  have hP : PP G (mM G y b f (up2 (up2 (up2 (up2 r 5 (upd (r 5) (pa) (0))) 6 (upd (r 6) (pa) (0))) 7 (upd (r 7) (pa) (0))) 9 (upd (r 9) (pa) (0)))) H := hP
  refine lv_aload_n hx hb dX7_empty_28 rfl (lv_at hl 0 rfl) ?_
  refine va_get (D := G.1) (ci := 7) (v := .ref (b 10)) (C := RX7) (T := TX7) (N := 43) hx hb hts inX7 hown hK.1 hP 0 rfl rfl 10 (by decide) (hts _ mf_X7_38) (fun _ h9 => h9) rfl dX7_empty_29 ?_
  refine lv_iload_n hx hb dX7_empty_32 rfl (lv_at hl 1 rfl) ?_
  refine lv_iconst (v := 0) hx hb dX7_empty_33 (by decide) ?_
  refine xzast (f := (r 10)) (x := 0) hx hb hK hP (hDD _ _) hS 10 (pa) (rfl) (by omega) (by decide) (Or.inl rfl) rfl dX7_empty_34 (fun H locs hP _ hS => ?_)
  have hP : PP G (mM G y b f (up2 (up2 (up2 (up2 (up2 r 5 (upd (r 5) (pa) (0))) 6 (upd (r 6) (pa) (0))) 7 (upd (r 7) (pa) (0))) 9 (upd (r 9) (pa) (0))) 10 (upd (r 10) (pa) (0)))) H := hP
  exact wr_vret hx hb hr hlocks hS hP ⟨(upd (r 5) (pa) (0)), (upd (r 6) (pa) (0)), (upd (r 7) (pa) (0)), (upd (r 9) (pa) (0)), (upd (r 10) (pa) (0)), rfl, hG, only_u, only_u, only_u, only_u⟩ dX7_empty_35
set_option maxHeartbeats 4000000 in
set_option maxRecDepth 100000 in
theorem m_X7_open (l : Launch) (G : GG) (y : Nat) (b : Nat → Nat) (f : Nat → Int32) (r : Nat → Nat → Int32) (tb : Int32) (ra : Int32) (ca : Int32) (hM2 : nOK 6 12 (r 2)) (hM3 : nOK 6 12 (r 3)) (hM12 : nOK 6 12 (r 12)) (hG : nOK 864 6 (r 7)) : WrI l yX7_open cX7_open 5 (some .boolean) ({ frames := 1, cells := 0, slots := 0, locals := 21 }) G (mM G y b f r) [.ref y, .int tb, .int ra, .int ca] (fun q w => ∃ (n_f_0 : Int32) (n_r_1 : Nat → Int32) (n_r_2 : Nat → Int32) (n_r_3 : Nat → Int32) (n_r_4 : Nat → Int32) (n_r_5 : Nat → Int32) (n_r_6 : Nat → Int32) (n_r_7 : Nat → Int32) (n_r_9 : Nat → Int32) (n_r_10 : Nat → Int32) (n_r_11 : Nat → Int32) (n_r_12 : Nat → Int32), w = mM G y b (upd f 0 n_f_0) (up2 (up2 (up2 (up2 (up2 (up2 (up2 (up2 (up2 (up2 (up2 r 1 n_r_1) 2 n_r_2) 3 n_r_3) 4 n_r_4) 5 n_r_5) 6 n_r_6) 7 n_r_7) 9 n_r_9) 10 n_r_10) 11 n_r_11) 12 n_r_12) ∧ (opA (r 1) n_r_1 tb ra ca q ∧ opR tb ra ca q (r 2) (r 3) (r 11) n_r_2 n_r_3 n_r_11 ∧ opR2 tb q (r 4) (r 5) (r 6) (r 7) (r 9) (r 12) n_r_4 n_r_5 n_r_6 n_r_7 n_r_9 n_r_12) ∧ (nOK 6 12 n_r_2) ∧ (nOK 6 12 n_r_3) ∧ (nOK 6 12 n_r_12) ∧ (nOK 864 6 n_r_7)) := by
  refine wr_entryI (by decide +kernel) (Nat.le_of_ble_eq_true rfl) ?_
  intro p e s m below meth c A C0 hP hK hD hA ls hl
  have hS : va_S A s.heap s.heap [] := va_S.rf
  obtain ⟨hx, hb, hml, hown, hts, hr, hlocks, hin⟩ := C0
  have hown : s.vm.findClass RX7 = some m.cls := hown
  have hDD : ∀ f' r', va_D A (mM G y b f' r') := fun f' r' => D_same hD rfl
  have hl : lv_has ls 5 [(0, .ref y), (1, .int tb), (2, .int ra), (3, .int ca)] := hl
  refine lv_iload_n hx hb dX7_open_0 rfl (lv_at hl 1 rfl) ?_
  refine lv_if_lt (tgt := 19) hx hb dX7_open_1 (by decide) (fun c1 => ?_) (fun c1 => ?_)
  · refine lv_aload_n hx hb dX7_open_19 rfl (lv_at hl 0 rfl) ?_
    refine lv_iconst (v := 1) hx hb dX7_open_20 (by decide) ?_
    refine wrVIa (rest := []) (q0 := 0) ⟨hx, hb, hml, hown, hts⟩ (m_X7_refuse l G y b f r 1  ) mi_yX7_refuse mv_yX7_refuse ml_X7_131 ⟨rfl, rfl, Nat.le_of_ble_eq_true rfl, Nat.le_of_ble_eq_true rfl⟩ hK hP (hDD _ _) rfl rfl rfl hl.1 rfl (Nat.le_of_ble_eq_true rfl) dX7_open_21 ⟨Nat.zero_le _, Nat.zero_le _⟩ hS hA (fun r2 w3 H locs hw3 hP hS => ?_)
    obtain ⟨x4, rfl, hw3r, hst⟩ := hw3
    have hP : PP G (mM G y b (upd f 0 x4) r) H := hP
    have hst : x4 = 1 := hst
    obtain rfl := hw3r
    exact wr_zret hx hb hr hlocks (Or.inl rfl) hS hP ⟨x4, (r 1), (r 2), (r 3), (r 4), (r 5), (r 6), (r 7), (r 9), (r 10), (r 11), (r 12), rfl, ⟨Or.inr ⟨rfl, fun ⟨j, h1, h2, h3, h4, h5, h6, h7⟩ => absurd (h2 ▸ c1) (nI_pos (by omega)), rfl⟩, Or.inl ⟨rfl, rfl, rfl, rfl⟩, Or.inl ⟨rfl, rfl, rfl, rfl, rfl, rfl, rfl⟩⟩, hM2, hM3, hM12, hG⟩ dX7_open_24
  · refine lv_iload_n hx hb dX7_open_4 rfl (lv_at hl 1 rfl) ?_
    refine lv_bipush (v := 6) hx hb dX7_open_5 (by decide) ?_
    refine lv_icmp_ge (tgt := 19) hx hb dX7_open_7 (by decide) (fun c5 => ?_) (fun c5 => ?_)
    · refine lv_aload_n hx hb dX7_open_19 rfl (lv_at hl 0 rfl) ?_
      refine lv_iconst (v := 1) hx hb dX7_open_20 (by decide) ?_
      refine wrVIa (rest := []) (q0 := 0) ⟨hx, hb, hml, hown, hts⟩ (m_X7_refuse l G y b f r 1  ) mi_yX7_refuse mv_yX7_refuse ml_X7_131 ⟨rfl, rfl, Nat.le_of_ble_eq_true rfl, Nat.le_of_ble_eq_true rfl⟩ hK hP (hDD _ _) rfl rfl rfl hl.1 rfl (Nat.le_of_ble_eq_true rfl) dX7_open_21 ⟨Nat.zero_le _, Nat.zero_le _⟩ hS hA (fun r6 w7 H locs hw7 hP hS => ?_)
      obtain ⟨x8, rfl, hw7r, hst⟩ := hw7
      have hP : PP G (mM G y b (upd f 0 x8) r) H := hP
      have hst : x8 = 1 := hst
      obtain rfl := hw7r
      exact wr_zret hx hb hr hlocks (Or.inl rfl) hS hP ⟨x8, (r 1), (r 2), (r 3), (r 4), (r 5), (r 6), (r 7), (r 9), (r 10), (r 11), (r 12), rfl, ⟨Or.inr ⟨rfl, fun ⟨j, h1, h2, h3, h4, h5, h6, h7⟩ => absurd (h2 ▸ c5) (nI_ge h1 (by decide)), rfl⟩, Or.inl ⟨rfl, rfl, rfl, rfl⟩, Or.inl ⟨rfl, rfl, rfl, rfl, rfl, rfl, rfl⟩⟩, hM2, hM3, hM12, hG⟩ dX7_open_24
    · refine lv_aload_n hx hb dX7_open_10 rfl (lv_at hl 0 rfl) ?_
      refine va_get (D := G.1) (ci := 7) (v := .ref (b 1)) (C := RX7) (T := TX7) (N := 43) hx hb hts inX7 hown hK.1 hP 0 rfl rfl 1 (by decide) (hts _ mf_X7_7) (fun _ h9 => h9) rfl dX7_open_11 ?_
      refine lv_iload_n hx hb dX7_open_14 rfl (lv_at hl 1 rfl) ?_
      obtain ⟨t, ht, rfl⟩ := lt_ix (x := tb) (n := 6) (by decide) c1 c5
      refine xzald (f := (r 1)) hx hb hK hP 1 (t) (rfl) (by omega) (by decide) rfl dX7_open_15 ?_
      refine lv_topi (fun v9 ev9 => ?_)
      refine lv_if_eq (tgt := 25) hx hb dX7_open_16 (by decide) (fun c10 => ?_) (fun c10 => ?_)
      · refine lv_iload_n hx hb dX7_open_25 rfl (lv_at hl 2 rfl) ?_
        refine lv_iconst (v := 1) hx hb dX7_open_26 (by decide) ?_
        refine lv_icmp_lt (tgt := 47) hx hb dX7_open_27 (by decide) (fun c11 => ?_) (fun c11 => ?_)
        · refine lv_aload_n hx hb dX7_open_47 rfl (lv_at hl 0 rfl) ?_
          refine lv_iconst (v := 2) hx hb dX7_open_48 (by decide) ?_
          refine wrVIa (rest := []) (q0 := 0) ⟨hx, hb, hml, hown, hts⟩ (m_X7_refuse l G y b f r 2  ) mi_yX7_refuse mv_yX7_refuse ml_X7_131 ⟨rfl, rfl, Nat.le_of_ble_eq_true rfl, Nat.le_of_ble_eq_true rfl⟩ hK hP (hDD _ _) rfl rfl rfl hl.1 rfl (Nat.le_of_ble_eq_true rfl) dX7_open_49 ⟨Nat.zero_le _, Nat.zero_le _⟩ hS hA (fun r12 w13 H locs hw13 hP hS => ?_)
          obtain ⟨x14, rfl, hw13r, hst⟩ := hw13
          have hP : PP G (mM G y b (upd f 0 x14) r) H := hP
          have hst : x14 = 2 := hst
          obtain rfl := hw13r
          exact wr_zret hx hb hr hlocks (Or.inl rfl) hS hP ⟨x14, (r 1), (r 2), (r 3), (r 4), (r 5), (r 6), (r 7), (r 9), (r 10), (r 11), (r 12), rfl, ⟨Or.inr ⟨rfl, fun ⟨j, h1, h2, h3, h4, h5, h6, h7⟩ => h4 c11, rfl⟩, Or.inl ⟨rfl, rfl, rfl, rfl⟩, Or.inl ⟨rfl, rfl, rfl, rfl, rfl, rfl, rfl⟩⟩, hM2, hM3, hM12, hG⟩ dX7_open_52
        · refine lv_iload_n hx hb dX7_open_30 rfl (lv_at hl 2 rfl) ?_
          refine lv_bipush (v := 12) hx hb dX7_open_31 (by decide) ?_
          refine lv_icmp_gt (tgt := 47) hx hb dX7_open_33 (by decide) (fun c15 => ?_) (fun c15 => ?_)
          · refine lv_aload_n hx hb dX7_open_47 rfl (lv_at hl 0 rfl) ?_
            refine lv_iconst (v := 2) hx hb dX7_open_48 (by decide) ?_
            refine wrVIa (rest := []) (q0 := 0) ⟨hx, hb, hml, hown, hts⟩ (m_X7_refuse l G y b f r 2  ) mi_yX7_refuse mv_yX7_refuse ml_X7_131 ⟨rfl, rfl, Nat.le_of_ble_eq_true rfl, Nat.le_of_ble_eq_true rfl⟩ hK hP (hDD _ _) rfl rfl rfl hl.1 rfl (Nat.le_of_ble_eq_true rfl) dX7_open_49 ⟨Nat.zero_le _, Nat.zero_le _⟩ hS hA (fun r16 w17 H locs hw17 hP hS => ?_)
            obtain ⟨x18, rfl, hw17r, hst⟩ := hw17
            have hP : PP G (mM G y b (upd f 0 x18) r) H := hP
            have hst : x18 = 2 := hst
            obtain rfl := hw17r
            exact wr_zret hx hb hr hlocks (Or.inl rfl) hS hP ⟨x18, (r 1), (r 2), (r 3), (r 4), (r 5), (r 6), (r 7), (r 9), (r 10), (r 11), (r 12), rfl, ⟨Or.inr ⟨rfl, fun ⟨j, h1, h2, h3, h4, h5, h6, h7⟩ => h5 c15, rfl⟩, Or.inl ⟨rfl, rfl, rfl, rfl⟩, Or.inl ⟨rfl, rfl, rfl, rfl, rfl, rfl, rfl⟩⟩, hM2, hM3, hM12, hG⟩ dX7_open_52
          · refine lv_iload_n hx hb dX7_open_36 rfl (lv_at hl 3 rfl) ?_
            refine lv_iconst (v := 1) hx hb dX7_open_37 (by decide) ?_
            refine lv_icmp_lt (tgt := 47) hx hb dX7_open_38 (by decide) (fun c19 => ?_) (fun c19 => ?_)
            · refine lv_aload_n hx hb dX7_open_47 rfl (lv_at hl 0 rfl) ?_
              refine lv_iconst (v := 2) hx hb dX7_open_48 (by decide) ?_
              refine wrVIa (rest := []) (q0 := 0) ⟨hx, hb, hml, hown, hts⟩ (m_X7_refuse l G y b f r 2  ) mi_yX7_refuse mv_yX7_refuse ml_X7_131 ⟨rfl, rfl, Nat.le_of_ble_eq_true rfl, Nat.le_of_ble_eq_true rfl⟩ hK hP (hDD _ _) rfl rfl rfl hl.1 rfl (Nat.le_of_ble_eq_true rfl) dX7_open_49 ⟨Nat.zero_le _, Nat.zero_le _⟩ hS hA (fun r20 w21 H locs hw21 hP hS => ?_)
              obtain ⟨x22, rfl, hw21r, hst⟩ := hw21
              have hP : PP G (mM G y b (upd f 0 x22) r) H := hP
              have hst : x22 = 2 := hst
              obtain rfl := hw21r
              exact wr_zret hx hb hr hlocks (Or.inl rfl) hS hP ⟨x22, (r 1), (r 2), (r 3), (r 4), (r 5), (r 6), (r 7), (r 9), (r 10), (r 11), (r 12), rfl, ⟨Or.inr ⟨rfl, fun ⟨j, h1, h2, h3, h4, h5, h6, h7⟩ => h6 c19, rfl⟩, Or.inl ⟨rfl, rfl, rfl, rfl⟩, Or.inl ⟨rfl, rfl, rfl, rfl, rfl, rfl, rfl⟩⟩, hM2, hM3, hM12, hG⟩ dX7_open_52
            · refine lv_iload_n hx hb dX7_open_41 rfl (lv_at hl 3 rfl) ?_
              refine lv_bipush (v := 12) hx hb dX7_open_42 (by decide) ?_
              refine lv_icmp_le (tgt := 53) hx hb dX7_open_44 (by decide) (fun c23 => ?_) (fun c23 => ?_)
              · have k1 := c11
                have k2 := c15
                have k3 := c19
                have k4 := le_n c23
                have k0 : r 1 t = 0 := ev9.symm.trans c10
                obtain ⟨rn, hrn, rfl⟩ := le_12 k1 k2
                obtain ⟨cn, hcn, rfl⟩ := le_12 k3 k4
                refine lv_aload_n hx hb dX7_open_53 rfl (lv_at hl 0 rfl) ?_
                refine va_get (D := G.1) (ci := 7) (v := .ref (b 1)) (C := RX7) (T := TX7) (N := 43) hx hb hts inX7 hown hK.1 hP 0 rfl rfl 1 (by decide) (hts _ mf_X7_7) (fun _ h9 => h9) rfl dX7_open_54 ?_
                refine lv_iload_n hx hb dX7_open_57 rfl (lv_at hl 1 rfl) ?_
                refine lv_iconst (v := 1) hx hb dX7_open_58 (by decide) ?_
                refine xzast (f := (r 1)) (x := 1) hx hb hK hP (hDD _ _) hS 1 (t) (rfl) (by omega) (by decide) (Or.inr rfl) rfl dX7_open_59 (fun H locs hP _ hS => ?_)
                have hP : PP G (mM G y b f (up2 r 1 (upd (r 1) (t) (1)))) H := hP
                refine lv_aload_n hx hb dX7_open_60 rfl (lv_at hl 0 rfl) ?_
                refine va_get (D := G.1) (ci := 7) (v := .ref (b 2)) (C := RX7) (T := TX7) (N := 43) hx hb hts inX7 hown hK.1 hP 0 rfl rfl 2 (by decide) (hts _ mf_X7_13) (fun _ h9 => h9) rfl dX7_open_61 ?_
                refine lv_iload_n hx hb dX7_open_64 rfl (lv_at hl 1 rfl) ?_
                refine lv_iload_n hx hb dX7_open_65 rfl (lv_at hl 2 rfl) ?_
                refine xiast (f := (r 2)) (x := (nI rn)) hx hb hK hP (hDD _ _) hS 2 (t) (rfl) (by omega) (by decide) rfl dX7_open_66 (fun H locs hP _ hS => ?_)
                have hP : PP G (mM G y b f (up2 (up2 r 1 (upd (r 1) (t) (1))) 2 (upd (r 2) (t) ((nI rn))))) H := hP
                have hM2 : nOK 6 12 (upd (r 2) (t) ((nI rn))) := nOK_u hM2 hrn
                refine lv_aload_n hx hb dX7_open_67 rfl (lv_at hl 0 rfl) ?_
                refine va_get (D := G.1) (ci := 7) (v := .ref (b 3)) (C := RX7) (T := TX7) (N := 43) hx hb hts inX7 hown hK.1 hP 0 rfl rfl 3 (by decide) (hts _ mf_X7_17) (fun _ h9 => h9) rfl dX7_open_68 ?_
                refine lv_iload_n hx hb dX7_open_71 rfl (lv_at hl 1 rfl) ?_
                refine lv_iload_n hx hb dX7_open_72 rfl (lv_at hl 3 rfl) ?_
                refine xiast (f := (r 3)) (x := (nI cn)) hx hb hK hP (hDD _ _) hS 3 (t) (rfl) (by omega) (by decide) rfl dX7_open_73 (fun H locs hP _ hS => ?_)
                have hP : PP G (mM G y b f (up2 (up2 (up2 r 1 (upd (r 1) (t) (1))) 2 (upd (r 2) (t) ((nI rn)))) 3 (upd (r 3) (t) ((nI cn))))) H := hP
                have hM3 : nOK 6 12 (upd (r 3) (t) ((nI cn))) := nOK_u hM3 hcn
                refine lv_aload_n hx hb dX7_open_74 rfl (lv_at hl 0 rfl) ?_
                refine va_get (D := G.1) (ci := 7) (v := .ref (b 12)) (C := RX7) (T := TX7) (N := 43) hx hb hts inX7 hown hK.1 hP 0 rfl rfl 12 (by decide) (hts _ mf_X7_44) (fun _ h9 => h9) rfl dX7_open_75 ?_
                refine lv_iload_n hx hb dX7_open_78 rfl (lv_at hl 1 rfl) ?_
                refine lv_iconst (v := 0) hx hb dX7_open_79 (by decide) ?_
                refine xiast (f := (r 12)) (x := 0) hx hb hK hP (hDD _ _) hS 12 (t) (rfl) (by omega) (by decide) rfl dX7_open_80 (fun H locs hP _ hS => ?_)
                have hP : PP G (mM G y b f (up2 (up2 (up2 (up2 r 1 (upd (r 1) (t) (1))) 2 (upd (r 2) (t) ((nI rn)))) 3 (upd (r 3) (t) ((nI cn)))) 12 (upd (r 12) (t) (0)))) H := hP
                have hM12 : nOK 6 12 (upd (r 12) (t) (0)) := nOK_0 hM12
                refine lv_aload_n hx hb dX7_open_81 rfl (lv_at hl 0 rfl) ?_
                refine va_get (D := G.1) (ci := 7) (v := .ref (b 4)) (C := RX7) (T := TX7) (N := 43) hx hb hts inX7 hown hK.1 hP 0 rfl rfl 4 (by decide) (hts _ mf_X7_20) (fun _ h9 => h9) rfl dX7_open_82 ?_
                refine lv_bipush (v := 6) hx hb dX7_open_85 (by decide) ?_
                refine lv_iload_n hx hb dX7_open_87 rfl (lv_at hl 1 rfl) ?_
                refine lv_imul hx hb dX7_open_88 ?_
                refine lv_topi (fun v24 ev24 => ?_)
                obtain rfl : v24 = nI (6 * t) := nI_times ev24 rfl rfl
                refine lv_iconst (v := 3) hx hb dX7_open_89 (by decide) ?_
                refine xiast (f := (r 4)) (x := 3) hx hb hK hP (hDD _ _) hS 4 ((6 * t)) (rfl) (by omega) (by decide) rfl dX7_open_90 (fun H locs hP _ hS => ?_)
                have hP : PP G (mM G y b f (up2 (up2 (up2 (up2 (up2 r 1 (upd (r 1) (t) (1))) 2 (upd (r 2) (t) ((nI rn)))) 3 (upd (r 3) (t) ((nI cn)))) 4 (upd (r 4) ((6 * t)) (3))) 12 (upd (r 12) (t) (0)))) H := hP
                refine lv_aload_n hx hb dX7_open_91 rfl (lv_at hl 0 rfl) ?_
                refine va_get (D := G.1) (ci := 7) (v := .ref (b 4)) (C := RX7) (T := TX7) (N := 43) hx hb hts inX7 hown hK.1 hP 0 rfl rfl 4 (by decide) (hts _ mf_X7_20) (fun _ h9 => h9) rfl dX7_open_92 ?_
                refine lv_bipush (v := 6) hx hb dX7_open_95 (by decide) ?_
                refine lv_iload_n hx hb dX7_open_97 rfl (lv_at hl 1 rfl) ?_
                refine lv_imul hx hb dX7_open_98 ?_
                refine lv_topi (fun v25 ev25 => ?_)
                obtain rfl : v25 = nI (6 * t) := nI_times ev25 rfl rfl
                refine lv_iconst (v := 1) hx hb dX7_open_99 (by decide) ?_
                refine lv_iadd hx hb dX7_open_100 ?_
                refine lv_topi (fun v26 ev26 => ?_)
                obtain rfl : v26 = nI ((6 * t) + 1) := nI_plus ev26 rfl rfl
                refine lv_iconst (v := 2) hx hb dX7_open_101 (by decide) ?_
                refine xiast (f := (upd (r 4) ((6 * t)) (3))) (x := 2) hx hb hK hP (hDD _ _) hS 4 (((6 * t) + 1)) (rfl) (by omega) (by decide) rfl dX7_open_102 (fun H locs hP _ hS => ?_)
                have hP : PP G (mM G y b f (up2 (up2 (up2 (up2 (up2 r 1 (upd (r 1) (t) (1))) 2 (upd (r 2) (t) ((nI rn)))) 3 (upd (r 3) (t) ((nI cn)))) 4 (upd (upd (r 4) ((6 * t)) (3)) (((6 * t) + 1)) (2))) 12 (upd (r 12) (t) (0)))) H := hP
                refine lv_aload_n hx hb dX7_open_103 rfl (lv_at hl 0 rfl) ?_
                refine va_get (D := G.1) (ci := 7) (v := .ref (b 4)) (C := RX7) (T := TX7) (N := 43) hx hb hts inX7 hown hK.1 hP 0 rfl rfl 4 (by decide) (hts _ mf_X7_20) (fun _ h9 => h9) rfl dX7_open_104 ?_
                refine lv_bipush (v := 6) hx hb dX7_open_107 (by decide) ?_
                refine lv_iload_n hx hb dX7_open_109 rfl (lv_at hl 1 rfl) ?_
                refine lv_imul hx hb dX7_open_110 ?_
                refine lv_topi (fun v27 ev27 => ?_)
                obtain rfl : v27 = nI (6 * t) := nI_times ev27 rfl rfl
                refine lv_iconst (v := 2) hx hb dX7_open_111 (by decide) ?_
                refine lv_iadd hx hb dX7_open_112 ?_
                refine lv_topi (fun v28 ev28 => ?_)
                obtain rfl : v28 = nI ((6 * t) + 2) := nI_plus ev28 rfl rfl
                refine lv_bipush (v := 10) hx hb dX7_open_113 (by decide) ?_
                refine xiast (f := (upd (upd (r 4) ((6 * t)) (3)) (((6 * t) + 1)) (2))) (x := 10) hx hb hK hP (hDD _ _) hS 4 (((6 * t) + 2)) (rfl) (by omega) (by decide) rfl dX7_open_115 (fun H locs hP _ hS => ?_)
                have hP : PP G (mM G y b f (up2 (up2 (up2 (up2 (up2 r 1 (upd (r 1) (t) (1))) 2 (upd (r 2) (t) ((nI rn)))) 3 (upd (r 3) (t) ((nI cn)))) 4 (upd (upd (upd (r 4) ((6 * t)) (3)) (((6 * t) + 1)) (2)) (((6 * t) + 2)) (10))) 12 (upd (r 12) (t) (0)))) H := hP
                refine lv_aload_n hx hb dX7_open_116 rfl (lv_at hl 0 rfl) ?_
                refine va_get (D := G.1) (ci := 7) (v := .ref (b 4)) (C := RX7) (T := TX7) (N := 43) hx hb hts inX7 hown hK.1 hP 0 rfl rfl 4 (by decide) (hts _ mf_X7_20) (fun _ h9 => h9) rfl dX7_open_117 ?_
                refine lv_bipush (v := 6) hx hb dX7_open_120 (by decide) ?_
                refine lv_iload_n hx hb dX7_open_122 rfl (lv_at hl 1 rfl) ?_
                refine lv_imul hx hb dX7_open_123 ?_
                refine lv_topi (fun v29 ev29 => ?_)
                obtain rfl : v29 = nI (6 * t) := nI_times ev29 rfl rfl
                refine lv_iconst (v := 3) hx hb dX7_open_124 (by decide) ?_
                refine lv_iadd hx hb dX7_open_125 ?_
                refine lv_topi (fun v30 ev30 => ?_)
                obtain rfl : v30 = nI ((6 * t) + 3) := nI_plus ev30 rfl rfl
                refine lv_iconst (v := 1) hx hb dX7_open_126 (by decide) ?_
                refine xiast (f := (upd (upd (upd (r 4) ((6 * t)) (3)) (((6 * t) + 1)) (2)) (((6 * t) + 2)) (10))) (x := 1) hx hb hK hP (hDD _ _) hS 4 (((6 * t) + 3)) (rfl) (by omega) (by decide) rfl dX7_open_127 (fun H locs hP _ hS => ?_)
                have hP : PP G (mM G y b f (up2 (up2 (up2 (up2 (up2 r 1 (upd (r 1) (t) (1))) 2 (upd (r 2) (t) ((nI rn)))) 3 (upd (r 3) (t) ((nI cn)))) 4 (upd (upd (upd (upd (r 4) ((6 * t)) (3)) (((6 * t) + 1)) (2)) (((6 * t) + 2)) (10)) (((6 * t) + 3)) (1))) 12 (upd (r 12) (t) (0)))) H := hP
                refine lv_aload_n hx hb dX7_open_128 rfl (lv_at hl 0 rfl) ?_
                refine va_get (D := G.1) (ci := 7) (v := .ref (b 4)) (C := RX7) (T := TX7) (N := 43) hx hb hts inX7 hown hK.1 hP 0 rfl rfl 4 (by decide) (hts _ mf_X7_20) (fun _ h9 => h9) rfl dX7_open_129 ?_
                refine lv_bipush (v := 6) hx hb dX7_open_132 (by decide) ?_
                refine lv_iload_n hx hb dX7_open_134 rfl (lv_at hl 1 rfl) ?_
                refine lv_imul hx hb dX7_open_135 ?_
                refine lv_topi (fun v31 ev31 => ?_)
                obtain rfl : v31 = nI (6 * t) := nI_times ev31 rfl rfl
                refine lv_iconst (v := 4) hx hb dX7_open_136 (by decide) ?_
                refine lv_iadd hx hb dX7_open_137 ?_
                refine lv_topi (fun v32 ev32 => ?_)
                obtain rfl : v32 = nI ((6 * t) + 4) := nI_plus ev32 rfl rfl
                refine lv_iconst (v := 1) hx hb dX7_open_138 (by decide) ?_
                refine xiast (f := (upd (upd (upd (upd (r 4) ((6 * t)) (3)) (((6 * t) + 1)) (2)) (((6 * t) + 2)) (10)) (((6 * t) + 3)) (1))) (x := 1) hx hb hK hP (hDD _ _) hS 4 (((6 * t) + 4)) (rfl) (by omega) (by decide) rfl dX7_open_139 (fun H locs hP _ hS => ?_)
                have hP : PP G (mM G y b f (up2 (up2 (up2 (up2 (up2 r 1 (upd (r 1) (t) (1))) 2 (upd (r 2) (t) ((nI rn)))) 3 (upd (r 3) (t) ((nI cn)))) 4 (upd (upd (upd (upd (upd (r 4) ((6 * t)) (3)) (((6 * t) + 1)) (2)) (((6 * t) + 2)) (10)) (((6 * t) + 3)) (1)) (((6 * t) + 4)) (1))) 12 (upd (r 12) (t) (0)))) H := hP
                refine lv_aload_n hx hb dX7_open_140 rfl (lv_at hl 0 rfl) ?_
                refine va_get (D := G.1) (ci := 7) (v := .ref (b 4)) (C := RX7) (T := TX7) (N := 43) hx hb hts inX7 hown hK.1 hP 0 rfl rfl 4 (by decide) (hts _ mf_X7_20) (fun _ h9 => h9) rfl dX7_open_141 ?_
                refine lv_bipush (v := 6) hx hb dX7_open_144 (by decide) ?_
                refine lv_iload_n hx hb dX7_open_146 rfl (lv_at hl 1 rfl) ?_
                refine lv_imul hx hb dX7_open_147 ?_
                refine lv_topi (fun v33 ev33 => ?_)
                obtain rfl : v33 = nI (6 * t) := nI_times ev33 rfl rfl
                refine lv_iconst (v := 5) hx hb dX7_open_148 (by decide) ?_
                refine lv_iadd hx hb dX7_open_149 ?_
                refine lv_topi (fun v34 ev34 => ?_)
                obtain rfl : v34 = nI ((6 * t) + 5) := nI_plus ev34 rfl rfl
                refine lv_iconst (v := 0) hx hb dX7_open_150 (by decide) ?_
                refine xiast (f := (upd (upd (upd (upd (upd (r 4) ((6 * t)) (3)) (((6 * t) + 1)) (2)) (((6 * t) + 2)) (10)) (((6 * t) + 3)) (1)) (((6 * t) + 4)) (1))) (x := 0) hx hb hK hP (hDD _ _) hS 4 (((6 * t) + 5)) (rfl) (by omega) (by decide) rfl dX7_open_151 (fun H locs hP _ hS => ?_)
                have hP : PP G (mM G y b f (up2 (up2 (up2 (up2 (up2 r 1 (upd (r 1) (t) (1))) 2 (upd (r 2) (t) ((nI rn)))) 3 (upd (r 3) (t) ((nI cn)))) 4 (upd (upd (upd (upd (upd (upd (r 4) ((6 * t)) (3)) (((6 * t) + 1)) (2)) (((6 * t) + 2)) (10)) (((6 * t) + 3)) (1)) (((6 * t) + 4)) (1)) (((6 * t) + 5)) (0))) 12 (upd (r 12) (t) (0)))) H := hP
                refine lv_iconst (v := 0) hx hb dX7_open_152 (by decide) ?_
                refine lv_istore (lv' := [(4, .int 0), (0, .ref y), (1, .int (nI t)), (2, .int (nI rn)), (3, .int (nI cn))]) hx hb dX7_open_153 hl (by decide) rfl (fun ls hl => ?_)
                have loop155 : ∀ (k35 i : Nat) (x36 : Nat → Int32) (x37 : Nat → Int32) (x38 : Nat → Int32) (x39 : Nat → Int32) (x40 : Nat → Int32), i ≤ 144 → 144 < i + k35 → (nOK 864 6 x38) → (rv (144 * t) i 0 (r 5) x36) → (rv (144 * t) i 0 (r 6) x37) → (rv (144 * t) i 0 (r 7) x38) → (rv (144 * t) i 0 (r 9) x39) → ∀ (H : Heap) (locs : List Loc) (ls : Array Slot), PP G (mM G y b f (up2 (up2 (up2 (up2 (up2 (up2 (up2 (up2 (up2 (up2 r 1 (upd (r 1) (t) (1))) 2 (upd (r 2) (t) ((nI rn)))) 3 (upd (r 3) (t) ((nI cn)))) 4 (upd (upd (upd (upd (upd (upd (r 4) ((6 * t)) (3)) (((6 * t) + 1)) (2)) (((6 * t) + 2)) (10)) (((6 * t) + 3)) (1)) (((6 * t) + 4)) (1)) (((6 * t) + 5)) (0))) 5 x36) 6 x37) 7 x38) 9 x39) 10 x40) 12 (upd (r 12) (t) (0)))) H → va_S A s.heap H locs → lv_has ls 5 [(4, .int (nI i)), (0, .ref y), (1, .int (nI t)), (3, .int (nI cn))] → W p l e ({ frames := 1, cells := 0, slots := 0, locals := 21 }) s m ([.ref y, .int (nI t), .int (nI rn), .int (nI cn)] : List Value).toArray below meth c H locs 0 0 (MQ below (QwI G (fun q w => ∃ (n_f_0 : Int32) (n_r_1 : Nat → Int32) (n_r_2 : Nat → Int32) (n_r_3 : Nat → Int32) (n_r_4 : Nat → Int32) (n_r_5 : Nat → Int32) (n_r_6 : Nat → Int32) (n_r_7 : Nat → Int32) (n_r_9 : Nat → Int32) (n_r_10 : Nat → Int32) (n_r_11 : Nat → Int32) (n_r_12 : Nat → Int32), w = mM G y b (upd f 0 n_f_0) (up2 (up2 (up2 (up2 (up2 (up2 (up2 (up2 (up2 (up2 (up2 r 1 n_r_1) 2 n_r_2) 3 n_r_3) 4 n_r_4) 5 n_r_5) 6 n_r_6) 7 n_r_7) 9 n_r_9) 10 n_r_10) 11 n_r_11) 12 n_r_12) ∧ (opA (r 1) n_r_1 (nI t) (nI rn) (nI cn) q ∧ opR (nI t) (nI rn) (nI cn) q (r 2) (r 3) (r 11) n_r_2 n_r_3 n_r_11 ∧ opR2 (nI t) q (r 4) (r 5) (r 6) (r 7) (r 9) (r 12) n_r_4 n_r_5 n_r_6 n_r_7 n_r_9 n_r_12) ∧ (nOK 6 12 n_r_2) ∧ (nOK 6 12 n_r_3) ∧ (nOK 6 12 n_r_12) ∧ (nOK 864 6 n_r_7)) A) ([.ref y, .int (nI t), .int (nI rn), .int (nI cn)] : List Value).toArray s 0 0 A) (F0 m 155 ls []) := by
                  intro k35
                  induction k35 with
                  | zero => intro i x36 x37 x38 x39 x40 h1 h2; exact absurd h1 (by omega)
                  | succ k35 ih155k35 =>
                    intro i x36 x37 x38 x39 x40 hi_i hk_i hG z5 z6 z7 z9 H locs ls hP hS hl
                    refine lv_iload hx hb dX7_open_155 (lv_at hl 0 rfl) ?_
                    refine lv_sipush (v := 144) hx hb dX7_open_157 (by decide) ?_
                    refine lv_icmp_ge (tgt := 181) hx hb dX7_open_160 (by decide) (fun c41 => ?_) (fun c41 => ?_)
                    · have b160 := qge_t (a := i) (b := 144) (by omega) (by omega) c41
                      obtain rfl : i = 144 := by omega
                      refine lv_iconst (v := 0) hx hb dX7_open_181 (by decide) ?_
                      refine lv_istore (lv' := [(4, .int 0), (0, .ref y), (1, .int (nI t)), (3, .int (nI cn))]) hx hb dX7_open_182 hl (by decide) rfl (fun ls hl => ?_)
                      have loop184 : ∀ (k42 j : Nat) (x43 : Nat → Int32), j ≤ 12 → 12 < j + k42 → (rv (12 * t) j (nI cn) (r 11) x43) → ∀ (H : Heap) (locs : List Loc) (ls : Array Slot), PP G (mM G y b f (up2 (up2 (up2 (up2 (up2 (up2 (up2 (up2 (up2 (up2 (up2 r 1 (upd (r 1) (t) (1))) 2 (upd (r 2) (t) ((nI rn)))) 3 (upd (r 3) (t) ((nI cn)))) 4 (upd (upd (upd (upd (upd (upd (r 4) ((6 * t)) (3)) (((6 * t) + 1)) (2)) (((6 * t) + 2)) (10)) (((6 * t) + 3)) (1)) (((6 * t) + 4)) (1)) (((6 * t) + 5)) (0))) 5 x36) 6 x37) 7 x38) 9 x39) 10 x40) 11 x43) 12 (upd (r 12) (t) (0)))) H → va_S A s.heap H locs → lv_has ls 5 [(4, .int (nI j)), (0, .ref y), (1, .int (nI t)), (3, .int (nI cn))] → W p l e ({ frames := 1, cells := 0, slots := 0, locals := 21 }) s m ([.ref y, .int (nI t), .int (nI rn), .int (nI cn)] : List Value).toArray below meth c H locs 0 0 (MQ below (QwI G (fun q w => ∃ (n_f_0 : Int32) (n_r_1 : Nat → Int32) (n_r_2 : Nat → Int32) (n_r_3 : Nat → Int32) (n_r_4 : Nat → Int32) (n_r_5 : Nat → Int32) (n_r_6 : Nat → Int32) (n_r_7 : Nat → Int32) (n_r_9 : Nat → Int32) (n_r_10 : Nat → Int32) (n_r_11 : Nat → Int32) (n_r_12 : Nat → Int32), w = mM G y b (upd f 0 n_f_0) (up2 (up2 (up2 (up2 (up2 (up2 (up2 (up2 (up2 (up2 (up2 r 1 n_r_1) 2 n_r_2) 3 n_r_3) 4 n_r_4) 5 n_r_5) 6 n_r_6) 7 n_r_7) 9 n_r_9) 10 n_r_10) 11 n_r_11) 12 n_r_12) ∧ (opA (r 1) n_r_1 (nI t) (nI rn) (nI cn) q ∧ opR (nI t) (nI rn) (nI cn) q (r 2) (r 3) (r 11) n_r_2 n_r_3 n_r_11 ∧ opR2 (nI t) q (r 4) (r 5) (r 6) (r 7) (r 9) (r 12) n_r_4 n_r_5 n_r_6 n_r_7 n_r_9 n_r_12) ∧ (nOK 6 12 n_r_2) ∧ (nOK 6 12 n_r_3) ∧ (nOK 6 12 n_r_12) ∧ (nOK 864 6 n_r_7)) A) ([.ref y, .int (nI t), .int (nI rn), .int (nI cn)] : List Value).toArray s 0 0 A) (F0 m 184 ls []) := by
                        intro k42
                        induction k42 with
                        | zero => intro j x43 h1 h2; exact absurd h1 (by omega)
                        | succ k42 ih184k42 =>
                          intro j x43 hi_j hk_j z11 H locs ls hP hS hl
                          refine lv_iload hx hb dX7_open_184 (lv_at hl 0 rfl) ?_
                          refine lv_bipush (v := 12) hx hb dX7_open_186 (by decide) ?_
                          refine lv_icmp_ge (tgt := 210) hx hb dX7_open_188 (by decide) (fun c44 => ?_) (fun c44 => ?_)
                          · have b188 := qge_t (a := j) (b := 12) (by omega) (by omega) c44
                            obtain rfl : j = 12 := by omega
                            refine lv_aload_n hx hb dX7_open_210 rfl (lv_at hl 1 rfl) ?_
                            refine wrVIa (rest := []) (q0 := 0) ⟨hx, hb, hml, hown, hts⟩ (m_X7_good l G y b f (up2 (up2 (up2 (up2 (up2 (up2 (up2 (up2 (up2 (up2 (up2 r 1 (upd (r 1) (t) (1))) 2 (upd (r 2) (t) ((nI rn)))) 3 (upd (r 3) (t) ((nI cn)))) 4 (upd (upd (upd (upd (upd (upd (r 4) ((6 * t)) (3)) (((6 * t) + 1)) (2)) (((6 * t) + 2)) (10)) (((6 * t) + 3)) (1)) (((6 * t) + 4)) (1)) (((6 * t) + 5)) (0))) 5 x36) 6 x37) 7 x38) 9 x39) 10 x40) 11 x43) 12 (upd (r 12) (t) (0)))   ) mi_yX7_good mv_yX7_good ml_X7_138 ⟨rfl, rfl, Nat.le_of_ble_eq_true rfl, Nat.le_of_ble_eq_true rfl⟩ hK hP (hDD _ _) rfl rfl rfl hl.1 rfl (Nat.le_of_ble_eq_true rfl) dX7_open_211 ⟨Nat.zero_le _, Nat.zero_le _⟩ hS hA (fun r45 w46 H locs hw46 hP hS => ?_)
                            obtain ⟨x47, rfl, hw46r, hst⟩ := hw46
                            have hP : PP G (mM G y b (upd f 0 x47) (up2 (up2 (up2 (up2 (up2 (up2 (up2 (up2 (up2 (up2 (up2 r 1 (upd (r 1) (t) (1))) 2 (upd (r 2) (t) ((nI rn)))) 3 (upd (r 3) (t) ((nI cn)))) 4 (upd (upd (upd (upd (upd (upd (r 4) ((6 * t)) (3)) (((6 * t) + 1)) (2)) (((6 * t) + 2)) (10)) (((6 * t) + 3)) (1)) (((6 * t) + 4)) (1)) (((6 * t) + 5)) (0))) 5 x36) 6 x37) 7 x38) 9 x39) 10 x40) 11 x43) 12 (upd (r 12) (t) (0)))) H := hP
                            have hst : x47 = 0 := hst
                            obtain rfl := hw46r
                            exact wr_zret hx hb hr hlocks (Or.inr rfl) hS hP ⟨x47, (upd (r 1) (t) (1)), (upd (r 2) (t) ((nI rn))), (upd (r 3) (t) ((nI cn))), (upd (upd (upd (upd (upd (upd (r 4) ((6 * t)) (3)) (((6 * t) + 1)) (2)) (((6 * t) + 2)) (10)) (((6 * t) + 3)) (1)) (((6 * t) + 4)) (1)) (((6 * t) + 5)) (0)), x36, x37, x38, x39, x40, x43, (upd (r 12) (t) (0)), rfl, ⟨Or.inl ⟨rfl, t, ⟨ht, rfl, k0, k1, k2, k3, k4⟩, rfl⟩, Or.inr ⟨rfl, t, ht, rfl, rfl, rfl, z11⟩, Or.inr ⟨rfl, t, ht, rfl, rfl, z5, z6, z7, z9, rfl⟩⟩, hM2, hM3, hM12, hG⟩ dX7_open_214
                          · have b188 := qge_f (a := j) (b := 12) (by omega) (by omega) c44
                            refine lv_aload_n hx hb dX7_open_191 rfl (lv_at hl 1 rfl) ?_
                            refine va_get (D := G.1) (ci := 7) (v := .ref (b 11)) (C := RX7) (T := TX7) (N := 43) hx hb hts inX7 hown hK.1 hP 0 rfl rfl 11 (by decide) (hts _ mf_X7_41) (fun _ h9 => h9) rfl dX7_open_192 ?_
                            refine lv_bipush (v := 12) hx hb dX7_open_195 (by decide) ?_
                            refine lv_iload_n hx hb dX7_open_197 rfl (lv_at hl 2 rfl) ?_
                            refine lv_imul hx hb dX7_open_198 ?_
                            refine lv_topi (fun v48 ev48 => ?_)
                            obtain rfl : v48 = nI (12 * t) := nI_times ev48 rfl rfl
                            refine lv_iload hx hb dX7_open_199 (lv_at hl 0 rfl) ?_
                            refine lv_iadd hx hb dX7_open_201 ?_
                            refine lv_topi (fun v49 ev49 => ?_)
                            obtain rfl : v49 = nI ((12 * t) + j) := nI_plus ev49 rfl rfl
                            refine lv_iload_n hx hb dX7_open_202 rfl (lv_at hl 3 rfl) ?_
                            refine xiast (f := x43) (x := (nI cn)) hx hb hK hP (hDD _ _) hS 11 (((12 * t) + j)) (rfl) (by omega) (by decide) rfl dX7_open_203 (fun H locs hP _ hS => ?_)
                            have hP : PP G (mM G y b f (up2 (up2 (up2 (up2 (up2 (up2 (up2 (up2 (up2 (up2 (up2 r 1 (upd (r 1) (t) (1))) 2 (upd (r 2) (t) ((nI rn)))) 3 (upd (r 3) (t) ((nI cn)))) 4 (upd (upd (upd (upd (upd (upd (r 4) ((6 * t)) (3)) (((6 * t) + 1)) (2)) (((6 * t) + 2)) (10)) (((6 * t) + 3)) (1)) (((6 * t) + 4)) (1)) (((6 * t) + 5)) (0))) 5 x36) 6 x37) 7 x38) 9 x39) 10 x40) 11 (upd x43 (((12 * t) + j)) ((nI cn)))) 12 (upd (r 12) (t) (0)))) H := hP
                            obtain ⟨v50, ev50⟩ : ∃ y9 : Int32, y9 = (nI j) + Int32.ofInt (1) := ⟨_, rfl⟩
                            refine lv_iinc (v := v50) (lv' := [(4, .int v50), (0, .ref y), (1, .int (nI t)), (3, .int (nI cn))]) hx hb dX7_open_204 hl (k := 0) rfl ev50.symm (by decide) rfl (fun ls hl => ?_)
                            obtain rfl : v50 = nI (j + 1) := nI_plus (i := j) (j := 1) ev50 rfl (by decide)
                            refine lv_goto (tgt := 184) hx hb dX7_open_207 (by decide) ?_
                            exact ih184k42 (j + 1) (upd x43 (((12 * t) + j)) ((nI cn))) (by omega) (by omega) (rv_s z11 only_u) _ _ _ hP hS (lv_sub hl [0, 1, 2, 3] rfl)
                      exact loop184 (12 + 1) 0 (r 11) (by omega) (by omega) (rv_0) _ _ _ hP hS (lv_sub hl [0, 1, 2, 3] rfl)
                    · have b160 := qge_f (a := i) (b := 144) (by omega) (by omega) c41
                      refine lv_aload_n hx hb dX7_open_163 rfl (lv_at hl 1 rfl) ?_
                      refine lv_sipush (v := 144) hx hb dX7_open_164 (by decide) ?_
                      refine lv_iload_n hx hb dX7_open_167 rfl (lv_at hl 2 rfl) ?_
                      refine lv_imul hx hb dX7_open_168 ?_
                      refine lv_topi (fun v51 ev51 => ?_)
                      obtain rfl : v51 = nI (144 * t) := nI_times ev51 rfl rfl
                      refine lv_iload hx hb dX7_open_169 (lv_at hl 0 rfl) ?_
                      refine lv_iadd hx hb dX7_open_171 ?_
                      refine lv_topi (fun v52 ev52 => ?_)
                      obtain rfl : v52 = nI ((144 * t) + i) := nI_plus ev52 rfl rfl
                      refine wrVVa (rest := []) (q0 := 0) ⟨hx, hb, hml, hown, hts⟩ (m_X7_empty l G y b f (up2 (up2 (up2 (up2 (up2 (up2 (up2 (up2 (up2 (up2 r 1 (upd (r 1) (t) (1))) 2 (upd (r 2) (t) ((nI rn)))) 3 (upd (r 3) (t) ((nI cn)))) 4 (upd (upd (upd (upd (upd (upd (r 4) ((6 * t)) (3)) (((6 * t) + 1)) (2)) (((6 * t) + 2)) (10)) (((6 * t) + 3)) (1)) (((6 * t) + 4)) (1)) (((6 * t) + 5)) (0))) 5 x36) 6 x37) 7 x38) 9 x39) 10 x40) 12 (upd (r 12) (t) (0))) ((144 * t) + i)  (by omega) hG) mi_yX7_empty mv_yX7_empty ml_X7_134 ⟨rfl, rfl, Nat.le_of_ble_eq_true rfl, Nat.le_of_ble_eq_true rfl⟩ hK hP (hDD _ _) rfl rfl rfl hl.1 rfl (Nat.le_of_ble_eq_true rfl) dX7_open_172 ⟨Nat.zero_le _, Nat.zero_le _⟩ hS hA (fun w54 H locs hw54 hP hS => ?_)
                      obtain ⟨x55, x56, x57, x58, x59, rfl, hG, em5, em6, em7, em9⟩ := hw54
                      have hP : PP G (mM G y b f (up2 (up2 (up2 (up2 (up2 (up2 (up2 (up2 (up2 (up2 r 1 (upd (r 1) (t) (1))) 2 (upd (r 2) (t) ((nI rn)))) 3 (upd (r 3) (t) ((nI cn)))) 4 (upd (upd (upd (upd (upd (upd (r 4) ((6 * t)) (3)) (((6 * t) + 1)) (2)) (((6 * t) + 2)) (10)) (((6 * t) + 3)) (1)) (((6 * t) + 4)) (1)) (((6 * t) + 5)) (0))) 5 x55) 6 x56) 7 x57) 9 x58) 10 x59) 12 (upd (r 12) (t) (0)))) H := hP
                      have hG : nOK 864 6 x57 := hG
                      have em5 : only ((144 * t) + i) 0 x36 x55 := em5
                      have em6 : only ((144 * t) + i) 0 x37 x56 := em6
                      have em7 : only ((144 * t) + i) 0 x38 x57 := em7
                      have em9 : only ((144 * t) + i) 0 x39 x58 := em9
                      obtain ⟨v60, ev60⟩ : ∃ y9 : Int32, y9 = (nI i) + Int32.ofInt (1) := ⟨_, rfl⟩
                      refine lv_iinc (v := v60) (lv' := [(4, .int v60), (0, .ref y), (1, .int (nI t)), (3, .int (nI cn))]) hx hb dX7_open_175 hl (k := 0) rfl ev60.symm (by decide) rfl (fun ls hl => ?_)
                      obtain rfl : v60 = nI (i + 1) := nI_plus (i := i) (j := 1) ev60 rfl (by decide)
                      refine lv_goto (tgt := 155) hx hb dX7_open_178 (by decide) ?_
                      exact ih155k35 (i + 1) x55 x56 x57 x58 x59 (by omega) (by omega) hG (rv_s z5 em5) (rv_s z6 em6) (rv_s z7 em7) (rv_s z9 em9) _ _ _ hP hS (lv_sub hl [0, 1, 2, 3] rfl)
                exact loop155 (144 + 1) 0 (r 5) (r 6) (r 7) (r 9) (r 10) (by omega) (by omega) hG (rv_0) (rv_0) (rv_0) (rv_0) _ _ _ hP hS (lv_sub hl [0, 1, 2, 4] rfl)
              · refine lv_aload_n hx hb dX7_open_47 rfl (lv_at hl 0 rfl) ?_
                refine lv_iconst (v := 2) hx hb dX7_open_48 (by decide) ?_
                refine wrVIa (rest := []) (q0 := 0) ⟨hx, hb, hml, hown, hts⟩ (m_X7_refuse l G y b f r 2  ) mi_yX7_refuse mv_yX7_refuse ml_X7_131 ⟨rfl, rfl, Nat.le_of_ble_eq_true rfl, Nat.le_of_ble_eq_true rfl⟩ hK hP (hDD _ _) rfl rfl rfl hl.1 rfl (Nat.le_of_ble_eq_true rfl) dX7_open_49 ⟨Nat.zero_le _, Nat.zero_le _⟩ hS hA (fun r61 w62 H locs hw62 hP hS => ?_)
                obtain ⟨x63, rfl, hw62r, hst⟩ := hw62
                have hP : PP G (mM G y b (upd f 0 x63) r) H := hP
                have hst : x63 = 2 := hst
                obtain rfl := hw62r
                exact wr_zret hx hb hr hlocks (Or.inl rfl) hS hP ⟨x63, (r 1), (r 2), (r 3), (r 4), (r 5), (r 6), (r 7), (r 9), (r 10), (r 11), (r 12), rfl, ⟨Or.inr ⟨rfl, fun ⟨j, h1, h2, h3, h4, h5, h6, h7⟩ => h7 (n_le c23), rfl⟩, Or.inl ⟨rfl, rfl, rfl, rfl⟩, Or.inl ⟨rfl, rfl, rfl, rfl, rfl, rfl, rfl⟩⟩, hM2, hM3, hM12, hG⟩ dX7_open_52
      · refine lv_aload_n hx hb dX7_open_19 rfl (lv_at hl 0 rfl) ?_
        refine lv_iconst (v := 1) hx hb dX7_open_20 (by decide) ?_
        refine wrVIa (rest := []) (q0 := 0) ⟨hx, hb, hml, hown, hts⟩ (m_X7_refuse l G y b f r 1  ) mi_yX7_refuse mv_yX7_refuse ml_X7_131 ⟨rfl, rfl, Nat.le_of_ble_eq_true rfl, Nat.le_of_ble_eq_true rfl⟩ hK hP (hDD _ _) rfl rfl rfl hl.1 rfl (Nat.le_of_ble_eq_true rfl) dX7_open_21 ⟨Nat.zero_le _, Nat.zero_le _⟩ hS hA (fun r64 w65 H locs hw65 hP hS => ?_)
        obtain ⟨x66, rfl, hw65r, hst⟩ := hw65
        have hP : PP G (mM G y b (upd f 0 x66) r) H := hP
        have hst : x66 = 1 := hst
        obtain rfl := hw65r
        exact wr_zret hx hb hr hlocks (Or.inl rfl) hS hP ⟨x66, (r 1), (r 2), (r 3), (r 4), (r 5), (r 6), (r 7), (r 9), (r 10), (r 11), (r 12), rfl, ⟨Or.inr ⟨rfl, fun ⟨j, h1, h2, h3, h4, h5, h6, h7⟩ => c10 (by have e := (nI_eq (by omega) (by omega)).mp h2; subst e; exact ev9.trans h3), rfl⟩, Or.inl ⟨rfl, rfl, rfl, rfl⟩, Or.inl ⟨rfl, rfl, rfl, rfl, rfl, rfl, rfl⟩⟩, hM2, hM3, hM12, hG⟩ dX7_open_24
set_option maxHeartbeats 4000000 in
set_option maxRecDepth 100000 in
theorem m_X7_close (l : Launch) (G : GG) (y : Nat) (b : Nat → Nat) (f : Nat → Int32) (r : Nat → Nat → Int32) (tb : Int32) : WrI l yX7_close cX7_close 2 (some .boolean) ({ frames := 1, cells := 0, slots := 0, locals := 21 }) G (mM G y b f r) [.ref y, .int tb] (fun q w => ∃ (n_f_0 : Int32) (n_r_1 : Nat → Int32), w = mM G y b (upd f 0 n_f_0) (up2 r 1 n_r_1) ∧ clA (r 1) n_r_1 tb q) := by
  refine wr_entryI (by decide +kernel) (Nat.le_of_ble_eq_true rfl) ?_
  intro p e s m below meth c A C0 hP hK hD hA ls hl
  have hS : va_S A s.heap s.heap [] := va_S.rf
  obtain ⟨hx, hb, hml, hown, hts, hr, hlocks, hin⟩ := C0
  have hown : s.vm.findClass RX7 = some m.cls := hown
  have hDD : ∀ f' r', va_D A (mM G y b f' r') := fun f' r' => D_same hD rfl
  have hl : lv_has ls 2 [(0, .ref y), (1, .int tb)] := hl
  refine lv_aload_n hx hb dX7_close_0 rfl (lv_at hl 0 rfl) ?_
  refine lv_iload_n hx hb dX7_close_1 rfl (lv_at hl 1 rfl) ?_
  refine rdV (rest := []) (q0 := 0) ⟨hx, hb, hml, hown, hts⟩ (m_X7_isTable l G y b f r tb  ) mi_yX7_isTable mv_yX7_isTable ml_X7_120 ⟨rfl, rfl, Nat.le_of_ble_eq_true rfl, Nat.le_of_ble_eq_true rfl⟩ hK (hP) rfl rfl rfl hl.1 rfl (Nat.le_of_ble_eq_true rfl) dX7_close_2 ⟨Nat.zero_le _, Nat.zero_le _⟩ hS hA hP (fun r1 H locs hr1 hP hS => ?_)
  have hr1 : ((r1 = 1 ∧ (opn (r 1) tb)) ∨ (r1 = 0 ∧ ¬ (opn (r 1) tb))) := hr1
  refine lv_if_ne (tgt := 14) hx hb dX7_close_5 (by decide) (fun c2 => ?_) (fun c2 => ?_)
  · have b5 := bT hr1 c2
    obtain ⟨t, ht, rfl, hop⟩ := b5
    refine lv_aload_n hx hb dX7_close_14 rfl (lv_at hl 0 rfl) ?_
    refine va_get (D := G.1) (ci := 7) (v := .ref (b 1)) (C := RX7) (T := TX7) (N := 43) hx hb hts inX7 hown hK.1 hP 0 rfl rfl 1 (by decide) (hts _ mf_X7_7) (fun _ h9 => h9) rfl dX7_close_15 ?_
    refine lv_iload_n hx hb dX7_close_18 rfl (lv_at hl 1 rfl) ?_
    refine lv_iconst (v := 0) hx hb dX7_close_19 (by decide) ?_
    refine xzast (f := (r 1)) (x := 0) hx hb hK hP (hDD _ _) hS 1 (t) (rfl) (by omega) (by decide) (Or.inl rfl) rfl dX7_close_20 (fun H locs hP _ hS => ?_)
    have hP : PP G (mM G y b f (up2 r 1 (upd (r 1) (t) (0)))) H := hP
    refine lv_aload_n hx hb dX7_close_21 rfl (lv_at hl 0 rfl) ?_
    refine wrVIa (rest := []) (q0 := 0) ⟨hx, hb, hml, hown, hts⟩ (m_X7_good l G y b f (up2 r 1 (upd (r 1) (t) (0)))   ) mi_yX7_good mv_yX7_good ml_X7_138 ⟨rfl, rfl, Nat.le_of_ble_eq_true rfl, Nat.le_of_ble_eq_true rfl⟩ hK hP (hDD _ _) rfl rfl rfl hl.1 rfl (Nat.le_of_ble_eq_true rfl) dX7_close_22 ⟨Nat.zero_le _, Nat.zero_le _⟩ hS hA (fun r3 w4 H locs hw4 hP hS => ?_)
    obtain ⟨x5, rfl, hw4r, hst⟩ := hw4
    have hP : PP G (mM G y b (upd f 0 x5) (up2 r 1 (upd (r 1) (t) (0)))) H := hP
    have hst : x5 = 0 := hst
    obtain rfl := hw4r
    exact wr_zret hx hb hr hlocks (Or.inr rfl) hS hP ⟨x5, (upd (r 1) (t) (0)), rfl, Or.inl ⟨rfl, t, ht, rfl, hop, rfl⟩⟩ dX7_close_25
  · have b5 := bF hr1 c2
    refine lv_aload_n hx hb dX7_close_8 rfl (lv_at hl 0 rfl) ?_
    refine lv_iconst (v := 1) hx hb dX7_close_9 (by decide) ?_
    refine wrVIa (rest := []) (q0 := 0) ⟨hx, hb, hml, hown, hts⟩ (m_X7_refuse l G y b f r 1  ) mi_yX7_refuse mv_yX7_refuse ml_X7_131 ⟨rfl, rfl, Nat.le_of_ble_eq_true rfl, Nat.le_of_ble_eq_true rfl⟩ hK hP (hDD _ _) rfl rfl rfl hl.1 rfl (Nat.le_of_ble_eq_true rfl) dX7_close_10 ⟨Nat.zero_le _, Nat.zero_le _⟩ hS hA (fun r6 w7 H locs hw7 hP hS => ?_)
    obtain ⟨x8, rfl, hw7r, hst⟩ := hw7
    have hP : PP G (mM G y b (upd f 0 x8) r) H := hP
    have hst : x8 = 1 := hst
    obtain rfl := hw7r
    exact wr_zret hx hb hr hlocks (Or.inl rfl) hS hP ⟨x8, (r 1), rfl, Or.inr ⟨rfl, b5, rfl⟩⟩ dX7_close_13
set_option maxHeartbeats 4000000 in
set_option maxRecDepth 100000 in
theorem m_X7_rule (l : Launch) (G : GG) (y : Nat) (b : Nat → Nat) (f : Nat → Int32) (r : Nat → Nat → Int32) (tb : Int32) (wh : Int32) (nm : Int32) (hM2 : nOK 6 12 (r 2)) (hM3 : nOK 6 12 (r 3)) (hM12 : nOK 6 12 (r 12)) : WrI l yX7_rule cX7_rule 5 (some .boolean) ({ frames := 1, cells := 0, slots := 0, locals := 21 }) G (mM G y b f r) [.ref y, .int tb, .int wh, .int nm] (fun q w => ∃ (n_f_0 : Int32) (n_r_4 : Nat → Int32), w = mM G y b (upd f 0 n_f_0) (up2 r 4 n_r_4) ∧ (ruB (opn (r 1) tb) wh nm q ∧ ruR tb wh nm q (r 4) n_r_4)) := by
  refine wr_entryI (by decide +kernel) (Nat.le_of_ble_eq_true rfl) ?_
  intro p e s m below meth c A C0 hP hK hD hA ls hl
  have hS : va_S A s.heap s.heap [] := va_S.rf
  obtain ⟨hx, hb, hml, hown, hts, hr, hlocks, hin⟩ := C0
  have hown : s.vm.findClass RX7 = some m.cls := hown
  have hDD : ∀ f' r', va_D A (mM G y b f' r') := fun f' r' => D_same hD rfl
  have hl : lv_has ls 5 [(0, .ref y), (1, .int tb), (2, .int wh), (3, .int nm)] := hl
  refine lv_aload_n hx hb dX7_rule_0 rfl (lv_at hl 0 rfl) ?_
  refine lv_iload_n hx hb dX7_rule_1 rfl (lv_at hl 1 rfl) ?_
  refine rdV (rest := []) (q0 := 0) ⟨hx, hb, hml, hown, hts⟩ (m_X7_isTable l G y b f r tb  ) mi_yX7_isTable mv_yX7_isTable ml_X7_120 ⟨rfl, rfl, Nat.le_of_ble_eq_true rfl, Nat.le_of_ble_eq_true rfl⟩ hK (hP) rfl rfl rfl hl.1 rfl (Nat.le_of_ble_eq_true rfl) dX7_rule_2 ⟨Nat.zero_le _, Nat.zero_le _⟩ hS hA hP (fun r1 H locs hr1 hP hS => ?_)
  have hr1 : ((r1 = 1 ∧ (opn (r 1) tb)) ∨ (r1 = 0 ∧ ¬ (opn (r 1) tb))) := hr1
  refine lv_if_ne (tgt := 14) hx hb dX7_rule_5 (by decide) (fun c2 => ?_) (fun c2 => ?_)
  · have b5 := bT hr1 c2
    obtain ⟨t, ht, rfl, hop⟩ := b5
    obtain ⟨rw, hrw, h2⟩ := hM2 t ht
    obtain ⟨cl, hcl, h3⟩ := hM3 t ht
    obtain ⟨bk, hbk, h12⟩ := hM12 t ht
    refine lv_iload_n hx hb dX7_rule_14 rfl (lv_at hl 2 rfl) ?_
    refine lv_if_eq (tgt := 23) hx hb dX7_rule_15 (by decide) (fun c3 => ?_) (fun c3 => ?_)
    · refine lv_bipush (v := 100) hx hb dX7_rule_23 (by decide) ?_
      refine lv_goto (tgt := 49) hx hb dX7_rule_25 (by decide) ?_
      have hmw : mostW wh = 100 := by unfold mostW; rw [if_pos (Or.inl c3)]
      refine lv_istore (lv' := [(4, .int 100), (0, .ref y), (1, .int (nI t)), (2, .int wh), (3, .int nm)]) hx hb dX7_rule_49 hl (by decide) rfl (fun ls hl => ?_)
      refine lv_iload_n hx hb dX7_rule_51 rfl (lv_at hl 3 rfl) ?_
      refine lv_if_lt (tgt := 70) hx hb dX7_rule_52 (by decide) (fun c4 => ?_) (fun c4 => ?_)
      · refine lv_aload_n hx hb dX7_rule_70 rfl (lv_at hl 1 rfl) ?_
        refine lv_bipush (v := 7) hx hb dX7_rule_71 (by decide) ?_
        refine wrVIa (rest := []) (q0 := 0) ⟨hx, hb, hml, hown, hts⟩ (m_X7_refuse l G y b f r 7  ) mi_yX7_refuse mv_yX7_refuse ml_X7_131 ⟨rfl, rfl, Nat.le_of_ble_eq_true rfl, Nat.le_of_ble_eq_true rfl⟩ hK hP (hDD _ _) rfl rfl rfl hl.1 rfl (Nat.le_of_ble_eq_true rfl) dX7_rule_73 ⟨Nat.zero_le _, Nat.zero_le _⟩ hS hA (fun r5 w6 H locs hw6 hP hS => ?_)
        obtain ⟨x7, rfl, hw6r, hst⟩ := hw6
        have hP : PP G (mM G y b (upd f 0 x7) r) H := hP
        have hst : x7 = 7 := hst
        obtain rfl := hw6r
        exact wr_zret hx hb hr hlocks (Or.inl rfl) hS hP ⟨x7, (r 4), rfl, ⟨Or.inr ⟨rfl, fun h => (by obtain ⟨-, n, hn, e, -⟩ := h; exact absurd (e ▸ c4) (nI_pos (by omega)))⟩, Or.inl ⟨rfl, rfl⟩⟩⟩ dX7_rule_76
      · refine lv_iload_n hx hb dX7_rule_55 rfl (lv_at hl 3 rfl) ?_
        refine lv_iconst (v := 5) hx hb dX7_rule_56 (by decide) ?_
        refine lv_icmp_gt (tgt := 70) hx hb dX7_rule_57 (by decide) (fun c8 => ?_) (fun c8 => ?_)
        · refine lv_aload_n hx hb dX7_rule_70 rfl (lv_at hl 1 rfl) ?_
          refine lv_bipush (v := 7) hx hb dX7_rule_71 (by decide) ?_
          refine wrVIa (rest := []) (q0 := 0) ⟨hx, hb, hml, hown, hts⟩ (m_X7_refuse l G y b f r 7  ) mi_yX7_refuse mv_yX7_refuse ml_X7_131 ⟨rfl, rfl, Nat.le_of_ble_eq_true rfl, Nat.le_of_ble_eq_true rfl⟩ hK hP (hDD _ _) rfl rfl rfl hl.1 rfl (Nat.le_of_ble_eq_true rfl) dX7_rule_73 ⟨Nat.zero_le _, Nat.zero_le _⟩ hS hA (fun r9 w10 H locs hw10 hP hS => ?_)
          obtain ⟨x11, rfl, hw10r, hst⟩ := hw10
          have hP : PP G (mM G y b (upd f 0 x11) r) H := hP
          have hst : x11 = 7 := hst
          obtain rfl := hw10r
          exact wr_zret hx hb hr hlocks (Or.inl rfl) hS hP ⟨x11, (r 4), rfl, ⟨Or.inr ⟨rfl, fun h => (by obtain ⟨-, n, hn, e, -⟩ := h; exact absurd (e ▸ c8) (nI_nlt (a := 5) (by omega) (by decide)))⟩, Or.inl ⟨rfl, rfl⟩⟩⟩ dX7_rule_76
        · refine lv_iload_n hx hb dX7_rule_60 rfl (lv_at hl 4 rfl) ?_
          refine lv_if_lt (tgt := 70) hx hb dX7_rule_61 (by decide) (fun c12 => ?_) (fun c12 => ?_)
          · refine lv_aload_n hx hb dX7_rule_70 rfl (lv_at hl 1 rfl) ?_
            refine lv_bipush (v := 7) hx hb dX7_rule_71 (by decide) ?_
            refine wrVIa (rest := []) (q0 := 0) ⟨hx, hb, hml, hown, hts⟩ (m_X7_refuse l G y b f r 7  ) mi_yX7_refuse mv_yX7_refuse ml_X7_131 ⟨rfl, rfl, Nat.le_of_ble_eq_true rfl, Nat.le_of_ble_eq_true rfl⟩ hK hP (hDD _ _) rfl rfl rfl hl.1 rfl (Nat.le_of_ble_eq_true rfl) dX7_rule_73 ⟨Nat.zero_le _, Nat.zero_le _⟩ hS hA (fun r13 w14 H locs hw14 hP hS => ?_)
            obtain ⟨x15, rfl, hw14r, hst⟩ := hw14
            have hP : PP G (mM G y b (upd f 0 x15) r) H := hP
            have hst : x15 = 7 := hst
            obtain rfl := hw14r
            exact wr_zret hx hb hr hlocks (Or.inl rfl) hS hP ⟨x15, (r 4), rfl, ⟨Or.inr ⟨rfl, fun h => (by obtain ⟨-, n, hn, e, h4, -⟩ := h; exact h4 c12)⟩, Or.inl ⟨rfl, rfl⟩⟩⟩ dX7_rule_76
          · refine lv_iload_n hx hb dX7_rule_64 rfl (lv_at hl 4 rfl) ?_
            refine lv_iload hx hb dX7_rule_65 (lv_at hl 0 rfl) ?_
            refine lv_icmp_le (tgt := 77) hx hb dX7_rule_67 (by decide) (fun c16 => ?_) (fun c16 => ?_)
            · obtain ⟨i, hi, rfl⟩ := nI_le_n (n := 5) (by decide) c4 c8
              refine lv_aload_n hx hb dX7_rule_77 rfl (lv_at hl 1 rfl) ?_
              refine va_get (D := G.1) (ci := 7) (v := .ref (b 4)) (C := RX7) (T := TX7) (N := 43) hx hb hts inX7 hown hK.1 hP 0 rfl rfl 4 (by decide) (hts _ mf_X7_20) (fun _ h9 => h9) rfl dX7_rule_78 ?_
              refine lv_bipush (v := 6) hx hb dX7_rule_81 (by decide) ?_
              refine lv_iload_n hx hb dX7_rule_83 rfl (lv_at hl 2 rfl) ?_
              refine lv_imul hx hb dX7_rule_84 ?_
              refine lv_topi (fun v17 ev17 => ?_)
              obtain rfl : v17 = nI (6 * t) := nI_times ev17 rfl rfl
              refine lv_iload_n hx hb dX7_rule_85 rfl (lv_at hl 3 rfl) ?_
              refine lv_iadd hx hb dX7_rule_86 ?_
              refine lv_topi (fun v18 ev18 => ?_)
              obtain rfl : v18 = nI ((6 * t) + i) := nI_plus ev18 rfl rfl
              refine lv_iload_n hx hb dX7_rule_87 rfl (lv_at hl 4 rfl) ?_
              refine xiast (f := (r 4)) (x := nm) hx hb hK hP (hDD _ _) hS 4 (((6 * t) + i)) (rfl) (by omega) (by decide) rfl dX7_rule_88 (fun H locs hP _ hS => ?_)
              have hP : PP G (mM G y b f (up2 r 4 (upd (r 4) (((6 * t) + i)) (nm)))) H := hP
              refine lv_aload_n hx hb dX7_rule_89 rfl (lv_at hl 1 rfl) ?_
              refine wrVIa (rest := []) (q0 := 0) ⟨hx, hb, hml, hown, hts⟩ (m_X7_good l G y b f (up2 r 4 (upd (r 4) (((6 * t) + i)) (nm)))   ) mi_yX7_good mv_yX7_good ml_X7_138 ⟨rfl, rfl, Nat.le_of_ble_eq_true rfl, Nat.le_of_ble_eq_true rfl⟩ hK hP (hDD _ _) rfl rfl rfl hl.1 rfl (Nat.le_of_ble_eq_true rfl) dX7_rule_90 ⟨Nat.zero_le _, Nat.zero_le _⟩ hS hA (fun r19 w20 H locs hw20 hP hS => ?_)
              obtain ⟨x21, rfl, hw20r, hst⟩ := hw20
              have hP : PP G (mM G y b (upd f 0 x21) (up2 r 4 (upd (r 4) (((6 * t) + i)) (nm)))) H := hP
              have hst : x21 = 0 := hst
              obtain rfl := hw20r
              exact wr_zret hx hb hr hlocks (Or.inr rfl) hS hP ⟨x21, (upd (r 4) (((6 * t) + i)) (nm)), rfl, ⟨Or.inl ⟨rfl, ⟨t, ht, rfl, hop⟩, i, by omega, rfl, c12, by rw [ruX_most (show i < 6 by omega) rfl, hmw]; exact le_n c16⟩, Or.inr ⟨rfl, t, i, ht, by omega, rfl, rfl, rfl⟩⟩⟩ dX7_rule_93
            · refine lv_aload_n hx hb dX7_rule_70 rfl (lv_at hl 1 rfl) ?_
              refine lv_bipush (v := 7) hx hb dX7_rule_71 (by decide) ?_
              refine wrVIa (rest := []) (q0 := 0) ⟨hx, hb, hml, hown, hts⟩ (m_X7_refuse l G y b f r 7  ) mi_yX7_refuse mv_yX7_refuse ml_X7_131 ⟨rfl, rfl, Nat.le_of_ble_eq_true rfl, Nat.le_of_ble_eq_true rfl⟩ hK hP (hDD _ _) rfl rfl rfl hl.1 rfl (Nat.le_of_ble_eq_true rfl) dX7_rule_73 ⟨Nat.zero_le _, Nat.zero_le _⟩ hS hA (fun r22 w23 H locs hw23 hP hS => ?_)
              obtain ⟨x24, rfl, hw23r, hst⟩ := hw23
              have hP : PP G (mM G y b (upd f 0 x24) r) H := hP
              have hst : x24 = 7 := hst
              obtain rfl := hw23r
              exact wr_zret hx hb hr hlocks (Or.inl rfl) hS hP ⟨x24, (r 4), rfl, ⟨Or.inr ⟨rfl, fun h => (by obtain ⟨-, n, hn, e, -, h5⟩ := h; exact h5 (by rw [ruX_most hn e, hmw]; exact n_le c16))⟩, Or.inl ⟨rfl, rfl⟩⟩⟩ dX7_rule_76
    · refine lv_iload_n hx hb dX7_rule_18 rfl (lv_at hl 2 rfl) ?_
      refine lv_iconst (v := 2) hx hb dX7_rule_19 (by decide) ?_
      refine lv_icmp_ne (tgt := 28) hx hb dX7_rule_20 (by decide) (fun c25 => ?_) (fun c25 => ?_)
      · refine lv_iload_n hx hb dX7_rule_28 rfl (lv_at hl 2 rfl) ?_
        refine lv_iconst (v := 1) hx hb dX7_rule_29 (by decide) ?_
        refine lv_icmp_ne (tgt := 38) hx hb dX7_rule_30 (by decide) (fun c26 => ?_) (fun c26 => ?_)
        · refine lv_iload_n hx hb dX7_rule_38 rfl (lv_at hl 2 rfl) ?_
          refine lv_iconst (v := 5) hx hb dX7_rule_39 (by decide) ?_
          refine lv_icmp_ne (tgt := 47) hx hb dX7_rule_40 (by decide) (fun c27 => ?_) (fun c27 => ?_)
          · refine lv_ldc hx hb hown (hts _ mk_X7_142) dX7_rule_47 ?_
            have hmw : mostW wh = 1000000 := by unfold mostW; rw [if_neg (fun h => h.elim c3 c25), if_neg c26, if_neg c27]
            refine lv_istore (lv' := [(4, .int 1000000), (0, .ref y), (1, .int (nI t)), (2, .int wh), (3, .int nm)]) hx hb dX7_rule_49 hl (by decide) rfl (fun ls hl => ?_)
            refine lv_iload_n hx hb dX7_rule_51 rfl (lv_at hl 3 rfl) ?_
            refine lv_if_lt (tgt := 70) hx hb dX7_rule_52 (by decide) (fun c28 => ?_) (fun c28 => ?_)
            · refine lv_aload_n hx hb dX7_rule_70 rfl (lv_at hl 1 rfl) ?_
              refine lv_bipush (v := 7) hx hb dX7_rule_71 (by decide) ?_
              refine wrVIa (rest := []) (q0 := 0) ⟨hx, hb, hml, hown, hts⟩ (m_X7_refuse l G y b f r 7  ) mi_yX7_refuse mv_yX7_refuse ml_X7_131 ⟨rfl, rfl, Nat.le_of_ble_eq_true rfl, Nat.le_of_ble_eq_true rfl⟩ hK hP (hDD _ _) rfl rfl rfl hl.1 rfl (Nat.le_of_ble_eq_true rfl) dX7_rule_73 ⟨Nat.zero_le _, Nat.zero_le _⟩ hS hA (fun r29 w30 H locs hw30 hP hS => ?_)
              obtain ⟨x31, rfl, hw30r, hst⟩ := hw30
              have hP : PP G (mM G y b (upd f 0 x31) r) H := hP
              have hst : x31 = 7 := hst
              obtain rfl := hw30r
              exact wr_zret hx hb hr hlocks (Or.inl rfl) hS hP ⟨x31, (r 4), rfl, ⟨Or.inr ⟨rfl, fun h => (by obtain ⟨-, n, hn, e, -⟩ := h; exact absurd (e ▸ c28) (nI_pos (by omega)))⟩, Or.inl ⟨rfl, rfl⟩⟩⟩ dX7_rule_76
            · refine lv_iload_n hx hb dX7_rule_55 rfl (lv_at hl 3 rfl) ?_
              refine lv_iconst (v := 5) hx hb dX7_rule_56 (by decide) ?_
              refine lv_icmp_gt (tgt := 70) hx hb dX7_rule_57 (by decide) (fun c32 => ?_) (fun c32 => ?_)
              · refine lv_aload_n hx hb dX7_rule_70 rfl (lv_at hl 1 rfl) ?_
                refine lv_bipush (v := 7) hx hb dX7_rule_71 (by decide) ?_
                refine wrVIa (rest := []) (q0 := 0) ⟨hx, hb, hml, hown, hts⟩ (m_X7_refuse l G y b f r 7  ) mi_yX7_refuse mv_yX7_refuse ml_X7_131 ⟨rfl, rfl, Nat.le_of_ble_eq_true rfl, Nat.le_of_ble_eq_true rfl⟩ hK hP (hDD _ _) rfl rfl rfl hl.1 rfl (Nat.le_of_ble_eq_true rfl) dX7_rule_73 ⟨Nat.zero_le _, Nat.zero_le _⟩ hS hA (fun r33 w34 H locs hw34 hP hS => ?_)
                obtain ⟨x35, rfl, hw34r, hst⟩ := hw34
                have hP : PP G (mM G y b (upd f 0 x35) r) H := hP
                have hst : x35 = 7 := hst
                obtain rfl := hw34r
                exact wr_zret hx hb hr hlocks (Or.inl rfl) hS hP ⟨x35, (r 4), rfl, ⟨Or.inr ⟨rfl, fun h => (by obtain ⟨-, n, hn, e, -⟩ := h; exact absurd (e ▸ c32) (nI_nlt (a := 5) (by omega) (by decide)))⟩, Or.inl ⟨rfl, rfl⟩⟩⟩ dX7_rule_76
              · refine lv_iload_n hx hb dX7_rule_60 rfl (lv_at hl 4 rfl) ?_
                refine lv_if_lt (tgt := 70) hx hb dX7_rule_61 (by decide) (fun c36 => ?_) (fun c36 => ?_)
                · refine lv_aload_n hx hb dX7_rule_70 rfl (lv_at hl 1 rfl) ?_
                  refine lv_bipush (v := 7) hx hb dX7_rule_71 (by decide) ?_
                  refine wrVIa (rest := []) (q0 := 0) ⟨hx, hb, hml, hown, hts⟩ (m_X7_refuse l G y b f r 7  ) mi_yX7_refuse mv_yX7_refuse ml_X7_131 ⟨rfl, rfl, Nat.le_of_ble_eq_true rfl, Nat.le_of_ble_eq_true rfl⟩ hK hP (hDD _ _) rfl rfl rfl hl.1 rfl (Nat.le_of_ble_eq_true rfl) dX7_rule_73 ⟨Nat.zero_le _, Nat.zero_le _⟩ hS hA (fun r37 w38 H locs hw38 hP hS => ?_)
                  obtain ⟨x39, rfl, hw38r, hst⟩ := hw38
                  have hP : PP G (mM G y b (upd f 0 x39) r) H := hP
                  have hst : x39 = 7 := hst
                  obtain rfl := hw38r
                  exact wr_zret hx hb hr hlocks (Or.inl rfl) hS hP ⟨x39, (r 4), rfl, ⟨Or.inr ⟨rfl, fun h => (by obtain ⟨-, n, hn, e, h4, -⟩ := h; exact h4 c36)⟩, Or.inl ⟨rfl, rfl⟩⟩⟩ dX7_rule_76
                · refine lv_iload_n hx hb dX7_rule_64 rfl (lv_at hl 4 rfl) ?_
                  refine lv_iload hx hb dX7_rule_65 (lv_at hl 0 rfl) ?_
                  refine lv_icmp_le (tgt := 77) hx hb dX7_rule_67 (by decide) (fun c40 => ?_) (fun c40 => ?_)
                  · obtain ⟨i, hi, rfl⟩ := nI_le_n (n := 5) (by decide) c28 c32
                    refine lv_aload_n hx hb dX7_rule_77 rfl (lv_at hl 1 rfl) ?_
                    refine va_get (D := G.1) (ci := 7) (v := .ref (b 4)) (C := RX7) (T := TX7) (N := 43) hx hb hts inX7 hown hK.1 hP 0 rfl rfl 4 (by decide) (hts _ mf_X7_20) (fun _ h9 => h9) rfl dX7_rule_78 ?_
                    refine lv_bipush (v := 6) hx hb dX7_rule_81 (by decide) ?_
                    refine lv_iload_n hx hb dX7_rule_83 rfl (lv_at hl 2 rfl) ?_
                    refine lv_imul hx hb dX7_rule_84 ?_
                    refine lv_topi (fun v41 ev41 => ?_)
                    obtain rfl : v41 = nI (6 * t) := nI_times ev41 rfl rfl
                    refine lv_iload_n hx hb dX7_rule_85 rfl (lv_at hl 3 rfl) ?_
                    refine lv_iadd hx hb dX7_rule_86 ?_
                    refine lv_topi (fun v42 ev42 => ?_)
                    obtain rfl : v42 = nI ((6 * t) + i) := nI_plus ev42 rfl rfl
                    refine lv_iload_n hx hb dX7_rule_87 rfl (lv_at hl 4 rfl) ?_
                    refine xiast (f := (r 4)) (x := nm) hx hb hK hP (hDD _ _) hS 4 (((6 * t) + i)) (rfl) (by omega) (by decide) rfl dX7_rule_88 (fun H locs hP _ hS => ?_)
                    have hP : PP G (mM G y b f (up2 r 4 (upd (r 4) (((6 * t) + i)) (nm)))) H := hP
                    refine lv_aload_n hx hb dX7_rule_89 rfl (lv_at hl 1 rfl) ?_
                    refine wrVIa (rest := []) (q0 := 0) ⟨hx, hb, hml, hown, hts⟩ (m_X7_good l G y b f (up2 r 4 (upd (r 4) (((6 * t) + i)) (nm)))   ) mi_yX7_good mv_yX7_good ml_X7_138 ⟨rfl, rfl, Nat.le_of_ble_eq_true rfl, Nat.le_of_ble_eq_true rfl⟩ hK hP (hDD _ _) rfl rfl rfl hl.1 rfl (Nat.le_of_ble_eq_true rfl) dX7_rule_90 ⟨Nat.zero_le _, Nat.zero_le _⟩ hS hA (fun r43 w44 H locs hw44 hP hS => ?_)
                    obtain ⟨x45, rfl, hw44r, hst⟩ := hw44
                    have hP : PP G (mM G y b (upd f 0 x45) (up2 r 4 (upd (r 4) (((6 * t) + i)) (nm)))) H := hP
                    have hst : x45 = 0 := hst
                    obtain rfl := hw44r
                    exact wr_zret hx hb hr hlocks (Or.inr rfl) hS hP ⟨x45, (upd (r 4) (((6 * t) + i)) (nm)), rfl, ⟨Or.inl ⟨rfl, ⟨t, ht, rfl, hop⟩, i, by omega, rfl, c36, by rw [ruX_most (show i < 6 by omega) rfl, hmw]; exact le_n c40⟩, Or.inr ⟨rfl, t, i, ht, by omega, rfl, rfl, rfl⟩⟩⟩ dX7_rule_93
                  · refine lv_aload_n hx hb dX7_rule_70 rfl (lv_at hl 1 rfl) ?_
                    refine lv_bipush (v := 7) hx hb dX7_rule_71 (by decide) ?_
                    refine wrVIa (rest := []) (q0 := 0) ⟨hx, hb, hml, hown, hts⟩ (m_X7_refuse l G y b f r 7  ) mi_yX7_refuse mv_yX7_refuse ml_X7_131 ⟨rfl, rfl, Nat.le_of_ble_eq_true rfl, Nat.le_of_ble_eq_true rfl⟩ hK hP (hDD _ _) rfl rfl rfl hl.1 rfl (Nat.le_of_ble_eq_true rfl) dX7_rule_73 ⟨Nat.zero_le _, Nat.zero_le _⟩ hS hA (fun r46 w47 H locs hw47 hP hS => ?_)
                    obtain ⟨x48, rfl, hw47r, hst⟩ := hw47
                    have hP : PP G (mM G y b (upd f 0 x48) r) H := hP
                    have hst : x48 = 7 := hst
                    obtain rfl := hw47r
                    exact wr_zret hx hb hr hlocks (Or.inl rfl) hS hP ⟨x48, (r 4), rfl, ⟨Or.inr ⟨rfl, fun h => (by obtain ⟨-, n, hn, e, -, h5⟩ := h; exact h5 (by rw [ruX_most hn e, hmw]; exact n_le c40))⟩, Or.inl ⟨rfl, rfl⟩⟩⟩ dX7_rule_76
          · refine lv_iconst (v := 1) hx hb dX7_rule_43 (by decide) ?_
            refine lv_goto (tgt := 49) hx hb dX7_rule_44 (by decide) ?_
            have hmw : mostW wh = 1 := by unfold mostW; rw [if_neg (fun h => h.elim c3 c25), if_neg c26, if_pos c27]
            refine lv_istore (lv' := [(4, .int 1), (0, .ref y), (1, .int (nI t)), (2, .int wh), (3, .int nm)]) hx hb dX7_rule_49 hl (by decide) rfl (fun ls hl => ?_)
            refine lv_iload_n hx hb dX7_rule_51 rfl (lv_at hl 3 rfl) ?_
            refine lv_if_lt (tgt := 70) hx hb dX7_rule_52 (by decide) (fun c49 => ?_) (fun c49 => ?_)
            · refine lv_aload_n hx hb dX7_rule_70 rfl (lv_at hl 1 rfl) ?_
              refine lv_bipush (v := 7) hx hb dX7_rule_71 (by decide) ?_
              refine wrVIa (rest := []) (q0 := 0) ⟨hx, hb, hml, hown, hts⟩ (m_X7_refuse l G y b f r 7  ) mi_yX7_refuse mv_yX7_refuse ml_X7_131 ⟨rfl, rfl, Nat.le_of_ble_eq_true rfl, Nat.le_of_ble_eq_true rfl⟩ hK hP (hDD _ _) rfl rfl rfl hl.1 rfl (Nat.le_of_ble_eq_true rfl) dX7_rule_73 ⟨Nat.zero_le _, Nat.zero_le _⟩ hS hA (fun r50 w51 H locs hw51 hP hS => ?_)
              obtain ⟨x52, rfl, hw51r, hst⟩ := hw51
              have hP : PP G (mM G y b (upd f 0 x52) r) H := hP
              have hst : x52 = 7 := hst
              obtain rfl := hw51r
              exact wr_zret hx hb hr hlocks (Or.inl rfl) hS hP ⟨x52, (r 4), rfl, ⟨Or.inr ⟨rfl, fun h => (by obtain ⟨-, n, hn, e, -⟩ := h; exact absurd (e ▸ c49) (nI_pos (by omega)))⟩, Or.inl ⟨rfl, rfl⟩⟩⟩ dX7_rule_76
            · refine lv_iload_n hx hb dX7_rule_55 rfl (lv_at hl 3 rfl) ?_
              refine lv_iconst (v := 5) hx hb dX7_rule_56 (by decide) ?_
              refine lv_icmp_gt (tgt := 70) hx hb dX7_rule_57 (by decide) (fun c53 => ?_) (fun c53 => ?_)
              · refine lv_aload_n hx hb dX7_rule_70 rfl (lv_at hl 1 rfl) ?_
                refine lv_bipush (v := 7) hx hb dX7_rule_71 (by decide) ?_
                refine wrVIa (rest := []) (q0 := 0) ⟨hx, hb, hml, hown, hts⟩ (m_X7_refuse l G y b f r 7  ) mi_yX7_refuse mv_yX7_refuse ml_X7_131 ⟨rfl, rfl, Nat.le_of_ble_eq_true rfl, Nat.le_of_ble_eq_true rfl⟩ hK hP (hDD _ _) rfl rfl rfl hl.1 rfl (Nat.le_of_ble_eq_true rfl) dX7_rule_73 ⟨Nat.zero_le _, Nat.zero_le _⟩ hS hA (fun r54 w55 H locs hw55 hP hS => ?_)
                obtain ⟨x56, rfl, hw55r, hst⟩ := hw55
                have hP : PP G (mM G y b (upd f 0 x56) r) H := hP
                have hst : x56 = 7 := hst
                obtain rfl := hw55r
                exact wr_zret hx hb hr hlocks (Or.inl rfl) hS hP ⟨x56, (r 4), rfl, ⟨Or.inr ⟨rfl, fun h => (by obtain ⟨-, n, hn, e, -⟩ := h; exact absurd (e ▸ c53) (nI_nlt (a := 5) (by omega) (by decide)))⟩, Or.inl ⟨rfl, rfl⟩⟩⟩ dX7_rule_76
              · refine lv_iload_n hx hb dX7_rule_60 rfl (lv_at hl 4 rfl) ?_
                refine lv_if_lt (tgt := 70) hx hb dX7_rule_61 (by decide) (fun c57 => ?_) (fun c57 => ?_)
                · refine lv_aload_n hx hb dX7_rule_70 rfl (lv_at hl 1 rfl) ?_
                  refine lv_bipush (v := 7) hx hb dX7_rule_71 (by decide) ?_
                  refine wrVIa (rest := []) (q0 := 0) ⟨hx, hb, hml, hown, hts⟩ (m_X7_refuse l G y b f r 7  ) mi_yX7_refuse mv_yX7_refuse ml_X7_131 ⟨rfl, rfl, Nat.le_of_ble_eq_true rfl, Nat.le_of_ble_eq_true rfl⟩ hK hP (hDD _ _) rfl rfl rfl hl.1 rfl (Nat.le_of_ble_eq_true rfl) dX7_rule_73 ⟨Nat.zero_le _, Nat.zero_le _⟩ hS hA (fun r58 w59 H locs hw59 hP hS => ?_)
                  obtain ⟨x60, rfl, hw59r, hst⟩ := hw59
                  have hP : PP G (mM G y b (upd f 0 x60) r) H := hP
                  have hst : x60 = 7 := hst
                  obtain rfl := hw59r
                  exact wr_zret hx hb hr hlocks (Or.inl rfl) hS hP ⟨x60, (r 4), rfl, ⟨Or.inr ⟨rfl, fun h => (by obtain ⟨-, n, hn, e, h4, -⟩ := h; exact h4 c57)⟩, Or.inl ⟨rfl, rfl⟩⟩⟩ dX7_rule_76
                · refine lv_iload_n hx hb dX7_rule_64 rfl (lv_at hl 4 rfl) ?_
                  refine lv_iload hx hb dX7_rule_65 (lv_at hl 0 rfl) ?_
                  refine lv_icmp_le (tgt := 77) hx hb dX7_rule_67 (by decide) (fun c61 => ?_) (fun c61 => ?_)
                  · obtain ⟨i, hi, rfl⟩ := nI_le_n (n := 5) (by decide) c49 c53
                    refine lv_aload_n hx hb dX7_rule_77 rfl (lv_at hl 1 rfl) ?_
                    refine va_get (D := G.1) (ci := 7) (v := .ref (b 4)) (C := RX7) (T := TX7) (N := 43) hx hb hts inX7 hown hK.1 hP 0 rfl rfl 4 (by decide) (hts _ mf_X7_20) (fun _ h9 => h9) rfl dX7_rule_78 ?_
                    refine lv_bipush (v := 6) hx hb dX7_rule_81 (by decide) ?_
                    refine lv_iload_n hx hb dX7_rule_83 rfl (lv_at hl 2 rfl) ?_
                    refine lv_imul hx hb dX7_rule_84 ?_
                    refine lv_topi (fun v62 ev62 => ?_)
                    obtain rfl : v62 = nI (6 * t) := nI_times ev62 rfl rfl
                    refine lv_iload_n hx hb dX7_rule_85 rfl (lv_at hl 3 rfl) ?_
                    refine lv_iadd hx hb dX7_rule_86 ?_
                    refine lv_topi (fun v63 ev63 => ?_)
                    obtain rfl : v63 = nI ((6 * t) + i) := nI_plus ev63 rfl rfl
                    refine lv_iload_n hx hb dX7_rule_87 rfl (lv_at hl 4 rfl) ?_
                    refine xiast (f := (r 4)) (x := nm) hx hb hK hP (hDD _ _) hS 4 (((6 * t) + i)) (rfl) (by omega) (by decide) rfl dX7_rule_88 (fun H locs hP _ hS => ?_)
                    have hP : PP G (mM G y b f (up2 r 4 (upd (r 4) (((6 * t) + i)) (nm)))) H := hP
                    refine lv_aload_n hx hb dX7_rule_89 rfl (lv_at hl 1 rfl) ?_
                    refine wrVIa (rest := []) (q0 := 0) ⟨hx, hb, hml, hown, hts⟩ (m_X7_good l G y b f (up2 r 4 (upd (r 4) (((6 * t) + i)) (nm)))   ) mi_yX7_good mv_yX7_good ml_X7_138 ⟨rfl, rfl, Nat.le_of_ble_eq_true rfl, Nat.le_of_ble_eq_true rfl⟩ hK hP (hDD _ _) rfl rfl rfl hl.1 rfl (Nat.le_of_ble_eq_true rfl) dX7_rule_90 ⟨Nat.zero_le _, Nat.zero_le _⟩ hS hA (fun r64 w65 H locs hw65 hP hS => ?_)
                    obtain ⟨x66, rfl, hw65r, hst⟩ := hw65
                    have hP : PP G (mM G y b (upd f 0 x66) (up2 r 4 (upd (r 4) (((6 * t) + i)) (nm)))) H := hP
                    have hst : x66 = 0 := hst
                    obtain rfl := hw65r
                    exact wr_zret hx hb hr hlocks (Or.inr rfl) hS hP ⟨x66, (upd (r 4) (((6 * t) + i)) (nm)), rfl, ⟨Or.inl ⟨rfl, ⟨t, ht, rfl, hop⟩, i, by omega, rfl, c57, by rw [ruX_most (show i < 6 by omega) rfl, hmw]; exact le_n c61⟩, Or.inr ⟨rfl, t, i, ht, by omega, rfl, rfl, rfl⟩⟩⟩ dX7_rule_93
                  · refine lv_aload_n hx hb dX7_rule_70 rfl (lv_at hl 1 rfl) ?_
                    refine lv_bipush (v := 7) hx hb dX7_rule_71 (by decide) ?_
                    refine wrVIa (rest := []) (q0 := 0) ⟨hx, hb, hml, hown, hts⟩ (m_X7_refuse l G y b f r 7  ) mi_yX7_refuse mv_yX7_refuse ml_X7_131 ⟨rfl, rfl, Nat.le_of_ble_eq_true rfl, Nat.le_of_ble_eq_true rfl⟩ hK hP (hDD _ _) rfl rfl rfl hl.1 rfl (Nat.le_of_ble_eq_true rfl) dX7_rule_73 ⟨Nat.zero_le _, Nat.zero_le _⟩ hS hA (fun r67 w68 H locs hw68 hP hS => ?_)
                    obtain ⟨x69, rfl, hw68r, hst⟩ := hw68
                    have hP : PP G (mM G y b (upd f 0 x69) r) H := hP
                    have hst : x69 = 7 := hst
                    obtain rfl := hw68r
                    exact wr_zret hx hb hr hlocks (Or.inl rfl) hS hP ⟨x69, (r 4), rfl, ⟨Or.inr ⟨rfl, fun h => (by obtain ⟨-, n, hn, e, -, h5⟩ := h; exact h5 (by rw [ruX_most hn e, hmw]; exact n_le c61))⟩, Or.inl ⟨rfl, rfl⟩⟩⟩ dX7_rule_76
        · refine lv_bipush (v := 6) hx hb dX7_rule_33 (by decide) ?_
          refine lv_goto (tgt := 49) hx hb dX7_rule_35 (by decide) ?_
          have hmw : mostW wh = 6 := by unfold mostW; rw [if_neg (fun h => h.elim c3 c25), if_pos c26]
          refine lv_istore (lv' := [(4, .int 6), (0, .ref y), (1, .int (nI t)), (2, .int wh), (3, .int nm)]) hx hb dX7_rule_49 hl (by decide) rfl (fun ls hl => ?_)
          refine lv_iload_n hx hb dX7_rule_51 rfl (lv_at hl 3 rfl) ?_
          refine lv_if_lt (tgt := 70) hx hb dX7_rule_52 (by decide) (fun c70 => ?_) (fun c70 => ?_)
          · refine lv_aload_n hx hb dX7_rule_70 rfl (lv_at hl 1 rfl) ?_
            refine lv_bipush (v := 7) hx hb dX7_rule_71 (by decide) ?_
            refine wrVIa (rest := []) (q0 := 0) ⟨hx, hb, hml, hown, hts⟩ (m_X7_refuse l G y b f r 7  ) mi_yX7_refuse mv_yX7_refuse ml_X7_131 ⟨rfl, rfl, Nat.le_of_ble_eq_true rfl, Nat.le_of_ble_eq_true rfl⟩ hK hP (hDD _ _) rfl rfl rfl hl.1 rfl (Nat.le_of_ble_eq_true rfl) dX7_rule_73 ⟨Nat.zero_le _, Nat.zero_le _⟩ hS hA (fun r71 w72 H locs hw72 hP hS => ?_)
            obtain ⟨x73, rfl, hw72r, hst⟩ := hw72
            have hP : PP G (mM G y b (upd f 0 x73) r) H := hP
            have hst : x73 = 7 := hst
            obtain rfl := hw72r
            exact wr_zret hx hb hr hlocks (Or.inl rfl) hS hP ⟨x73, (r 4), rfl, ⟨Or.inr ⟨rfl, fun h => (by obtain ⟨-, n, hn, e, -⟩ := h; exact absurd (e ▸ c70) (nI_pos (by omega)))⟩, Or.inl ⟨rfl, rfl⟩⟩⟩ dX7_rule_76
          · refine lv_iload_n hx hb dX7_rule_55 rfl (lv_at hl 3 rfl) ?_
            refine lv_iconst (v := 5) hx hb dX7_rule_56 (by decide) ?_
            refine lv_icmp_gt (tgt := 70) hx hb dX7_rule_57 (by decide) (fun c74 => ?_) (fun c74 => ?_)
            · refine lv_aload_n hx hb dX7_rule_70 rfl (lv_at hl 1 rfl) ?_
              refine lv_bipush (v := 7) hx hb dX7_rule_71 (by decide) ?_
              refine wrVIa (rest := []) (q0 := 0) ⟨hx, hb, hml, hown, hts⟩ (m_X7_refuse l G y b f r 7  ) mi_yX7_refuse mv_yX7_refuse ml_X7_131 ⟨rfl, rfl, Nat.le_of_ble_eq_true rfl, Nat.le_of_ble_eq_true rfl⟩ hK hP (hDD _ _) rfl rfl rfl hl.1 rfl (Nat.le_of_ble_eq_true rfl) dX7_rule_73 ⟨Nat.zero_le _, Nat.zero_le _⟩ hS hA (fun r75 w76 H locs hw76 hP hS => ?_)
              obtain ⟨x77, rfl, hw76r, hst⟩ := hw76
              have hP : PP G (mM G y b (upd f 0 x77) r) H := hP
              have hst : x77 = 7 := hst
              obtain rfl := hw76r
              exact wr_zret hx hb hr hlocks (Or.inl rfl) hS hP ⟨x77, (r 4), rfl, ⟨Or.inr ⟨rfl, fun h => (by obtain ⟨-, n, hn, e, -⟩ := h; exact absurd (e ▸ c74) (nI_nlt (a := 5) (by omega) (by decide)))⟩, Or.inl ⟨rfl, rfl⟩⟩⟩ dX7_rule_76
            · refine lv_iload_n hx hb dX7_rule_60 rfl (lv_at hl 4 rfl) ?_
              refine lv_if_lt (tgt := 70) hx hb dX7_rule_61 (by decide) (fun c78 => ?_) (fun c78 => ?_)
              · refine lv_aload_n hx hb dX7_rule_70 rfl (lv_at hl 1 rfl) ?_
                refine lv_bipush (v := 7) hx hb dX7_rule_71 (by decide) ?_
                refine wrVIa (rest := []) (q0 := 0) ⟨hx, hb, hml, hown, hts⟩ (m_X7_refuse l G y b f r 7  ) mi_yX7_refuse mv_yX7_refuse ml_X7_131 ⟨rfl, rfl, Nat.le_of_ble_eq_true rfl, Nat.le_of_ble_eq_true rfl⟩ hK hP (hDD _ _) rfl rfl rfl hl.1 rfl (Nat.le_of_ble_eq_true rfl) dX7_rule_73 ⟨Nat.zero_le _, Nat.zero_le _⟩ hS hA (fun r79 w80 H locs hw80 hP hS => ?_)
                obtain ⟨x81, rfl, hw80r, hst⟩ := hw80
                have hP : PP G (mM G y b (upd f 0 x81) r) H := hP
                have hst : x81 = 7 := hst
                obtain rfl := hw80r
                exact wr_zret hx hb hr hlocks (Or.inl rfl) hS hP ⟨x81, (r 4), rfl, ⟨Or.inr ⟨rfl, fun h => (by obtain ⟨-, n, hn, e, h4, -⟩ := h; exact h4 c78)⟩, Or.inl ⟨rfl, rfl⟩⟩⟩ dX7_rule_76
              · refine lv_iload_n hx hb dX7_rule_64 rfl (lv_at hl 4 rfl) ?_
                refine lv_iload hx hb dX7_rule_65 (lv_at hl 0 rfl) ?_
                refine lv_icmp_le (tgt := 77) hx hb dX7_rule_67 (by decide) (fun c82 => ?_) (fun c82 => ?_)
                · obtain ⟨i, hi, rfl⟩ := nI_le_n (n := 5) (by decide) c70 c74
                  refine lv_aload_n hx hb dX7_rule_77 rfl (lv_at hl 1 rfl) ?_
                  refine va_get (D := G.1) (ci := 7) (v := .ref (b 4)) (C := RX7) (T := TX7) (N := 43) hx hb hts inX7 hown hK.1 hP 0 rfl rfl 4 (by decide) (hts _ mf_X7_20) (fun _ h9 => h9) rfl dX7_rule_78 ?_
                  refine lv_bipush (v := 6) hx hb dX7_rule_81 (by decide) ?_
                  refine lv_iload_n hx hb dX7_rule_83 rfl (lv_at hl 2 rfl) ?_
                  refine lv_imul hx hb dX7_rule_84 ?_
                  refine lv_topi (fun v83 ev83 => ?_)
                  obtain rfl : v83 = nI (6 * t) := nI_times ev83 rfl rfl
                  refine lv_iload_n hx hb dX7_rule_85 rfl (lv_at hl 3 rfl) ?_
                  refine lv_iadd hx hb dX7_rule_86 ?_
                  refine lv_topi (fun v84 ev84 => ?_)
                  obtain rfl : v84 = nI ((6 * t) + i) := nI_plus ev84 rfl rfl
                  refine lv_iload_n hx hb dX7_rule_87 rfl (lv_at hl 4 rfl) ?_
                  refine xiast (f := (r 4)) (x := nm) hx hb hK hP (hDD _ _) hS 4 (((6 * t) + i)) (rfl) (by omega) (by decide) rfl dX7_rule_88 (fun H locs hP _ hS => ?_)
                  have hP : PP G (mM G y b f (up2 r 4 (upd (r 4) (((6 * t) + i)) (nm)))) H := hP
                  refine lv_aload_n hx hb dX7_rule_89 rfl (lv_at hl 1 rfl) ?_
                  refine wrVIa (rest := []) (q0 := 0) ⟨hx, hb, hml, hown, hts⟩ (m_X7_good l G y b f (up2 r 4 (upd (r 4) (((6 * t) + i)) (nm)))   ) mi_yX7_good mv_yX7_good ml_X7_138 ⟨rfl, rfl, Nat.le_of_ble_eq_true rfl, Nat.le_of_ble_eq_true rfl⟩ hK hP (hDD _ _) rfl rfl rfl hl.1 rfl (Nat.le_of_ble_eq_true rfl) dX7_rule_90 ⟨Nat.zero_le _, Nat.zero_le _⟩ hS hA (fun r85 w86 H locs hw86 hP hS => ?_)
                  obtain ⟨x87, rfl, hw86r, hst⟩ := hw86
                  have hP : PP G (mM G y b (upd f 0 x87) (up2 r 4 (upd (r 4) (((6 * t) + i)) (nm)))) H := hP
                  have hst : x87 = 0 := hst
                  obtain rfl := hw86r
                  exact wr_zret hx hb hr hlocks (Or.inr rfl) hS hP ⟨x87, (upd (r 4) (((6 * t) + i)) (nm)), rfl, ⟨Or.inl ⟨rfl, ⟨t, ht, rfl, hop⟩, i, by omega, rfl, c78, by rw [ruX_most (show i < 6 by omega) rfl, hmw]; exact le_n c82⟩, Or.inr ⟨rfl, t, i, ht, by omega, rfl, rfl, rfl⟩⟩⟩ dX7_rule_93
                · refine lv_aload_n hx hb dX7_rule_70 rfl (lv_at hl 1 rfl) ?_
                  refine lv_bipush (v := 7) hx hb dX7_rule_71 (by decide) ?_
                  refine wrVIa (rest := []) (q0 := 0) ⟨hx, hb, hml, hown, hts⟩ (m_X7_refuse l G y b f r 7  ) mi_yX7_refuse mv_yX7_refuse ml_X7_131 ⟨rfl, rfl, Nat.le_of_ble_eq_true rfl, Nat.le_of_ble_eq_true rfl⟩ hK hP (hDD _ _) rfl rfl rfl hl.1 rfl (Nat.le_of_ble_eq_true rfl) dX7_rule_73 ⟨Nat.zero_le _, Nat.zero_le _⟩ hS hA (fun r88 w89 H locs hw89 hP hS => ?_)
                  obtain ⟨x90, rfl, hw89r, hst⟩ := hw89
                  have hP : PP G (mM G y b (upd f 0 x90) r) H := hP
                  have hst : x90 = 7 := hst
                  obtain rfl := hw89r
                  exact wr_zret hx hb hr hlocks (Or.inl rfl) hS hP ⟨x90, (r 4), rfl, ⟨Or.inr ⟨rfl, fun h => (by obtain ⟨-, n, hn, e, -, h5⟩ := h; exact h5 (by rw [ruX_most hn e, hmw]; exact n_le c82))⟩, Or.inl ⟨rfl, rfl⟩⟩⟩ dX7_rule_76
      · refine lv_bipush (v := 100) hx hb dX7_rule_23 (by decide) ?_
        refine lv_goto (tgt := 49) hx hb dX7_rule_25 (by decide) ?_
        have hmw : mostW wh = 100 := by unfold mostW; rw [if_pos (Or.inr c25)]
        refine lv_istore (lv' := [(4, .int 100), (0, .ref y), (1, .int (nI t)), (2, .int wh), (3, .int nm)]) hx hb dX7_rule_49 hl (by decide) rfl (fun ls hl => ?_)
        refine lv_iload_n hx hb dX7_rule_51 rfl (lv_at hl 3 rfl) ?_
        refine lv_if_lt (tgt := 70) hx hb dX7_rule_52 (by decide) (fun c91 => ?_) (fun c91 => ?_)
        · refine lv_aload_n hx hb dX7_rule_70 rfl (lv_at hl 1 rfl) ?_
          refine lv_bipush (v := 7) hx hb dX7_rule_71 (by decide) ?_
          refine wrVIa (rest := []) (q0 := 0) ⟨hx, hb, hml, hown, hts⟩ (m_X7_refuse l G y b f r 7  ) mi_yX7_refuse mv_yX7_refuse ml_X7_131 ⟨rfl, rfl, Nat.le_of_ble_eq_true rfl, Nat.le_of_ble_eq_true rfl⟩ hK hP (hDD _ _) rfl rfl rfl hl.1 rfl (Nat.le_of_ble_eq_true rfl) dX7_rule_73 ⟨Nat.zero_le _, Nat.zero_le _⟩ hS hA (fun r92 w93 H locs hw93 hP hS => ?_)
          obtain ⟨x94, rfl, hw93r, hst⟩ := hw93
          have hP : PP G (mM G y b (upd f 0 x94) r) H := hP
          have hst : x94 = 7 := hst
          obtain rfl := hw93r
          exact wr_zret hx hb hr hlocks (Or.inl rfl) hS hP ⟨x94, (r 4), rfl, ⟨Or.inr ⟨rfl, fun h => (by obtain ⟨-, n, hn, e, -⟩ := h; exact absurd (e ▸ c91) (nI_pos (by omega)))⟩, Or.inl ⟨rfl, rfl⟩⟩⟩ dX7_rule_76
        · refine lv_iload_n hx hb dX7_rule_55 rfl (lv_at hl 3 rfl) ?_
          refine lv_iconst (v := 5) hx hb dX7_rule_56 (by decide) ?_
          refine lv_icmp_gt (tgt := 70) hx hb dX7_rule_57 (by decide) (fun c95 => ?_) (fun c95 => ?_)
          · refine lv_aload_n hx hb dX7_rule_70 rfl (lv_at hl 1 rfl) ?_
            refine lv_bipush (v := 7) hx hb dX7_rule_71 (by decide) ?_
            refine wrVIa (rest := []) (q0 := 0) ⟨hx, hb, hml, hown, hts⟩ (m_X7_refuse l G y b f r 7  ) mi_yX7_refuse mv_yX7_refuse ml_X7_131 ⟨rfl, rfl, Nat.le_of_ble_eq_true rfl, Nat.le_of_ble_eq_true rfl⟩ hK hP (hDD _ _) rfl rfl rfl hl.1 rfl (Nat.le_of_ble_eq_true rfl) dX7_rule_73 ⟨Nat.zero_le _, Nat.zero_le _⟩ hS hA (fun r96 w97 H locs hw97 hP hS => ?_)
            obtain ⟨x98, rfl, hw97r, hst⟩ := hw97
            have hP : PP G (mM G y b (upd f 0 x98) r) H := hP
            have hst : x98 = 7 := hst
            obtain rfl := hw97r
            exact wr_zret hx hb hr hlocks (Or.inl rfl) hS hP ⟨x98, (r 4), rfl, ⟨Or.inr ⟨rfl, fun h => (by obtain ⟨-, n, hn, e, -⟩ := h; exact absurd (e ▸ c95) (nI_nlt (a := 5) (by omega) (by decide)))⟩, Or.inl ⟨rfl, rfl⟩⟩⟩ dX7_rule_76
          · refine lv_iload_n hx hb dX7_rule_60 rfl (lv_at hl 4 rfl) ?_
            refine lv_if_lt (tgt := 70) hx hb dX7_rule_61 (by decide) (fun c99 => ?_) (fun c99 => ?_)
            · refine lv_aload_n hx hb dX7_rule_70 rfl (lv_at hl 1 rfl) ?_
              refine lv_bipush (v := 7) hx hb dX7_rule_71 (by decide) ?_
              refine wrVIa (rest := []) (q0 := 0) ⟨hx, hb, hml, hown, hts⟩ (m_X7_refuse l G y b f r 7  ) mi_yX7_refuse mv_yX7_refuse ml_X7_131 ⟨rfl, rfl, Nat.le_of_ble_eq_true rfl, Nat.le_of_ble_eq_true rfl⟩ hK hP (hDD _ _) rfl rfl rfl hl.1 rfl (Nat.le_of_ble_eq_true rfl) dX7_rule_73 ⟨Nat.zero_le _, Nat.zero_le _⟩ hS hA (fun r100 w101 H locs hw101 hP hS => ?_)
              obtain ⟨x102, rfl, hw101r, hst⟩ := hw101
              have hP : PP G (mM G y b (upd f 0 x102) r) H := hP
              have hst : x102 = 7 := hst
              obtain rfl := hw101r
              exact wr_zret hx hb hr hlocks (Or.inl rfl) hS hP ⟨x102, (r 4), rfl, ⟨Or.inr ⟨rfl, fun h => (by obtain ⟨-, n, hn, e, h4, -⟩ := h; exact h4 c99)⟩, Or.inl ⟨rfl, rfl⟩⟩⟩ dX7_rule_76
            · refine lv_iload_n hx hb dX7_rule_64 rfl (lv_at hl 4 rfl) ?_
              refine lv_iload hx hb dX7_rule_65 (lv_at hl 0 rfl) ?_
              refine lv_icmp_le (tgt := 77) hx hb dX7_rule_67 (by decide) (fun c103 => ?_) (fun c103 => ?_)
              · obtain ⟨i, hi, rfl⟩ := nI_le_n (n := 5) (by decide) c91 c95
                refine lv_aload_n hx hb dX7_rule_77 rfl (lv_at hl 1 rfl) ?_
                refine va_get (D := G.1) (ci := 7) (v := .ref (b 4)) (C := RX7) (T := TX7) (N := 43) hx hb hts inX7 hown hK.1 hP 0 rfl rfl 4 (by decide) (hts _ mf_X7_20) (fun _ h9 => h9) rfl dX7_rule_78 ?_
                refine lv_bipush (v := 6) hx hb dX7_rule_81 (by decide) ?_
                refine lv_iload_n hx hb dX7_rule_83 rfl (lv_at hl 2 rfl) ?_
                refine lv_imul hx hb dX7_rule_84 ?_
                refine lv_topi (fun v104 ev104 => ?_)
                obtain rfl : v104 = nI (6 * t) := nI_times ev104 rfl rfl
                refine lv_iload_n hx hb dX7_rule_85 rfl (lv_at hl 3 rfl) ?_
                refine lv_iadd hx hb dX7_rule_86 ?_
                refine lv_topi (fun v105 ev105 => ?_)
                obtain rfl : v105 = nI ((6 * t) + i) := nI_plus ev105 rfl rfl
                refine lv_iload_n hx hb dX7_rule_87 rfl (lv_at hl 4 rfl) ?_
                refine xiast (f := (r 4)) (x := nm) hx hb hK hP (hDD _ _) hS 4 (((6 * t) + i)) (rfl) (by omega) (by decide) rfl dX7_rule_88 (fun H locs hP _ hS => ?_)
                have hP : PP G (mM G y b f (up2 r 4 (upd (r 4) (((6 * t) + i)) (nm)))) H := hP
                refine lv_aload_n hx hb dX7_rule_89 rfl (lv_at hl 1 rfl) ?_
                refine wrVIa (rest := []) (q0 := 0) ⟨hx, hb, hml, hown, hts⟩ (m_X7_good l G y b f (up2 r 4 (upd (r 4) (((6 * t) + i)) (nm)))   ) mi_yX7_good mv_yX7_good ml_X7_138 ⟨rfl, rfl, Nat.le_of_ble_eq_true rfl, Nat.le_of_ble_eq_true rfl⟩ hK hP (hDD _ _) rfl rfl rfl hl.1 rfl (Nat.le_of_ble_eq_true rfl) dX7_rule_90 ⟨Nat.zero_le _, Nat.zero_le _⟩ hS hA (fun r106 w107 H locs hw107 hP hS => ?_)
                obtain ⟨x108, rfl, hw107r, hst⟩ := hw107
                have hP : PP G (mM G y b (upd f 0 x108) (up2 r 4 (upd (r 4) (((6 * t) + i)) (nm)))) H := hP
                have hst : x108 = 0 := hst
                obtain rfl := hw107r
                exact wr_zret hx hb hr hlocks (Or.inr rfl) hS hP ⟨x108, (upd (r 4) (((6 * t) + i)) (nm)), rfl, ⟨Or.inl ⟨rfl, ⟨t, ht, rfl, hop⟩, i, by omega, rfl, c99, by rw [ruX_most (show i < 6 by omega) rfl, hmw]; exact le_n c103⟩, Or.inr ⟨rfl, t, i, ht, by omega, rfl, rfl, rfl⟩⟩⟩ dX7_rule_93
              · refine lv_aload_n hx hb dX7_rule_70 rfl (lv_at hl 1 rfl) ?_
                refine lv_bipush (v := 7) hx hb dX7_rule_71 (by decide) ?_
                refine wrVIa (rest := []) (q0 := 0) ⟨hx, hb, hml, hown, hts⟩ (m_X7_refuse l G y b f r 7  ) mi_yX7_refuse mv_yX7_refuse ml_X7_131 ⟨rfl, rfl, Nat.le_of_ble_eq_true rfl, Nat.le_of_ble_eq_true rfl⟩ hK hP (hDD _ _) rfl rfl rfl hl.1 rfl (Nat.le_of_ble_eq_true rfl) dX7_rule_73 ⟨Nat.zero_le _, Nat.zero_le _⟩ hS hA (fun r109 w110 H locs hw110 hP hS => ?_)
                obtain ⟨x111, rfl, hw110r, hst⟩ := hw110
                have hP : PP G (mM G y b (upd f 0 x111) r) H := hP
                have hst : x111 = 7 := hst
                obtain rfl := hw110r
                exact wr_zret hx hb hr hlocks (Or.inl rfl) hS hP ⟨x111, (r 4), rfl, ⟨Or.inr ⟨rfl, fun h => (by obtain ⟨-, n, hn, e, -, h5⟩ := h; exact h5 (by rw [ruX_most hn e, hmw]; exact n_le c103))⟩, Or.inl ⟨rfl, rfl⟩⟩⟩ dX7_rule_76
  · have b5 := bF hr1 c2
    refine lv_aload_n hx hb dX7_rule_8 rfl (lv_at hl 0 rfl) ?_
    refine lv_iconst (v := 1) hx hb dX7_rule_9 (by decide) ?_
    refine wrVIa (rest := []) (q0 := 0) ⟨hx, hb, hml, hown, hts⟩ (m_X7_refuse l G y b f r 1  ) mi_yX7_refuse mv_yX7_refuse ml_X7_131 ⟨rfl, rfl, Nat.le_of_ble_eq_true rfl, Nat.le_of_ble_eq_true rfl⟩ hK hP (hDD _ _) rfl rfl rfl hl.1 rfl (Nat.le_of_ble_eq_true rfl) dX7_rule_10 ⟨Nat.zero_le _, Nat.zero_le _⟩ hS hA (fun r112 w113 H locs hw113 hP hS => ?_)
    obtain ⟨x114, rfl, hw113r, hst⟩ := hw113
    have hP : PP G (mM G y b (upd f 0 x114) r) H := hP
    have hst : x114 = 1 := hst
    obtain rfl := hw113r
    exact wr_zret hx hb hr hlocks (Or.inl rfl) hS hP ⟨x114, (r 4), rfl, ⟨Or.inr ⟨rfl, fun h => b5 h.1⟩, Or.inl ⟨rfl, rfl⟩⟩⟩ dX7_rule_13
set_option maxHeartbeats 4000000 in
set_option maxRecDepth 100000 in
theorem m_X7_cell (l : Launch) (G : GG) (y : Nat) (b : Nat → Nat) (f : Nat → Int32) (r : Nat → Nat → Int32) (tb : Int32) (row : Int32) (col : Int32) (kd : Int32) (nm : Int32) (hM2 : nOK 6 12 (r 2)) (hM3 : nOK 6 12 (r 3)) (hM12 : nOK 6 12 (r 12)) (hG : nOK 864 6 (r 7)) : WrI l yX7_cell cX7_cell 10 (some .boolean) ({ frames := 2, cells := 0, slots := 0, locals := 45 }) G (mM G y b f r) [.ref y, .int tb, .int row, .int col, .int kd, .int nm] (fun q w => ∃ (n_f_0 : Int32) (n_r_5 : Nat → Int32) (n_r_6 : Nat → Int32) (n_r_7 : Nat → Int32) (n_r_9 : Nat → Int32) (n_r_10 : Nat → Int32), w = mM G y b (upd f 0 n_f_0) (up2 (up2 (up2 (up2 (up2 r 5 n_r_5) 6 n_r_6) 7 n_r_7) 9 n_r_9) 10 n_r_10) ∧ atM (r 1) (r 2) (r 3) (r 11) tb row col (fun t i k => sv (tol kd nm) (q = 1 ∧ puM (144 * t + 12 * i + k) (mkK kd) nm (r 5) (r 6) (r 7) (r 9) n_r_5 n_r_6 n_r_7 n_r_9) (q = 0 ∧ sm4 (r 5) (r 6) (r 7) (r 9) n_r_5 n_r_6 n_r_7 n_r_9)) (q = 0 ∧ sm4 (r 5) (r 6) (r 7) (r 9) n_r_5 n_r_6 n_r_7 n_r_9) ∧ (nOK 864 6 n_r_7)) := by
  refine wr_entryI (by decide +kernel) (Nat.le_of_ble_eq_true rfl) ?_
  intro p e s m below meth c A C0 hP hK hD hA ls hl
  have hS : va_S A s.heap s.heap [] := va_S.rf
  obtain ⟨hx, hb, hml, hown, hts, hr, hlocks, hin⟩ := C0
  have hown : s.vm.findClass RX7 = some m.cls := hown
  have hDD : ∀ f' r', va_D A (mM G y b f' r') := fun f' r' => D_same hD rfl
  have hl : lv_has ls 10 [(0, .ref y), (1, .int tb), (2, .int row), (3, .int col), (4, .int kd), (5, .int nm)] := hl
  refine lv_aload_n hx hb dX7_cell_0 rfl (lv_at hl 0 rfl) ?_
  refine lv_iload_n hx hb dX7_cell_1 rfl (lv_at hl 1 rfl) ?_
  refine lv_iload_n hx hb dX7_cell_2 rfl (lv_at hl 2 rfl) ?_
  refine lv_iload_n hx hb dX7_cell_3 rfl (lv_at hl 3 rfl) ?_
  refine rdV (rest := []) (q0 := 0) ⟨hx, hb, hml, hown, hts⟩ (m_X7_wrongPlace l G y b f r tb row col  hM2 hM3 hM12) mi_yX7_wrongPlace mv_yX7_wrongPlace ml_X7_143 ⟨rfl, rfl, Nat.le_of_ble_eq_true rfl, Nat.le_of_ble_eq_true rfl⟩ hK (hP) rfl rfl rfl hl.1 rfl (Nat.le_of_ble_eq_true rfl) dX7_cell_4 ⟨Nat.zero_le _, Nat.zero_le _⟩ hS hA hP (fun r1 H locs hr1 hP hS => ?_)
  have hr1 : plS (r 1) (r 2) (r 3) (r 11) tb row col r1 := hr1
  refine lv_istore (lv' := [(6, .int r1), (0, .ref y), (1, .int tb), (2, .int row), (3, .int col), (4, .int kd), (5, .int nm)]) hx hb dX7_cell_7 hl (by decide) rfl (fun ls hl => ?_)
  refine lv_iload hx hb dX7_cell_9 (lv_at hl 0 rfl) ?_
  refine lv_if_le (tgt := 21) hx hb dX7_cell_11 (by decide) (fun c2 => ?_) (fun c2 => ?_)
  · have hp0 := pl_le0 hM2 hM3 hr1 c2
    obtain ⟨t, i, k, rw, cl, ht, hi, hk, hrw, hcl, rfl, rfl, rfl, h2, h3⟩ := wS_ok (wS_of hM2 hM3 hr1) (npos_of_le c2)
    obtain ⟨bk, hbk, h12⟩ := hM12 t ht
    refine lv_iload hx hb dX7_cell_21 (lv_at hl 5 rfl) ?_
    refine lv_if_lt (tgt := 32) hx hb dX7_cell_23 (by decide) (fun c3 => ?_) (fun c3 => ?_)
    · refine lv_aload_n hx hb dX7_cell_32 rfl (lv_at hl 1 rfl) ?_
      refine lv_bipush (v := 7) hx hb dX7_cell_33 (by decide) ?_
      refine wrVIa (rest := []) (q0 := 0) ⟨hx, hb, hml, hown, hts⟩ (m_X7_refuse l G y b f r 7  ) mi_yX7_refuse mv_yX7_refuse ml_X7_131 ⟨rfl, rfl, Nat.le_of_ble_eq_true rfl, Nat.le_of_ble_eq_true rfl⟩ hK hP (hDD _ _) rfl rfl rfl hl.1 rfl (Nat.le_of_ble_eq_true rfl) dX7_cell_35 ⟨Nat.zero_le _, Nat.zero_le _⟩ hS hA (fun r4 w5 H locs hw5 hP hS => ?_)
      obtain ⟨x6, rfl, hw5r, hst⟩ := hw5
      have hP : PP G (mM G y b (upd f 0 x6) r) H := hP
      have hst : x6 = 7 := hst
      obtain rfl := hw5r
      exact wr_zret hx hb hr hlocks (Or.inl rfl) hS hP ⟨x6, (r 5), (r 6), (r 7), (r 9), (r 10), rfl, Or.inr ⟨hp0, t, i, k, ht, by omega, by omega, rfl, rfl, rfl, Or.inr ⟨fun h => tol_ge h c3, rfl, rfl, rfl, rfl, rfl⟩⟩, hG⟩ dX7_cell_38
    · refine lv_iload hx hb dX7_cell_26 (lv_at hl 5 rfl) ?_
      refine lv_iconst (v := 4) hx hb dX7_cell_28 (by decide) ?_
      refine lv_icmp_le (tgt := 39) hx hb dX7_cell_29 (by decide) (fun c7 => ?_) (fun c7 => ?_)
      · refine lv_iload hx hb dX7_cell_39 (lv_at hl 5 rfl) ?_
        refine lv_if_ne (tgt := 48) hx hb dX7_cell_41 (by decide) (fun c8 => ?_) (fun c8 => ?_)
        · refine lv_iconst (v := 0) hx hb dX7_cell_48 (by decide) ?_
          refine lv_istore (lv' := [(7, .int 0), (6, .int r1), (0, .ref y), (1, .int (nI t)), (2, .int (nI i)), (3, .int (nI k)), (4, .int kd), (5, .int nm)]) hx hb dX7_cell_49 hl (by decide) rfl (fun ls hl => ?_)
          refine lv_iload hx hb dX7_cell_51 (lv_at hl 6 rfl) ?_
          refine lv_if_ne (tgt := 61) hx hb dX7_cell_53 (by decide) (fun c9 => ?_) (fun c9 => ?_)
          · refine lv_iload hx hb dX7_cell_61 (lv_at hl 6 rfl) ?_
            refine lv_iconst (v := 1) hx hb dX7_cell_63 (by decide) ?_
            refine lv_icmp_eq (tgt := 73) hx hb dX7_cell_64 (by decide) (fun c10 => ?_) (fun c10 => ?_)
            · refine lv_ldc hx hb hown (hts _ mk_X7_142) dX7_cell_73 ?_
              refine lv_goto (tgt := 79) hx hb dX7_cell_75 (by decide) ?_
              refine lv_istore (lv' := [(8, .int 1000000), (7, .int 0), (6, .int r1), (0, .ref y), (1, .int (nI t)), (2, .int (nI i)), (3, .int (nI k)), (4, .int kd), (5, .int nm)]) hx hb dX7_cell_79 hl (by decide) rfl (fun ls hl => ?_)
              refine lv_iload hx hb dX7_cell_81 (lv_at hl 8 rfl) ?_
              refine lv_iload hx hb dX7_cell_83 (lv_at hl 1 rfl) ?_
              refine lv_icmp_lt (tgt := 95) hx hb dX7_cell_85 (by decide) (fun c11 => ?_) (fun c11 => ?_)
              · refine lv_aload_n hx hb dX7_cell_95 rfl (lv_at hl 3 rfl) ?_
                refine lv_bipush (v := 7) hx hb dX7_cell_96 (by decide) ?_
                refine wrVIa (rest := []) (q0 := 0) ⟨hx, hb, hml, hown, hts⟩ (m_X7_refuse l G y b f r 7  ) mi_yX7_refuse mv_yX7_refuse ml_X7_131 ⟨rfl, rfl, Nat.le_of_ble_eq_true rfl, Nat.le_of_ble_eq_true rfl⟩ hK hP (hDD _ _) rfl rfl rfl hl.1 rfl (Nat.le_of_ble_eq_true rfl) dX7_cell_98 ⟨Nat.zero_le _, Nat.zero_le _⟩ hS hA (fun r12 w13 H locs hw13 hP hS => ?_)
                obtain ⟨x14, rfl, hw13r, hst⟩ := hw13
                have hP : PP G (mM G y b (upd f 0 x14) r) H := hP
                have hst : x14 = 7 := hst
                obtain rfl := hw13r
                exact wr_zret hx hb hr hlocks (Or.inl rfl) hS hP ⟨x14, (r 5), (r 6), (r 7), (r 9), (r 10), rfl, Or.inr ⟨hp0, t, i, k, ht, by omega, by omega, rfl, rfl, rfl, Or.inr ⟨fun h => (tol_13 (Or.inl c10) h).1 c11, rfl, rfl, rfl, rfl, rfl⟩⟩, hG⟩ dX7_cell_101
              · refine lv_iload hx hb dX7_cell_88 (lv_at hl 8 rfl) ?_
                refine lv_iload hx hb dX7_cell_90 (lv_at hl 0 rfl) ?_
                refine lv_icmp_le (tgt := 102) hx hb dX7_cell_92 (by decide) (fun c15 => ?_) (fun c15 => ?_)
                · refine lv_iload_n hx hb dX7_cell_102 rfl (lv_at hl 4 rfl) ?_
                  refine lv_iload_n hx hb dX7_cell_103 rfl (lv_at hl 5 rfl) ?_
                  refine lv_iload_n hx hb dX7_cell_104 rfl (lv_at hl 6 rfl) ?_
                  refine rdS (rest := []) ⟨hx, hb, hml, hown, hts⟩ (m_X7_at l G y b f r t i k  ) mi_yX7_at mst_yX7_at ml_X7_147 ⟨rfl, rfl, Nat.le_of_ble_eq_true rfl, Nat.le_of_ble_eq_true rfl⟩ hK (hP) rfl hl.1 rfl (Nat.le_of_ble_eq_true rfl) dX7_cell_105 ⟨Nat.zero_le _, Nat.zero_le _⟩ hS hA hP (fun r16 H locs hr16 hP hS => ?_)
                  obtain rfl := hr16
                  refine lv_istore (lv' := [(9, .int (nI (144 * t + 12 * i + k))), (8, .int 1000000), (7, .int 0), (6, .int r1), (0, .ref y), (1, .int (nI t)), (2, .int (nI i)), (3, .int (nI k)), (4, .int kd), (5, .int nm)]) hx hb dX7_cell_108 hl (by decide) rfl (fun ls hl => ?_)
                  refine lv_aload_n hx hb dX7_cell_110 rfl (lv_at hl 4 rfl) ?_
                  refine lv_iload hx hb dX7_cell_111 (lv_at hl 0 rfl) ?_
                  refine wrVVa (rest := []) (q0 := 0) ⟨hx, hb, hml, hown, hts⟩ (m_X7_empty l G y b f r (144 * t + 12 * i + k)  (by omega) hG) mi_yX7_empty mv_yX7_empty ml_X7_134 ⟨rfl, rfl, Nat.le_of_ble_eq_true rfl, Nat.le_of_ble_eq_true rfl⟩ hK hP (hDD _ _) rfl rfl rfl hl.1 rfl (Nat.le_of_ble_eq_true rfl) dX7_cell_113 ⟨Nat.zero_le _, Nat.zero_le _⟩ hS hA (fun w18 H locs hw18 hP hS => ?_)
                  obtain ⟨x19, x20, x21, x22, x23, rfl, hG, em5, em6, em7, em9⟩ := hw18
                  have hP : PP G (mM G y b f (up2 (up2 (up2 (up2 (up2 r 5 x19) 6 x20) 7 x21) 9 x22) 10 x23)) H := hP
                  have hG : nOK 864 6 x21 := hG
                  have em5 : only (144 * t + 12 * i + k) 0 (r 5) x19 := em5
                  have em6 : only (144 * t + 12 * i + k) 0 (r 6) x20 := em6
                  have em7 : only (144 * t + 12 * i + k) 0 (r 7) x21 := em7
                  have em9 : only (144 * t + 12 * i + k) 0 (r 9) x22 := em9
                  refine lv_aload_n hx hb dX7_cell_116 rfl (lv_at hl 4 rfl) ?_
                  refine va_get (D := G.1) (ci := 7) (v := .ref (b 5)) (C := RX7) (T := TX7) (N := 43) hx hb hts inX7 hown hK.1 hP 0 rfl rfl 5 (by decide) (hts _ mf_X7_23) (fun _ h9 => h9) rfl dX7_cell_117 ?_
                  refine lv_iload hx hb dX7_cell_120 (lv_at hl 0 rfl) ?_
                  refine lv_iload hx hb dX7_cell_122 (lv_at hl 8 rfl) ?_
                  refine lv_if_ne (tgt := 131) hx hb dX7_cell_124 (by decide) (fun c24 => ?_) (fun c24 => ?_)
                  · refine lv_iload hx hb dX7_cell_131 (lv_at hl 8 rfl) ?_
                    refine xiast (f := x19) (x := kd) hx hb hK hP (hDD _ _) hS 5 ((144 * t + 12 * i + k)) (rfl) (by omega) (by decide) rfl dX7_cell_133 (fun H locs hP _ hS => ?_)
                    have hP : PP G (mM G y b f (up2 (up2 (up2 (up2 (up2 r 5 (upd x19 ((144 * t + 12 * i + k)) (kd))) 6 x20) 7 x21) 9 x22) 10 x23)) H := hP
                    refine lv_aload_n hx hb dX7_cell_134 rfl (lv_at hl 4 rfl) ?_
                    refine va_get (D := G.1) (ci := 7) (v := .ref (b 6)) (C := RX7) (T := TX7) (N := 43) hx hb hts inX7 hown hK.1 hP 0 rfl rfl 6 (by decide) (hts _ mf_X7_26) (fun _ h9 => h9) rfl dX7_cell_135 ?_
                    refine lv_iload hx hb dX7_cell_138 (lv_at hl 0 rfl) ?_
                    refine lv_iload hx hb dX7_cell_140 (lv_at hl 9 rfl) ?_
                    refine xiast (f := x20) (x := nm) hx hb hK hP (hDD _ _) hS 6 ((144 * t + 12 * i + k)) (rfl) (by omega) (by decide) rfl dX7_cell_142 (fun H locs hP _ hS => ?_)
                    have hP : PP G (mM G y b f (up2 (up2 (up2 (up2 (up2 r 5 (upd x19 ((144 * t + 12 * i + k)) (kd))) 6 (upd x20 ((144 * t + 12 * i + k)) (nm))) 7 x21) 9 x22) 10 x23)) H := hP
                    refine lv_aload_n hx hb dX7_cell_143 rfl (lv_at hl 4 rfl) ?_
                    refine wrVIa (rest := []) (q0 := 0) ⟨hx, hb, hml, hown, hts⟩ (m_X7_good l G y b f (up2 (up2 (up2 (up2 (up2 r 5 (upd x19 ((144 * t + 12 * i + k)) (kd))) 6 (upd x20 ((144 * t + 12 * i + k)) (nm))) 7 x21) 9 x22) 10 x23)   ) mi_yX7_good mv_yX7_good ml_X7_138 ⟨rfl, rfl, Nat.le_of_ble_eq_true rfl, Nat.le_of_ble_eq_true rfl⟩ hK hP (hDD _ _) rfl rfl rfl hl.1 rfl (Nat.le_of_ble_eq_true rfl) dX7_cell_144 ⟨Nat.zero_le _, Nat.zero_le _⟩ hS hA (fun r25 w26 H locs hw26 hP hS => ?_)
                    obtain ⟨x27, rfl, hw26r, hst⟩ := hw26
                    have hP : PP G (mM G y b (upd f 0 x27) (up2 (up2 (up2 (up2 (up2 r 5 (upd x19 ((144 * t + 12 * i + k)) (kd))) 6 (upd x20 ((144 * t + 12 * i + k)) (nm))) 7 x21) 9 x22) 10 x23)) H := hP
                    have hst : x27 = 0 := hst
                    obtain rfl := hw26r
                    exact wr_zret hx hb hr hlocks (Or.inr rfl) hS hP ⟨x27, (upd x19 ((144 * t + 12 * i + k)) (kd)), (upd x20 ((144 * t + 12 * i + k)) (nm)), x21, x22, x23, rfl, Or.inr ⟨hp0, t, i, k, ht, by omega, by omega, rfl, rfl, rfl, Or.inl ⟨Or.inr (Or.inl ⟨Or.inl c10, c11, le_n c15⟩), rfl, only_v (mkK_n c8) (only_2 em5), only_2 em6, em7, em9⟩⟩, hG⟩ dX7_cell_147
                  · exact absurd c24 c8
                · refine lv_aload_n hx hb dX7_cell_95 rfl (lv_at hl 3 rfl) ?_
                  refine lv_bipush (v := 7) hx hb dX7_cell_96 (by decide) ?_
                  refine wrVIa (rest := []) (q0 := 0) ⟨hx, hb, hml, hown, hts⟩ (m_X7_refuse l G y b f r 7  ) mi_yX7_refuse mv_yX7_refuse ml_X7_131 ⟨rfl, rfl, Nat.le_of_ble_eq_true rfl, Nat.le_of_ble_eq_true rfl⟩ hK hP (hDD _ _) rfl rfl rfl hl.1 rfl (Nat.le_of_ble_eq_true rfl) dX7_cell_98 ⟨Nat.zero_le _, Nat.zero_le _⟩ hS hA (fun r28 w29 H locs hw29 hP hS => ?_)
                  obtain ⟨x30, rfl, hw29r, hst⟩ := hw29
                  have hP : PP G (mM G y b (upd f 0 x30) r) H := hP
                  have hst : x30 = 7 := hst
                  obtain rfl := hw29r
                  exact wr_zret hx hb hr hlocks (Or.inl rfl) hS hP ⟨x30, (r 5), (r 6), (r 7), (r 9), (r 10), rfl, Or.inr ⟨hp0, t, i, k, ht, by omega, by omega, rfl, rfl, rfl, Or.inr ⟨fun h => (tol_13 (Or.inl c10) h).2 (n_le c15), rfl, rfl, rfl, rfl, rfl⟩⟩, hG⟩ dX7_cell_101
            · refine lv_iload hx hb dX7_cell_67 (lv_at hl 6 rfl) ?_
              refine lv_iconst (v := 3) hx hb dX7_cell_69 (by decide) ?_
              refine lv_icmp_ne (tgt := 78) hx hb dX7_cell_70 (by decide) (fun c31 => ?_) (fun c31 => ?_)
              · refine lv_iconst (v := 0) hx hb dX7_cell_78 (by decide) ?_
                refine lv_istore (lv' := [(8, .int 0), (7, .int 0), (6, .int r1), (0, .ref y), (1, .int (nI t)), (2, .int (nI i)), (3, .int (nI k)), (4, .int kd), (5, .int nm)]) hx hb dX7_cell_79 hl (by decide) rfl (fun ls hl => ?_)
                refine lv_iload hx hb dX7_cell_81 (lv_at hl 8 rfl) ?_
                refine lv_iload hx hb dX7_cell_83 (lv_at hl 1 rfl) ?_
                refine lv_icmp_lt (tgt := 95) hx hb dX7_cell_85 (by decide) (fun c32 => ?_) (fun c32 => ?_)
                · refine lv_aload_n hx hb dX7_cell_95 rfl (lv_at hl 3 rfl) ?_
                  refine lv_bipush (v := 7) hx hb dX7_cell_96 (by decide) ?_
                  refine wrVIa (rest := []) (q0 := 0) ⟨hx, hb, hml, hown, hts⟩ (m_X7_refuse l G y b f r 7  ) mi_yX7_refuse mv_yX7_refuse ml_X7_131 ⟨rfl, rfl, Nat.le_of_ble_eq_true rfl, Nat.le_of_ble_eq_true rfl⟩ hK hP (hDD _ _) rfl rfl rfl hl.1 rfl (Nat.le_of_ble_eq_true rfl) dX7_cell_98 ⟨Nat.zero_le _, Nat.zero_le _⟩ hS hA (fun r33 w34 H locs hw34 hP hS => ?_)
                  obtain ⟨x35, rfl, hw34r, hst⟩ := hw34
                  have hP : PP G (mM G y b (upd f 0 x35) r) H := hP
                  have hst : x35 = 7 := hst
                  obtain rfl := hw34r
                  exact wr_zret hx hb hr hlocks (Or.inl rfl) hS hP ⟨x35, (r 5), (r 6), (r 7), (r 9), (r 10), rfl, Or.inr ⟨hp0, t, i, k, ht, by omega, by omega, rfl, rfl, rfl, Or.inr ⟨fun h => nlt_0 (tol_e c8 c10 c31 h) c32, rfl, rfl, rfl, rfl, rfl⟩⟩, hG⟩ dX7_cell_101
                · refine lv_iload hx hb dX7_cell_88 (lv_at hl 8 rfl) ?_
                  refine lv_iload hx hb dX7_cell_90 (lv_at hl 0 rfl) ?_
                  refine lv_icmp_le (tgt := 102) hx hb dX7_cell_92 (by decide) (fun c36 => ?_) (fun c36 => ?_)
                  · refine lv_iload_n hx hb dX7_cell_102 rfl (lv_at hl 4 rfl) ?_
                    refine lv_iload_n hx hb dX7_cell_103 rfl (lv_at hl 5 rfl) ?_
                    refine lv_iload_n hx hb dX7_cell_104 rfl (lv_at hl 6 rfl) ?_
                    refine rdS (rest := []) ⟨hx, hb, hml, hown, hts⟩ (m_X7_at l G y b f r t i k  ) mi_yX7_at mst_yX7_at ml_X7_147 ⟨rfl, rfl, Nat.le_of_ble_eq_true rfl, Nat.le_of_ble_eq_true rfl⟩ hK (hP) rfl hl.1 rfl (Nat.le_of_ble_eq_true rfl) dX7_cell_105 ⟨Nat.zero_le _, Nat.zero_le _⟩ hS hA hP (fun r37 H locs hr37 hP hS => ?_)
                    obtain rfl := hr37
                    refine lv_istore (lv' := [(9, .int (nI (144 * t + 12 * i + k))), (8, .int 0), (7, .int 0), (6, .int r1), (0, .ref y), (1, .int (nI t)), (2, .int (nI i)), (3, .int (nI k)), (4, .int kd), (5, .int nm)]) hx hb dX7_cell_108 hl (by decide) rfl (fun ls hl => ?_)
                    refine lv_aload_n hx hb dX7_cell_110 rfl (lv_at hl 4 rfl) ?_
                    refine lv_iload hx hb dX7_cell_111 (lv_at hl 0 rfl) ?_
                    refine wrVVa (rest := []) (q0 := 0) ⟨hx, hb, hml, hown, hts⟩ (m_X7_empty l G y b f r (144 * t + 12 * i + k)  (by omega) hG) mi_yX7_empty mv_yX7_empty ml_X7_134 ⟨rfl, rfl, Nat.le_of_ble_eq_true rfl, Nat.le_of_ble_eq_true rfl⟩ hK hP (hDD _ _) rfl rfl rfl hl.1 rfl (Nat.le_of_ble_eq_true rfl) dX7_cell_113 ⟨Nat.zero_le _, Nat.zero_le _⟩ hS hA (fun w39 H locs hw39 hP hS => ?_)
                    obtain ⟨x40, x41, x42, x43, x44, rfl, hG, em5, em6, em7, em9⟩ := hw39
                    have hP : PP G (mM G y b f (up2 (up2 (up2 (up2 (up2 r 5 x40) 6 x41) 7 x42) 9 x43) 10 x44)) H := hP
                    have hG : nOK 864 6 x42 := hG
                    have em5 : only (144 * t + 12 * i + k) 0 (r 5) x40 := em5
                    have em6 : only (144 * t + 12 * i + k) 0 (r 6) x41 := em6
                    have em7 : only (144 * t + 12 * i + k) 0 (r 7) x42 := em7
                    have em9 : only (144 * t + 12 * i + k) 0 (r 9) x43 := em9
                    refine lv_aload_n hx hb dX7_cell_116 rfl (lv_at hl 4 rfl) ?_
                    refine va_get (D := G.1) (ci := 7) (v := .ref (b 5)) (C := RX7) (T := TX7) (N := 43) hx hb hts inX7 hown hK.1 hP 0 rfl rfl 5 (by decide) (hts _ mf_X7_23) (fun _ h9 => h9) rfl dX7_cell_117 ?_
                    refine lv_iload hx hb dX7_cell_120 (lv_at hl 0 rfl) ?_
                    refine lv_iload hx hb dX7_cell_122 (lv_at hl 8 rfl) ?_
                    refine lv_if_ne (tgt := 131) hx hb dX7_cell_124 (by decide) (fun c45 => ?_) (fun c45 => ?_)
                    · refine lv_iload hx hb dX7_cell_131 (lv_at hl 8 rfl) ?_
                      refine xiast (f := x40) (x := kd) hx hb hK hP (hDD _ _) hS 5 ((144 * t + 12 * i + k)) (rfl) (by omega) (by decide) rfl dX7_cell_133 (fun H locs hP _ hS => ?_)
                      have hP : PP G (mM G y b f (up2 (up2 (up2 (up2 (up2 r 5 (upd x40 ((144 * t + 12 * i + k)) (kd))) 6 x41) 7 x42) 9 x43) 10 x44)) H := hP
                      refine lv_aload_n hx hb dX7_cell_134 rfl (lv_at hl 4 rfl) ?_
                      refine va_get (D := G.1) (ci := 7) (v := .ref (b 6)) (C := RX7) (T := TX7) (N := 43) hx hb hts inX7 hown hK.1 hP 0 rfl rfl 6 (by decide) (hts _ mf_X7_26) (fun _ h9 => h9) rfl dX7_cell_135 ?_
                      refine lv_iload hx hb dX7_cell_138 (lv_at hl 0 rfl) ?_
                      refine lv_iload hx hb dX7_cell_140 (lv_at hl 9 rfl) ?_
                      refine xiast (f := x41) (x := nm) hx hb hK hP (hDD _ _) hS 6 ((144 * t + 12 * i + k)) (rfl) (by omega) (by decide) rfl dX7_cell_142 (fun H locs hP _ hS => ?_)
                      have hP : PP G (mM G y b f (up2 (up2 (up2 (up2 (up2 r 5 (upd x40 ((144 * t + 12 * i + k)) (kd))) 6 (upd x41 ((144 * t + 12 * i + k)) (nm))) 7 x42) 9 x43) 10 x44)) H := hP
                      refine lv_aload_n hx hb dX7_cell_143 rfl (lv_at hl 4 rfl) ?_
                      refine wrVIa (rest := []) (q0 := 0) ⟨hx, hb, hml, hown, hts⟩ (m_X7_good l G y b f (up2 (up2 (up2 (up2 (up2 r 5 (upd x40 ((144 * t + 12 * i + k)) (kd))) 6 (upd x41 ((144 * t + 12 * i + k)) (nm))) 7 x42) 9 x43) 10 x44)   ) mi_yX7_good mv_yX7_good ml_X7_138 ⟨rfl, rfl, Nat.le_of_ble_eq_true rfl, Nat.le_of_ble_eq_true rfl⟩ hK hP (hDD _ _) rfl rfl rfl hl.1 rfl (Nat.le_of_ble_eq_true rfl) dX7_cell_144 ⟨Nat.zero_le _, Nat.zero_le _⟩ hS hA (fun r46 w47 H locs hw47 hP hS => ?_)
                      obtain ⟨x48, rfl, hw47r, hst⟩ := hw47
                      have hP : PP G (mM G y b (upd f 0 x48) (up2 (up2 (up2 (up2 (up2 r 5 (upd x40 ((144 * t + 12 * i + k)) (kd))) 6 (upd x41 ((144 * t + 12 * i + k)) (nm))) 7 x42) 9 x43) 10 x44)) H := hP
                      have hst : x48 = 0 := hst
                      obtain rfl := hw47r
                      exact wr_zret hx hb hr hlocks (Or.inr rfl) hS hP ⟨x48, (upd x40 ((144 * t + 12 * i + k)) (kd)), (upd x41 ((144 * t + 12 * i + k)) (nm)), x42, x43, x44, rfl, Or.inr ⟨hp0, t, i, k, ht, by omega, by omega, rfl, rfl, rfl, Or.inl ⟨tol_m c3 c7 c8 c10 c31 c32 c36, rfl, only_v (mkK_n c8) (only_2 em5), only_2 em6, em7, em9⟩⟩, hG⟩ dX7_cell_147
                    · exact absurd c45 c8
                  · refine lv_aload_n hx hb dX7_cell_95 rfl (lv_at hl 3 rfl) ?_
                    refine lv_bipush (v := 7) hx hb dX7_cell_96 (by decide) ?_
                    refine wrVIa (rest := []) (q0 := 0) ⟨hx, hb, hml, hown, hts⟩ (m_X7_refuse l G y b f r 7  ) mi_yX7_refuse mv_yX7_refuse ml_X7_131 ⟨rfl, rfl, Nat.le_of_ble_eq_true rfl, Nat.le_of_ble_eq_true rfl⟩ hK hP (hDD _ _) rfl rfl rfl hl.1 rfl (Nat.le_of_ble_eq_true rfl) dX7_cell_98 ⟨Nat.zero_le _, Nat.zero_le _⟩ hS hA (fun r49 w50 H locs hw50 hP hS => ?_)
                    obtain ⟨x51, rfl, hw50r, hst⟩ := hw50
                    have hP : PP G (mM G y b (upd f 0 x51) r) H := hP
                    have hst : x51 = 7 := hst
                    obtain rfl := hw50r
                    exact wr_zret hx hb hr hlocks (Or.inl rfl) hS hP ⟨x51, (r 5), (r 6), (r 7), (r 9), (r 10), rfl, Or.inr ⟨hp0, t, i, k, ht, by omega, by omega, rfl, rfl, rfl, Or.inr ⟨fun h => c36 (le_of_0 (tol_e c8 c10 c31 h)), rfl, rfl, rfl, rfl, rfl⟩⟩, hG⟩ dX7_cell_101
              · refine lv_ldc hx hb hown (hts _ mk_X7_142) dX7_cell_73 ?_
                refine lv_goto (tgt := 79) hx hb dX7_cell_75 (by decide) ?_
                refine lv_istore (lv' := [(8, .int 1000000), (7, .int 0), (6, .int r1), (0, .ref y), (1, .int (nI t)), (2, .int (nI i)), (3, .int (nI k)), (4, .int kd), (5, .int nm)]) hx hb dX7_cell_79 hl (by decide) rfl (fun ls hl => ?_)
                refine lv_iload hx hb dX7_cell_81 (lv_at hl 8 rfl) ?_
                refine lv_iload hx hb dX7_cell_83 (lv_at hl 1 rfl) ?_
                refine lv_icmp_lt (tgt := 95) hx hb dX7_cell_85 (by decide) (fun c52 => ?_) (fun c52 => ?_)
                · refine lv_aload_n hx hb dX7_cell_95 rfl (lv_at hl 3 rfl) ?_
                  refine lv_bipush (v := 7) hx hb dX7_cell_96 (by decide) ?_
                  refine wrVIa (rest := []) (q0 := 0) ⟨hx, hb, hml, hown, hts⟩ (m_X7_refuse l G y b f r 7  ) mi_yX7_refuse mv_yX7_refuse ml_X7_131 ⟨rfl, rfl, Nat.le_of_ble_eq_true rfl, Nat.le_of_ble_eq_true rfl⟩ hK hP (hDD _ _) rfl rfl rfl hl.1 rfl (Nat.le_of_ble_eq_true rfl) dX7_cell_98 ⟨Nat.zero_le _, Nat.zero_le _⟩ hS hA (fun r53 w54 H locs hw54 hP hS => ?_)
                  obtain ⟨x55, rfl, hw54r, hst⟩ := hw54
                  have hP : PP G (mM G y b (upd f 0 x55) r) H := hP
                  have hst : x55 = 7 := hst
                  obtain rfl := hw54r
                  exact wr_zret hx hb hr hlocks (Or.inl rfl) hS hP ⟨x55, (r 5), (r 6), (r 7), (r 9), (r 10), rfl, Or.inr ⟨hp0, t, i, k, ht, by omega, by omega, rfl, rfl, rfl, Or.inr ⟨fun h => (tol_13 (Or.inr c31) h).1 c52, rfl, rfl, rfl, rfl, rfl⟩⟩, hG⟩ dX7_cell_101
                · refine lv_iload hx hb dX7_cell_88 (lv_at hl 8 rfl) ?_
                  refine lv_iload hx hb dX7_cell_90 (lv_at hl 0 rfl) ?_
                  refine lv_icmp_le (tgt := 102) hx hb dX7_cell_92 (by decide) (fun c56 => ?_) (fun c56 => ?_)
                  · refine lv_iload_n hx hb dX7_cell_102 rfl (lv_at hl 4 rfl) ?_
                    refine lv_iload_n hx hb dX7_cell_103 rfl (lv_at hl 5 rfl) ?_
                    refine lv_iload_n hx hb dX7_cell_104 rfl (lv_at hl 6 rfl) ?_
                    refine rdS (rest := []) ⟨hx, hb, hml, hown, hts⟩ (m_X7_at l G y b f r t i k  ) mi_yX7_at mst_yX7_at ml_X7_147 ⟨rfl, rfl, Nat.le_of_ble_eq_true rfl, Nat.le_of_ble_eq_true rfl⟩ hK (hP) rfl hl.1 rfl (Nat.le_of_ble_eq_true rfl) dX7_cell_105 ⟨Nat.zero_le _, Nat.zero_le _⟩ hS hA hP (fun r57 H locs hr57 hP hS => ?_)
                    obtain rfl := hr57
                    refine lv_istore (lv' := [(9, .int (nI (144 * t + 12 * i + k))), (8, .int 1000000), (7, .int 0), (6, .int r1), (0, .ref y), (1, .int (nI t)), (2, .int (nI i)), (3, .int (nI k)), (4, .int kd), (5, .int nm)]) hx hb dX7_cell_108 hl (by decide) rfl (fun ls hl => ?_)
                    refine lv_aload_n hx hb dX7_cell_110 rfl (lv_at hl 4 rfl) ?_
                    refine lv_iload hx hb dX7_cell_111 (lv_at hl 0 rfl) ?_
                    refine wrVVa (rest := []) (q0 := 0) ⟨hx, hb, hml, hown, hts⟩ (m_X7_empty l G y b f r (144 * t + 12 * i + k)  (by omega) hG) mi_yX7_empty mv_yX7_empty ml_X7_134 ⟨rfl, rfl, Nat.le_of_ble_eq_true rfl, Nat.le_of_ble_eq_true rfl⟩ hK hP (hDD _ _) rfl rfl rfl hl.1 rfl (Nat.le_of_ble_eq_true rfl) dX7_cell_113 ⟨Nat.zero_le _, Nat.zero_le _⟩ hS hA (fun w59 H locs hw59 hP hS => ?_)
                    obtain ⟨x60, x61, x62, x63, x64, rfl, hG, em5, em6, em7, em9⟩ := hw59
                    have hP : PP G (mM G y b f (up2 (up2 (up2 (up2 (up2 r 5 x60) 6 x61) 7 x62) 9 x63) 10 x64)) H := hP
                    have hG : nOK 864 6 x62 := hG
                    have em5 : only (144 * t + 12 * i + k) 0 (r 5) x60 := em5
                    have em6 : only (144 * t + 12 * i + k) 0 (r 6) x61 := em6
                    have em7 : only (144 * t + 12 * i + k) 0 (r 7) x62 := em7
                    have em9 : only (144 * t + 12 * i + k) 0 (r 9) x63 := em9
                    refine lv_aload_n hx hb dX7_cell_116 rfl (lv_at hl 4 rfl) ?_
                    refine va_get (D := G.1) (ci := 7) (v := .ref (b 5)) (C := RX7) (T := TX7) (N := 43) hx hb hts inX7 hown hK.1 hP 0 rfl rfl 5 (by decide) (hts _ mf_X7_23) (fun _ h9 => h9) rfl dX7_cell_117 ?_
                    refine lv_iload hx hb dX7_cell_120 (lv_at hl 0 rfl) ?_
                    refine lv_iload hx hb dX7_cell_122 (lv_at hl 8 rfl) ?_
                    refine lv_if_ne (tgt := 131) hx hb dX7_cell_124 (by decide) (fun c65 => ?_) (fun c65 => ?_)
                    · refine lv_iload hx hb dX7_cell_131 (lv_at hl 8 rfl) ?_
                      refine xiast (f := x60) (x := kd) hx hb hK hP (hDD _ _) hS 5 ((144 * t + 12 * i + k)) (rfl) (by omega) (by decide) rfl dX7_cell_133 (fun H locs hP _ hS => ?_)
                      have hP : PP G (mM G y b f (up2 (up2 (up2 (up2 (up2 r 5 (upd x60 ((144 * t + 12 * i + k)) (kd))) 6 x61) 7 x62) 9 x63) 10 x64)) H := hP
                      refine lv_aload_n hx hb dX7_cell_134 rfl (lv_at hl 4 rfl) ?_
                      refine va_get (D := G.1) (ci := 7) (v := .ref (b 6)) (C := RX7) (T := TX7) (N := 43) hx hb hts inX7 hown hK.1 hP 0 rfl rfl 6 (by decide) (hts _ mf_X7_26) (fun _ h9 => h9) rfl dX7_cell_135 ?_
                      refine lv_iload hx hb dX7_cell_138 (lv_at hl 0 rfl) ?_
                      refine lv_iload hx hb dX7_cell_140 (lv_at hl 9 rfl) ?_
                      refine xiast (f := x61) (x := nm) hx hb hK hP (hDD _ _) hS 6 ((144 * t + 12 * i + k)) (rfl) (by omega) (by decide) rfl dX7_cell_142 (fun H locs hP _ hS => ?_)
                      have hP : PP G (mM G y b f (up2 (up2 (up2 (up2 (up2 r 5 (upd x60 ((144 * t + 12 * i + k)) (kd))) 6 (upd x61 ((144 * t + 12 * i + k)) (nm))) 7 x62) 9 x63) 10 x64)) H := hP
                      refine lv_aload_n hx hb dX7_cell_143 rfl (lv_at hl 4 rfl) ?_
                      refine wrVIa (rest := []) (q0 := 0) ⟨hx, hb, hml, hown, hts⟩ (m_X7_good l G y b f (up2 (up2 (up2 (up2 (up2 r 5 (upd x60 ((144 * t + 12 * i + k)) (kd))) 6 (upd x61 ((144 * t + 12 * i + k)) (nm))) 7 x62) 9 x63) 10 x64)   ) mi_yX7_good mv_yX7_good ml_X7_138 ⟨rfl, rfl, Nat.le_of_ble_eq_true rfl, Nat.le_of_ble_eq_true rfl⟩ hK hP (hDD _ _) rfl rfl rfl hl.1 rfl (Nat.le_of_ble_eq_true rfl) dX7_cell_144 ⟨Nat.zero_le _, Nat.zero_le _⟩ hS hA (fun r66 w67 H locs hw67 hP hS => ?_)
                      obtain ⟨x68, rfl, hw67r, hst⟩ := hw67
                      have hP : PP G (mM G y b (upd f 0 x68) (up2 (up2 (up2 (up2 (up2 r 5 (upd x60 ((144 * t + 12 * i + k)) (kd))) 6 (upd x61 ((144 * t + 12 * i + k)) (nm))) 7 x62) 9 x63) 10 x64)) H := hP
                      have hst : x68 = 0 := hst
                      obtain rfl := hw67r
                      exact wr_zret hx hb hr hlocks (Or.inr rfl) hS hP ⟨x68, (upd x60 ((144 * t + 12 * i + k)) (kd)), (upd x61 ((144 * t + 12 * i + k)) (nm)), x62, x63, x64, rfl, Or.inr ⟨hp0, t, i, k, ht, by omega, by omega, rfl, rfl, rfl, Or.inl ⟨Or.inr (Or.inl ⟨Or.inr c31, c52, le_n c56⟩), rfl, only_v (mkK_n c8) (only_2 em5), only_2 em6, em7, em9⟩⟩, hG⟩ dX7_cell_147
                    · exact absurd c65 c8
                  · refine lv_aload_n hx hb dX7_cell_95 rfl (lv_at hl 3 rfl) ?_
                    refine lv_bipush (v := 7) hx hb dX7_cell_96 (by decide) ?_
                    refine wrVIa (rest := []) (q0 := 0) ⟨hx, hb, hml, hown, hts⟩ (m_X7_refuse l G y b f r 7  ) mi_yX7_refuse mv_yX7_refuse ml_X7_131 ⟨rfl, rfl, Nat.le_of_ble_eq_true rfl, Nat.le_of_ble_eq_true rfl⟩ hK hP (hDD _ _) rfl rfl rfl hl.1 rfl (Nat.le_of_ble_eq_true rfl) dX7_cell_98 ⟨Nat.zero_le _, Nat.zero_le _⟩ hS hA (fun r69 w70 H locs hw70 hP hS => ?_)
                    obtain ⟨x71, rfl, hw70r, hst⟩ := hw70
                    have hP : PP G (mM G y b (upd f 0 x71) r) H := hP
                    have hst : x71 = 7 := hst
                    obtain rfl := hw70r
                    exact wr_zret hx hb hr hlocks (Or.inl rfl) hS hP ⟨x71, (r 5), (r 6), (r 7), (r 9), (r 10), rfl, Or.inr ⟨hp0, t, i, k, ht, by omega, by omega, rfl, rfl, rfl, Or.inr ⟨fun h => (tol_13 (Or.inr c31) h).2 (n_le c56), rfl, rfl, rfl, rfl, rfl⟩⟩, hG⟩ dX7_cell_101
          · exact absurd c9 c8
        · refine lv_iconst (v := 1) hx hb dX7_cell_44 (by decide) ?_
          refine lv_goto (tgt := 49) hx hb dX7_cell_45 (by decide) ?_
          refine lv_istore (lv' := [(7, .int 1), (6, .int r1), (0, .ref y), (1, .int (nI t)), (2, .int (nI i)), (3, .int (nI k)), (4, .int kd), (5, .int nm)]) hx hb dX7_cell_49 hl (by decide) rfl (fun ls hl => ?_)
          refine lv_iload hx hb dX7_cell_51 (lv_at hl 6 rfl) ?_
          refine lv_if_ne (tgt := 61) hx hb dX7_cell_53 (by decide) (fun c72 => ?_) (fun c72 => ?_)
          · exact absurd c8 c72
          · refine lv_bipush (v := 99) hx hb dX7_cell_56 (by decide) ?_
            refine lv_goto (tgt := 79) hx hb dX7_cell_58 (by decide) ?_
            refine lv_istore (lv' := [(8, .int 99), (7, .int 1), (6, .int r1), (0, .ref y), (1, .int (nI t)), (2, .int (nI i)), (3, .int (nI k)), (4, .int kd), (5, .int nm)]) hx hb dX7_cell_79 hl (by decide) rfl (fun ls hl => ?_)
            refine lv_iload hx hb dX7_cell_81 (lv_at hl 8 rfl) ?_
            refine lv_iload hx hb dX7_cell_83 (lv_at hl 1 rfl) ?_
            refine lv_icmp_lt (tgt := 95) hx hb dX7_cell_85 (by decide) (fun c73 => ?_) (fun c73 => ?_)
            · refine lv_aload_n hx hb dX7_cell_95 rfl (lv_at hl 3 rfl) ?_
              refine lv_bipush (v := 7) hx hb dX7_cell_96 (by decide) ?_
              refine wrVIa (rest := []) (q0 := 0) ⟨hx, hb, hml, hown, hts⟩ (m_X7_refuse l G y b f r 7  ) mi_yX7_refuse mv_yX7_refuse ml_X7_131 ⟨rfl, rfl, Nat.le_of_ble_eq_true rfl, Nat.le_of_ble_eq_true rfl⟩ hK hP (hDD _ _) rfl rfl rfl hl.1 rfl (Nat.le_of_ble_eq_true rfl) dX7_cell_98 ⟨Nat.zero_le _, Nat.zero_le _⟩ hS hA (fun r74 w75 H locs hw75 hP hS => ?_)
              obtain ⟨x76, rfl, hw75r, hst⟩ := hw75
              have hP : PP G (mM G y b (upd f 0 x76) r) H := hP
              have hst : x76 = 7 := hst
              obtain rfl := hw75r
              exact wr_zret hx hb hr hlocks (Or.inl rfl) hS hP ⟨x76, (r 5), (r 6), (r 7), (r 9), (r 10), rfl, Or.inr ⟨hp0, t, i, k, ht, by omega, by omega, rfl, rfl, rfl, Or.inr ⟨fun h => (tol_0 c8 h).1 c73, rfl, rfl, rfl, rfl, rfl⟩⟩, hG⟩ dX7_cell_101
            · refine lv_iload hx hb dX7_cell_88 (lv_at hl 8 rfl) ?_
              refine lv_iload hx hb dX7_cell_90 (lv_at hl 0 rfl) ?_
              refine lv_icmp_le (tgt := 102) hx hb dX7_cell_92 (by decide) (fun c77 => ?_) (fun c77 => ?_)
              · refine lv_iload_n hx hb dX7_cell_102 rfl (lv_at hl 4 rfl) ?_
                refine lv_iload_n hx hb dX7_cell_103 rfl (lv_at hl 5 rfl) ?_
                refine lv_iload_n hx hb dX7_cell_104 rfl (lv_at hl 6 rfl) ?_
                refine rdS (rest := []) ⟨hx, hb, hml, hown, hts⟩ (m_X7_at l G y b f r t i k  ) mi_yX7_at mst_yX7_at ml_X7_147 ⟨rfl, rfl, Nat.le_of_ble_eq_true rfl, Nat.le_of_ble_eq_true rfl⟩ hK (hP) rfl hl.1 rfl (Nat.le_of_ble_eq_true rfl) dX7_cell_105 ⟨Nat.zero_le _, Nat.zero_le _⟩ hS hA hP (fun r78 H locs hr78 hP hS => ?_)
                obtain rfl := hr78
                refine lv_istore (lv' := [(9, .int (nI (144 * t + 12 * i + k))), (8, .int 99), (7, .int 1), (6, .int r1), (0, .ref y), (1, .int (nI t)), (2, .int (nI i)), (3, .int (nI k)), (4, .int kd), (5, .int nm)]) hx hb dX7_cell_108 hl (by decide) rfl (fun ls hl => ?_)
                refine lv_aload_n hx hb dX7_cell_110 rfl (lv_at hl 4 rfl) ?_
                refine lv_iload hx hb dX7_cell_111 (lv_at hl 0 rfl) ?_
                refine wrVVa (rest := []) (q0 := 0) ⟨hx, hb, hml, hown, hts⟩ (m_X7_empty l G y b f r (144 * t + 12 * i + k)  (by omega) hG) mi_yX7_empty mv_yX7_empty ml_X7_134 ⟨rfl, rfl, Nat.le_of_ble_eq_true rfl, Nat.le_of_ble_eq_true rfl⟩ hK hP (hDD _ _) rfl rfl rfl hl.1 rfl (Nat.le_of_ble_eq_true rfl) dX7_cell_113 ⟨Nat.zero_le _, Nat.zero_le _⟩ hS hA (fun w80 H locs hw80 hP hS => ?_)
                obtain ⟨x81, x82, x83, x84, x85, rfl, hG, em5, em6, em7, em9⟩ := hw80
                have hP : PP G (mM G y b f (up2 (up2 (up2 (up2 (up2 r 5 x81) 6 x82) 7 x83) 9 x84) 10 x85)) H := hP
                have hG : nOK 864 6 x83 := hG
                have em5 : only (144 * t + 12 * i + k) 0 (r 5) x81 := em5
                have em6 : only (144 * t + 12 * i + k) 0 (r 6) x82 := em6
                have em7 : only (144 * t + 12 * i + k) 0 (r 7) x83 := em7
                have em9 : only (144 * t + 12 * i + k) 0 (r 9) x84 := em9
                refine lv_aload_n hx hb dX7_cell_116 rfl (lv_at hl 4 rfl) ?_
                refine va_get (D := G.1) (ci := 7) (v := .ref (b 5)) (C := RX7) (T := TX7) (N := 43) hx hb hts inX7 hown hK.1 hP 0 rfl rfl 5 (by decide) (hts _ mf_X7_23) (fun _ h9 => h9) rfl dX7_cell_117 ?_
                refine lv_iload hx hb dX7_cell_120 (lv_at hl 0 rfl) ?_
                refine lv_iload hx hb dX7_cell_122 (lv_at hl 8 rfl) ?_
                refine lv_if_ne (tgt := 131) hx hb dX7_cell_124 (by decide) (fun c86 => ?_) (fun c86 => ?_)
                · exact absurd c8 c86
                · refine lv_iconst (v := 5) hx hb dX7_cell_127 (by decide) ?_
                  refine lv_goto (tgt := 133) hx hb dX7_cell_128 (by decide) ?_
                  refine xiast (f := x81) (x := 5) hx hb hK hP (hDD _ _) hS 5 ((144 * t + 12 * i + k)) (rfl) (by omega) (by decide) rfl dX7_cell_133 (fun H locs hP _ hS => ?_)
                  have hP : PP G (mM G y b f (up2 (up2 (up2 (up2 (up2 r 5 (upd x81 ((144 * t + 12 * i + k)) (5))) 6 x82) 7 x83) 9 x84) 10 x85)) H := hP
                  refine lv_aload_n hx hb dX7_cell_134 rfl (lv_at hl 4 rfl) ?_
                  refine va_get (D := G.1) (ci := 7) (v := .ref (b 6)) (C := RX7) (T := TX7) (N := 43) hx hb hts inX7 hown hK.1 hP 0 rfl rfl 6 (by decide) (hts _ mf_X7_26) (fun _ h9 => h9) rfl dX7_cell_135 ?_
                  refine lv_iload hx hb dX7_cell_138 (lv_at hl 0 rfl) ?_
                  refine lv_iload hx hb dX7_cell_140 (lv_at hl 9 rfl) ?_
                  refine xiast (f := x82) (x := nm) hx hb hK hP (hDD _ _) hS 6 ((144 * t + 12 * i + k)) (rfl) (by omega) (by decide) rfl dX7_cell_142 (fun H locs hP _ hS => ?_)
                  have hP : PP G (mM G y b f (up2 (up2 (up2 (up2 (up2 r 5 (upd x81 ((144 * t + 12 * i + k)) (5))) 6 (upd x82 ((144 * t + 12 * i + k)) (nm))) 7 x83) 9 x84) 10 x85)) H := hP
                  refine lv_aload_n hx hb dX7_cell_143 rfl (lv_at hl 4 rfl) ?_
                  refine wrVIa (rest := []) (q0 := 0) ⟨hx, hb, hml, hown, hts⟩ (m_X7_good l G y b f (up2 (up2 (up2 (up2 (up2 r 5 (upd x81 ((144 * t + 12 * i + k)) (5))) 6 (upd x82 ((144 * t + 12 * i + k)) (nm))) 7 x83) 9 x84) 10 x85)   ) mi_yX7_good mv_yX7_good ml_X7_138 ⟨rfl, rfl, Nat.le_of_ble_eq_true rfl, Nat.le_of_ble_eq_true rfl⟩ hK hP (hDD _ _) rfl rfl rfl hl.1 rfl (Nat.le_of_ble_eq_true rfl) dX7_cell_144 ⟨Nat.zero_le _, Nat.zero_le _⟩ hS hA (fun r87 w88 H locs hw88 hP hS => ?_)
                  obtain ⟨x89, rfl, hw88r, hst⟩ := hw88
                  have hP : PP G (mM G y b (upd f 0 x89) (up2 (up2 (up2 (up2 (up2 r 5 (upd x81 ((144 * t + 12 * i + k)) (5))) 6 (upd x82 ((144 * t + 12 * i + k)) (nm))) 7 x83) 9 x84) 10 x85)) H := hP
                  have hst : x89 = 0 := hst
                  obtain rfl := hw88r
                  exact wr_zret hx hb hr hlocks (Or.inr rfl) hS hP ⟨x89, (upd x81 ((144 * t + 12 * i + k)) (5)), (upd x82 ((144 * t + 12 * i + k)) (nm)), x83, x84, x85, rfl, Or.inr ⟨hp0, t, i, k, ht, by omega, by omega, rfl, rfl, rfl, Or.inl ⟨Or.inl ⟨c8, c73, le_n c77⟩, rfl, only_v (mkK_0 c8) (only_2 em5), only_2 em6, em7, em9⟩⟩, hG⟩ dX7_cell_147
              · refine lv_aload_n hx hb dX7_cell_95 rfl (lv_at hl 3 rfl) ?_
                refine lv_bipush (v := 7) hx hb dX7_cell_96 (by decide) ?_
                refine wrVIa (rest := []) (q0 := 0) ⟨hx, hb, hml, hown, hts⟩ (m_X7_refuse l G y b f r 7  ) mi_yX7_refuse mv_yX7_refuse ml_X7_131 ⟨rfl, rfl, Nat.le_of_ble_eq_true rfl, Nat.le_of_ble_eq_true rfl⟩ hK hP (hDD _ _) rfl rfl rfl hl.1 rfl (Nat.le_of_ble_eq_true rfl) dX7_cell_98 ⟨Nat.zero_le _, Nat.zero_le _⟩ hS hA (fun r90 w91 H locs hw91 hP hS => ?_)
                obtain ⟨x92, rfl, hw91r, hst⟩ := hw91
                have hP : PP G (mM G y b (upd f 0 x92) r) H := hP
                have hst : x92 = 7 := hst
                obtain rfl := hw91r
                exact wr_zret hx hb hr hlocks (Or.inl rfl) hS hP ⟨x92, (r 5), (r 6), (r 7), (r 9), (r 10), rfl, Or.inr ⟨hp0, t, i, k, ht, by omega, by omega, rfl, rfl, rfl, Or.inr ⟨fun h => (tol_0 c8 h).2 (n_le c77), rfl, rfl, rfl, rfl, rfl⟩⟩, hG⟩ dX7_cell_101
      · refine lv_aload_n hx hb dX7_cell_32 rfl (lv_at hl 1 rfl) ?_
        refine lv_bipush (v := 7) hx hb dX7_cell_33 (by decide) ?_
        refine wrVIa (rest := []) (q0 := 0) ⟨hx, hb, hml, hown, hts⟩ (m_X7_refuse l G y b f r 7  ) mi_yX7_refuse mv_yX7_refuse ml_X7_131 ⟨rfl, rfl, Nat.le_of_ble_eq_true rfl, Nat.le_of_ble_eq_true rfl⟩ hK hP (hDD _ _) rfl rfl rfl hl.1 rfl (Nat.le_of_ble_eq_true rfl) dX7_cell_35 ⟨Nat.zero_le _, Nat.zero_le _⟩ hS hA (fun r93 w94 H locs hw94 hP hS => ?_)
        obtain ⟨x95, rfl, hw94r, hst⟩ := hw94
        have hP : PP G (mM G y b (upd f 0 x95) r) H := hP
        have hst : x95 = 7 := hst
        obtain rfl := hw94r
        exact wr_zret hx hb hr hlocks (Or.inl rfl) hS hP ⟨x95, (r 5), (r 6), (r 7), (r 9), (r 10), rfl, Or.inr ⟨hp0, t, i, k, ht, by omega, by omega, rfl, rfl, rfl, Or.inr ⟨fun h => c7 (tol_le h), rfl, rfl, rfl, rfl, rfl⟩⟩, hG⟩ dX7_cell_38
  · refine lv_aload_n hx hb dX7_cell_14 rfl (lv_at hl 1 rfl) ?_
    refine lv_iload hx hb dX7_cell_15 (lv_at hl 0 rfl) ?_
    refine wrVIa (rest := []) (q0 := 0) ⟨hx, hb, hml, hown, hts⟩ (m_X7_refuse l G y b f r r1  ) mi_yX7_refuse mv_yX7_refuse ml_X7_131 ⟨rfl, rfl, Nat.le_of_ble_eq_true rfl, Nat.le_of_ble_eq_true rfl⟩ hK hP (hDD _ _) rfl rfl rfl hl.1 rfl (Nat.le_of_ble_eq_true rfl) dX7_cell_17 ⟨Nat.zero_le _, Nat.zero_le _⟩ hS hA (fun r96 w97 H locs hw97 hP hS => ?_)
    obtain ⟨x98, rfl, hw97r, hst⟩ := hw97
    have hP : PP G (mM G y b (upd f 0 x98) r) H := hP
    have hst : x98 = r1 := hst
    obtain rfl := hw97r
    exact wr_zret hx hb hr hlocks (Or.inl rfl) hS hP ⟨x98, (r 5), (r 6), (r 7), (r 9), (r 10), rfl, Or.inl ⟨_, fun e9 => c2 (le_of_0 e9), hr1, rfl, rfl, rfl, rfl, rfl⟩, hG⟩ dX7_cell_20
set_option maxHeartbeats 4000000 in
set_option maxRecDepth 100000 in
theorem m_X7_giver (l : Launch) (G : GG) (y : Nat) (b : Nat → Nat) (f : Nat → Int32) (r : Nat → Nat → Int32) (tb : Int32) (row : Int32) (col : Int32) (pt : Int32) (hM2 : nOK 6 12 (r 2)) (hM3 : nOK 6 12 (r 3)) (hM12 : nOK 6 12 (r 12)) (hG : nOK 864 6 (r 7)) : WrI l yX7_giver cX7_giver 7 (some .boolean) ({ frames := 2, cells := 0, slots := 0, locals := 45 }) G (mM G y b f r) [.ref y, .int tb, .int row, .int col, .int pt] (fun q w => ∃ (n_f_0 : Int32) (n_r_6 : Nat → Int32) (n_r_7 : Nat → Int32) (n_r_8 : Nat → Int32), w = mM G y b (upd f 0 n_f_0) (up2 (up2 (up2 r 6 n_r_6) 7 n_r_7) 8 n_r_8) ∧ atM (r 1) (r 2) (r 3) (r 11) tb row col (fun t i k => sv ((r 5) (144 * t + 12 * i + k) = 2 ∧ ¬ pt < 1 ∧ ¬ 100000 < pt ∧ ¬ (r 7) (144 * t + 12 * i + k) = 6) (q = 1 ∧ gvM (144 * t + 12 * i + k) pt (r 6) (r 7) (r 8) n_r_6 n_r_7 n_r_8) (q = 0 ∧ n_r_6 = (r 6) ∧ n_r_7 = (r 7) ∧ n_r_8 = (r 8))) (q = 0 ∧ n_r_6 = (r 6) ∧ n_r_7 = (r 7) ∧ n_r_8 = (r 8)) ∧ (nOK 864 6 n_r_7)) := by
  refine wr_entryI (by decide +kernel) (Nat.le_of_ble_eq_true rfl) ?_
  intro p e s m below meth c A C0 hP hK hD hA ls hl
  have hS : va_S A s.heap s.heap [] := va_S.rf
  obtain ⟨hx, hb, hml, hown, hts, hr, hlocks, hin⟩ := C0
  have hown : s.vm.findClass RX7 = some m.cls := hown
  have hDD : ∀ f' r', va_D A (mM G y b f' r') := fun f' r' => D_same hD rfl
  have hl : lv_has ls 7 [(0, .ref y), (1, .int tb), (2, .int row), (3, .int col), (4, .int pt)] := hl
  refine lv_aload_n hx hb dX7_giver_0 rfl (lv_at hl 0 rfl) ?_
  refine lv_iload_n hx hb dX7_giver_1 rfl (lv_at hl 1 rfl) ?_
  refine lv_iload_n hx hb dX7_giver_2 rfl (lv_at hl 2 rfl) ?_
  refine lv_iload_n hx hb dX7_giver_3 rfl (lv_at hl 3 rfl) ?_
  refine rdV (rest := []) (q0 := 0) ⟨hx, hb, hml, hown, hts⟩ (m_X7_wrongPlace l G y b f r tb row col  hM2 hM3 hM12) mi_yX7_wrongPlace mv_yX7_wrongPlace ml_X7_143 ⟨rfl, rfl, Nat.le_of_ble_eq_true rfl, Nat.le_of_ble_eq_true rfl⟩ hK (hP) rfl rfl rfl hl.1 rfl (Nat.le_of_ble_eq_true rfl) dX7_giver_4 ⟨Nat.zero_le _, Nat.zero_le _⟩ hS hA hP (fun r1 H locs hr1 hP hS => ?_)
  have hr1 : plS (r 1) (r 2) (r 3) (r 11) tb row col r1 := hr1
  refine lv_istore (lv' := [(5, .int r1), (0, .ref y), (1, .int tb), (2, .int row), (3, .int col), (4, .int pt)]) hx hb dX7_giver_7 hl (by decide) rfl (fun ls hl => ?_)
  refine lv_iload hx hb dX7_giver_9 (lv_at hl 0 rfl) ?_
  refine lv_if_le (tgt := 21) hx hb dX7_giver_11 (by decide) (fun c2 => ?_) (fun c2 => ?_)
  · have hp0 := pl_le0 hM2 hM3 hr1 c2
    obtain ⟨t, i, k, rw, cl, ht, hi, hk, hrw, hcl, rfl, rfl, rfl, h2, h3⟩ := wS_ok (wS_of hM2 hM3 hr1) (npos_of_le c2)
    obtain ⟨bk, hbk, h12⟩ := hM12 t ht
    obtain ⟨gm, hgm, eg⟩ := hG (144 * t + 12 * i + k) (by omega)
    refine lv_iload_n hx hb dX7_giver_21 rfl (lv_at hl 2 rfl) ?_
    refine lv_iload_n hx hb dX7_giver_22 rfl (lv_at hl 3 rfl) ?_
    refine lv_iload_n hx hb dX7_giver_23 rfl (lv_at hl 4 rfl) ?_
    refine rdS (rest := []) ⟨hx, hb, hml, hown, hts⟩ (m_X7_at l G y b f r t i k  ) mi_yX7_at mst_yX7_at ml_X7_147 ⟨rfl, rfl, Nat.le_of_ble_eq_true rfl, Nat.le_of_ble_eq_true rfl⟩ hK (hP) rfl hl.1 rfl (Nat.le_of_ble_eq_true rfl) dX7_giver_24 ⟨Nat.zero_le _, Nat.zero_le _⟩ hS hA hP (fun r3 H locs hr3 hP hS => ?_)
    obtain rfl := hr3
    refine lv_istore (lv' := [(6, .int (nI (144 * t + 12 * i + k))), (5, .int r1), (0, .ref y), (1, .int (nI t)), (2, .int (nI i)), (3, .int (nI k)), (4, .int pt)]) hx hb dX7_giver_27 hl (by decide) rfl (fun ls hl => ?_)
    refine lv_aload_n hx hb dX7_giver_29 rfl (lv_at hl 2 rfl) ?_
    refine va_get (D := G.1) (ci := 7) (v := .ref (b 5)) (C := RX7) (T := TX7) (N := 43) hx hb hts inX7 hown hK.1 hP 0 rfl rfl 5 (by decide) (hts _ mf_X7_23) (fun _ h9 => h9) rfl dX7_giver_30 ?_
    refine lv_iload hx hb dX7_giver_33 (lv_at hl 0 rfl) ?_
    refine xiald (f := (r 5)) hx hb hK hP 5 ((144 * t + 12 * i + k)) (rfl) (by omega) (by decide) rfl dX7_giver_35 ?_
    refine lv_topi (fun v4 ev4 => ?_)
    refine lv_if_ne (tgt := 45) hx hb dX7_giver_36 (by decide) (fun c5 => ?_) (fun c5 => ?_)
    · refine lv_aload_n hx hb dX7_giver_45 rfl (lv_at hl 2 rfl) ?_
      refine va_get (D := G.1) (ci := 7) (v := .ref (b 5)) (C := RX7) (T := TX7) (N := 43) hx hb hts inX7 hown hK.1 hP 0 rfl rfl 5 (by decide) (hts _ mf_X7_23) (fun _ h9 => h9) rfl dX7_giver_46 ?_
      refine lv_iload hx hb dX7_giver_49 (lv_at hl 0 rfl) ?_
      refine xiald (f := (r 5)) hx hb hK hP 5 ((144 * t + 12 * i + k)) (rfl) (by omega) (by decide) rfl dX7_giver_51 ?_
      refine lv_topi (fun v6 ev6 => ?_)
      refine lv_iconst (v := 2) hx hb dX7_giver_52 (by decide) ?_
      refine lv_icmp_eq (tgt := 63) hx hb dX7_giver_53 (by decide) (fun c7 => ?_) (fun c7 => ?_)
      · refine lv_iload hx hb dX7_giver_63 (lv_at hl 6 rfl) ?_
        refine lv_iconst (v := 1) hx hb dX7_giver_65 (by decide) ?_
        refine lv_icmp_lt (tgt := 76) hx hb dX7_giver_66 (by decide) (fun c8 => ?_) (fun c8 => ?_)
        · refine lv_aload_n hx hb dX7_giver_76 rfl (lv_at hl 2 rfl) ?_
          refine lv_bipush (v := 7) hx hb dX7_giver_77 (by decide) ?_
          refine wrVIa (rest := []) (q0 := 0) ⟨hx, hb, hml, hown, hts⟩ (m_X7_refuse l G y b f r 7  ) mi_yX7_refuse mv_yX7_refuse ml_X7_131 ⟨rfl, rfl, Nat.le_of_ble_eq_true rfl, Nat.le_of_ble_eq_true rfl⟩ hK hP (hDD _ _) rfl rfl rfl hl.1 rfl (Nat.le_of_ble_eq_true rfl) dX7_giver_79 ⟨Nat.zero_le _, Nat.zero_le _⟩ hS hA (fun r9 w10 H locs hw10 hP hS => ?_)
          obtain ⟨x11, rfl, hw10r, hst⟩ := hw10
          have hP : PP G (mM G y b (upd f 0 x11) r) H := hP
          have hst : x11 = 7 := hst
          obtain rfl := hw10r
          exact wr_zret hx hb hr hlocks (Or.inl rfl) hS hP ⟨x11, (r 6), (r 7), (r 8), rfl, Or.inr ⟨hp0, t, i, k, ht, by omega, by omega, rfl, rfl, rfl, Or.inr ⟨fun h => h.2.1 c8, rfl, rfl, rfl, rfl⟩⟩, hG⟩ dX7_giver_82
        · refine lv_iload hx hb dX7_giver_69 (lv_at hl 6 rfl) ?_
          refine lv_ldc hx hb hown (hts _ mk_X7_150) dX7_giver_71 ?_
          refine lv_icmp_le (tgt := 83) hx hb dX7_giver_73 (by decide) (fun c12 => ?_) (fun c12 => ?_)
          · refine lv_aload_n hx hb dX7_giver_83 rfl (lv_at hl 2 rfl) ?_
            refine va_get (D := G.1) (ci := 7) (v := .ref (b 7)) (C := RX7) (T := TX7) (N := 43) hx hb hts inX7 hown hK.1 hP 0 rfl rfl 7 (by decide) (hts _ mf_X7_29) (fun _ h9 => h9) rfl dX7_giver_84 ?_
            refine lv_iload hx hb dX7_giver_87 (lv_at hl 0 rfl) ?_
            refine xiald (f := (r 7)) hx hb hK hP 7 ((144 * t + 12 * i + k)) (rfl) (by omega) (by decide) rfl dX7_giver_89 ?_
            refine lv_topi (fun v13 ev13 => ?_)
            obtain rfl : v13 = nI (gm) := ev13.trans (eg)
            refine lv_bipush (v := 6) hx hb dX7_giver_90 (by decide) ?_
            refine lv_icmp_ne (tgt := 102) hx hb dX7_giver_92 (by decide) (fun c14 => ?_) (fun c14 => ?_)
            · have b92 := qeq_f (a := (gm)) (b := 6) (by omega) (by omega) c14
              refine lv_aload_n hx hb dX7_giver_102 rfl (lv_at hl 2 rfl) ?_
              refine va_get (D := G.1) (ci := 7) (v := .ref (b 8)) (C := RX7) (T := TX7) (N := 43) hx hb hts inX7 hown hK.1 hP 0 rfl rfl 8 (by decide) (hts _ mf_X7_32) (fun _ h9 => h9) rfl dX7_giver_103 ?_
              refine lv_bipush (v := 6) hx hb dX7_giver_106 (by decide) ?_
              refine lv_iload hx hb dX7_giver_108 (lv_at hl 0 rfl) ?_
              refine lv_imul hx hb dX7_giver_110 ?_
              refine lv_topi (fun v15 ev15 => ?_)
              obtain rfl : v15 = nI (6 * (144 * t + 12 * i + k)) := nI_times ev15 rfl rfl
              refine lv_aload_n hx hb dX7_giver_111 rfl (lv_at hl 2 rfl) ?_
              refine va_get (D := G.1) (ci := 7) (v := .ref (b 7)) (C := RX7) (T := TX7) (N := 43) hx hb hts inX7 hown hK.1 hP 0 rfl rfl 7 (by decide) (hts _ mf_X7_29) (fun _ h9 => h9) rfl dX7_giver_112 ?_
              refine lv_iload hx hb dX7_giver_115 (lv_at hl 0 rfl) ?_
              refine xiald (f := (r 7)) hx hb hK hP 7 ((144 * t + 12 * i + k)) (rfl) (by omega) (by decide) rfl dX7_giver_117 ?_
              refine lv_topi (fun v16 ev16 => ?_)
              obtain rfl : v16 = nI (gm) := ev16.trans (eg)
              refine lv_iadd hx hb dX7_giver_118 ?_
              refine lv_topi (fun v17 ev17 => ?_)
              obtain rfl : v17 = nI ((6 * (144 * t + 12 * i + k)) + (gm)) := nI_plus ev17 rfl rfl
              refine lv_iload hx hb dX7_giver_119 (lv_at hl 6 rfl) ?_
              refine xiast (f := (r 8)) (x := pt) hx hb hK hP (hDD _ _) hS 8 (((6 * (144 * t + 12 * i + k)) + (gm))) (rfl) (by omega) (by decide) rfl dX7_giver_121 (fun H locs hP _ hS => ?_)
              have hP : PP G (mM G y b f (up2 r 8 (upd (r 8) (((6 * (144 * t + 12 * i + k)) + (gm))) (pt)))) H := hP
              refine lv_aload_n hx hb dX7_giver_122 rfl (lv_at hl 2 rfl) ?_
              refine va_get (D := G.1) (ci := 7) (v := .ref (b 7)) (C := RX7) (T := TX7) (N := 43) hx hb hts inX7 hown hK.1 hP 0 rfl rfl 7 (by decide) (hts _ mf_X7_29) (fun _ h9 => h9) rfl dX7_giver_123 ?_
              refine lv_iload hx hb dX7_giver_126 (lv_at hl 0 rfl) ?_
              refine lv_dup2_11 hx hb dX7_giver_128 rfl rfl ?_
              refine xiald (f := (r 7)) hx hb hK hP 7 ((144 * t + 12 * i + k)) (rfl) (by omega) (by decide) rfl dX7_giver_129 ?_
              refine lv_topi (fun v18 ev18 => ?_)
              obtain rfl : v18 = nI (gm) := ev18.trans (eg)
              refine lv_iconst (v := 1) hx hb dX7_giver_130 (by decide) ?_
              refine lv_iadd hx hb dX7_giver_131 ?_
              refine lv_topi (fun v19 ev19 => ?_)
              obtain rfl : v19 = nI ((gm) + 1) := nI_plus ev19 rfl rfl
              refine xiast (f := (r 7)) (x := (nI ((gm) + 1))) hx hb hK hP (hDD _ _) hS 7 ((144 * t + 12 * i + k)) (rfl) (by omega) (by decide) rfl dX7_giver_132 (fun H locs hP _ hS => ?_)
              have hP : PP G (mM G y b f (up2 (up2 r 7 (upd (r 7) ((144 * t + 12 * i + k)) ((nI ((gm) + 1))))) 8 (upd (r 8) (((6 * (144 * t + 12 * i + k)) + (gm))) (pt)))) H := hP
              have hG : nOK 864 6 (upd (r 7) ((144 * t + 12 * i + k)) ((nI ((gm) + 1)))) := nOK_u hG (by omega)
              refine lv_aload_n hx hb dX7_giver_133 rfl (lv_at hl 2 rfl) ?_
              refine va_get (D := G.1) (ci := 7) (v := .ref (b 6)) (C := RX7) (T := TX7) (N := 43) hx hb hts inX7 hown hK.1 hP 0 rfl rfl 6 (by decide) (hts _ mf_X7_26) (fun _ h9 => h9) rfl dX7_giver_134 ?_
              refine lv_iload hx hb dX7_giver_137 (lv_at hl 0 rfl) ?_
              refine lv_dup2_11 hx hb dX7_giver_139 rfl rfl ?_
              refine xiald (f := (r 6)) hx hb hK hP 6 ((144 * t + 12 * i + k)) (rfl) (by omega) (by decide) rfl dX7_giver_140 ?_
              refine lv_topi (fun v20 ev20 => ?_)
              refine lv_iload hx hb dX7_giver_141 (lv_at hl 6 rfl) ?_
              refine lv_iadd hx hb dX7_giver_143 ?_
              refine lv_topi (fun v21 ev21 => ?_)
              refine xiast (f := (r 6)) (x := v21) hx hb hK hP (hDD _ _) hS 6 ((144 * t + 12 * i + k)) (rfl) (by omega) (by decide) rfl dX7_giver_144 (fun H locs hP _ hS => ?_)
              have hP : PP G (mM G y b f (up2 (up2 (up2 r 6 (upd (r 6) ((144 * t + 12 * i + k)) (v21))) 7 (upd (r 7) ((144 * t + 12 * i + k)) ((nI ((gm) + 1))))) 8 (upd (r 8) (((6 * (144 * t + 12 * i + k)) + (gm))) (pt)))) H := hP
              refine lv_aload_n hx hb dX7_giver_145 rfl (lv_at hl 2 rfl) ?_
              refine wrVIa (rest := []) (q0 := 0) ⟨hx, hb, hml, hown, hts⟩ (m_X7_good l G y b f (up2 (up2 (up2 r 6 (upd (r 6) ((144 * t + 12 * i + k)) (v21))) 7 (upd (r 7) ((144 * t + 12 * i + k)) ((nI ((gm) + 1))))) 8 (upd (r 8) (((6 * (144 * t + 12 * i + k)) + (gm))) (pt)))   ) mi_yX7_good mv_yX7_good ml_X7_138 ⟨rfl, rfl, Nat.le_of_ble_eq_true rfl, Nat.le_of_ble_eq_true rfl⟩ hK hP (hDD _ _) rfl rfl rfl hl.1 rfl (Nat.le_of_ble_eq_true rfl) dX7_giver_146 ⟨Nat.zero_le _, Nat.zero_le _⟩ hS hA (fun r22 w23 H locs hw23 hP hS => ?_)
              obtain ⟨x24, rfl, hw23r, hst⟩ := hw23
              have hP : PP G (mM G y b (upd f 0 x24) (up2 (up2 (up2 r 6 (upd (r 6) ((144 * t + 12 * i + k)) (v21))) 7 (upd (r 7) ((144 * t + 12 * i + k)) ((nI ((gm) + 1))))) 8 (upd (r 8) (((6 * (144 * t + 12 * i + k)) + (gm))) (pt)))) H := hP
              have hst : x24 = 0 := hst
              obtain rfl := hw23r
              exact wr_zret hx hb hr hlocks (Or.inr rfl) hS hP ⟨x24, (upd (r 6) ((144 * t + 12 * i + k)) (v21)), (upd (r 7) ((144 * t + 12 * i + k)) ((nI ((gm) + 1)))), (upd (r 8) (((6 * (144 * t + 12 * i + k)) + (gm))) (pt)), rfl, Or.inr ⟨hp0, t, i, k, ht, by omega, by omega, rfl, rfl, rfl, Or.inl ⟨⟨ev6.symm.trans c7, c8, le_n c12, fun h9 => c14 (eg.symm.trans h9)⟩, rfl, gm, by omega, eg, only_u, only_u, only_v (by rw [ev21, ev20]) only_u⟩⟩, hG⟩ dX7_giver_149
            · have b92 := qeq_t (a := (gm)) (b := 6) (by omega) (by omega) c14
              refine lv_aload_n hx hb dX7_giver_95 rfl (lv_at hl 2 rfl) ?_
              refine lv_bipush (v := 8) hx hb dX7_giver_96 (by decide) ?_
              refine wrVIa (rest := []) (q0 := 0) ⟨hx, hb, hml, hown, hts⟩ (m_X7_refuse l G y b f r 8  ) mi_yX7_refuse mv_yX7_refuse ml_X7_131 ⟨rfl, rfl, Nat.le_of_ble_eq_true rfl, Nat.le_of_ble_eq_true rfl⟩ hK hP (hDD _ _) rfl rfl rfl hl.1 rfl (Nat.le_of_ble_eq_true rfl) dX7_giver_98 ⟨Nat.zero_le _, Nat.zero_le _⟩ hS hA (fun r25 w26 H locs hw26 hP hS => ?_)
              obtain ⟨x27, rfl, hw26r, hst⟩ := hw26
              have hP : PP G (mM G y b (upd f 0 x27) r) H := hP
              have hst : x27 = 8 := hst
              obtain rfl := hw26r
              exact wr_zret hx hb hr hlocks (Or.inl rfl) hS hP ⟨x27, (r 6), (r 7), (r 8), rfl, Or.inr ⟨hp0, t, i, k, ht, by omega, by omega, rfl, rfl, rfl, Or.inr ⟨fun h => h.2.2.2 (eg.trans c14), rfl, rfl, rfl, rfl⟩⟩, hG⟩ dX7_giver_101
          · refine lv_aload_n hx hb dX7_giver_76 rfl (lv_at hl 2 rfl) ?_
            refine lv_bipush (v := 7) hx hb dX7_giver_77 (by decide) ?_
            refine wrVIa (rest := []) (q0 := 0) ⟨hx, hb, hml, hown, hts⟩ (m_X7_refuse l G y b f r 7  ) mi_yX7_refuse mv_yX7_refuse ml_X7_131 ⟨rfl, rfl, Nat.le_of_ble_eq_true rfl, Nat.le_of_ble_eq_true rfl⟩ hK hP (hDD _ _) rfl rfl rfl hl.1 rfl (Nat.le_of_ble_eq_true rfl) dX7_giver_79 ⟨Nat.zero_le _, Nat.zero_le _⟩ hS hA (fun r28 w29 H locs hw29 hP hS => ?_)
            obtain ⟨x30, rfl, hw29r, hst⟩ := hw29
            have hP : PP G (mM G y b (upd f 0 x30) r) H := hP
            have hst : x30 = 7 := hst
            obtain rfl := hw29r
            exact wr_zret hx hb hr hlocks (Or.inl rfl) hS hP ⟨x30, (r 6), (r 7), (r 8), rfl, Or.inr ⟨hp0, t, i, k, ht, by omega, by omega, rfl, rfl, rfl, Or.inr ⟨fun h => h.2.2.1 (n_le c12), rfl, rfl, rfl, rfl⟩⟩, hG⟩ dX7_giver_82
      · refine lv_aload_n hx hb dX7_giver_56 rfl (lv_at hl 2 rfl) ?_
        refine lv_bipush (v := 6) hx hb dX7_giver_57 (by decide) ?_
        refine wrVIa (rest := []) (q0 := 0) ⟨hx, hb, hml, hown, hts⟩ (m_X7_refuse l G y b f r 6  ) mi_yX7_refuse mv_yX7_refuse ml_X7_131 ⟨rfl, rfl, Nat.le_of_ble_eq_true rfl, Nat.le_of_ble_eq_true rfl⟩ hK hP (hDD _ _) rfl rfl rfl hl.1 rfl (Nat.le_of_ble_eq_true rfl) dX7_giver_59 ⟨Nat.zero_le _, Nat.zero_le _⟩ hS hA (fun r31 w32 H locs hw32 hP hS => ?_)
        obtain ⟨x33, rfl, hw32r, hst⟩ := hw32
        have hP : PP G (mM G y b (upd f 0 x33) r) H := hP
        have hst : x33 = 6 := hst
        obtain rfl := hw32r
        exact wr_zret hx hb hr hlocks (Or.inl rfl) hS hP ⟨x33, (r 6), (r 7), (r 8), rfl, Or.inr ⟨hp0, t, i, k, ht, by omega, by omega, rfl, rfl, rfl, Or.inr ⟨fun h => c7 (ev6.trans h.1), rfl, rfl, rfl, rfl⟩⟩, hG⟩ dX7_giver_62
    · refine lv_aload_n hx hb dX7_giver_39 rfl (lv_at hl 2 rfl) ?_
      refine lv_iconst (v := 5) hx hb dX7_giver_40 (by decide) ?_
      refine wrVIa (rest := []) (q0 := 0) ⟨hx, hb, hml, hown, hts⟩ (m_X7_refuse l G y b f r 5  ) mi_yX7_refuse mv_yX7_refuse ml_X7_131 ⟨rfl, rfl, Nat.le_of_ble_eq_true rfl, Nat.le_of_ble_eq_true rfl⟩ hK hP (hDD _ _) rfl rfl rfl hl.1 rfl (Nat.le_of_ble_eq_true rfl) dX7_giver_41 ⟨Nat.zero_le _, Nat.zero_le _⟩ hS hA (fun r34 w35 H locs hw35 hP hS => ?_)
      obtain ⟨x36, rfl, hw35r, hst⟩ := hw35
      have hP : PP G (mM G y b (upd f 0 x36) r) H := hP
      have hst : x36 = 5 := hst
      obtain rfl := hw35r
      exact wr_zret hx hb hr hlocks (Or.inl rfl) hS hP ⟨x36, (r 6), (r 7), (r 8), rfl, Or.inr ⟨hp0, t, i, k, ht, by omega, by omega, rfl, rfl, rfl, Or.inr ⟨fun h => absurd (h.1.symm.trans (ev4.symm.trans c5)) (by decide), rfl, rfl, rfl, rfl⟩⟩, hG⟩ dX7_giver_44
  · refine lv_aload_n hx hb dX7_giver_14 rfl (lv_at hl 1 rfl) ?_
    refine lv_iload hx hb dX7_giver_15 (lv_at hl 0 rfl) ?_
    refine wrVIa (rest := []) (q0 := 0) ⟨hx, hb, hml, hown, hts⟩ (m_X7_refuse l G y b f r r1  ) mi_yX7_refuse mv_yX7_refuse ml_X7_131 ⟨rfl, rfl, Nat.le_of_ble_eq_true rfl, Nat.le_of_ble_eq_true rfl⟩ hK hP (hDD _ _) rfl rfl rfl hl.1 rfl (Nat.le_of_ble_eq_true rfl) dX7_giver_17 ⟨Nat.zero_le _, Nat.zero_le _⟩ hS hA (fun r37 w38 H locs hw38 hP hS => ?_)
    obtain ⟨x39, rfl, hw38r, hst⟩ := hw38
    have hP : PP G (mM G y b (upd f 0 x39) r) H := hP
    have hst : x39 = r1 := hst
    obtain rfl := hw38r
    exact wr_zret hx hb hr hlocks (Or.inl rfl) hS hP ⟨x39, (r 6), (r 7), (r 8), rfl, Or.inl ⟨_, fun e9 => c2 (le_of_0 e9), hr1, rfl, rfl, rfl, rfl⟩, hG⟩ dX7_giver_20
set_option maxHeartbeats 4000000 in
set_option maxRecDepth 100000 in
theorem m_X7_clear (l : Launch) (G : GG) (y : Nat) (b : Nat → Nat) (f : Nat → Int32) (r : Nat → Nat → Int32) (tb : Int32) (row : Int32) (col : Int32) (hM2 : nOK 6 12 (r 2)) (hM3 : nOK 6 12 (r 3)) (hM12 : nOK 6 12 (r 12)) (hG : nOK 864 6 (r 7)) : WrI l yX7_clear cX7_clear 6 (some .boolean) ({ frames := 2, cells := 0, slots := 0, locals := 45 }) G (mM G y b f r) [.ref y, .int tb, .int row, .int col] (fun q w => ∃ (n_f_0 : Int32) (n_r_5 : Nat → Int32) (n_r_6 : Nat → Int32) (n_r_7 : Nat → Int32) (n_r_9 : Nat → Int32) (n_r_10 : Nat → Int32), w = mM G y b (upd f 0 n_f_0) (up2 (up2 (up2 (up2 (up2 r 5 n_r_5) 6 n_r_6) 7 n_r_7) 9 n_r_9) 10 n_r_10) ∧ atM (r 1) (r 2) (r 3) (r 11) tb row col (fun t i k => sv (¬ (r 5) (144 * t + 12 * i + k) = 0) (q = 1 ∧ puM (144 * t + 12 * i + k) 0 0 (r 5) (r 6) (r 7) (r 9) n_r_5 n_r_6 n_r_7 n_r_9) (q = 0 ∧ sm4 (r 5) (r 6) (r 7) (r 9) n_r_5 n_r_6 n_r_7 n_r_9)) (q = 0 ∧ sm4 (r 5) (r 6) (r 7) (r 9) n_r_5 n_r_6 n_r_7 n_r_9) ∧ (nOK 864 6 n_r_7)) := by
  refine wr_entryI (by decide +kernel) (Nat.le_of_ble_eq_true rfl) ?_
  intro p e s m below meth c A C0 hP hK hD hA ls hl
  have hS : va_S A s.heap s.heap [] := va_S.rf
  obtain ⟨hx, hb, hml, hown, hts, hr, hlocks, hin⟩ := C0
  have hown : s.vm.findClass RX7 = some m.cls := hown
  have hDD : ∀ f' r', va_D A (mM G y b f' r') := fun f' r' => D_same hD rfl
  have hl : lv_has ls 6 [(0, .ref y), (1, .int tb), (2, .int row), (3, .int col)] := hl
  refine lv_aload_n hx hb dX7_clear_0 rfl (lv_at hl 0 rfl) ?_
  refine lv_iload_n hx hb dX7_clear_1 rfl (lv_at hl 1 rfl) ?_
  refine lv_iload_n hx hb dX7_clear_2 rfl (lv_at hl 2 rfl) ?_
  refine lv_iload_n hx hb dX7_clear_3 rfl (lv_at hl 3 rfl) ?_
  refine rdV (rest := []) (q0 := 0) ⟨hx, hb, hml, hown, hts⟩ (m_X7_wrongPlace l G y b f r tb row col  hM2 hM3 hM12) mi_yX7_wrongPlace mv_yX7_wrongPlace ml_X7_143 ⟨rfl, rfl, Nat.le_of_ble_eq_true rfl, Nat.le_of_ble_eq_true rfl⟩ hK (hP) rfl rfl rfl hl.1 rfl (Nat.le_of_ble_eq_true rfl) dX7_clear_4 ⟨Nat.zero_le _, Nat.zero_le _⟩ hS hA hP (fun r1 H locs hr1 hP hS => ?_)
  have hr1 : plS (r 1) (r 2) (r 3) (r 11) tb row col r1 := hr1
  refine lv_istore (lv' := [(4, .int r1), (0, .ref y), (1, .int tb), (2, .int row), (3, .int col)]) hx hb dX7_clear_7 hl (by decide) rfl (fun ls hl => ?_)
  refine lv_iload hx hb dX7_clear_9 (lv_at hl 0 rfl) ?_
  refine lv_if_le (tgt := 21) hx hb dX7_clear_11 (by decide) (fun c2 => ?_) (fun c2 => ?_)
  · have hp0 := pl_le0 hM2 hM3 hr1 c2
    obtain ⟨t, i, k, rw, cl, ht, hi, hk, hrw, hcl, rfl, rfl, rfl, h2, h3⟩ := wS_ok (wS_of hM2 hM3 hr1) (npos_of_le c2)
    obtain ⟨bk, hbk, h12⟩ := hM12 t ht
    refine lv_iload_n hx hb dX7_clear_21 rfl (lv_at hl 2 rfl) ?_
    refine lv_iload_n hx hb dX7_clear_22 rfl (lv_at hl 3 rfl) ?_
    refine lv_iload_n hx hb dX7_clear_23 rfl (lv_at hl 4 rfl) ?_
    refine rdS (rest := []) ⟨hx, hb, hml, hown, hts⟩ (m_X7_at l G y b f r t i k  ) mi_yX7_at mst_yX7_at ml_X7_147 ⟨rfl, rfl, Nat.le_of_ble_eq_true rfl, Nat.le_of_ble_eq_true rfl⟩ hK (hP) rfl hl.1 rfl (Nat.le_of_ble_eq_true rfl) dX7_clear_24 ⟨Nat.zero_le _, Nat.zero_le _⟩ hS hA hP (fun r3 H locs hr3 hP hS => ?_)
    obtain rfl := hr3
    refine lv_istore (lv' := [(5, .int (nI (144 * t + 12 * i + k))), (4, .int r1), (0, .ref y), (1, .int (nI t)), (2, .int (nI i)), (3, .int (nI k))]) hx hb dX7_clear_27 hl (by decide) rfl (fun ls hl => ?_)
    refine lv_aload_n hx hb dX7_clear_29 rfl (lv_at hl 2 rfl) ?_
    refine va_get (D := G.1) (ci := 7) (v := .ref (b 5)) (C := RX7) (T := TX7) (N := 43) hx hb hts inX7 hown hK.1 hP 0 rfl rfl 5 (by decide) (hts _ mf_X7_23) (fun _ h9 => h9) rfl dX7_clear_30 ?_
    refine lv_iload hx hb dX7_clear_33 (lv_at hl 0 rfl) ?_
    refine xiald (f := (r 5)) hx hb hK hP 5 ((144 * t + 12 * i + k)) (rfl) (by omega) (by decide) rfl dX7_clear_35 ?_
    refine lv_topi (fun v4 ev4 => ?_)
    refine lv_if_ne (tgt := 45) hx hb dX7_clear_36 (by decide) (fun c5 => ?_) (fun c5 => ?_)
    · refine lv_aload_n hx hb dX7_clear_45 rfl (lv_at hl 2 rfl) ?_
      refine lv_iload hx hb dX7_clear_46 (lv_at hl 0 rfl) ?_
      refine wrVVa (rest := []) (q0 := 0) ⟨hx, hb, hml, hown, hts⟩ (m_X7_empty l G y b f r (144 * t + 12 * i + k)  (by omega) hG) mi_yX7_empty mv_yX7_empty ml_X7_134 ⟨rfl, rfl, Nat.le_of_ble_eq_true rfl, Nat.le_of_ble_eq_true rfl⟩ hK hP (hDD _ _) rfl rfl rfl hl.1 rfl (Nat.le_of_ble_eq_true rfl) dX7_clear_48 ⟨Nat.zero_le _, Nat.zero_le _⟩ hS hA (fun w7 H locs hw7 hP hS => ?_)
      obtain ⟨x8, x9, x10, x11, x12, rfl, hG, em5, em6, em7, em9⟩ := hw7
      have hP : PP G (mM G y b f (up2 (up2 (up2 (up2 (up2 r 5 x8) 6 x9) 7 x10) 9 x11) 10 x12)) H := hP
      have hG : nOK 864 6 x10 := hG
      have em5 : only (144 * t + 12 * i + k) 0 (r 5) x8 := em5
      have em6 : only (144 * t + 12 * i + k) 0 (r 6) x9 := em6
      have em7 : only (144 * t + 12 * i + k) 0 (r 7) x10 := em7
      have em9 : only (144 * t + 12 * i + k) 0 (r 9) x11 := em9
      refine lv_aload_n hx hb dX7_clear_51 rfl (lv_at hl 2 rfl) ?_
      refine wrVIa (rest := []) (q0 := 0) ⟨hx, hb, hml, hown, hts⟩ (m_X7_good l G y b f (up2 (up2 (up2 (up2 (up2 r 5 x8) 6 x9) 7 x10) 9 x11) 10 x12)   ) mi_yX7_good mv_yX7_good ml_X7_138 ⟨rfl, rfl, Nat.le_of_ble_eq_true rfl, Nat.le_of_ble_eq_true rfl⟩ hK hP (hDD _ _) rfl rfl rfl hl.1 rfl (Nat.le_of_ble_eq_true rfl) dX7_clear_52 ⟨Nat.zero_le _, Nat.zero_le _⟩ hS hA (fun r13 w14 H locs hw14 hP hS => ?_)
      obtain ⟨x15, rfl, hw14r, hst⟩ := hw14
      have hP : PP G (mM G y b (upd f 0 x15) (up2 (up2 (up2 (up2 (up2 r 5 x8) 6 x9) 7 x10) 9 x11) 10 x12)) H := hP
      have hst : x15 = 0 := hst
      obtain rfl := hw14r
      exact wr_zret hx hb hr hlocks (Or.inr rfl) hS hP ⟨x15, x8, x9, x10, x11, x12, rfl, Or.inr ⟨hp0, t, i, k, ht, by omega, by omega, rfl, rfl, rfl, Or.inl ⟨fun h9 => c5 (ev4.trans h9), rfl, em5, em6, em7, em9⟩⟩, hG⟩ dX7_clear_55
    · refine lv_aload_n hx hb dX7_clear_39 rfl (lv_at hl 2 rfl) ?_
      refine lv_iconst (v := 5) hx hb dX7_clear_40 (by decide) ?_
      refine wrVIa (rest := []) (q0 := 0) ⟨hx, hb, hml, hown, hts⟩ (m_X7_refuse l G y b f r 5  ) mi_yX7_refuse mv_yX7_refuse ml_X7_131 ⟨rfl, rfl, Nat.le_of_ble_eq_true rfl, Nat.le_of_ble_eq_true rfl⟩ hK hP (hDD _ _) rfl rfl rfl hl.1 rfl (Nat.le_of_ble_eq_true rfl) dX7_clear_41 ⟨Nat.zero_le _, Nat.zero_le _⟩ hS hA (fun r16 w17 H locs hw17 hP hS => ?_)
      obtain ⟨x18, rfl, hw17r, hst⟩ := hw17
      have hP : PP G (mM G y b (upd f 0 x18) r) H := hP
      have hst : x18 = 5 := hst
      obtain rfl := hw17r
      exact wr_zret hx hb hr hlocks (Or.inl rfl) hS hP ⟨x18, (r 5), (r 6), (r 7), (r 9), (r 10), rfl, Or.inr ⟨hp0, t, i, k, ht, by omega, by omega, rfl, rfl, rfl, Or.inr ⟨fun h => h (ev4.symm.trans c5), rfl, rfl, rfl, rfl, rfl⟩⟩, hG⟩ dX7_clear_44
  · refine lv_aload_n hx hb dX7_clear_14 rfl (lv_at hl 1 rfl) ?_
    refine lv_iload hx hb dX7_clear_15 (lv_at hl 0 rfl) ?_
    refine wrVIa (rest := []) (q0 := 0) ⟨hx, hb, hml, hown, hts⟩ (m_X7_refuse l G y b f r r1  ) mi_yX7_refuse mv_yX7_refuse ml_X7_131 ⟨rfl, rfl, Nat.le_of_ble_eq_true rfl, Nat.le_of_ble_eq_true rfl⟩ hK hP (hDD _ _) rfl rfl rfl hl.1 rfl (Nat.le_of_ble_eq_true rfl) dX7_clear_17 ⟨Nat.zero_le _, Nat.zero_le _⟩ hS hA (fun r19 w20 H locs hw20 hP hS => ?_)
    obtain ⟨x21, rfl, hw20r, hst⟩ := hw20
    have hP : PP G (mM G y b (upd f 0 x21) r) H := hP
    have hst : x21 = r1 := hst
    obtain rfl := hw20r
    exact wr_zret hx hb hr hlocks (Or.inl rfl) hS hP ⟨x21, (r 5), (r 6), (r 7), (r 9), (r 10), rfl, Or.inl ⟨_, fun e9 => c2 (le_of_0 e9), hr1, rfl, rfl, rfl, rfl, rfl⟩, hG⟩ dX7_clear_20
set_option maxHeartbeats 4000000 in
set_option maxRecDepth 100000 in
theorem m_X7_tear (l : Launch) (G : GG) (y : Nat) (b : Nat → Nat) (f : Nat → Int32) (r : Nat → Nat → Int32) (tb : Int32) (row : Int32) (pn : Int32) (hM2 : nOK 6 12 (r 2)) (hM3 : nOK 6 12 (r 3)) (hM12 : nOK 6 12 (r 12)) (hG : nOK 864 6 (r 7)) : WrI l yX7_tear cX7_tear 6 (some .boolean) ({ frames := 1, cells := 0, slots := 0, locals := 22 }) G (mM G y b f r) [.ref y, .int tb, .int row, .int pn] (fun q w => ∃ (n_f_0 : Int32) (n_r_5 : Nat → Int32) (n_r_6 : Nat → Int32) (n_r_7 : Nat → Int32) (n_r_9 : Nat → Int32) (n_r_10 : Nat → Int32) (n_r_11 : Nat → Int32), w = mM G y b (upd f 0 n_f_0) (up2 (up2 (up2 (up2 (up2 (up2 r 5 n_r_5) 6 n_r_6) 7 n_r_7) 9 n_r_9) 10 n_r_10) 11 n_r_11) ∧ (teM (r 1) (r 2) (r 11) tb row pn q n_r_11 ∧ teR tb row pn q (r 5) (r 6) (r 7) (r 9) n_r_5 n_r_6 n_r_7 n_r_9) ∧ (nOK 864 6 n_r_7)) := by
  refine wr_entryI (by decide +kernel) (Nat.le_of_ble_eq_true rfl) ?_
  intro p e s m below meth c A C0 hP hK hD hA ls hl
  have hS : va_S A s.heap s.heap [] := va_S.rf
  obtain ⟨hx, hb, hml, hown, hts, hr, hlocks, hin⟩ := C0
  have hown : s.vm.findClass RX7 = some m.cls := hown
  have hDD : ∀ f' r', va_D A (mM G y b f' r') := fun f' r' => D_same hD rfl
  have hl : lv_has ls 6 [(0, .ref y), (1, .int tb), (2, .int row), (3, .int pn)] := hl
  refine lv_aload_n hx hb dX7_tear_0 rfl (lv_at hl 0 rfl) ?_
  refine lv_iload_n hx hb dX7_tear_1 rfl (lv_at hl 1 rfl) ?_
  refine rdV (rest := []) (q0 := 0) ⟨hx, hb, hml, hown, hts⟩ (m_X7_isTable l G y b f r tb  ) mi_yX7_isTable mv_yX7_isTable ml_X7_120 ⟨rfl, rfl, Nat.le_of_ble_eq_true rfl, Nat.le_of_ble_eq_true rfl⟩ hK (hP) rfl rfl rfl hl.1 rfl (Nat.le_of_ble_eq_true rfl) dX7_tear_2 ⟨Nat.zero_le _, Nat.zero_le _⟩ hS hA hP (fun r1 H locs hr1 hP hS => ?_)
  have hr1 : ((r1 = 1 ∧ (opn (r 1) tb)) ∨ (r1 = 0 ∧ ¬ (opn (r 1) tb))) := hr1
  refine lv_if_ne (tgt := 14) hx hb dX7_tear_5 (by decide) (fun c2 => ?_) (fun c2 => ?_)
  · have b5 := bT hr1 c2
    obtain ⟨t, ht, rfl, hop⟩ := b5
    obtain ⟨rw, hrw, h2⟩ := hM2 t ht
    obtain ⟨cl, hcl, h3⟩ := hM3 t ht
    obtain ⟨bk, hbk, h12⟩ := hM12 t ht
    refine lv_aload_n hx hb dX7_tear_14 rfl (lv_at hl 0 rfl) ?_
    refine lv_iload_n hx hb dX7_tear_15 rfl (lv_at hl 1 rfl) ?_
    refine lv_iload_n hx hb dX7_tear_16 rfl (lv_at hl 2 rfl) ?_
    refine rdV (rest := []) (q0 := 0) ⟨hx, hb, hml, hown, hts⟩ (m_X7_isRow l G y b f r t row  (by omega)) mi_yX7_isRow mv_yX7_isRow ml_X7_124 ⟨rfl, rfl, Nat.le_of_ble_eq_true rfl, Nat.le_of_ble_eq_true rfl⟩ hK (hP) rfl rfl rfl hl.1 rfl (Nat.le_of_ble_eq_true rfl) dX7_tear_17 ⟨Nat.zero_le _, Nat.zero_le _⟩ hS hA hP (fun r3 H locs hr3 hP hS => ?_)
    have hr3 : ((r3 = 1 ∧ (inR ((r 2) t) row)) ∨ (r3 = 0 ∧ ¬ (inR ((r 2) t) row))) := hr3
    refine lv_if_ne (tgt := 29) hx hb dX7_tear_20 (by decide) (fun c4 => ?_) (fun c4 => ?_)
    · have b20 := bT hr3 c4
      have q1 := b20
      rw [h2] at q1
      obtain ⟨i, hi, rfl⟩ := inR_n (by omega) q1
      refine lv_aload_n hx hb dX7_tear_29 rfl (lv_at hl 0 rfl) ?_
      refine va_get (D := G.1) (ci := 7) (v := .ref (b 11)) (C := RX7) (T := TX7) (N := 43) hx hb hts inX7 hown hK.1 hP 0 rfl rfl 11 (by decide) (hts _ mf_X7_41) (fun _ h9 => h9) rfl dX7_tear_30 ?_
      refine lv_bipush (v := 12) hx hb dX7_tear_33 (by decide) ?_
      refine lv_iload_n hx hb dX7_tear_35 rfl (lv_at hl 1 rfl) ?_
      refine lv_imul hx hb dX7_tear_36 ?_
      refine lv_topi (fun v5 ev5 => ?_)
      obtain rfl : v5 = nI (12 * t) := nI_times ev5 rfl rfl
      refine lv_iload_n hx hb dX7_tear_37 rfl (lv_at hl 2 rfl) ?_
      refine lv_iadd hx hb dX7_tear_38 ?_
      refine lv_topi (fun v6 ev6 => ?_)
      obtain rfl : v6 = nI ((12 * t) + i) := nI_plus ev6 rfl rfl
      refine xiald (f := (r 11)) hx hb hK hP 11 (((12 * t) + i)) (rfl) (by omega) (by decide) rfl dX7_tear_39 ?_
      refine lv_topi (fun v7 ev7 => ?_)
      refine lv_istore (lv' := [(4, .int v7), (0, .ref y), (1, .int (nI t)), (2, .int (nI i)), (3, .int pn)]) hx hb dX7_tear_40 hl (by decide) rfl (fun ls hl => ?_)
      refine lv_iload hx hb dX7_tear_42 (lv_at hl 0 rfl) ?_
      refine lv_if_ne (tgt := 53) hx hb dX7_tear_44 (by decide) (fun c8 => ?_) (fun c8 => ?_)
      · refine lv_iload_n hx hb dX7_tear_53 rfl (lv_at hl 4 rfl) ?_
        refine lv_iload hx hb dX7_tear_54 (lv_at hl 0 rfl) ?_
        refine lv_icmp_le (tgt := 65) hx hb dX7_tear_56 (by decide) (fun c9 => ?_) (fun c9 => ?_)
        · refine lv_iload_n hx hb dX7_tear_65 rfl (lv_at hl 4 rfl) ?_
          refine lv_if_ge (tgt := 76) hx hb dX7_tear_66 (by decide) (fun c10 => ?_) (fun c10 => ?_)
          · obtain ⟨pk, hpk, rfl⟩ := nI_of (x := pn) (Int32.not_lt.mpr c10)
            refine lv_aload_n hx hb dX7_tear_76 rfl (lv_at hl 1 rfl) ?_
            refine va_get (D := G.1) (ci := 7) (v := .ref (b 11)) (C := RX7) (T := TX7) (N := 43) hx hb hts inX7 hown hK.1 hP 0 rfl rfl 11 (by decide) (hts _ mf_X7_41) (fun _ h9 => h9) rfl dX7_tear_77 ?_
            refine lv_bipush (v := 12) hx hb dX7_tear_80 (by decide) ?_
            refine lv_iload_n hx hb dX7_tear_82 rfl (lv_at hl 2 rfl) ?_
            refine lv_imul hx hb dX7_tear_83 ?_
            refine lv_topi (fun v11 ev11 => ?_)
            obtain rfl : v11 = nI (12 * t) := nI_times ev11 rfl rfl
            refine lv_iload_n hx hb dX7_tear_84 rfl (lv_at hl 3 rfl) ?_
            refine lv_iadd hx hb dX7_tear_85 ?_
            refine lv_topi (fun v12 ev12 => ?_)
            obtain rfl : v12 = nI ((12 * t) + i) := nI_plus ev12 rfl rfl
            refine lv_iload_n hx hb dX7_tear_86 rfl (lv_at hl 4 rfl) ?_
            refine xiast (f := (r 11)) (x := (nI pk)) hx hb hK hP (hDD _ _) hS 11 (((12 * t) + i)) (rfl) (by omega) (by decide) rfl dX7_tear_87 (fun H locs hP _ hS => ?_)
            have hP : PP G (mM G y b f (up2 r 11 (upd (r 11) (((12 * t) + i)) ((nI pk))))) H := hP
            refine lv_iload_n hx hb dX7_tear_88 rfl (lv_at hl 4 rfl) ?_
            refine lv_istore (lv' := [(5, .int (nI pk)), (4, .int v7), (0, .ref y), (1, .int (nI t)), (2, .int (nI i)), (3, .int (nI pk))]) hx hb dX7_tear_89 hl (by decide) rfl (fun ls hl => ?_)
            have loop91 : ∀ (k13 j : Nat) (x14 : Nat → Int32) (x15 : Nat → Int32) (x16 : Nat → Int32) (x17 : Nat → Int32) (x18 : Nat → Int32), j ≤ (max 12 pk) → (max 12 pk) < j + k13 → (nOK 864 6 x16) → (pk ≤ j) → (outR (144 * t + 12 * i + pk) (144 * t + 12 * i + 12) (r 5) x14) → (outR (144 * t + 12 * i + pk) (144 * t + 12 * i + 12) (r 6) x15) → (outR (144 * t + 12 * i + pk) (144 * t + 12 * i + 12) (r 7) x16) → (outR (144 * t + 12 * i + pk) (144 * t + 12 * i + 12) (r 9) x17) → ∀ (H : Heap) (locs : List Loc) (ls : Array Slot), PP G (mM G y b f (up2 (up2 (up2 (up2 (up2 (up2 r 5 x14) 6 x15) 7 x16) 9 x17) 10 x18) 11 (upd (r 11) (((12 * t) + i)) ((nI pk))))) H → va_S A s.heap H locs → lv_has ls 6 [(5, .int (nI j)), (0, .ref y), (1, .int (nI t)), (2, .int (nI i))] → W p l e ({ frames := 1, cells := 0, slots := 0, locals := 22 }) s m ([.ref y, .int (nI t), .int (nI i), .int (nI pk)] : List Value).toArray below meth c H locs 0 0 (MQ below (QwI G (fun q w => ∃ (n_f_0 : Int32) (n_r_5 : Nat → Int32) (n_r_6 : Nat → Int32) (n_r_7 : Nat → Int32) (n_r_9 : Nat → Int32) (n_r_10 : Nat → Int32) (n_r_11 : Nat → Int32), w = mM G y b (upd f 0 n_f_0) (up2 (up2 (up2 (up2 (up2 (up2 r 5 n_r_5) 6 n_r_6) 7 n_r_7) 9 n_r_9) 10 n_r_10) 11 n_r_11) ∧ (teM (r 1) (r 2) (r 11) (nI t) (nI i) (nI pk) q n_r_11 ∧ teR (nI t) (nI i) (nI pk) q (r 5) (r 6) (r 7) (r 9) n_r_5 n_r_6 n_r_7 n_r_9) ∧ (nOK 864 6 n_r_7)) A) ([.ref y, .int (nI t), .int (nI i), .int (nI pk)] : List Value).toArray s 0 0 A) (F0 m 91 ls []) := by
              intro k13
              induction k13 with
              | zero => intro j x14 x15 x16 x17 x18 h1 h2; exact absurd h1 (by omega)
              | succ k13 ih91k13 =>
                intro j x14 x15 x16 x17 x18 hi_j hk_j hG hpj z5 z6 z7 z9 H locs ls hP hS hl
                refine lv_iload hx hb dX7_tear_91 (lv_at hl 0 rfl) ?_
                refine lv_bipush (v := 12) hx hb dX7_tear_93 (by decide) ?_
                refine lv_icmp_ge (tgt := 115) hx hb dX7_tear_95 (by decide) (fun c19 => ?_) (fun c19 => ?_)
                · have b95 := qge_t (a := j) (b := 12) (by omega) (by omega) c19
                  refine lv_aload_n hx hb dX7_tear_115 rfl (lv_at hl 1 rfl) ?_
                  refine wrVIa (rest := []) (q0 := 0) ⟨hx, hb, hml, hown, hts⟩ (m_X7_good l G y b f (up2 (up2 (up2 (up2 (up2 (up2 r 5 x14) 6 x15) 7 x16) 9 x17) 10 x18) 11 (upd (r 11) (((12 * t) + i)) ((nI pk))))   ) mi_yX7_good mv_yX7_good ml_X7_138 ⟨rfl, rfl, Nat.le_of_ble_eq_true rfl, Nat.le_of_ble_eq_true rfl⟩ hK hP (hDD _ _) rfl rfl rfl hl.1 rfl (Nat.le_of_ble_eq_true rfl) dX7_tear_116 ⟨Nat.zero_le _, Nat.zero_le _⟩ hS hA (fun r20 w21 H locs hw21 hP hS => ?_)
                  obtain ⟨x22, rfl, hw21r, hst⟩ := hw21
                  have hP : PP G (mM G y b (upd f 0 x22) (up2 (up2 (up2 (up2 (up2 (up2 r 5 x14) 6 x15) 7 x16) 9 x17) 10 x18) 11 (upd (r 11) (((12 * t) + i)) ((nI pk))))) H := hP
                  have hst : x22 = 0 := hst
                  obtain rfl := hw21r
                  exact wr_zret hx hb hr hlocks (Or.inr rfl) hS hP ⟨x22, x14, x15, x16, x17, x18, (upd (r 11) (((12 * t) + i)) ((nI pk))), rfl, ⟨Or.inl ⟨rfl, t, i, ⟨ht, by omega, rfl, rfl, hop, b20, fun h9 => c8 (ev7.trans h9), by rw [← ev7]; exact le_n c9, Int32.not_lt.mpr c10⟩, rfl⟩, Or.inr ⟨rfl, t, i, pk, ht, by omega, rfl, rfl, rfl, z5, z6, z7, z9⟩⟩, hG⟩ dX7_tear_119
                · have b95 := qge_f (a := j) (b := 12) (by omega) (by omega) c19
                  refine lv_aload_n hx hb dX7_tear_98 rfl (lv_at hl 1 rfl) ?_
                  refine lv_iload_n hx hb dX7_tear_99 rfl (lv_at hl 2 rfl) ?_
                  refine lv_iload_n hx hb dX7_tear_100 rfl (lv_at hl 3 rfl) ?_
                  refine lv_iload hx hb dX7_tear_101 (lv_at hl 0 rfl) ?_
                  refine rdS (rest := [.ref y]) ⟨hx, hb, hml, hown, hts⟩ (m_X7_at l G y b f (up2 (up2 (up2 (up2 (up2 (up2 r 5 x14) 6 x15) 7 x16) 9 x17) 10 x18) 11 (upd (r 11) (((12 * t) + i)) ((nI pk)))) t i j  ) mi_yX7_at mst_yX7_at ml_X7_147 ⟨rfl, rfl, Nat.le_of_ble_eq_true rfl, Nat.le_of_ble_eq_true rfl⟩ hK (hP) rfl hl.1 rfl (Nat.le_of_ble_eq_true rfl) dX7_tear_103 ⟨Nat.zero_le _, Nat.zero_le _⟩ hS hA hP (fun r23 H locs hr23 hP hS => ?_)
                  obtain rfl := hr23
                  refine wrVVa (rest := []) (q0 := 0) ⟨hx, hb, hml, hown, hts⟩ (m_X7_empty l G y b f (up2 (up2 (up2 (up2 (up2 (up2 r 5 x14) 6 x15) 7 x16) 9 x17) 10 x18) 11 (upd (r 11) (((12 * t) + i)) ((nI pk)))) (144 * t + 12 * i + j)  (by omega) hG) mi_yX7_empty mv_yX7_empty ml_X7_134 ⟨rfl, rfl, Nat.le_of_ble_eq_true rfl, Nat.le_of_ble_eq_true rfl⟩ hK hP (hDD _ _) rfl rfl rfl hl.1 rfl (Nat.le_of_ble_eq_true rfl) dX7_tear_106 ⟨Nat.zero_le _, Nat.zero_le _⟩ hS hA (fun w25 H locs hw25 hP hS => ?_)
                  obtain ⟨x26, x27, x28, x29, x30, rfl, hG, em5, em6, em7, em9⟩ := hw25
                  have hP : PP G (mM G y b f (up2 (up2 (up2 (up2 (up2 (up2 r 5 x26) 6 x27) 7 x28) 9 x29) 10 x30) 11 (upd (r 11) (((12 * t) + i)) ((nI pk))))) H := hP
                  have hG : nOK 864 6 x28 := hG
                  have em5 : only (144 * t + 12 * i + j) 0 x14 x26 := em5
                  have em6 : only (144 * t + 12 * i + j) 0 x15 x27 := em6
                  have em7 : only (144 * t + 12 * i + j) 0 x16 x28 := em7
                  have em9 : only (144 * t + 12 * i + j) 0 x17 x29 := em9
                  obtain ⟨v31, ev31⟩ : ∃ y9 : Int32, y9 = (nI j) + Int32.ofInt (1) := ⟨_, rfl⟩
                  refine lv_iinc (v := v31) (lv' := [(5, .int v31), (0, .ref y), (1, .int (nI t)), (2, .int (nI i))]) hx hb dX7_tear_109 hl (k := 0) rfl ev31.symm (by decide) rfl (fun ls hl => ?_)
                  obtain rfl : v31 = nI (j + 1) := nI_plus (i := j) (j := 1) ev31 rfl (by decide)
                  refine lv_goto (tgt := 91) hx hb dX7_tear_112 (by decide) ?_
                  exact ih91k13 (j + 1) x26 x27 x28 x29 x30 (by omega) (by omega) hG (by omega) (outR_s z5 em5 (by omega) (by omega)) (outR_s z6 em6 (by omega) (by omega)) (outR_s z7 em7 (by omega) (by omega)) (outR_s z9 em9 (by omega) (by omega)) _ _ _ hP hS (lv_sub hl [0, 1, 2, 3] rfl)
            exact loop91 ((max 12 pk) + 1) pk (r 5) (r 6) (r 7) (r 9) (r 10) (by omega) (by omega) hG (Nat.le_refl _) (outR_0) (outR_0) (outR_0) (outR_0) _ _ _ hP hS (lv_sub hl [0, 2, 3, 4] rfl)
          · refine lv_aload_n hx hb dX7_tear_69 rfl (lv_at hl 1 rfl) ?_
            refine lv_bipush (v := 7) hx hb dX7_tear_70 (by decide) ?_
            refine wrVIa (rest := []) (q0 := 0) ⟨hx, hb, hml, hown, hts⟩ (m_X7_refuse l G y b f r 7  ) mi_yX7_refuse mv_yX7_refuse ml_X7_131 ⟨rfl, rfl, Nat.le_of_ble_eq_true rfl, Nat.le_of_ble_eq_true rfl⟩ hK hP (hDD _ _) rfl rfl rfl hl.1 rfl (Nat.le_of_ble_eq_true rfl) dX7_tear_72 ⟨Nat.zero_le _, Nat.zero_le _⟩ hS hA (fun r32 w33 H locs hw33 hP hS => ?_)
            obtain ⟨x34, rfl, hw33r, hst⟩ := hw33
            have hP : PP G (mM G y b (upd f 0 x34) r) H := hP
            have hst : x34 = 7 := hst
            obtain rfl := hw33r
            exact wr_zret hx hb hr hlocks (Or.inl rfl) hS hP ⟨x34, (r 5), (r 6), (r 7), (r 9), (r 10), (r 11), rfl, ⟨Or.inr ⟨rfl, fun h => (by obtain ⟨t2, i2, g1, g2, g3, g4, g5, g6, g7, g8, g9⟩ := h; have e1 := (nI_eq (by omega) (by omega)).mp g3; subst e1; have e2 := (nI_eq (by omega) (by omega)).mp g4; subst e2; exact g9 (n_le c10)), rfl⟩, Or.inl ⟨rfl, rfl, rfl, rfl, rfl⟩⟩, hG⟩ dX7_tear_75
        · refine lv_aload_n hx hb dX7_tear_59 rfl (lv_at hl 1 rfl) ?_
          refine lv_iconst (v := 4) hx hb dX7_tear_60 (by decide) ?_
          refine wrVIa (rest := []) (q0 := 0) ⟨hx, hb, hml, hown, hts⟩ (m_X7_refuse l G y b f r 4  ) mi_yX7_refuse mv_yX7_refuse ml_X7_131 ⟨rfl, rfl, Nat.le_of_ble_eq_true rfl, Nat.le_of_ble_eq_true rfl⟩ hK hP (hDD _ _) rfl rfl rfl hl.1 rfl (Nat.le_of_ble_eq_true rfl) dX7_tear_61 ⟨Nat.zero_le _, Nat.zero_le _⟩ hS hA (fun r35 w36 H locs hw36 hP hS => ?_)
          obtain ⟨x37, rfl, hw36r, hst⟩ := hw36
          have hP : PP G (mM G y b (upd f 0 x37) r) H := hP
          have hst : x37 = 4 := hst
          obtain rfl := hw36r
          exact wr_zret hx hb hr hlocks (Or.inl rfl) hS hP ⟨x37, (r 5), (r 6), (r 7), (r 9), (r 10), (r 11), rfl, ⟨Or.inr ⟨rfl, fun h => (by obtain ⟨t2, i2, g1, g2, g3, g4, g5, g6, g7, g8, g9⟩ := h; have e1 := (nI_eq (by omega) (by omega)).mp g3; subst e1; have e2 := (nI_eq (by omega) (by omega)).mp g4; subst e2; exact g8 (by rw [← ev7]; exact n_le c9)), rfl⟩, Or.inl ⟨rfl, rfl, rfl, rfl, rfl⟩⟩, hG⟩ dX7_tear_64
      · refine lv_aload_n hx hb dX7_tear_47 rfl (lv_at hl 1 rfl) ?_
        refine lv_iconst (v := 3) hx hb dX7_tear_48 (by decide) ?_
        refine wrVIa (rest := []) (q0 := 0) ⟨hx, hb, hml, hown, hts⟩ (m_X7_refuse l G y b f r 3  ) mi_yX7_refuse mv_yX7_refuse ml_X7_131 ⟨rfl, rfl, Nat.le_of_ble_eq_true rfl, Nat.le_of_ble_eq_true rfl⟩ hK hP (hDD _ _) rfl rfl rfl hl.1 rfl (Nat.le_of_ble_eq_true rfl) dX7_tear_49 ⟨Nat.zero_le _, Nat.zero_le _⟩ hS hA (fun r38 w39 H locs hw39 hP hS => ?_)
        obtain ⟨x40, rfl, hw39r, hst⟩ := hw39
        have hP : PP G (mM G y b (upd f 0 x40) r) H := hP
        have hst : x40 = 3 := hst
        obtain rfl := hw39r
        exact wr_zret hx hb hr hlocks (Or.inl rfl) hS hP ⟨x40, (r 5), (r 6), (r 7), (r 9), (r 10), (r 11), rfl, ⟨Or.inr ⟨rfl, fun h => (by obtain ⟨t2, i2, g1, g2, g3, g4, g5, g6, g7, g8, g9⟩ := h; have e1 := (nI_eq (by omega) (by omega)).mp g3; subst e1; have e2 := (nI_eq (by omega) (by omega)).mp g4; subst e2; exact g7 (ev7.symm.trans c8)), rfl⟩, Or.inl ⟨rfl, rfl, rfl, rfl, rfl⟩⟩, hG⟩ dX7_tear_52
    · have b20 := bF hr3 c4
      refine lv_aload_n hx hb dX7_tear_23 rfl (lv_at hl 0 rfl) ?_
      refine lv_iconst (v := 2) hx hb dX7_tear_24 (by decide) ?_
      refine wrVIa (rest := []) (q0 := 0) ⟨hx, hb, hml, hown, hts⟩ (m_X7_refuse l G y b f r 2  ) mi_yX7_refuse mv_yX7_refuse ml_X7_131 ⟨rfl, rfl, Nat.le_of_ble_eq_true rfl, Nat.le_of_ble_eq_true rfl⟩ hK hP (hDD _ _) rfl rfl rfl hl.1 rfl (Nat.le_of_ble_eq_true rfl) dX7_tear_25 ⟨Nat.zero_le _, Nat.zero_le _⟩ hS hA (fun r41 w42 H locs hw42 hP hS => ?_)
      obtain ⟨x43, rfl, hw42r, hst⟩ := hw42
      have hP : PP G (mM G y b (upd f 0 x43) r) H := hP
      have hst : x43 = 2 := hst
      obtain rfl := hw42r
      exact wr_zret hx hb hr hlocks (Or.inl rfl) hS hP ⟨x43, (r 5), (r 6), (r 7), (r 9), (r 10), (r 11), rfl, ⟨Or.inr ⟨rfl, fun h => (by obtain ⟨t2, i2, g1, g2, g3, g4, g5, g6, g7, g8, g9⟩ := h; have e1 := (nI_eq (by omega) (by omega)).mp g3; subst e1; exact b20 g6), rfl⟩, Or.inl ⟨rfl, rfl, rfl, rfl, rfl⟩⟩, hG⟩ dX7_tear_28
  · have b5 := bF hr1 c2
    refine lv_aload_n hx hb dX7_tear_8 rfl (lv_at hl 0 rfl) ?_
    refine lv_iconst (v := 1) hx hb dX7_tear_9 (by decide) ?_
    refine wrVIa (rest := []) (q0 := 0) ⟨hx, hb, hml, hown, hts⟩ (m_X7_refuse l G y b f r 1  ) mi_yX7_refuse mv_yX7_refuse ml_X7_131 ⟨rfl, rfl, Nat.le_of_ble_eq_true rfl, Nat.le_of_ble_eq_true rfl⟩ hK hP (hDD _ _) rfl rfl rfl hl.1 rfl (Nat.le_of_ble_eq_true rfl) dX7_tear_10 ⟨Nat.zero_le _, Nat.zero_le _⟩ hS hA (fun r44 w45 H locs hw45 hP hS => ?_)
    obtain ⟨x46, rfl, hw45r, hst⟩ := hw45
    have hP : PP G (mM G y b (upd f 0 x46) r) H := hP
    have hst : x46 = 1 := hst
    obtain rfl := hw45r
    exact wr_zret hx hb hr hlocks (Or.inl rfl) hS hP ⟨x46, (r 5), (r 6), (r 7), (r 9), (r 10), (r 11), rfl, ⟨Or.inr ⟨rfl, fun h => (by obtain ⟨t2, i2, g1, g2, g3, g4, g5, _⟩ := h; exact b5 ⟨t2, g1, g3, g5⟩), rfl⟩, Or.inl ⟨rfl, rfl, rfl, rfl, rfl⟩⟩, hG⟩ dX7_tear_13
set_option maxHeartbeats 4000000 in
set_option maxRecDepth 100000 in
theorem m_X7_isLaid (l : Launch) (G : GG) (y : Nat) (b : Nat → Nat) (f : Nat → Int32) (r : Nat → Nat → Int32) (t : Nat) (fi : Int32) (la : Int32) (rw : Nat) (cl : Nat) (bk : Nat) (ht : t < 6) (hrw : rw ≤ 12) (hcl : cl ≤ 12) (hbk : bk ≤ 12) (h2 : (r 2) t = nI rw) (h3 : (r 3) t = nI cl) (h12 : (r 12) t = nI bk) : RdI l yX7_isLaid cX7_isLaid 9 (some .boolean) ({ frames := 0, cells := 0, slots := 0, locals := 0 }) G (mM G y b f r) [.ref y, .int (nI t), .int fi, .int la] (fun q => ((q = 1 ∧ (okM (r 13) (r 14) fi la t bk)) ∨ (q = 0 ∧ ¬ (okM (r 13) (r 14) fi la t bk)))) := by
  refine rd_entry (by decide +kernel) (Nat.le_of_ble_eq_true rfl) ?_
  intro p e s m below meth c C0 hP hK ls hl
  have hS : va_S (fun q => s.heap.size ≤ q) s.heap s.heap [] := va_S.rf
  have hA : ∀ q, s.heap.size ≤ q → (fun q => s.heap.size ≤ q) q := fun _ h => h
  obtain ⟨hx, hb, hml, hown, hts, hr, hlocks, hin⟩ := C0
  have hown : s.vm.findClass RX7 = some m.cls := hown
  have hl : lv_has ls 9 [(0, .ref y), (1, .int (nI t)), (2, .int fi), (3, .int la)] := hl
  refine lv_iconst (v := 0) hx hb dX7_isLaid_0 (by decide) ?_
  refine lv_istore (lv' := [(4, .int 0), (0, .ref y), (1, .int (nI t)), (2, .int fi), (3, .int la)]) hx hb dX7_isLaid_1 hl (by decide) rfl (fun ls hl => ?_)
  have loop3 : ∀ (k1 j : Nat) , j ≤ bk → bk < j + k1 → (okM (r 13) (r 14) fi la t j) → ∀ (H : Heap) (locs : List Loc) (ls : Array Slot), PP G (mM G y b f r) H → va_S (fun q => s.heap.size ≤ q) s.heap H locs → lv_has ls 9 [(4, .int (nI j)), (0, .ref y), (1, .int (nI t)), (2, .int fi), (3, .int la)] → W p l e ({ frames := 0, cells := 0, slots := 0, locals := 0 }) s m ([.ref y, .int (nI t), .int fi, .int la] : List Value).toArray below meth c H locs 0 0 (MQ below (QrI (fun q => ((q = 1 ∧ (okM (r 13) (r 14) fi la t bk)) ∨ (q = 0 ∧ ¬ (okM (r 13) (r 14) fi la t bk)))) (fun q => s.heap.size ≤ q)) ([.ref y, .int (nI t), .int fi, .int la] : List Value).toArray s 0 0 (fun q => s.heap.size ≤ q)) (F0 m 3 ls []) := by
    intro k1
    induction k1 with
    | zero => intro j  h1 h2; exact absurd h1 (by omega)
    | succ k1 ih3k1 =>
      intro j  hi_j hk_j hall H locs ls hP hS hl
      refine lv_iload hx hb dX7_isLaid_3 (lv_at hl 0 rfl) ?_
      refine lv_aload_n hx hb dX7_isLaid_5 rfl (lv_at hl 1 rfl) ?_
      refine va_get (D := G.1) (ci := 7) (v := .ref (b 12)) (C := RX7) (T := TX7) (N := 43) hx hb hts inX7 hown hK.1 hP 0 rfl rfl 12 (by decide) (hts _ mf_X7_44) (fun _ h9 => h9) rfl dX7_isLaid_6 ?_
      refine lv_iload_n hx hb dX7_isLaid_9 rfl (lv_at hl 2 rfl) ?_
      refine xiald (f := (r 12)) hx hb hK hP 12 (t) (rfl) (by omega) (by decide) rfl dX7_isLaid_10 ?_
      refine lv_topi (fun v2 ev2 => ?_)
      obtain rfl : v2 = nI (bk) := ev2.trans (h12)
      refine lv_icmp_ge (tgt := 124) hx hb dX7_isLaid_11 (by decide) (fun c3 => ?_) (fun c3 => ?_)
      · have b11 := qge_t (a := j) (b := (bk)) (by omega) (by omega) c3
        refine lv_iconst (v := 1) hx hb dX7_isLaid_124 (by decide) ?_
        exact rd_zret hx hb hr hlocks (Or.inr rfl) hS (Or.inl ⟨rfl, fun k hk => hall k (by omega)⟩) dX7_isLaid_125
      · have b11 := qge_f (a := j) (b := (bk)) (by omega) (by omega) c3
        refine lv_aload_n hx hb dX7_isLaid_14 rfl (lv_at hl 1 rfl) ?_
        refine va_get (D := G.1) (ci := 7) (v := .ref (b 13)) (C := RX7) (T := TX7) (N := 43) hx hb hts inX7 hown hK.1 hP 0 rfl rfl 13 (by decide) (hts _ mf_X7_47) (fun _ h9 => h9) rfl dX7_isLaid_15 ?_
        refine lv_bipush (v := 12) hx hb dX7_isLaid_18 (by decide) ?_
        refine lv_iload_n hx hb dX7_isLaid_20 rfl (lv_at hl 2 rfl) ?_
        refine lv_imul hx hb dX7_isLaid_21 ?_
        refine lv_topi (fun v4 ev4 => ?_)
        obtain rfl : v4 = nI (12 * t) := nI_times ev4 rfl rfl
        refine lv_iload hx hb dX7_isLaid_22 (lv_at hl 0 rfl) ?_
        refine lv_iadd hx hb dX7_isLaid_24 ?_
        refine lv_topi (fun v5 ev5 => ?_)
        obtain rfl : v5 = nI ((12 * t) + j) := nI_plus ev5 rfl rfl
        refine xiald (f := (r 13)) hx hb hK hP 13 (((12 * t) + j)) (rfl) (by omega) (by decide) rfl dX7_isLaid_25 ?_
        refine lv_topi (fun v6 ev6 => ?_)
        refine lv_istore (lv' := [(5, .int v6), (4, .int (nI j)), (0, .ref y), (1, .int (nI t)), (2, .int fi), (3, .int la)]) hx hb dX7_isLaid_26 hl (by decide) rfl (fun ls hl => ?_)
        refine lv_aload_n hx hb dX7_isLaid_28 rfl (lv_at hl 2 rfl) ?_
        refine va_get (D := G.1) (ci := 7) (v := .ref (b 14)) (C := RX7) (T := TX7) (N := 43) hx hb hts inX7 hown hK.1 hP 0 rfl rfl 14 (by decide) (hts _ mf_X7_50) (fun _ h9 => h9) rfl dX7_isLaid_29 ?_
        refine lv_bipush (v := 12) hx hb dX7_isLaid_32 (by decide) ?_
        refine lv_iload_n hx hb dX7_isLaid_34 rfl (lv_at hl 3 rfl) ?_
        refine lv_imul hx hb dX7_isLaid_35 ?_
        refine lv_topi (fun v7 ev7 => ?_)
        obtain rfl : v7 = nI (12 * t) := nI_times ev7 rfl rfl
        refine lv_iload hx hb dX7_isLaid_36 (lv_at hl 1 rfl) ?_
        refine lv_iadd hx hb dX7_isLaid_38 ?_
        refine lv_topi (fun v8 ev8 => ?_)
        obtain rfl : v8 = nI ((12 * t) + j) := nI_plus ev8 rfl rfl
        refine xiald (f := (r 14)) hx hb hK hP 14 (((12 * t) + j)) (rfl) (by omega) (by decide) rfl dX7_isLaid_39 ?_
        refine lv_topi (fun v9 ev9 => ?_)
        refine lv_istore (lv' := [(6, .int v9), (5, .int v6), (4, .int (nI j)), (0, .ref y), (1, .int (nI t)), (2, .int fi), (3, .int la)]) hx hb dX7_isLaid_40 hl (by decide) rfl (fun ls hl => ?_)
        refine lv_iload hx hb dX7_isLaid_42 (lv_at hl 1 rfl) ?_
        refine lv_iload_n hx hb dX7_isLaid_44 rfl (lv_at hl 5 rfl) ?_
        refine lv_icmp_ne (tgt := 56) hx hb dX7_isLaid_45 (by decide) (fun c10 => ?_) (fun c10 => ?_)
        · have hne : ¬ (v6 = fi ∧ v9 = la) := fun h => c10 h.1
          refine lv_iload hx hb dX7_isLaid_56 (lv_at hl 0 rfl) ?_
          refine lv_iload_n hx hb dX7_isLaid_58 rfl (lv_at hl 5 rfl) ?_
          have j73_11 : ∀ (z11 : Int32) (gz11 : z11 = 0 ∨ z11 = 1) (ha : ((z11 = 1 ∧ (v9 < fi ∨ la < v6)) ∨ (z11 = 0 ∧ ¬ (v9 < fi ∨ la < v6)))) (H : Heap) (locs : List Loc) (ls : Array Slot), PP G (mM G y b f r) H → va_S (fun q => s.heap.size ≤ q) s.heap H locs → lv_has ls 9 [(6, .int v9), (5, .int v6), (4, .int (nI j)), (0, .ref y), (1, .int (nI t)), (2, .int fi), (3, .int la)] → W p l e ({ frames := 0, cells := 0, slots := 0, locals := 0 }) s m ([.ref y, .int (nI t), .int fi, .int la] : List Value).toArray below meth c H locs 0 0 (MQ below (QrI (fun q => ((q = 1 ∧ (okM (r 13) (r 14) fi la t bk)) ∨ (q = 0 ∧ ¬ (okM (r 13) (r 14) fi la t bk)))) (fun q => s.heap.size ≤ q)) ([.ref y, .int (nI t), .int fi, .int la] : List Value).toArray s 0 0 (fun q => s.heap.size ≤ q)) (F0 m 73 ls [.int z11]) := by
            intro z11 gz11 ha H locs ls hP hS hl
            refine lv_istore (lv' := [(7, .int z11), (6, .int v9), (5, .int v6), (4, .int (nI j)), (0, .ref y), (1, .int (nI t)), (2, .int fi), (3, .int la)]) hx hb dX7_isLaid_73 hl (by decide) rfl (fun ls hl => ?_)
            refine lv_iload hx hb dX7_isLaid_75 (lv_at hl 2 rfl) ?_
            refine lv_iload_n hx hb dX7_isLaid_77 rfl (lv_at hl 6 rfl) ?_
            have j104_12 : ∀ (z12 : Int32) (gz12 : z12 = 0 ∨ z12 = 1) (hb9 : ((z12 = 1 ∧ ((v6 ≤ fi ∧ la ≤ v9) ∨ (fi ≤ v6 ∧ v9 ≤ la))) ∨ (z12 = 0 ∧ ¬ ((v6 ≤ fi ∧ la ≤ v9) ∨ (fi ≤ v6 ∧ v9 ≤ la))))) (H : Heap) (locs : List Loc) (ls : Array Slot), PP G (mM G y b f r) H → va_S (fun q => s.heap.size ≤ q) s.heap H locs → lv_has ls 9 [(7, .int z11), (4, .int (nI j)), (0, .ref y), (1, .int (nI t)), (2, .int fi), (3, .int la)] → W p l e ({ frames := 0, cells := 0, slots := 0, locals := 0 }) s m ([.ref y, .int (nI t), .int fi, .int la] : List Value).toArray below meth c H locs 0 0 (MQ below (QrI (fun q => ((q = 1 ∧ (okM (r 13) (r 14) fi la t bk)) ∨ (q = 0 ∧ ¬ (okM (r 13) (r 14) fi la t bk)))) (fun q => s.heap.size ≤ q)) ([.ref y, .int (nI t), .int fi, .int la] : List Value).toArray s 0 0 (fun q => s.heap.size ≤ q)) (F0 m 104 ls [.int z12]) := by
              intro z12 gz12 hb9 H locs ls hP hS hl
              refine lv_istore (lv' := [(8, .int z12), (7, .int z11), (4, .int (nI j)), (0, .ref y), (1, .int (nI t)), (2, .int fi), (3, .int la)]) hx hb dX7_isLaid_104 hl (by decide) rfl (fun ls hl => ?_)
              refine lv_iload hx hb dX7_isLaid_106 (lv_at hl 1 rfl) ?_
              refine lv_if_ne (tgt := 118) hx hb dX7_isLaid_108 (by decide) (fun c13 => ?_) (fun c13 => ?_)
              · have b108 := bT ha c13
                obtain ⟨v14, ev14⟩ : ∃ y9 : Int32, y9 = (nI j) + Int32.ofInt (1) := ⟨_, rfl⟩
                refine lv_iinc (v := v14) (lv' := [(4, .int v14), (8, .int z12), (7, .int z11), (0, .ref y), (1, .int (nI t)), (2, .int fi), (3, .int la)]) hx hb dX7_isLaid_118 hl (k := 2) rfl ev14.symm (by decide) rfl (fun ls hl => ?_)
                obtain rfl : v14 = nI (j + 1) := nI_plus (i := j) (j := 1) ev14 rfl (by decide)
                refine lv_goto (tgt := 3) hx hb dX7_isLaid_121 (by decide) ?_
                exact ih3k1 (j + 1) (by omega) (by omega) (okM_s hall ev6 ev9 hne (Or.inl b108)) _ _ _ hP hS (lv_sub hl [0, 3, 4, 5, 6] rfl)
              · have b108 := bF ha c13
                refine lv_iload hx hb dX7_isLaid_111 (lv_at hl 0 rfl) ?_
                refine lv_if_ne (tgt := 118) hx hb dX7_isLaid_113 (by decide) (fun c15 => ?_) (fun c15 => ?_)
                · have b113 := bT hb9 c15
                  obtain ⟨v16, ev16⟩ : ∃ y9 : Int32, y9 = (nI j) + Int32.ofInt (1) := ⟨_, rfl⟩
                  refine lv_iinc (v := v16) (lv' := [(4, .int v16), (8, .int z12), (7, .int z11), (0, .ref y), (1, .int (nI t)), (2, .int fi), (3, .int la)]) hx hb dX7_isLaid_118 hl (k := 2) rfl ev16.symm (by decide) rfl (fun ls hl => ?_)
                  obtain rfl : v16 = nI (j + 1) := nI_plus (i := j) (j := 1) ev16 rfl (by decide)
                  refine lv_goto (tgt := 3) hx hb dX7_isLaid_121 (by decide) ?_
                  exact ih3k1 (j + 1) (by omega) (by omega) (okM_s hall ev6 ev9 hne (Or.inr b113)) _ _ _ hP hS (lv_sub hl [0, 3, 4, 5, 6] rfl)
                · have b113 := bF hb9 c15
                  refine lv_iconst (v := 0) hx hb dX7_isLaid_116 (by decide) ?_
                  exact rd_zret hx hb hr hlocks (Or.inl rfl) hS (Or.inr ⟨rfl, fun h => (okM_n h b11 ev6 ev9).2.elim b108 b113⟩) dX7_isLaid_117
            refine lv_icmp_gt (tgt := 87) hx hb dX7_isLaid_78 (by decide) (fun c17 => ?_) (fun c17 => ?_)
            · refine lv_iload hx hb dX7_isLaid_87 (lv_at hl 2 rfl) ?_
              refine lv_iload_n hx hb dX7_isLaid_89 rfl (lv_at hl 6 rfl) ?_
              refine lv_icmp_lt (tgt := 103) hx hb dX7_isLaid_90 (by decide) (fun c18 => ?_) (fun c18 => ?_)
              · refine lv_iconst (v := 0) hx hb dX7_isLaid_103 (by decide) ?_
                exact j104_12 0 (Or.inl rfl) (Or.inr ⟨rfl, fun h => h.elim (fun a9 => Int32.not_lt.mpr a9.1 c17) (fun b9 => Int32.not_lt.mpr b9.1 c18)⟩) _ _ _ hP hS (lv_sub hl [0, 3, 4, 5, 6, 7] rfl)
              · refine lv_iload hx hb dX7_isLaid_93 (lv_at hl 1 rfl) ?_
                refine lv_iload_n hx hb dX7_isLaid_95 rfl (lv_at hl 7 rfl) ?_
                refine lv_icmp_gt (tgt := 103) hx hb dX7_isLaid_96 (by decide) (fun c19 => ?_) (fun c19 => ?_)
                · refine lv_iconst (v := 0) hx hb dX7_isLaid_103 (by decide) ?_
                  exact j104_12 0 (Or.inl rfl) (Or.inr ⟨rfl, fun h => h.elim (fun a9 => Int32.not_lt.mpr a9.1 c17) (fun b9 => Int32.not_lt.mpr b9.2 c19)⟩) _ _ _ hP hS (lv_sub hl [0, 3, 4, 5, 6, 7] rfl)
                · refine lv_iconst (v := 1) hx hb dX7_isLaid_99 (by decide) ?_
                  refine lv_goto (tgt := 104) hx hb dX7_isLaid_100 (by decide) ?_
                  exact j104_12 1 (Or.inr rfl) (Or.inl ⟨rfl, Or.inr ⟨Int32.not_lt.mp c18, Int32.not_lt.mp c19⟩⟩) _ _ _ hP hS (lv_sub hl [0, 3, 4, 5, 6, 7] rfl)
            · refine lv_iload hx hb dX7_isLaid_81 (lv_at hl 1 rfl) ?_
              refine lv_iload_n hx hb dX7_isLaid_83 rfl (lv_at hl 7 rfl) ?_
              refine lv_icmp_ge (tgt := 99) hx hb dX7_isLaid_84 (by decide) (fun c20 => ?_) (fun c20 => ?_)
              · refine lv_iconst (v := 1) hx hb dX7_isLaid_99 (by decide) ?_
                refine lv_goto (tgt := 104) hx hb dX7_isLaid_100 (by decide) ?_
                exact j104_12 1 (Or.inr rfl) (Or.inl ⟨rfl, Or.inl ⟨Int32.not_lt.mp c17, c20⟩⟩) _ _ _ hP hS (lv_sub hl [0, 3, 4, 5, 6, 7] rfl)
              · refine lv_iload hx hb dX7_isLaid_87 (lv_at hl 2 rfl) ?_
                refine lv_iload_n hx hb dX7_isLaid_89 rfl (lv_at hl 6 rfl) ?_
                refine lv_icmp_lt (tgt := 103) hx hb dX7_isLaid_90 (by decide) (fun c21 => ?_) (fun c21 => ?_)
                · refine lv_iconst (v := 0) hx hb dX7_isLaid_103 (by decide) ?_
                  exact j104_12 0 (Or.inl rfl) (Or.inr ⟨rfl, fun h => h.elim (fun a9 => c20 a9.2) (fun b9 => Int32.not_lt.mpr b9.1 c21)⟩) _ _ _ hP hS (lv_sub hl [0, 3, 4, 5, 6, 7] rfl)
                · refine lv_iload hx hb dX7_isLaid_93 (lv_at hl 1 rfl) ?_
                  refine lv_iload_n hx hb dX7_isLaid_95 rfl (lv_at hl 7 rfl) ?_
                  refine lv_icmp_gt (tgt := 103) hx hb dX7_isLaid_96 (by decide) (fun c22 => ?_) (fun c22 => ?_)
                  · refine lv_iconst (v := 0) hx hb dX7_isLaid_103 (by decide) ?_
                    exact j104_12 0 (Or.inl rfl) (Or.inr ⟨rfl, fun h => h.elim (fun a9 => c20 a9.2) (fun b9 => Int32.not_lt.mpr b9.2 c22)⟩) _ _ _ hP hS (lv_sub hl [0, 3, 4, 5, 6, 7] rfl)
                  · refine lv_iconst (v := 1) hx hb dX7_isLaid_99 (by decide) ?_
                    refine lv_goto (tgt := 104) hx hb dX7_isLaid_100 (by decide) ?_
                    exact j104_12 1 (Or.inr rfl) (Or.inl ⟨rfl, Or.inr ⟨Int32.not_lt.mp c21, Int32.not_lt.mp c22⟩⟩) _ _ _ hP hS (lv_sub hl [0, 3, 4, 5, 6, 7] rfl)
          refine lv_icmp_lt (tgt := 68) hx hb dX7_isLaid_59 (by decide) (fun c23 => ?_) (fun c23 => ?_)
          · refine lv_iconst (v := 1) hx hb dX7_isLaid_68 (by decide) ?_
            refine lv_goto (tgt := 73) hx hb dX7_isLaid_69 (by decide) ?_
            exact j73_11 1 (Or.inr rfl) (Or.inl ⟨rfl, Or.inl c23⟩) _ _ _ hP hS (lv_sub hl [0, 1, 2, 3, 4, 5, 6] rfl)
          · refine lv_iload hx hb dX7_isLaid_62 (lv_at hl 1 rfl) ?_
            refine lv_iload_n hx hb dX7_isLaid_64 rfl (lv_at hl 6 rfl) ?_
            refine lv_icmp_le (tgt := 72) hx hb dX7_isLaid_65 (by decide) (fun c24 => ?_) (fun c24 => ?_)
            · refine lv_iconst (v := 0) hx hb dX7_isLaid_72 (by decide) ?_
              exact j73_11 0 (Or.inl rfl) (Or.inr ⟨rfl, fun h => h.elim c23 (le_n c24)⟩) _ _ _ hP hS (lv_sub hl [0, 1, 2, 3, 4, 5, 6] rfl)
            · refine lv_iconst (v := 1) hx hb dX7_isLaid_68 (by decide) ?_
              refine lv_goto (tgt := 73) hx hb dX7_isLaid_69 (by decide) ?_
              exact j73_11 1 (Or.inr rfl) (Or.inl ⟨rfl, Or.inr (n_le c24)⟩) _ _ _ hP hS (lv_sub hl [0, 1, 2, 3, 4, 5, 6] rfl)
        · refine lv_iload hx hb dX7_isLaid_48 (lv_at hl 0 rfl) ?_
          refine lv_iload_n hx hb dX7_isLaid_50 rfl (lv_at hl 6 rfl) ?_
          refine lv_icmp_ne (tgt := 56) hx hb dX7_isLaid_51 (by decide) (fun c25 => ?_) (fun c25 => ?_)
          · have hne : ¬ (v6 = fi ∧ v9 = la) := fun h => c25 h.2
            refine lv_iload hx hb dX7_isLaid_56 (lv_at hl 0 rfl) ?_
            refine lv_iload_n hx hb dX7_isLaid_58 rfl (lv_at hl 5 rfl) ?_
            have j73_26 : ∀ (z26 : Int32) (gz26 : z26 = 0 ∨ z26 = 1) (ha : ((z26 = 1 ∧ (v9 < fi ∨ la < v6)) ∨ (z26 = 0 ∧ ¬ (v9 < fi ∨ la < v6)))) (H : Heap) (locs : List Loc) (ls : Array Slot), PP G (mM G y b f r) H → va_S (fun q => s.heap.size ≤ q) s.heap H locs → lv_has ls 9 [(6, .int v9), (5, .int v6), (4, .int (nI j)), (0, .ref y), (1, .int (nI t)), (2, .int fi), (3, .int la)] → W p l e ({ frames := 0, cells := 0, slots := 0, locals := 0 }) s m ([.ref y, .int (nI t), .int fi, .int la] : List Value).toArray below meth c H locs 0 0 (MQ below (QrI (fun q => ((q = 1 ∧ (okM (r 13) (r 14) fi la t bk)) ∨ (q = 0 ∧ ¬ (okM (r 13) (r 14) fi la t bk)))) (fun q => s.heap.size ≤ q)) ([.ref y, .int (nI t), .int fi, .int la] : List Value).toArray s 0 0 (fun q => s.heap.size ≤ q)) (F0 m 73 ls [.int z26]) := by
              intro z26 gz26 ha H locs ls hP hS hl
              refine lv_istore (lv' := [(7, .int z26), (6, .int v9), (5, .int v6), (4, .int (nI j)), (0, .ref y), (1, .int (nI t)), (2, .int fi), (3, .int la)]) hx hb dX7_isLaid_73 hl (by decide) rfl (fun ls hl => ?_)
              refine lv_iload hx hb dX7_isLaid_75 (lv_at hl 2 rfl) ?_
              refine lv_iload_n hx hb dX7_isLaid_77 rfl (lv_at hl 6 rfl) ?_
              have j104_27 : ∀ (z27 : Int32) (gz27 : z27 = 0 ∨ z27 = 1) (hb9 : ((z27 = 1 ∧ ((v6 ≤ fi ∧ la ≤ v9) ∨ (fi ≤ v6 ∧ v9 ≤ la))) ∨ (z27 = 0 ∧ ¬ ((v6 ≤ fi ∧ la ≤ v9) ∨ (fi ≤ v6 ∧ v9 ≤ la))))) (H : Heap) (locs : List Loc) (ls : Array Slot), PP G (mM G y b f r) H → va_S (fun q => s.heap.size ≤ q) s.heap H locs → lv_has ls 9 [(7, .int z26), (4, .int (nI j)), (0, .ref y), (1, .int (nI t)), (2, .int fi), (3, .int la)] → W p l e ({ frames := 0, cells := 0, slots := 0, locals := 0 }) s m ([.ref y, .int (nI t), .int fi, .int la] : List Value).toArray below meth c H locs 0 0 (MQ below (QrI (fun q => ((q = 1 ∧ (okM (r 13) (r 14) fi la t bk)) ∨ (q = 0 ∧ ¬ (okM (r 13) (r 14) fi la t bk)))) (fun q => s.heap.size ≤ q)) ([.ref y, .int (nI t), .int fi, .int la] : List Value).toArray s 0 0 (fun q => s.heap.size ≤ q)) (F0 m 104 ls [.int z27]) := by
                intro z27 gz27 hb9 H locs ls hP hS hl
                refine lv_istore (lv' := [(8, .int z27), (7, .int z26), (4, .int (nI j)), (0, .ref y), (1, .int (nI t)), (2, .int fi), (3, .int la)]) hx hb dX7_isLaid_104 hl (by decide) rfl (fun ls hl => ?_)
                refine lv_iload hx hb dX7_isLaid_106 (lv_at hl 1 rfl) ?_
                refine lv_if_ne (tgt := 118) hx hb dX7_isLaid_108 (by decide) (fun c28 => ?_) (fun c28 => ?_)
                · have b108 := bT ha c28
                  obtain ⟨v29, ev29⟩ : ∃ y9 : Int32, y9 = (nI j) + Int32.ofInt (1) := ⟨_, rfl⟩
                  refine lv_iinc (v := v29) (lv' := [(4, .int v29), (8, .int z27), (7, .int z26), (0, .ref y), (1, .int (nI t)), (2, .int fi), (3, .int la)]) hx hb dX7_isLaid_118 hl (k := 2) rfl ev29.symm (by decide) rfl (fun ls hl => ?_)
                  obtain rfl : v29 = nI (j + 1) := nI_plus (i := j) (j := 1) ev29 rfl (by decide)
                  refine lv_goto (tgt := 3) hx hb dX7_isLaid_121 (by decide) ?_
                  exact ih3k1 (j + 1) (by omega) (by omega) (okM_s hall ev6 ev9 hne (Or.inl b108)) _ _ _ hP hS (lv_sub hl [0, 3, 4, 5, 6] rfl)
                · have b108 := bF ha c28
                  refine lv_iload hx hb dX7_isLaid_111 (lv_at hl 0 rfl) ?_
                  refine lv_if_ne (tgt := 118) hx hb dX7_isLaid_113 (by decide) (fun c30 => ?_) (fun c30 => ?_)
                  · have b113 := bT hb9 c30
                    obtain ⟨v31, ev31⟩ : ∃ y9 : Int32, y9 = (nI j) + Int32.ofInt (1) := ⟨_, rfl⟩
                    refine lv_iinc (v := v31) (lv' := [(4, .int v31), (8, .int z27), (7, .int z26), (0, .ref y), (1, .int (nI t)), (2, .int fi), (3, .int la)]) hx hb dX7_isLaid_118 hl (k := 2) rfl ev31.symm (by decide) rfl (fun ls hl => ?_)
                    obtain rfl : v31 = nI (j + 1) := nI_plus (i := j) (j := 1) ev31 rfl (by decide)
                    refine lv_goto (tgt := 3) hx hb dX7_isLaid_121 (by decide) ?_
                    exact ih3k1 (j + 1) (by omega) (by omega) (okM_s hall ev6 ev9 hne (Or.inr b113)) _ _ _ hP hS (lv_sub hl [0, 3, 4, 5, 6] rfl)
                  · have b113 := bF hb9 c30
                    refine lv_iconst (v := 0) hx hb dX7_isLaid_116 (by decide) ?_
                    exact rd_zret hx hb hr hlocks (Or.inl rfl) hS (Or.inr ⟨rfl, fun h => (okM_n h b11 ev6 ev9).2.elim b108 b113⟩) dX7_isLaid_117
              refine lv_icmp_gt (tgt := 87) hx hb dX7_isLaid_78 (by decide) (fun c32 => ?_) (fun c32 => ?_)
              · refine lv_iload hx hb dX7_isLaid_87 (lv_at hl 2 rfl) ?_
                refine lv_iload_n hx hb dX7_isLaid_89 rfl (lv_at hl 6 rfl) ?_
                refine lv_icmp_lt (tgt := 103) hx hb dX7_isLaid_90 (by decide) (fun c33 => ?_) (fun c33 => ?_)
                · refine lv_iconst (v := 0) hx hb dX7_isLaid_103 (by decide) ?_
                  exact j104_27 0 (Or.inl rfl) (Or.inr ⟨rfl, fun h => h.elim (fun a9 => Int32.not_lt.mpr a9.1 c32) (fun b9 => Int32.not_lt.mpr b9.1 c33)⟩) _ _ _ hP hS (lv_sub hl [0, 3, 4, 5, 6, 7] rfl)
                · refine lv_iload hx hb dX7_isLaid_93 (lv_at hl 1 rfl) ?_
                  refine lv_iload_n hx hb dX7_isLaid_95 rfl (lv_at hl 7 rfl) ?_
                  refine lv_icmp_gt (tgt := 103) hx hb dX7_isLaid_96 (by decide) (fun c34 => ?_) (fun c34 => ?_)
                  · refine lv_iconst (v := 0) hx hb dX7_isLaid_103 (by decide) ?_
                    exact j104_27 0 (Or.inl rfl) (Or.inr ⟨rfl, fun h => h.elim (fun a9 => Int32.not_lt.mpr a9.1 c32) (fun b9 => Int32.not_lt.mpr b9.2 c34)⟩) _ _ _ hP hS (lv_sub hl [0, 3, 4, 5, 6, 7] rfl)
                  · refine lv_iconst (v := 1) hx hb dX7_isLaid_99 (by decide) ?_
                    refine lv_goto (tgt := 104) hx hb dX7_isLaid_100 (by decide) ?_
                    exact j104_27 1 (Or.inr rfl) (Or.inl ⟨rfl, Or.inr ⟨Int32.not_lt.mp c33, Int32.not_lt.mp c34⟩⟩) _ _ _ hP hS (lv_sub hl [0, 3, 4, 5, 6, 7] rfl)
              · refine lv_iload hx hb dX7_isLaid_81 (lv_at hl 1 rfl) ?_
                refine lv_iload_n hx hb dX7_isLaid_83 rfl (lv_at hl 7 rfl) ?_
                refine lv_icmp_ge (tgt := 99) hx hb dX7_isLaid_84 (by decide) (fun c35 => ?_) (fun c35 => ?_)
                · refine lv_iconst (v := 1) hx hb dX7_isLaid_99 (by decide) ?_
                  refine lv_goto (tgt := 104) hx hb dX7_isLaid_100 (by decide) ?_
                  exact j104_27 1 (Or.inr rfl) (Or.inl ⟨rfl, Or.inl ⟨Int32.not_lt.mp c32, c35⟩⟩) _ _ _ hP hS (lv_sub hl [0, 3, 4, 5, 6, 7] rfl)
                · refine lv_iload hx hb dX7_isLaid_87 (lv_at hl 2 rfl) ?_
                  refine lv_iload_n hx hb dX7_isLaid_89 rfl (lv_at hl 6 rfl) ?_
                  refine lv_icmp_lt (tgt := 103) hx hb dX7_isLaid_90 (by decide) (fun c36 => ?_) (fun c36 => ?_)
                  · refine lv_iconst (v := 0) hx hb dX7_isLaid_103 (by decide) ?_
                    exact j104_27 0 (Or.inl rfl) (Or.inr ⟨rfl, fun h => h.elim (fun a9 => c35 a9.2) (fun b9 => Int32.not_lt.mpr b9.1 c36)⟩) _ _ _ hP hS (lv_sub hl [0, 3, 4, 5, 6, 7] rfl)
                  · refine lv_iload hx hb dX7_isLaid_93 (lv_at hl 1 rfl) ?_
                    refine lv_iload_n hx hb dX7_isLaid_95 rfl (lv_at hl 7 rfl) ?_
                    refine lv_icmp_gt (tgt := 103) hx hb dX7_isLaid_96 (by decide) (fun c37 => ?_) (fun c37 => ?_)
                    · refine lv_iconst (v := 0) hx hb dX7_isLaid_103 (by decide) ?_
                      exact j104_27 0 (Or.inl rfl) (Or.inr ⟨rfl, fun h => h.elim (fun a9 => c35 a9.2) (fun b9 => Int32.not_lt.mpr b9.2 c37)⟩) _ _ _ hP hS (lv_sub hl [0, 3, 4, 5, 6, 7] rfl)
                    · refine lv_iconst (v := 1) hx hb dX7_isLaid_99 (by decide) ?_
                      refine lv_goto (tgt := 104) hx hb dX7_isLaid_100 (by decide) ?_
                      exact j104_27 1 (Or.inr rfl) (Or.inl ⟨rfl, Or.inr ⟨Int32.not_lt.mp c36, Int32.not_lt.mp c37⟩⟩) _ _ _ hP hS (lv_sub hl [0, 3, 4, 5, 6, 7] rfl)
            refine lv_icmp_lt (tgt := 68) hx hb dX7_isLaid_59 (by decide) (fun c38 => ?_) (fun c38 => ?_)
            · refine lv_iconst (v := 1) hx hb dX7_isLaid_68 (by decide) ?_
              refine lv_goto (tgt := 73) hx hb dX7_isLaid_69 (by decide) ?_
              exact j73_26 1 (Or.inr rfl) (Or.inl ⟨rfl, Or.inl c38⟩) _ _ _ hP hS (lv_sub hl [0, 1, 2, 3, 4, 5, 6] rfl)
            · refine lv_iload hx hb dX7_isLaid_62 (lv_at hl 1 rfl) ?_
              refine lv_iload_n hx hb dX7_isLaid_64 rfl (lv_at hl 6 rfl) ?_
              refine lv_icmp_le (tgt := 72) hx hb dX7_isLaid_65 (by decide) (fun c39 => ?_) (fun c39 => ?_)
              · refine lv_iconst (v := 0) hx hb dX7_isLaid_72 (by decide) ?_
                exact j73_26 0 (Or.inl rfl) (Or.inr ⟨rfl, fun h => h.elim c38 (le_n c39)⟩) _ _ _ hP hS (lv_sub hl [0, 1, 2, 3, 4, 5, 6] rfl)
              · refine lv_iconst (v := 1) hx hb dX7_isLaid_68 (by decide) ?_
                refine lv_goto (tgt := 73) hx hb dX7_isLaid_69 (by decide) ?_
                exact j73_26 1 (Or.inr rfl) (Or.inl ⟨rfl, Or.inr (n_le c39)⟩) _ _ _ hP hS (lv_sub hl [0, 1, 2, 3, 4, 5, 6] rfl)
          · refine lv_iconst (v := 0) hx hb dX7_isLaid_54 (by decide) ?_
            exact rd_zret hx hb hr hlocks (Or.inl rfl) hS (Or.inr ⟨rfl, fun h => (okM_n h b11 ev6 ev9).1 ⟨c10, c25⟩⟩) dX7_isLaid_55
  exact loop3 (bk + 1) 0 (by omega) (by omega) (fun k hk => absurd hk (Nat.not_lt_zero k)) _ _ _ hP hS (lv_sub hl [0, 1, 2, 3, 4] rfl)
set_option maxHeartbeats 4000000 in
set_option maxRecDepth 100000 in
theorem m_X7_block (l : Launch) (G : GG) (y : Nat) (b : Nat → Nat) (f : Nat → Int32) (r : Nat → Nat → Int32) (tb : Int32) (fi : Int32) (la : Int32) (hM2 : nOK 6 12 (r 2)) (hM3 : nOK 6 12 (r 3)) (hM12 : nOK 6 12 (r 12)) : WrI l yX7_block cX7_block 6 (some .int) ({ frames := 1, cells := 0, slots := 0, locals := 28 }) G (mM G y b f r) [.ref y, .int tb, .int fi, .int la] (fun q w => ∃ (n_f_0 : Int32) (n_r_12 : Nat → Int32) (n_r_13 : Nat → Int32) (n_r_14 : Nat → Int32), w = mM G y b (upd f 0 n_f_0) (up2 (up2 (up2 r 12 n_r_12) 13 n_r_13) 14 n_r_14) ∧ blM (r 1) (r 2) (r 12) (r 13) (r 14) tb fi la q n_r_12 n_r_13 n_r_14 ∧ (nOK 6 12 n_r_12)) := by
  refine wr_entryI (by decide +kernel) (Nat.le_of_ble_eq_true rfl) ?_
  intro p e s m below meth c A C0 hP hK hD hA ls hl
  have hS : va_S A s.heap s.heap [] := va_S.rf
  obtain ⟨hx, hb, hml, hown, hts, hr, hlocks, hin⟩ := C0
  have hown : s.vm.findClass RX7 = some m.cls := hown
  have hDD : ∀ f' r', va_D A (mM G y b f' r') := fun f' r' => D_same hD rfl
  have hl : lv_has ls 6 [(0, .ref y), (1, .int tb), (2, .int fi), (3, .int la)] := hl
  refine lv_aload_n hx hb dX7_block_0 rfl (lv_at hl 0 rfl) ?_
  refine lv_iload_n hx hb dX7_block_1 rfl (lv_at hl 1 rfl) ?_
  refine rdV (rest := []) (q0 := 0) ⟨hx, hb, hml, hown, hts⟩ (m_X7_isTable l G y b f r tb  ) mi_yX7_isTable mv_yX7_isTable ml_X7_120 ⟨rfl, rfl, Nat.le_of_ble_eq_true rfl, Nat.le_of_ble_eq_true rfl⟩ hK (hP) rfl rfl rfl hl.1 rfl (Nat.le_of_ble_eq_true rfl) dX7_block_2 ⟨Nat.zero_le _, Nat.zero_le _⟩ hS hA hP (fun r1 H locs hr1 hP hS => ?_)
  have hr1 : ((r1 = 1 ∧ (opn (r 1) tb)) ∨ (r1 = 0 ∧ ¬ (opn (r 1) tb))) := hr1
  refine lv_if_ne (tgt := 12) hx hb dX7_block_5 (by decide) (fun c2 => ?_) (fun c2 => ?_)
  · have b5 := bT hr1 c2
    obtain ⟨t, ht, rfl, hop⟩ := b5
    obtain ⟨rw, hrw, h2⟩ := hM2 t ht
    obtain ⟨cl, hcl, h3⟩ := hM3 t ht
    obtain ⟨bk, hbk, h12⟩ := hM12 t ht
    refine lv_aload_n hx hb dX7_block_12 rfl (lv_at hl 0 rfl) ?_
    refine lv_iload_n hx hb dX7_block_13 rfl (lv_at hl 1 rfl) ?_
    refine lv_iload_n hx hb dX7_block_14 rfl (lv_at hl 2 rfl) ?_
    refine rdV (rest := []) (q0 := 0) ⟨hx, hb, hml, hown, hts⟩ (m_X7_isRow l G y b f r t fi  (by omega)) mi_yX7_isRow mv_yX7_isRow ml_X7_124 ⟨rfl, rfl, Nat.le_of_ble_eq_true rfl, Nat.le_of_ble_eq_true rfl⟩ hK (hP) rfl rfl rfl hl.1 rfl (Nat.le_of_ble_eq_true rfl) dX7_block_15 ⟨Nat.zero_le _, Nat.zero_le _⟩ hS hA hP (fun r3 H locs hr3 hP hS => ?_)
    have hr3 : ((r3 = 1 ∧ (inR ((r 2) t) fi)) ∨ (r3 = 0 ∧ ¬ (inR ((r 2) t) fi))) := hr3
    refine lv_if_eq (tgt := 35) hx hb dX7_block_18 (by decide) (fun c4 => ?_) (fun c4 => ?_)
    · have b18 := bF hr3 c4
      refine lv_iconst (v := 2) hx hb dX7_block_35 (by decide) ?_
      refine lv_goto (tgt := 71) hx hb dX7_block_36 (by decide) ?_
      refine lv_istore (lv' := [(4, .int 2), (0, .ref y), (1, .int (nI t)), (2, .int fi), (3, .int la)]) hx hb dX7_block_71 hl (by decide) rfl (fun ls hl => ?_)
      refine lv_aload_n hx hb dX7_block_73 rfl (lv_at hl 1 rfl) ?_
      refine lv_iload hx hb dX7_block_74 (lv_at hl 0 rfl) ?_
      refine va_put (D := G.1) (ci := 7) (v := .int 2) (C := RX7) (T := TX7) (N := 43) hx hb hts inX7 tyX7 tyX7_ok nmX7 hown hK.1 hP (hDD _ _) hS 0 rfl rfl 0 (by decide) (hts _ mf_X7_116) (fun _ h9 => h9) rfl (tyX7_ok 0 (by decide)) (rfl) (rfl) (Nat.le_of_ble_eq_true rfl) dX7_block_76 (fun H locs hP _ hS => ?_)
      have hP : PP G (mM G y b (upd f 0 2) r) H := hP
      refine lv_iload hx hb dX7_block_79 (lv_at hl 0 rfl) ?_
      refine lv_if_le (tgt := 86) hx hb dX7_block_81 (by decide) (fun c5 => absurd c5 (by decide)) (fun c5 => ?_)
      refine lv_iconst (v := -1) hx hb dX7_block_84 (by decide) ?_
      exact wr_iret hx hb hr hlocks hS hP ⟨2, (r 12), (r 13), (r 14), rfl, Or.inr ⟨fun h => (by obtain ⟨t2, n2, g1, g2, g3, g4, g5, g6, g7, g8, g9⟩ := h; have e1 := (nI_eq (by omega) (by omega)).mp g3; subst e1; exact b18 g6), rfl, rfl, rfl, rfl⟩, hM12⟩ dX7_block_85
    · have b18 := bT hr3 c4
      refine lv_aload_n hx hb dX7_block_21 rfl (lv_at hl 0 rfl) ?_
      refine lv_iload_n hx hb dX7_block_22 rfl (lv_at hl 1 rfl) ?_
      refine lv_iload_n hx hb dX7_block_23 rfl (lv_at hl 3 rfl) ?_
      refine rdV (rest := []) (q0 := 0) ⟨hx, hb, hml, hown, hts⟩ (m_X7_isRow l G y b f r t la  (by omega)) mi_yX7_isRow mv_yX7_isRow ml_X7_124 ⟨rfl, rfl, Nat.le_of_ble_eq_true rfl, Nat.le_of_ble_eq_true rfl⟩ hK (hP) rfl rfl rfl hl.1 rfl (Nat.le_of_ble_eq_true rfl) dX7_block_24 ⟨Nat.zero_le _, Nat.zero_le _⟩ hS hA hP (fun r6 H locs hr6 hP hS => ?_)
      have hr6 : ((r6 = 1 ∧ (inR ((r 2) t) la)) ∨ (r6 = 0 ∧ ¬ (inR ((r 2) t) la))) := hr6
      refine lv_if_eq (tgt := 35) hx hb dX7_block_27 (by decide) (fun c7 => ?_) (fun c7 => ?_)
      · have b27 := bF hr6 c7
        refine lv_iconst (v := 2) hx hb dX7_block_35 (by decide) ?_
        refine lv_goto (tgt := 71) hx hb dX7_block_36 (by decide) ?_
        refine lv_istore (lv' := [(4, .int 2), (0, .ref y), (1, .int (nI t)), (2, .int fi), (3, .int la)]) hx hb dX7_block_71 hl (by decide) rfl (fun ls hl => ?_)
        refine lv_aload_n hx hb dX7_block_73 rfl (lv_at hl 1 rfl) ?_
        refine lv_iload hx hb dX7_block_74 (lv_at hl 0 rfl) ?_
        refine va_put (D := G.1) (ci := 7) (v := .int 2) (C := RX7) (T := TX7) (N := 43) hx hb hts inX7 tyX7 tyX7_ok nmX7 hown hK.1 hP (hDD _ _) hS 0 rfl rfl 0 (by decide) (hts _ mf_X7_116) (fun _ h9 => h9) rfl (tyX7_ok 0 (by decide)) (rfl) (rfl) (Nat.le_of_ble_eq_true rfl) dX7_block_76 (fun H locs hP _ hS => ?_)
        have hP : PP G (mM G y b (upd f 0 2) r) H := hP
        refine lv_iload hx hb dX7_block_79 (lv_at hl 0 rfl) ?_
        refine lv_if_le (tgt := 86) hx hb dX7_block_81 (by decide) (fun c8 => absurd c8 (by decide)) (fun c8 => ?_)
        refine lv_iconst (v := -1) hx hb dX7_block_84 (by decide) ?_
        exact wr_iret hx hb hr hlocks hS hP ⟨2, (r 12), (r 13), (r 14), rfl, Or.inr ⟨fun h => (by obtain ⟨t2, n2, g1, g2, g3, g4, g5, g6, g7, g8, g9⟩ := h; have e1 := (nI_eq (by omega) (by omega)).mp g3; subst e1; exact b27 g7), rfl, rfl, rfl, rfl⟩, hM12⟩ dX7_block_85
      · have b27 := bT hr6 c7
        refine lv_iload_n hx hb dX7_block_30 rfl (lv_at hl 3 rfl) ?_
        refine lv_iload_n hx hb dX7_block_31 rfl (lv_at hl 2 rfl) ?_
        refine lv_icmp_ge (tgt := 39) hx hb dX7_block_32 (by decide) (fun c9 => ?_) (fun c9 => ?_)
        · refine lv_aload_n hx hb dX7_block_39 rfl (lv_at hl 0 rfl) ?_
          refine va_get (D := G.1) (ci := 7) (v := .ref (b 12)) (C := RX7) (T := TX7) (N := 43) hx hb hts inX7 hown hK.1 hP 0 rfl rfl 12 (by decide) (hts _ mf_X7_44) (fun _ h9 => h9) rfl dX7_block_40 ?_
          refine lv_iload_n hx hb dX7_block_43 rfl (lv_at hl 1 rfl) ?_
          refine xiald (f := (r 12)) hx hb hK hP 12 (t) (rfl) (by omega) (by decide) rfl dX7_block_44 ?_
          refine lv_topi (fun v10 ev10 => ?_)
          obtain rfl : v10 = nI (bk) := ev10.trans (h12)
          refine lv_bipush (v := 12) hx hb dX7_block_45 (by decide) ?_
          refine lv_icmp_ne (tgt := 55) hx hb dX7_block_47 (by decide) (fun c11 => ?_) (fun c11 => ?_)
          · have b47 := qeq_f (a := (bk)) (b := 12) (by omega) (by omega) c11
            refine lv_aload_n hx hb dX7_block_55 rfl (lv_at hl 0 rfl) ?_
            refine lv_iload_n hx hb dX7_block_56 rfl (lv_at hl 1 rfl) ?_
            refine lv_iload_n hx hb dX7_block_57 rfl (lv_at hl 2 rfl) ?_
            refine lv_iload_n hx hb dX7_block_58 rfl (lv_at hl 3 rfl) ?_
            refine rdV (rest := []) (q0 := 0) ⟨hx, hb, hml, hown, hts⟩ (m_X7_isLaid l G y b f r t fi la rw cl bk (by omega) (by omega) (by omega) (by omega) h2 h3 h12) mi_yX7_isLaid mv_yX7_isLaid ml_X7_151 ⟨rfl, rfl, Nat.le_of_ble_eq_true rfl, Nat.le_of_ble_eq_true rfl⟩ hK (hP) rfl rfl rfl hl.1 rfl (Nat.le_of_ble_eq_true rfl) dX7_block_59 ⟨Nat.zero_le _, Nat.zero_le _⟩ hS hA hP (fun r12 H locs hr12 hP hS => ?_)
            have hr12 : ((r12 = 1 ∧ (okM (r 13) (r 14) fi la t bk)) ∨ (r12 = 0 ∧ ¬ (okM (r 13) (r 14) fi la t bk))) := hr12
            refine lv_if_ne (tgt := 70) hx hb dX7_block_62 (by decide) (fun c13 => ?_) (fun c13 => ?_)
            · have b62 := bT hr12 c13
              refine lv_iconst (v := 0) hx hb dX7_block_70 (by decide) ?_
              refine lv_istore (lv' := [(4, .int 0), (0, .ref y), (1, .int (nI t)), (2, .int fi), (3, .int la)]) hx hb dX7_block_71 hl (by decide) rfl (fun ls hl => ?_)
              refine lv_aload_n hx hb dX7_block_73 rfl (lv_at hl 1 rfl) ?_
              refine lv_iload hx hb dX7_block_74 (lv_at hl 0 rfl) ?_
              refine va_put (D := G.1) (ci := 7) (v := .int 0) (C := RX7) (T := TX7) (N := 43) hx hb hts inX7 tyX7 tyX7_ok nmX7 hown hK.1 hP (hDD _ _) hS 0 rfl rfl 0 (by decide) (hts _ mf_X7_116) (fun _ h9 => h9) rfl (tyX7_ok 0 (by decide)) (rfl) (rfl) (Nat.le_of_ble_eq_true rfl) dX7_block_76 (fun H locs hP _ hS => ?_)
              have hP : PP G (mM G y b (upd f 0 0) r) H := hP
              refine lv_iload hx hb dX7_block_79 (lv_at hl 0 rfl) ?_
              refine lv_if_le (tgt := 86) hx hb dX7_block_81 (by decide) (fun c14 => ?_) (fun c14 => absurd (by decide) c14)
              refine lv_bipush (v := 12) hx hb dX7_block_86 (by decide) ?_
              refine lv_iload_n hx hb dX7_block_88 rfl (lv_at hl 2 rfl) ?_
              refine lv_imul hx hb dX7_block_89 ?_
              refine lv_topi (fun v15 ev15 => ?_)
              obtain rfl : v15 = nI (12 * t) := nI_times ev15 rfl rfl
              refine lv_aload_n hx hb dX7_block_90 rfl (lv_at hl 1 rfl) ?_
              refine va_get (D := G.1) (ci := 7) (v := .ref (b 12)) (C := RX7) (T := TX7) (N := 43) hx hb hts inX7 hown hK.1 hP 0 rfl rfl 12 (by decide) (hts _ mf_X7_44) (fun _ h9 => h9) rfl dX7_block_91 ?_
              refine lv_iload_n hx hb dX7_block_94 rfl (lv_at hl 2 rfl) ?_
              refine xiald (f := (r 12)) hx hb hK hP 12 (t) (rfl) (by omega) (by decide) rfl dX7_block_95 ?_
              refine lv_topi (fun v16 ev16 => ?_)
              obtain rfl : v16 = nI (bk) := ev16.trans (h12)
              refine lv_iadd hx hb dX7_block_96 ?_
              refine lv_topi (fun v17 ev17 => ?_)
              obtain rfl : v17 = nI ((12 * t) + (bk)) := nI_plus ev17 rfl rfl
              refine lv_istore (lv' := [(5, .int (nI ((12 * t) + (bk)))), (4, .int 0), (0, .ref y), (1, .int (nI t)), (2, .int fi), (3, .int la)]) hx hb dX7_block_97 hl (by decide) rfl (fun ls hl => ?_)
              refine lv_aload_n hx hb dX7_block_99 rfl (lv_at hl 2 rfl) ?_
              refine va_get (D := G.1) (ci := 7) (v := .ref (b 13)) (C := RX7) (T := TX7) (N := 43) hx hb hts inX7 hown hK.1 hP 0 rfl rfl 13 (by decide) (hts _ mf_X7_47) (fun _ h9 => h9) rfl dX7_block_100 ?_
              refine lv_iload hx hb dX7_block_103 (lv_at hl 0 rfl) ?_
              refine lv_iload_n hx hb dX7_block_105 rfl (lv_at hl 4 rfl) ?_
              refine xiast (f := (r 13)) (x := fi) hx hb hK hP (hDD _ _) hS 13 (((12 * t) + (bk))) (rfl) (by omega) (by decide) rfl dX7_block_106 (fun H locs hP _ hS => ?_)
              have hP : PP G (mM G y b (upd f 0 0) (up2 r 13 (upd (r 13) (((12 * t) + (bk))) (fi)))) H := hP
              refine lv_aload_n hx hb dX7_block_107 rfl (lv_at hl 2 rfl) ?_
              refine va_get (D := G.1) (ci := 7) (v := .ref (b 14)) (C := RX7) (T := TX7) (N := 43) hx hb hts inX7 hown hK.1 hP 0 rfl rfl 14 (by decide) (hts _ mf_X7_50) (fun _ h9 => h9) rfl dX7_block_108 ?_
              refine lv_iload hx hb dX7_block_111 (lv_at hl 0 rfl) ?_
              refine lv_iload_n hx hb dX7_block_113 rfl (lv_at hl 5 rfl) ?_
              refine xiast (f := (r 14)) (x := la) hx hb hK hP (hDD _ _) hS 14 (((12 * t) + (bk))) (rfl) (by omega) (by decide) rfl dX7_block_114 (fun H locs hP _ hS => ?_)
              have hP : PP G (mM G y b (upd f 0 0) (up2 (up2 r 13 (upd (r 13) (((12 * t) + (bk))) (fi))) 14 (upd (r 14) (((12 * t) + (bk))) (la)))) H := hP
              refine lv_aload_n hx hb dX7_block_115 rfl (lv_at hl 2 rfl) ?_
              refine va_get (D := G.1) (ci := 7) (v := .ref (b 12)) (C := RX7) (T := TX7) (N := 43) hx hb hts inX7 hown hK.1 hP 0 rfl rfl 12 (by decide) (hts _ mf_X7_44) (fun _ h9 => h9) rfl dX7_block_116 ?_
              refine lv_iload_n hx hb dX7_block_119 rfl (lv_at hl 3 rfl) ?_
              refine lv_dup2_11 hx hb dX7_block_120 rfl rfl ?_
              refine xiald (f := (r 12)) hx hb hK hP 12 (t) (rfl) (by omega) (by decide) rfl dX7_block_121 ?_
              refine lv_topi (fun v18 ev18 => ?_)
              obtain rfl : v18 = nI (bk) := ev18.trans (h12)
              refine lv_iconst (v := 1) hx hb dX7_block_122 (by decide) ?_
              refine lv_iadd hx hb dX7_block_123 ?_
              refine lv_topi (fun v19 ev19 => ?_)
              obtain rfl : v19 = nI ((bk) + 1) := nI_plus ev19 rfl rfl
              refine xiast (f := (r 12)) (x := (nI ((bk) + 1))) hx hb hK hP (hDD _ _) hS 12 (t) (rfl) (by omega) (by decide) rfl dX7_block_124 (fun H locs hP _ hS => ?_)
              have hP : PP G (mM G y b (upd f 0 0) (up2 (up2 (up2 r 12 (upd (r 12) (t) ((nI ((bk) + 1))))) 13 (upd (r 13) (((12 * t) + (bk))) (fi))) 14 (upd (r 14) (((12 * t) + (bk))) (la)))) H := hP
              have hM12 : nOK 6 12 (upd (r 12) (t) ((nI ((bk) + 1)))) := nOK_u hM12 (by omega)
              refine lv_aload_n hx hb dX7_block_125 rfl (lv_at hl 2 rfl) ?_
              refine va_get (D := G.1) (ci := 7) (v := .ref (b 12)) (C := RX7) (T := TX7) (N := 43) hx hb hts inX7 hown hK.1 hP 0 rfl rfl 12 (by decide) (hts _ mf_X7_44) (fun _ h9 => h9) rfl dX7_block_126 ?_
              refine lv_iload_n hx hb dX7_block_129 rfl (lv_at hl 3 rfl) ?_
              refine xiald (f := (upd (r 12) (t) ((nI ((bk) + 1))))) hx hb hK hP 12 (t) (rfl) (by omega) (by decide) rfl dX7_block_130 ?_
              refine lv_topi (fun v20 ev20 => ?_)
              exact wr_iret hx hb hr hlocks hS hP ⟨0, (upd (r 12) (t) ((nI ((bk) + 1)))), (upd (r 13) (((12 * t) + (bk))) (fi)), (upd (r 14) (((12 * t) + (bk))) (la)), rfl, Or.inl ⟨t, bk, ⟨ht, by omega, rfl, hop, h12, b18, b27, le_n c9, b62⟩, ev20.trans pk_us, rfl, rfl, rfl⟩, hM12⟩ dX7_block_131
            · have b62 := bF hr12 c13
              refine lv_bipush (v := 9) hx hb dX7_block_65 (by decide) ?_
              refine lv_goto (tgt := 71) hx hb dX7_block_67 (by decide) ?_
              refine lv_istore (lv' := [(4, .int 9), (0, .ref y), (1, .int (nI t)), (2, .int fi), (3, .int la)]) hx hb dX7_block_71 hl (by decide) rfl (fun ls hl => ?_)
              refine lv_aload_n hx hb dX7_block_73 rfl (lv_at hl 1 rfl) ?_
              refine lv_iload hx hb dX7_block_74 (lv_at hl 0 rfl) ?_
              refine va_put (D := G.1) (ci := 7) (v := .int 9) (C := RX7) (T := TX7) (N := 43) hx hb hts inX7 tyX7 tyX7_ok nmX7 hown hK.1 hP (hDD _ _) hS 0 rfl rfl 0 (by decide) (hts _ mf_X7_116) (fun _ h9 => h9) rfl (tyX7_ok 0 (by decide)) (rfl) (rfl) (Nat.le_of_ble_eq_true rfl) dX7_block_76 (fun H locs hP _ hS => ?_)
              have hP : PP G (mM G y b (upd f 0 9) r) H := hP
              refine lv_iload hx hb dX7_block_79 (lv_at hl 0 rfl) ?_
              refine lv_if_le (tgt := 86) hx hb dX7_block_81 (by decide) (fun c21 => absurd c21 (by decide)) (fun c21 => ?_)
              refine lv_iconst (v := -1) hx hb dX7_block_84 (by decide) ?_
              exact wr_iret hx hb hr hlocks hS hP ⟨9, (r 12), (r 13), (r 14), rfl, Or.inr ⟨fun h => (by obtain ⟨t2, n2, g1, g2, g3, g4, g5, g6, g7, g8, g9⟩ := h; have e1 := (nI_eq (by omega) (by omega)).mp g3; subst e1; have e2 := (nI_eq (by omega) (by omega)).mp (g5.symm.trans h12); rw [e2] at g9; exact b62 g9), rfl, rfl, rfl, rfl⟩, hM12⟩ dX7_block_85
          · have b47 := qeq_t (a := (bk)) (b := 12) (by omega) (by omega) c11
            refine lv_bipush (v := 8) hx hb dX7_block_50 (by decide) ?_
            refine lv_goto (tgt := 71) hx hb dX7_block_52 (by decide) ?_
            refine lv_istore (lv' := [(4, .int 8), (0, .ref y), (1, .int (nI t)), (2, .int fi), (3, .int la)]) hx hb dX7_block_71 hl (by decide) rfl (fun ls hl => ?_)
            refine lv_aload_n hx hb dX7_block_73 rfl (lv_at hl 1 rfl) ?_
            refine lv_iload hx hb dX7_block_74 (lv_at hl 0 rfl) ?_
            refine va_put (D := G.1) (ci := 7) (v := .int 8) (C := RX7) (T := TX7) (N := 43) hx hb hts inX7 tyX7 tyX7_ok nmX7 hown hK.1 hP (hDD _ _) hS 0 rfl rfl 0 (by decide) (hts _ mf_X7_116) (fun _ h9 => h9) rfl (tyX7_ok 0 (by decide)) (rfl) (rfl) (Nat.le_of_ble_eq_true rfl) dX7_block_76 (fun H locs hP _ hS => ?_)
            have hP : PP G (mM G y b (upd f 0 8) r) H := hP
            refine lv_iload hx hb dX7_block_79 (lv_at hl 0 rfl) ?_
            refine lv_if_le (tgt := 86) hx hb dX7_block_81 (by decide) (fun c22 => absurd c22 (by decide)) (fun c22 => ?_)
            refine lv_iconst (v := -1) hx hb dX7_block_84 (by decide) ?_
            exact wr_iret hx hb hr hlocks hS hP ⟨8, (r 12), (r 13), (r 14), rfl, Or.inr ⟨fun h => (by obtain ⟨t2, n2, g1, g2, g3, g4, g5, g6, g7, g8, g9⟩ := h; have e1 := (nI_eq (by omega) (by omega)).mp g3; subst e1; have e2 := (nI_eq (by omega) (by omega)).mp (g5.symm.trans h12); omega), rfl, rfl, rfl, rfl⟩, hM12⟩ dX7_block_85
        · refine lv_iconst (v := 2) hx hb dX7_block_35 (by decide) ?_
          refine lv_goto (tgt := 71) hx hb dX7_block_36 (by decide) ?_
          refine lv_istore (lv' := [(4, .int 2), (0, .ref y), (1, .int (nI t)), (2, .int fi), (3, .int la)]) hx hb dX7_block_71 hl (by decide) rfl (fun ls hl => ?_)
          refine lv_aload_n hx hb dX7_block_73 rfl (lv_at hl 1 rfl) ?_
          refine lv_iload hx hb dX7_block_74 (lv_at hl 0 rfl) ?_
          refine va_put (D := G.1) (ci := 7) (v := .int 2) (C := RX7) (T := TX7) (N := 43) hx hb hts inX7 tyX7 tyX7_ok nmX7 hown hK.1 hP (hDD _ _) hS 0 rfl rfl 0 (by decide) (hts _ mf_X7_116) (fun _ h9 => h9) rfl (tyX7_ok 0 (by decide)) (rfl) (rfl) (Nat.le_of_ble_eq_true rfl) dX7_block_76 (fun H locs hP _ hS => ?_)
          have hP : PP G (mM G y b (upd f 0 2) r) H := hP
          refine lv_iload hx hb dX7_block_79 (lv_at hl 0 rfl) ?_
          refine lv_if_le (tgt := 86) hx hb dX7_block_81 (by decide) (fun c23 => absurd c23 (by decide)) (fun c23 => ?_)
          refine lv_iconst (v := -1) hx hb dX7_block_84 (by decide) ?_
          exact wr_iret hx hb hr hlocks hS hP ⟨2, (r 12), (r 13), (r 14), rfl, Or.inr ⟨fun h => (by obtain ⟨t2, n2, g1, g2, g3, g4, g5, g6, g7, g8, g9⟩ := h; have e1 := (nI_eq (by omega) (by omega)).mp g3; subst e1; exact g8 (n_le c9)), rfl, rfl, rfl, rfl⟩, hM12⟩ dX7_block_85
  · have b5 := bF hr1 c2
    refine lv_iconst (v := 1) hx hb dX7_block_8 (by decide) ?_
    refine lv_goto (tgt := 71) hx hb dX7_block_9 (by decide) ?_
    refine lv_istore (lv' := [(4, .int 1), (0, .ref y), (1, .int tb), (2, .int fi), (3, .int la)]) hx hb dX7_block_71 hl (by decide) rfl (fun ls hl => ?_)
    refine lv_aload_n hx hb dX7_block_73 rfl (lv_at hl 1 rfl) ?_
    refine lv_iload hx hb dX7_block_74 (lv_at hl 0 rfl) ?_
    refine va_put (D := G.1) (ci := 7) (v := .int 1) (C := RX7) (T := TX7) (N := 43) hx hb hts inX7 tyX7 tyX7_ok nmX7 hown hK.1 hP (hDD _ _) hS 0 rfl rfl 0 (by decide) (hts _ mf_X7_116) (fun _ h9 => h9) rfl (tyX7_ok 0 (by decide)) (rfl) (rfl) (Nat.le_of_ble_eq_true rfl) dX7_block_76 (fun H locs hP _ hS => ?_)
    have hP : PP G (mM G y b (upd f 0 1) r) H := hP
    refine lv_iload hx hb dX7_block_79 (lv_at hl 0 rfl) ?_
    refine lv_if_le (tgt := 86) hx hb dX7_block_81 (by decide) (fun c24 => absurd c24 (by decide)) (fun c24 => ?_)
    refine lv_iconst (v := -1) hx hb dX7_block_84 (by decide) ?_
    exact wr_iret hx hb hr hlocks hS hP ⟨1, (r 12), (r 13), (r 14), rfl, Or.inr ⟨fun h => (by obtain ⟨t2, n2, g1, g2, g3, g4, _⟩ := h; exact b5 ⟨t2, g1, g3, g4⟩), rfl, rfl, rfl, rfl⟩, hM12⟩ dX7_block_85
def clM (bf bl : Nat → Int32) (t : Nat) (row : Int32) : Nat → Int32 × Int32
  | 0 => (-1, 13)
  | k + 1 => if bf (12 * t + k) ≤ row ∧ row ≤ bl (12 * t + k) ∧ bl (12 * t + k) - bf (12 * t + k) < (clM bf bl t row k).2 then (nI k, bl (12 * t + k) - bf (12 * t + k)) else clM bf bl t row k
theorem clM_p {bf bl : Nat → Int32} {t k : Nat} {row : Int32} (h : bf (12 * t + k) ≤ row ∧ row ≤ bl (12 * t + k) ∧ bl (12 * t + k) - bf (12 * t + k) < (clM bf bl t row k).2) : clM bf bl t row (k + 1) = (nI k, bl (12 * t + k) - bf (12 * t + k)) := if_pos h
theorem clM_n {bf bl : Nat → Int32} {t k : Nat} {row : Int32} (h : ¬ (bf (12 * t + k) ≤ row ∧ row ≤ bl (12 * t + k) ∧ bl (12 * t + k) - bf (12 * t + k) < (clM bf bl t row k).2)) : clM bf bl t row (k + 1) = clM bf bl t row k := if_neg h
set_option maxHeartbeats 4000000 in
set_option maxRecDepth 100000 in
theorem m_X7_classOf (l : Launch) (G : GG) (y : Nat) (b : Nat → Nat) (f : Nat → Int32) (r : Nat → Nat → Int32) (t : Nat) (rr : Int32) (rw : Nat) (cl : Nat) (bk : Nat) (ht : t < 6) (hrw : rw ≤ 12) (hcl : cl ≤ 12) (hbk : bk ≤ 12) (h2 : (r 2) t = nI rw) (h3 : (r 3) t = nI cl) (h12 : (r 12) t = nI bk) : RdI l yX7_classOf cX7_classOf 8 (some .int) ({ frames := 0, cells := 0, slots := 0, locals := 0 }) G (mM G y b f r) [.ref y, .int (nI t), .int rr] (fun q => q = (clM (r 13) (r 14) t rr ((r 12) t).toNatClampNeg).1) := by
  refine rd_entry (by decide +kernel) (Nat.le_of_ble_eq_true rfl) ?_
  intro p e s m below meth c C0 hP hK ls hl
  have hS : va_S (fun q => s.heap.size ≤ q) s.heap s.heap [] := va_S.rf
  have hA : ∀ q, s.heap.size ≤ q → (fun q => s.heap.size ≤ q) q := fun _ h => h
  obtain ⟨hx, hb, hml, hown, hts, hr, hlocks, hin⟩ := C0
  have hown : s.vm.findClass RX7 = some m.cls := hown
  have hl : lv_has ls 8 [(0, .ref y), (1, .int (nI t)), (2, .int rr)] := hl
  refine lv_iconst (v := -1) hx hb dX7_classOf_0 (by decide) ?_
  refine lv_istore_n (lv' := [(3, .int (-1)), (0, .ref y), (1, .int (nI t)), (2, .int rr)]) hx hb dX7_classOf_1 rfl hl (by decide) rfl (fun ls hl => ?_)
  refine lv_bipush (v := 13) hx hb dX7_classOf_2 (by decide) ?_
  refine lv_istore (lv' := [(4, .int 13), (3, .int (-1)), (0, .ref y), (1, .int (nI t)), (2, .int rr)]) hx hb dX7_classOf_4 hl (by decide) rfl (fun ls hl => ?_)
  refine lv_iconst (v := 0) hx hb dX7_classOf_6 (by decide) ?_
  refine lv_istore (lv' := [(5, .int 0), (4, .int 13), (3, .int (-1)), (0, .ref y), (1, .int (nI t)), (2, .int rr)]) hx hb dX7_classOf_7 hl (by decide) rfl (fun ls hl => ?_)
  have loop9 : ∀ (k1 j : Nat) (z2 : Int32) (z3 : Int32), j ≤ bk → bk < j + k1 → (z3 = (clM (r 13) (r 14) t rr j).1) → (z2 = (clM (r 13) (r 14) t rr j).2) → ∀ (H : Heap) (locs : List Loc) (ls : Array Slot), PP G (mM G y b f r) H → va_S (fun q => s.heap.size ≤ q) s.heap H locs → lv_has ls 8 [(5, .int (nI j)), (4, .int z2), (3, .int z3), (0, .ref y), (1, .int (nI t)), (2, .int rr)] → W p l e ({ frames := 0, cells := 0, slots := 0, locals := 0 }) s m ([.ref y, .int (nI t), .int rr] : List Value).toArray below meth c H locs 0 0 (MQ below (QrI (fun q => q = (clM (r 13) (r 14) t rr ((r 12) t).toNatClampNeg).1) (fun q => s.heap.size ≤ q)) ([.ref y, .int (nI t), .int rr] : List Value).toArray s 0 0 (fun q => s.heap.size ≤ q)) (F0 m 9 ls []) := by
    intro k1
    induction k1 with
    | zero => intro j z2 z3 h1 h2; exact absurd h1 (by omega)
    | succ k1 ih9k1 =>
      intro j z2 z3 hi_j hk_j hc3 hc4 H locs ls hP hS hl
      refine lv_iload hx hb dX7_classOf_9 (lv_at hl 0 rfl) ?_
      refine lv_aload_n hx hb dX7_classOf_11 rfl (lv_at hl 3 rfl) ?_
      refine va_get (D := G.1) (ci := 7) (v := .ref (b 12)) (C := RX7) (T := TX7) (N := 43) hx hb hts inX7 hown hK.1 hP 0 rfl rfl 12 (by decide) (hts _ mf_X7_44) (fun _ h9 => h9) rfl dX7_classOf_12 ?_
      refine lv_iload_n hx hb dX7_classOf_15 rfl (lv_at hl 4 rfl) ?_
      refine xiald (f := (r 12)) hx hb hK hP 12 (t) (rfl) (by omega) (by decide) rfl dX7_classOf_16 ?_
      refine lv_topi (fun v4 ev4 => ?_)
      obtain rfl : v4 = nI (bk) := ev4.trans (h12)
      refine lv_icmp_ge (tgt := 89) hx hb dX7_classOf_17 (by decide) (fun c5 => ?_) (fun c5 => ?_)
      · have b17 := qge_t (a := j) (b := (bk)) (by omega) (by omega) c5
        refine lv_iload_n hx hb dX7_classOf_89 rfl (lv_at hl 2 rfl) ?_
        exact rd_iret hx hb hr hlocks hS ((by rw [hc3, h12, nI_clamp (by omega), show j = bk by omega])) dX7_classOf_90
      · have b17 := qge_f (a := j) (b := (bk)) (by omega) (by omega) c5
        refine lv_aload_n hx hb dX7_classOf_20 rfl (lv_at hl 3 rfl) ?_
        refine va_get (D := G.1) (ci := 7) (v := .ref (b 13)) (C := RX7) (T := TX7) (N := 43) hx hb hts inX7 hown hK.1 hP 0 rfl rfl 13 (by decide) (hts _ mf_X7_47) (fun _ h9 => h9) rfl dX7_classOf_21 ?_
        refine lv_bipush (v := 12) hx hb dX7_classOf_24 (by decide) ?_
        refine lv_iload_n hx hb dX7_classOf_26 rfl (lv_at hl 4 rfl) ?_
        refine lv_imul hx hb dX7_classOf_27 ?_
        refine lv_topi (fun v6 ev6 => ?_)
        obtain rfl : v6 = nI (12 * t) := nI_times ev6 rfl rfl
        refine lv_iload hx hb dX7_classOf_28 (lv_at hl 0 rfl) ?_
        refine lv_iadd hx hb dX7_classOf_30 ?_
        refine lv_topi (fun v7 ev7 => ?_)
        obtain rfl : v7 = nI ((12 * t) + j) := nI_plus ev7 rfl rfl
        refine xiald (f := (r 13)) hx hb hK hP 13 (((12 * t) + j)) (rfl) (by omega) (by decide) rfl dX7_classOf_31 ?_
        refine lv_topi (fun v8 ev8 => ?_)
        refine lv_istore (lv' := [(6, .int v8), (5, .int (nI j)), (4, .int z2), (3, .int z3), (0, .ref y), (1, .int (nI t)), (2, .int rr)]) hx hb dX7_classOf_32 hl (by decide) rfl (fun ls hl => ?_)
        refine lv_aload_n hx hb dX7_classOf_34 rfl (lv_at hl 4 rfl) ?_
        refine va_get (D := G.1) (ci := 7) (v := .ref (b 14)) (C := RX7) (T := TX7) (N := 43) hx hb hts inX7 hown hK.1 hP 0 rfl rfl 14 (by decide) (hts _ mf_X7_50) (fun _ h9 => h9) rfl dX7_classOf_35 ?_
        refine lv_bipush (v := 12) hx hb dX7_classOf_38 (by decide) ?_
        refine lv_iload_n hx hb dX7_classOf_40 rfl (lv_at hl 5 rfl) ?_
        refine lv_imul hx hb dX7_classOf_41 ?_
        refine lv_topi (fun v9 ev9 => ?_)
        obtain rfl : v9 = nI (12 * t) := nI_times ev9 rfl rfl
        refine lv_iload hx hb dX7_classOf_42 (lv_at hl 1 rfl) ?_
        refine lv_iadd hx hb dX7_classOf_44 ?_
        refine lv_topi (fun v10 ev10 => ?_)
        obtain rfl : v10 = nI ((12 * t) + j) := nI_plus ev10 rfl rfl
        refine xiald (f := (r 14)) hx hb hK hP 14 (((12 * t) + j)) (rfl) (by omega) (by decide) rfl dX7_classOf_45 ?_
        refine lv_topi (fun v11 ev11 => ?_)
        refine lv_istore (lv' := [(7, .int v11), (6, .int v8), (5, .int (nI j)), (4, .int z2), (3, .int z3), (0, .ref y), (1, .int (nI t)), (2, .int rr)]) hx hb dX7_classOf_46 hl (by decide) rfl (fun ls hl => ?_)
        refine lv_iload hx hb dX7_classOf_48 (lv_at hl 1 rfl) ?_
        refine lv_iload_n hx hb dX7_classOf_50 rfl (lv_at hl 7 rfl) ?_
        refine lv_icmp_gt (tgt := 83) hx hb dX7_classOf_51 (by decide) (fun c12 => ?_) (fun c12 => ?_)
        · obtain ⟨v13, ev13⟩ : ∃ y9 : Int32, y9 = (nI j) + Int32.ofInt (1) := ⟨_, rfl⟩
          refine lv_iinc (v := v13) (lv' := [(5, .int v13), (7, .int v11), (6, .int v8), (4, .int z2), (3, .int z3), (0, .ref y), (1, .int (nI t)), (2, .int rr)]) hx hb dX7_classOf_83 hl (k := 2) rfl ev13.symm (by decide) rfl (fun ls hl => ?_)
          obtain rfl : v13 = nI (j + 1) := nI_plus (i := j) (j := 1) ev13 rfl (by decide)
          refine lv_goto (tgt := 9) hx hb dX7_classOf_86 (by decide) ?_
          exact ih9k1 (j + 1) z2 z3 (by omega) (by omega) (hc3.trans (congrArg Prod.fst (clM_n (fun h9 => Int32.not_lt.mpr h9.1 (by rw [← ev8]; exact c12)))).symm) (hc4.trans (congrArg Prod.snd (clM_n (fun h9 => Int32.not_lt.mpr h9.1 (by rw [← ev8]; exact c12)))).symm) _ _ _ hP hS (lv_sub hl [0, 3, 4, 5, 6, 7] rfl)
        · refine lv_iload hx hb dX7_classOf_54 (lv_at hl 0 rfl) ?_
          refine lv_iload_n hx hb dX7_classOf_56 rfl (lv_at hl 7 rfl) ?_
          refine lv_icmp_lt (tgt := 83) hx hb dX7_classOf_57 (by decide) (fun c14 => ?_) (fun c14 => ?_)
          · obtain ⟨v15, ev15⟩ : ∃ y9 : Int32, y9 = (nI j) + Int32.ofInt (1) := ⟨_, rfl⟩
            refine lv_iinc (v := v15) (lv' := [(5, .int v15), (7, .int v11), (6, .int v8), (4, .int z2), (3, .int z3), (0, .ref y), (1, .int (nI t)), (2, .int rr)]) hx hb dX7_classOf_83 hl (k := 2) rfl ev15.symm (by decide) rfl (fun ls hl => ?_)
            obtain rfl : v15 = nI (j + 1) := nI_plus (i := j) (j := 1) ev15 rfl (by decide)
            refine lv_goto (tgt := 9) hx hb dX7_classOf_86 (by decide) ?_
            exact ih9k1 (j + 1) z2 z3 (by omega) (by omega) (hc3.trans (congrArg Prod.fst (clM_n (fun h9 => Int32.not_lt.mpr h9.2.1 (by rw [← ev11]; exact c14)))).symm) (hc4.trans (congrArg Prod.snd (clM_n (fun h9 => Int32.not_lt.mpr h9.2.1 (by rw [← ev11]; exact c14)))).symm) _ _ _ hP hS (lv_sub hl [0, 3, 4, 5, 6, 7] rfl)
          · refine lv_iload hx hb dX7_classOf_60 (lv_at hl 0 rfl) ?_
            refine lv_iload hx hb dX7_classOf_62 (lv_at hl 1 rfl) ?_
            refine lv_isub hx hb dX7_classOf_64 ?_
            refine lv_topi (fun v16 ev16 => ?_)
            refine lv_iload hx hb dX7_classOf_65 (lv_at hl 3 rfl) ?_
            refine lv_icmp_lt (tgt := 73) hx hb dX7_classOf_67 (by decide) (fun c17 => ?_) (fun c17 => ?_)
            · refine lv_iload hx hb dX7_classOf_73 (lv_at hl 2 rfl) ?_
              refine lv_istore_n (lv' := [(3, .int (nI j)), (7, .int v11), (6, .int v8), (5, .int (nI j)), (4, .int z2), (0, .ref y), (1, .int (nI t)), (2, .int rr)]) hx hb dX7_classOf_75 rfl hl (by decide) rfl (fun ls hl => ?_)
              refine lv_iload hx hb dX7_classOf_76 (lv_at hl 1 rfl) ?_
              refine lv_iload hx hb dX7_classOf_78 (lv_at hl 2 rfl) ?_
              refine lv_isub hx hb dX7_classOf_80 ?_
              refine lv_topi (fun v18 ev18 => ?_)
              refine lv_istore (lv' := [(4, .int v18), (3, .int (nI j)), (7, .int v11), (6, .int v8), (5, .int (nI j)), (0, .ref y), (1, .int (nI t)), (2, .int rr)]) hx hb dX7_classOf_81 hl (by decide) rfl (fun ls hl => ?_)
              obtain ⟨v19, ev19⟩ : ∃ y9 : Int32, y9 = (nI j) + Int32.ofInt (1) := ⟨_, rfl⟩
              refine lv_iinc (v := v19) (lv' := [(5, .int v19), (4, .int v18), (3, .int (nI j)), (7, .int v11), (6, .int v8), (0, .ref y), (1, .int (nI t)), (2, .int rr)]) hx hb dX7_classOf_83 hl (k := 4) rfl ev19.symm (by decide) rfl (fun ls hl => ?_)
              obtain rfl : v19 = nI (j + 1) := nI_plus (i := j) (j := 1) ev19 rfl (by decide)
              refine lv_goto (tgt := 9) hx hb dX7_classOf_86 (by decide) ?_
              exact ih9k1 (j + 1) v18 (nI j) (by omega) (by omega) ((congrArg Prod.fst (clM_p ⟨by rw [← ev8]; exact Int32.not_lt.mp c12, by rw [← ev11]; exact Int32.not_lt.mp c14, by rw [← ev8, ← ev11, ← ev16, ← hc4]; exact c17⟩)).symm) (by rw [congrArg Prod.snd (clM_p ⟨by rw [← ev8]; exact Int32.not_lt.mp c12, by rw [← ev11]; exact Int32.not_lt.mp c14, by rw [← ev8, ← ev11, ← ev16, ← hc4]; exact c17⟩), ev18, ev11, ev8]) _ _ _ hP hS (lv_sub hl [0, 1, 2, 5, 6, 7] rfl)
            · refine lv_goto (tgt := 83) hx hb dX7_classOf_70 (by decide) ?_
              obtain ⟨v20, ev20⟩ : ∃ y9 : Int32, y9 = (nI j) + Int32.ofInt (1) := ⟨_, rfl⟩
              refine lv_iinc (v := v20) (lv' := [(5, .int v20), (7, .int v11), (6, .int v8), (4, .int z2), (3, .int z3), (0, .ref y), (1, .int (nI t)), (2, .int rr)]) hx hb dX7_classOf_83 hl (k := 2) rfl ev20.symm (by decide) rfl (fun ls hl => ?_)
              obtain rfl : v20 = nI (j + 1) := nI_plus (i := j) (j := 1) ev20 rfl (by decide)
              refine lv_goto (tgt := 9) hx hb dX7_classOf_86 (by decide) ?_
              exact ih9k1 (j + 1) z2 z3 (by omega) (by omega) (hc3.trans (congrArg Prod.fst (clM_n (fun h9 => c17 (by rw [ev16, ev11, ev8, hc4]; exact h9.2.2)))).symm) (hc4.trans (congrArg Prod.snd (clM_n (fun h9 => c17 (by rw [ev16, ev11, ev8, hc4]; exact h9.2.2)))).symm) _ _ _ hP hS (lv_sub hl [0, 3, 4, 5, 6, 7] rfl)
  exact loop9 (bk + 1) 0 13 (-1) (by omega) (by omega) (rfl) (rfl) _ _ _ hP hS (lv_sub hl [0, 1, 2, 3, 4, 5] rfl)
