theorem mf_X7_233 : Cond.fieldLink RX7 233 "CellKeeperModel" "witnessRows" "I" ∈ TB := TB_t4 127 rfl rfl
theorem mf_X7_236 : Cond.fieldLink RX7 236 "CellKeeperModel" "witnessColumns" "I" ∈ TB := TB_t4 128 rfl rfl
theorem mf_X7_74 : Cond.fieldLink RX7 74 "CellKeeperModel" "witnessed" "[I" ∈ TB := TB_t4 124 rfl rfl
theorem mf_X7_77 : Cond.fieldLink RX7 77 "CellKeeperModel" "witnessGroup" "[I" ∈ TB := TB_t4 125 rfl rfl
theorem mf_X7_80 : Cond.fieldLink RX7 80 "CellKeeperModel" "cutNode" "[Z" ∈ TB := TB_t4 126 rfl rfl
theorem mf_X7_265 : Cond.fieldLink RX7 265 "CellKeeperModel" "roundedRows" "I" ∈ TB := TB_t4 134 rfl rfl
theorem mf_X7_268 : Cond.fieldLink RX7 268 "CellKeeperModel" "roundedColumns" "I" ∈ TB := TB_t4 135 rfl rfl
theorem mf_X7_95 : Cond.fieldLink RX7 95 "CellKeeperModel" "roundedGroup" "[I" ∈ TB := TB_t4 133 rfl rfl
theorem mf_X7_92 : Cond.fieldLink RX7 92 "CellKeeperModel" "roundedTo" "[I" ∈ TB := TB_t4 132 rfl rfl
theorem ml_X7_245 : Cond.methodLink RX7 245 yX7_tells ∈ TB := TB_t5 231 rfl rfl
theorem mcode_yX7_tells : Cond.code yX7_tells cX7_tells 4 (some .int) ∈ TB := TB_t5 234 rfl rfl
theorem mi_yX7_tells : MI yX7_tells cX7_tells 4 (some .int) 2 := ⟨mz_RX7, mcode_yX7_tells, by decide +kernel, by decide +kernel, by decide +kernel⟩
theorem mim_yX7_tells : Cond.instanceMethod yX7_tells ∈ TB := TB_t5 233 rfl rfl
theorem msel_yX7_tells : Cond.selects yX7_tells.cls yX7_tells yX7_tells ∈ TB := TB_s (n := 43) 70 (by decide +kernel)
theorem mv_yX7_tells : Cond.instanceMethod yX7_tells ∈ TB ∧ Cond.selects yX7_tells.cls yX7_tells yX7_tells ∈ TB := ⟨mim_yX7_tells, msel_yX7_tells⟩
theorem mf_X7_83 : Cond.fieldLink RX7 83 "CellKeeperModel" "was" "[Z" ∈ TB := TB_t4 129 rfl rfl
theorem ml_X7_239 : Cond.methodLink RX7 239 yX7_guard ∈ TB := TB_t5 223 rfl rfl
theorem mcode_yX7_guard : Cond.code yX7_guard cX7_guard 13 (some .int) ∈ TB := TB_t5 226 rfl rfl
theorem mi_yX7_guard : MI yX7_guard cX7_guard 13 (some .int) 3 := ⟨mz_RX7, mcode_yX7_guard, by decide +kernel, by decide +kernel, by decide +kernel⟩
theorem mim_yX7_guard : Cond.instanceMethod yX7_guard ∈ TB := TB_t5 225 rfl rfl
theorem msel_yX7_guard : Cond.selects yX7_guard.cls yX7_guard yX7_guard ∈ TB := TB_s (n := 43) 68 (by decide +kernel)
theorem mv_yX7_guard : Cond.instanceMethod yX7_guard ∈ TB ∧ Cond.selects yX7_guard.cls yX7_guard yX7_guard ∈ TB := ⟨mim_yX7_guard, msel_yX7_guard⟩
theorem mf_X7_274 : Cond.fieldLink RX7 274 "CellKeeperModel" "giftMany" "I" ∈ TB := TB_t4 142 rfl rfl
theorem mf_X7_110 : Cond.fieldLink RX7 110 "CellKeeperModel" "giftRows" "[I" ∈ TB := TB_t4 140 rfl rfl
theorem mf_X7_113 : Cond.fieldLink RX7 113 "CellKeeperModel" "giftColumns" "[I" ∈ TB := TB_t4 141 rfl rfl
theorem mf_X7_107 : Cond.fieldLink RX7 107 "CellKeeperModel" "gifts" "[I" ∈ TB := TB_t4 139 rfl rfl
theorem ml_X7_277 : Cond.methodLink RX7 277 yX7_isIn ∈ TB := TB_t6 40 rfl rfl
theorem mcode_yX7_isIn : Cond.code yX7_isIn cX7_isIn 4 (some .boolean) ∈ TB := TB_t6 43 rfl rfl
theorem mi_yX7_isIn : MI yX7_isIn cX7_isIn 4 (some .boolean) 3 := ⟨mz_RX7, mcode_yX7_isIn, by decide +kernel, by decide +kernel, by decide +kernel⟩
theorem mim_yX7_isIn : Cond.instanceMethod yX7_isIn ∈ TB := TB_t6 42 rfl rfl
theorem msel_yX7_isIn : Cond.selects yX7_isIn.cls yX7_isIn yX7_isIn ∈ TB := TB_s (n := 43) 76 (by decide +kernel)
theorem mv_yX7_isIn : Cond.instanceMethod yX7_isIn ∈ TB ∧ Cond.selects yX7_isIn.cls yX7_isIn yX7_isIn ∈ TB := ⟨mim_yX7_isIn, msel_yX7_isIn⟩
theorem kcX7_witness_0 : CHb cX7_witness 0 [42, 42, 27, 28, 29, 182, 0, 178, 181, 0, 116, 42, 180, 0, 116, 158, 0, 5, 2, 172, 42, 27, 182, 0, 216, 42, 180, 0, 65, 16, 12, 28, 104, 29, 96, 51, 54, 5, 42, 28, 29, 21, 4, 182, 0, 219, 3, 54, 6, 21, 6, 42, 180, 0, 189, 162, 0, 36, 3, 54, 7, 21, 7, 42] := CHb_of (by decide +kernel)
theorem dX7_witness_0 : decode cX7_witness 0 = .ok (.aload_n 0, 1) := dw_42 (kcX7_witness_0 0 42 rfl)
theorem dX7_witness_1 : decode cX7_witness 1 = .ok (.aload_n 0, 1) := dw_42 (kcX7_witness_0 1 42 rfl)
theorem dX7_witness_2 : decode cX7_witness 2 = .ok (.iload_n 1, 1) := dw_27 (kcX7_witness_0 2 27 rfl)
theorem dX7_witness_3 : decode cX7_witness 3 = .ok (.iload_n 2, 1) := dw_28 (kcX7_witness_0 3 28 rfl)
theorem dX7_witness_4 : decode cX7_witness 4 = .ok (.iload_n 3, 1) := dw_29 (kcX7_witness_0 4 29 rfl)
theorem dX7_witness_5 : decode cX7_witness 5 = .ok (.invokevirtual 178, 3) := dw_182 (kcX7_witness_0 5 182 rfl) (kcX7_witness_0 6 0 rfl) (kcX7_witness_0 7 178 rfl) rfl
theorem dX7_witness_8 : decode cX7_witness 8 = .ok (.putfield 116, 3) := dw_181 (kcX7_witness_0 8 181 rfl) (kcX7_witness_0 9 0 rfl) (kcX7_witness_0 10 116 rfl) rfl
theorem dX7_witness_11 : decode cX7_witness 11 = .ok (.aload_n 0, 1) := dw_42 (kcX7_witness_0 11 42 rfl)
theorem dX7_witness_12 : decode cX7_witness 12 = .ok (.getfield 116, 3) := dw_180 (kcX7_witness_0 12 180 rfl) (kcX7_witness_0 13 0 rfl) (kcX7_witness_0 14 116 rfl) rfl
theorem dX7_witness_15 : decode cX7_witness 15 = .ok (.ifCond .le 5, 3) := dw_158 (kcX7_witness_0 15 158 rfl) (kcX7_witness_0 16 0 rfl) (kcX7_witness_0 17 5 rfl) rfl
theorem dX7_witness_20 : decode cX7_witness 20 = .ok (.aload_n 0, 1) := dw_42 (kcX7_witness_0 20 42 rfl)
theorem dX7_witness_21 : decode cX7_witness 21 = .ok (.iload_n 1, 1) := dw_27 (kcX7_witness_0 21 27 rfl)
theorem dX7_witness_22 : decode cX7_witness 22 = .ok (.invokevirtual 216, 3) := dw_182 (kcX7_witness_0 22 182 rfl) (kcX7_witness_0 23 0 rfl) (kcX7_witness_0 24 216 rfl) rfl
theorem dX7_witness_25 : decode cX7_witness 25 = .ok (.aload_n 0, 1) := dw_42 (kcX7_witness_0 25 42 rfl)
theorem dX7_witness_26 : decode cX7_witness 26 = .ok (.getfield 65, 3) := dw_180 (kcX7_witness_0 26 180 rfl) (kcX7_witness_0 27 0 rfl) (kcX7_witness_0 28 65 rfl) rfl
theorem dX7_witness_29 : decode cX7_witness 29 = .ok (.bipush 12, 2) := dw_16 (kcX7_witness_0 29 16 rfl) (kcX7_witness_0 30 12 rfl) rfl
theorem dX7_witness_31 : decode cX7_witness 31 = .ok (.iload_n 2, 1) := dw_28 (kcX7_witness_0 31 28 rfl)
theorem dX7_witness_32 : decode cX7_witness 32 = .ok (.imul, 1) := dw_104 (kcX7_witness_0 32 104 rfl)
theorem dX7_witness_33 : decode cX7_witness 33 = .ok (.iload_n 3, 1) := dw_29 (kcX7_witness_0 33 29 rfl)
theorem dX7_witness_34 : decode cX7_witness 34 = .ok (.iadd, 1) := dw_96 (kcX7_witness_0 34 96 rfl)
theorem dX7_witness_35 : decode cX7_witness 35 = .ok (.baload, 1) := dw_51 (kcX7_witness_0 35 51 rfl)
theorem dX7_witness_36 : decode cX7_witness 36 = .ok (.istore 5, 2) := dw_54 (kcX7_witness_0 36 54 rfl) (kcX7_witness_0 37 5 rfl)
theorem dX7_witness_38 : decode cX7_witness 38 = .ok (.aload_n 0, 1) := dw_42 (kcX7_witness_0 38 42 rfl)
theorem dX7_witness_39 : decode cX7_witness 39 = .ok (.iload_n 2, 1) := dw_28 (kcX7_witness_0 39 28 rfl)
theorem dX7_witness_40 : decode cX7_witness 40 = .ok (.iload_n 3, 1) := dw_29 (kcX7_witness_0 40 29 rfl)
theorem dX7_witness_41 : decode cX7_witness 41 = .ok (.iload 4, 2) := dw_21 (kcX7_witness_0 41 21 rfl) (kcX7_witness_0 42 4 rfl)
theorem dX7_witness_43 : decode cX7_witness 43 = .ok (.invokevirtual 219, 3) := dw_182 (kcX7_witness_0 43 182 rfl) (kcX7_witness_0 44 0 rfl) (kcX7_witness_0 45 219 rfl) rfl
theorem dX7_witness_46 : decode cX7_witness 46 = .ok (.iconst 0, 1) := dw_3 (kcX7_witness_0 46 3 rfl)
theorem dX7_witness_47 : decode cX7_witness 47 = .ok (.istore 6, 2) := dw_54 (kcX7_witness_0 47 54 rfl) (kcX7_witness_0 48 6 rfl)
theorem dX7_witness_49 : decode cX7_witness 49 = .ok (.iload 6, 2) := dw_21 (kcX7_witness_0 49 21 rfl) (kcX7_witness_0 50 6 rfl)
theorem dX7_witness_51 : decode cX7_witness 51 = .ok (.aload_n 0, 1) := dw_42 (kcX7_witness_0 51 42 rfl)
theorem dX7_witness_52 : decode cX7_witness 52 = .ok (.getfield 189, 3) := dw_180 (kcX7_witness_0 52 180 rfl) (kcX7_witness_0 53 0 rfl) (kcX7_witness_0 54 189 rfl) rfl
theorem dX7_witness_55 : decode cX7_witness 55 = .ok (.if_icmp .ge 36, 3) := dw_162 (kcX7_witness_0 55 162 rfl) (kcX7_witness_0 56 0 rfl) (kcX7_witness_0 57 36 rfl) rfl
theorem dX7_witness_58 : decode cX7_witness 58 = .ok (.iconst 0, 1) := dw_3 (kcX7_witness_0 58 3 rfl)
theorem dX7_witness_59 : decode cX7_witness 59 = .ok (.istore 7, 2) := dw_54 (kcX7_witness_0 59 54 rfl) (kcX7_witness_0 60 7 rfl)
theorem dX7_witness_61 : decode cX7_witness 61 = .ok (.iload 7, 2) := dw_21 (kcX7_witness_0 61 21 rfl) (kcX7_witness_0 62 7 rfl)
theorem dX7_witness_63 : decode cX7_witness 63 = .ok (.aload_n 0, 1) := dw_42 (kcX7_witness_0 63 42 rfl)
theorem kcX7_witness_1 : CHb cX7_witness 64 [180, 0, 192, 162, 0, 18, 42, 21, 6, 21, 7, 3, 182, 0, 219, 132, 7, 1, 167, 255, 235, 132, 6, 1, 167, 255, 217, 42, 42, 180, 0, 189, 181, 0, 233, 42, 42, 180, 0, 192, 181, 0, 236, 3, 54, 6, 21, 6, 17, 0, 144, 162, 0, 23, 42, 180, 0, 74, 21, 6, 42, 180, 0, 53] := CHb_of (by decide +kernel)
theorem dX7_witness_64 : decode cX7_witness 64 = .ok (.getfield 192, 3) := dw_180 (kcX7_witness_1 0 180 rfl) (kcX7_witness_1 1 0 rfl) (kcX7_witness_1 2 192 rfl) rfl
theorem dX7_witness_67 : decode cX7_witness 67 = .ok (.if_icmp .ge 18, 3) := dw_162 (kcX7_witness_1 3 162 rfl) (kcX7_witness_1 4 0 rfl) (kcX7_witness_1 5 18 rfl) rfl
theorem dX7_witness_70 : decode cX7_witness 70 = .ok (.aload_n 0, 1) := dw_42 (kcX7_witness_1 6 42 rfl)
theorem dX7_witness_71 : decode cX7_witness 71 = .ok (.iload 6, 2) := dw_21 (kcX7_witness_1 7 21 rfl) (kcX7_witness_1 8 6 rfl)
theorem dX7_witness_73 : decode cX7_witness 73 = .ok (.iload 7, 2) := dw_21 (kcX7_witness_1 9 21 rfl) (kcX7_witness_1 10 7 rfl)
theorem dX7_witness_75 : decode cX7_witness 75 = .ok (.iconst 0, 1) := dw_3 (kcX7_witness_1 11 3 rfl)
theorem dX7_witness_76 : decode cX7_witness 76 = .ok (.invokevirtual 219, 3) := dw_182 (kcX7_witness_1 12 182 rfl) (kcX7_witness_1 13 0 rfl) (kcX7_witness_1 14 219 rfl) rfl
theorem dX7_witness_79 : decode cX7_witness 79 = .ok (.iinc 7 1, 3) := dw_132 (kcX7_witness_1 15 132 rfl) (kcX7_witness_1 16 7 rfl) (kcX7_witness_1 17 1 rfl) rfl
theorem dX7_witness_82 : decode cX7_witness 82 = .ok (.goto (-21), 3) := dw_167 (kcX7_witness_1 18 167 rfl) (kcX7_witness_1 19 255 rfl) (kcX7_witness_1 20 235 rfl) rfl
theorem dX7_witness_85 : decode cX7_witness 85 = .ok (.iinc 6 1, 3) := dw_132 (kcX7_witness_1 21 132 rfl) (kcX7_witness_1 22 6 rfl) (kcX7_witness_1 23 1 rfl) rfl
theorem dX7_witness_88 : decode cX7_witness 88 = .ok (.goto (-39), 3) := dw_167 (kcX7_witness_1 24 167 rfl) (kcX7_witness_1 25 255 rfl) (kcX7_witness_1 26 217 rfl) rfl
theorem dX7_witness_91 : decode cX7_witness 91 = .ok (.aload_n 0, 1) := dw_42 (kcX7_witness_1 27 42 rfl)
theorem dX7_witness_92 : decode cX7_witness 92 = .ok (.aload_n 0, 1) := dw_42 (kcX7_witness_1 28 42 rfl)
theorem dX7_witness_93 : decode cX7_witness 93 = .ok (.getfield 189, 3) := dw_180 (kcX7_witness_1 29 180 rfl) (kcX7_witness_1 30 0 rfl) (kcX7_witness_1 31 189 rfl) rfl
theorem dX7_witness_96 : decode cX7_witness 96 = .ok (.putfield 233, 3) := dw_181 (kcX7_witness_1 32 181 rfl) (kcX7_witness_1 33 0 rfl) (kcX7_witness_1 34 233 rfl) rfl
theorem dX7_witness_99 : decode cX7_witness 99 = .ok (.aload_n 0, 1) := dw_42 (kcX7_witness_1 35 42 rfl)
theorem dX7_witness_100 : decode cX7_witness 100 = .ok (.aload_n 0, 1) := dw_42 (kcX7_witness_1 36 42 rfl)
theorem dX7_witness_101 : decode cX7_witness 101 = .ok (.getfield 192, 3) := dw_180 (kcX7_witness_1 37 180 rfl) (kcX7_witness_1 38 0 rfl) (kcX7_witness_1 39 192 rfl) rfl
theorem dX7_witness_104 : decode cX7_witness 104 = .ok (.putfield 236, 3) := dw_181 (kcX7_witness_1 40 181 rfl) (kcX7_witness_1 41 0 rfl) (kcX7_witness_1 42 236 rfl) rfl
theorem dX7_witness_107 : decode cX7_witness 107 = .ok (.iconst 0, 1) := dw_3 (kcX7_witness_1 43 3 rfl)
theorem dX7_witness_108 : decode cX7_witness 108 = .ok (.istore 6, 2) := dw_54 (kcX7_witness_1 44 54 rfl) (kcX7_witness_1 45 6 rfl)
theorem dX7_witness_110 : decode cX7_witness 110 = .ok (.iload 6, 2) := dw_21 (kcX7_witness_1 46 21 rfl) (kcX7_witness_1 47 6 rfl)
theorem dX7_witness_112 : decode cX7_witness 112 = .ok (.sipush 144, 3) := dw_17 (kcX7_witness_1 48 17 rfl) (kcX7_witness_1 49 0 rfl) (kcX7_witness_1 50 144 rfl) rfl
theorem dX7_witness_115 : decode cX7_witness 115 = .ok (.if_icmp .ge 23, 3) := dw_162 (kcX7_witness_1 51 162 rfl) (kcX7_witness_1 52 0 rfl) (kcX7_witness_1 53 23 rfl) rfl
theorem dX7_witness_118 : decode cX7_witness 118 = .ok (.aload_n 0, 1) := dw_42 (kcX7_witness_1 54 42 rfl)
theorem dX7_witness_119 : decode cX7_witness 119 = .ok (.getfield 74, 3) := dw_180 (kcX7_witness_1 55 180 rfl) (kcX7_witness_1 56 0 rfl) (kcX7_witness_1 57 74 rfl) rfl
theorem dX7_witness_122 : decode cX7_witness 122 = .ok (.iload 6, 2) := dw_21 (kcX7_witness_1 58 21 rfl) (kcX7_witness_1 59 6 rfl)
theorem dX7_witness_124 : decode cX7_witness 124 = .ok (.aload_n 0, 1) := dw_42 (kcX7_witness_1 60 42 rfl)
theorem dX7_witness_125 : decode cX7_witness 125 = .ok (.getfield 53, 3) := dw_180 (kcX7_witness_1 61 180 rfl) (kcX7_witness_1 62 0 rfl) (kcX7_witness_1 63 53 rfl) rfl
theorem kcX7_witness_2 : CHb cX7_witness 128 [21, 6, 46, 79, 132, 6, 1, 167, 255, 231, 3, 54, 6, 21, 6, 42, 180, 0, 189, 162, 0, 23, 42, 180, 0, 77, 21, 6, 42, 180, 0, 62, 21, 6, 46, 79, 132, 6, 1, 167, 255, 230, 3, 54, 6, 21, 6, 16, 24, 162, 0, 17, 42, 180, 0, 80, 21, 6, 3, 84, 132, 6, 1, 167] := CHb_of (by decide +kernel)
theorem dX7_witness_128 : decode cX7_witness 128 = .ok (.iload 6, 2) := dw_21 (kcX7_witness_2 0 21 rfl) (kcX7_witness_2 1 6 rfl)
theorem dX7_witness_130 : decode cX7_witness 130 = .ok (.iaload, 1) := dw_46 (kcX7_witness_2 2 46 rfl)
theorem dX7_witness_131 : decode cX7_witness 131 = .ok (.iastore, 1) := dw_79 (kcX7_witness_2 3 79 rfl)
theorem dX7_witness_132 : decode cX7_witness 132 = .ok (.iinc 6 1, 3) := dw_132 (kcX7_witness_2 4 132 rfl) (kcX7_witness_2 5 6 rfl) (kcX7_witness_2 6 1 rfl) rfl
theorem dX7_witness_135 : decode cX7_witness 135 = .ok (.goto (-25), 3) := dw_167 (kcX7_witness_2 7 167 rfl) (kcX7_witness_2 8 255 rfl) (kcX7_witness_2 9 231 rfl) rfl
theorem dX7_witness_138 : decode cX7_witness 138 = .ok (.iconst 0, 1) := dw_3 (kcX7_witness_2 10 3 rfl)
theorem dX7_witness_139 : decode cX7_witness 139 = .ok (.istore 6, 2) := dw_54 (kcX7_witness_2 11 54 rfl) (kcX7_witness_2 12 6 rfl)
theorem dX7_witness_141 : decode cX7_witness 141 = .ok (.iload 6, 2) := dw_21 (kcX7_witness_2 13 21 rfl) (kcX7_witness_2 14 6 rfl)
theorem dX7_witness_143 : decode cX7_witness 143 = .ok (.aload_n 0, 1) := dw_42 (kcX7_witness_2 15 42 rfl)
theorem dX7_witness_144 : decode cX7_witness 144 = .ok (.getfield 189, 3) := dw_180 (kcX7_witness_2 16 180 rfl) (kcX7_witness_2 17 0 rfl) (kcX7_witness_2 18 189 rfl) rfl
theorem dX7_witness_147 : decode cX7_witness 147 = .ok (.if_icmp .ge 23, 3) := dw_162 (kcX7_witness_2 19 162 rfl) (kcX7_witness_2 20 0 rfl) (kcX7_witness_2 21 23 rfl) rfl
theorem dX7_witness_150 : decode cX7_witness 150 = .ok (.aload_n 0, 1) := dw_42 (kcX7_witness_2 22 42 rfl)
theorem dX7_witness_151 : decode cX7_witness 151 = .ok (.getfield 77, 3) := dw_180 (kcX7_witness_2 23 180 rfl) (kcX7_witness_2 24 0 rfl) (kcX7_witness_2 25 77 rfl) rfl
theorem dX7_witness_154 : decode cX7_witness 154 = .ok (.iload 6, 2) := dw_21 (kcX7_witness_2 26 21 rfl) (kcX7_witness_2 27 6 rfl)
theorem dX7_witness_156 : decode cX7_witness 156 = .ok (.aload_n 0, 1) := dw_42 (kcX7_witness_2 28 42 rfl)
theorem dX7_witness_157 : decode cX7_witness 157 = .ok (.getfield 62, 3) := dw_180 (kcX7_witness_2 29 180 rfl) (kcX7_witness_2 30 0 rfl) (kcX7_witness_2 31 62 rfl) rfl
theorem dX7_witness_160 : decode cX7_witness 160 = .ok (.iload 6, 2) := dw_21 (kcX7_witness_2 32 21 rfl) (kcX7_witness_2 33 6 rfl)
theorem dX7_witness_162 : decode cX7_witness 162 = .ok (.iaload, 1) := dw_46 (kcX7_witness_2 34 46 rfl)
theorem dX7_witness_163 : decode cX7_witness 163 = .ok (.iastore, 1) := dw_79 (kcX7_witness_2 35 79 rfl)
theorem dX7_witness_164 : decode cX7_witness 164 = .ok (.iinc 6 1, 3) := dw_132 (kcX7_witness_2 36 132 rfl) (kcX7_witness_2 37 6 rfl) (kcX7_witness_2 38 1 rfl) rfl
theorem dX7_witness_167 : decode cX7_witness 167 = .ok (.goto (-26), 3) := dw_167 (kcX7_witness_2 39 167 rfl) (kcX7_witness_2 40 255 rfl) (kcX7_witness_2 41 230 rfl) rfl
theorem dX7_witness_170 : decode cX7_witness 170 = .ok (.iconst 0, 1) := dw_3 (kcX7_witness_2 42 3 rfl)
theorem dX7_witness_171 : decode cX7_witness 171 = .ok (.istore 6, 2) := dw_54 (kcX7_witness_2 43 54 rfl) (kcX7_witness_2 44 6 rfl)
theorem dX7_witness_173 : decode cX7_witness 173 = .ok (.iload 6, 2) := dw_21 (kcX7_witness_2 45 21 rfl) (kcX7_witness_2 46 6 rfl)
theorem dX7_witness_175 : decode cX7_witness 175 = .ok (.bipush 24, 2) := dw_16 (kcX7_witness_2 47 16 rfl) (kcX7_witness_2 48 24 rfl) rfl
theorem dX7_witness_177 : decode cX7_witness 177 = .ok (.if_icmp .ge 17, 3) := dw_162 (kcX7_witness_2 49 162 rfl) (kcX7_witness_2 50 0 rfl) (kcX7_witness_2 51 17 rfl) rfl
theorem dX7_witness_180 : decode cX7_witness 180 = .ok (.aload_n 0, 1) := dw_42 (kcX7_witness_2 52 42 rfl)
theorem dX7_witness_181 : decode cX7_witness 181 = .ok (.getfield 80, 3) := dw_180 (kcX7_witness_2 53 180 rfl) (kcX7_witness_2 54 0 rfl) (kcX7_witness_2 55 80 rfl) rfl
theorem dX7_witness_184 : decode cX7_witness 184 = .ok (.iload 6, 2) := dw_21 (kcX7_witness_2 56 21 rfl) (kcX7_witness_2 57 6 rfl)
theorem dX7_witness_186 : decode cX7_witness 186 = .ok (.iconst 0, 1) := dw_3 (kcX7_witness_2 58 3 rfl)
theorem dX7_witness_187 : decode cX7_witness 187 = .ok (.bastore, 1) := dw_84 (kcX7_witness_2 59 84 rfl)
theorem dX7_witness_188 : decode cX7_witness 188 = .ok (.iinc 6 1, 3) := dw_132 (kcX7_witness_2 60 132 rfl) (kcX7_witness_2 61 6 rfl) (kcX7_witness_2 62 1 rfl) rfl
theorem kcX7_witness_3 : CHb cX7_witness 192 [255, 238, 21, 4, 153, 0, 10, 16, 12, 29, 96, 167, 0, 4, 28, 54, 6, 42, 180, 0, 80, 21, 6, 4, 84, 21, 5, 154, 0, 15, 42, 180, 0, 53, 16, 12, 28, 104, 29, 96, 46, 172, 3, 54, 7, 21, 7, 42, 180, 0, 189, 162, 0, 73, 3, 54, 8, 21, 8, 42, 180, 0, 192, 162] := CHb_of (by decide +kernel)
theorem dX7_witness_191 : decode cX7_witness 191 = .ok (.goto (-18), 3) := dw_167 (kcX7_witness_2 63 167 rfl) (kcX7_witness_3 0 255 rfl) (kcX7_witness_3 1 238 rfl) rfl
theorem dX7_witness_194 : decode cX7_witness 194 = .ok (.iload 4, 2) := dw_21 (kcX7_witness_3 2 21 rfl) (kcX7_witness_3 3 4 rfl)
theorem dX7_witness_196 : decode cX7_witness 196 = .ok (.ifCond .eq 10, 3) := dw_153 (kcX7_witness_3 4 153 rfl) (kcX7_witness_3 5 0 rfl) (kcX7_witness_3 6 10 rfl) rfl
theorem dX7_witness_206 : decode cX7_witness 206 = .ok (.iload_n 2, 1) := dw_28 (kcX7_witness_3 14 28 rfl)
theorem dX7_witness_199 : decode cX7_witness 199 = .ok (.bipush 12, 2) := dw_16 (kcX7_witness_3 7 16 rfl) (kcX7_witness_3 8 12 rfl) rfl
theorem dX7_witness_201 : decode cX7_witness 201 = .ok (.iload_n 3, 1) := dw_29 (kcX7_witness_3 9 29 rfl)
theorem dX7_witness_202 : decode cX7_witness 202 = .ok (.iadd, 1) := dw_96 (kcX7_witness_3 10 96 rfl)
theorem dX7_witness_203 : decode cX7_witness 203 = .ok (.goto 4, 3) := dw_167 (kcX7_witness_3 11 167 rfl) (kcX7_witness_3 12 0 rfl) (kcX7_witness_3 13 4 rfl) rfl
theorem dX7_witness_207 : decode cX7_witness 207 = .ok (.istore 6, 2) := dw_54 (kcX7_witness_3 15 54 rfl) (kcX7_witness_3 16 6 rfl)
theorem dX7_witness_209 : decode cX7_witness 209 = .ok (.aload_n 0, 1) := dw_42 (kcX7_witness_3 17 42 rfl)
theorem dX7_witness_210 : decode cX7_witness 210 = .ok (.getfield 80, 3) := dw_180 (kcX7_witness_3 18 180 rfl) (kcX7_witness_3 19 0 rfl) (kcX7_witness_3 20 80 rfl) rfl
theorem dX7_witness_213 : decode cX7_witness 213 = .ok (.iload 6, 2) := dw_21 (kcX7_witness_3 21 21 rfl) (kcX7_witness_3 22 6 rfl)
theorem dX7_witness_215 : decode cX7_witness 215 = .ok (.iconst 1, 1) := dw_4 (kcX7_witness_3 23 4 rfl)
theorem dX7_witness_216 : decode cX7_witness 216 = .ok (.bastore, 1) := dw_84 (kcX7_witness_3 24 84 rfl)
theorem dX7_witness_217 : decode cX7_witness 217 = .ok (.iload 5, 2) := dw_21 (kcX7_witness_3 25 21 rfl) (kcX7_witness_3 26 5 rfl)
theorem dX7_witness_219 : decode cX7_witness 219 = .ok (.ifCond .ne 15, 3) := dw_154 (kcX7_witness_3 27 154 rfl) (kcX7_witness_3 28 0 rfl) (kcX7_witness_3 29 15 rfl) rfl
theorem dX7_witness_234 : decode cX7_witness 234 = .ok (.iconst 0, 1) := dw_3 (kcX7_witness_3 42 3 rfl)
theorem dX7_witness_235 : decode cX7_witness 235 = .ok (.istore 7, 2) := dw_54 (kcX7_witness_3 43 54 rfl) (kcX7_witness_3 44 7 rfl)
theorem dX7_witness_237 : decode cX7_witness 237 = .ok (.iload 7, 2) := dw_21 (kcX7_witness_3 45 21 rfl) (kcX7_witness_3 46 7 rfl)
theorem dX7_witness_239 : decode cX7_witness 239 = .ok (.aload_n 0, 1) := dw_42 (kcX7_witness_3 47 42 rfl)
theorem dX7_witness_240 : decode cX7_witness 240 = .ok (.getfield 189, 3) := dw_180 (kcX7_witness_3 48 180 rfl) (kcX7_witness_3 49 0 rfl) (kcX7_witness_3 50 189 rfl) rfl
theorem dX7_witness_243 : decode cX7_witness 243 = .ok (.if_icmp .ge 73, 3) := dw_162 (kcX7_witness_3 51 162 rfl) (kcX7_witness_3 52 0 rfl) (kcX7_witness_3 53 73 rfl) rfl
theorem dX7_witness_246 : decode cX7_witness 246 = .ok (.iconst 0, 1) := dw_3 (kcX7_witness_3 54 3 rfl)
theorem dX7_witness_247 : decode cX7_witness 247 = .ok (.istore 8, 2) := dw_54 (kcX7_witness_3 55 54 rfl) (kcX7_witness_3 56 8 rfl)
theorem dX7_witness_249 : decode cX7_witness 249 = .ok (.iload 8, 2) := dw_21 (kcX7_witness_3 57 21 rfl) (kcX7_witness_3 58 8 rfl)
theorem dX7_witness_251 : decode cX7_witness 251 = .ok (.aload_n 0, 1) := dw_42 (kcX7_witness_3 59 42 rfl)
theorem dX7_witness_252 : decode cX7_witness 252 = .ok (.getfield 192, 3) := dw_180 (kcX7_witness_3 60 180 rfl) (kcX7_witness_3 61 0 rfl) (kcX7_witness_3 62 192 rfl) rfl
theorem kcX7_witness_4 : CHb cX7_witness 256 [0, 55, 42, 180, 0, 65, 16, 12, 21, 7, 104, 21, 8, 96, 42, 180, 0, 62, 21, 7, 46, 16, 254, 159, 0, 23, 42, 27, 27, 21, 7, 21, 8, 184, 0, 147, 182, 0, 181, 153, 0, 7, 4, 167, 0, 4, 3, 84, 132, 8, 1, 167, 255, 198, 132, 7, 1, 167, 255, 180, 42, 180, 0, 65] := CHb_of (by decide +kernel)
theorem dX7_witness_255 : decode cX7_witness 255 = .ok (.if_icmp .ge 55, 3) := dw_162 (kcX7_witness_3 63 162 rfl) (kcX7_witness_4 0 0 rfl) (kcX7_witness_4 1 55 rfl) rfl
theorem dX7_witness_258 : decode cX7_witness 258 = .ok (.aload_n 0, 1) := dw_42 (kcX7_witness_4 2 42 rfl)
theorem dX7_witness_259 : decode cX7_witness 259 = .ok (.getfield 65, 3) := dw_180 (kcX7_witness_4 3 180 rfl) (kcX7_witness_4 4 0 rfl) (kcX7_witness_4 5 65 rfl) rfl
theorem dX7_witness_262 : decode cX7_witness 262 = .ok (.bipush 12, 2) := dw_16 (kcX7_witness_4 6 16 rfl) (kcX7_witness_4 7 12 rfl) rfl
theorem dX7_witness_264 : decode cX7_witness 264 = .ok (.iload 7, 2) := dw_21 (kcX7_witness_4 8 21 rfl) (kcX7_witness_4 9 7 rfl)
theorem dX7_witness_266 : decode cX7_witness 266 = .ok (.imul, 1) := dw_104 (kcX7_witness_4 10 104 rfl)
theorem dX7_witness_267 : decode cX7_witness 267 = .ok (.iload 8, 2) := dw_21 (kcX7_witness_4 11 21 rfl) (kcX7_witness_4 12 8 rfl)
theorem dX7_witness_269 : decode cX7_witness 269 = .ok (.iadd, 1) := dw_96 (kcX7_witness_4 13 96 rfl)
theorem dX7_witness_270 : decode cX7_witness 270 = .ok (.aload_n 0, 1) := dw_42 (kcX7_witness_4 14 42 rfl)
theorem dX7_witness_271 : decode cX7_witness 271 = .ok (.getfield 62, 3) := dw_180 (kcX7_witness_4 15 180 rfl) (kcX7_witness_4 16 0 rfl) (kcX7_witness_4 17 62 rfl) rfl
theorem dX7_witness_274 : decode cX7_witness 274 = .ok (.iload 7, 2) := dw_21 (kcX7_witness_4 18 21 rfl) (kcX7_witness_4 19 7 rfl)
theorem dX7_witness_276 : decode cX7_witness 276 = .ok (.iaload, 1) := dw_46 (kcX7_witness_4 20 46 rfl)
theorem dX7_witness_277 : decode cX7_witness 277 = .ok (.bipush (-2), 2) := dw_16 (kcX7_witness_4 21 16 rfl) (kcX7_witness_4 22 254 rfl) rfl
theorem dX7_witness_279 : decode cX7_witness 279 = .ok (.if_icmp .eq 23, 3) := dw_159 (kcX7_witness_4 23 159 rfl) (kcX7_witness_4 24 0 rfl) (kcX7_witness_4 25 23 rfl) rfl
theorem dX7_witness_302 : decode cX7_witness 302 = .ok (.iconst 0, 1) := dw_3 (kcX7_witness_4 46 3 rfl)
theorem dX7_witness_282 : decode cX7_witness 282 = .ok (.aload_n 0, 1) := dw_42 (kcX7_witness_4 26 42 rfl)
theorem dX7_witness_283 : decode cX7_witness 283 = .ok (.iload_n 1, 1) := dw_27 (kcX7_witness_4 27 27 rfl)
theorem dX7_witness_284 : decode cX7_witness 284 = .ok (.iload_n 1, 1) := dw_27 (kcX7_witness_4 28 27 rfl)
theorem dX7_witness_285 : decode cX7_witness 285 = .ok (.iload 7, 2) := dw_21 (kcX7_witness_4 29 21 rfl) (kcX7_witness_4 30 7 rfl)
theorem dX7_witness_287 : decode cX7_witness 287 = .ok (.iload 8, 2) := dw_21 (kcX7_witness_4 31 21 rfl) (kcX7_witness_4 32 8 rfl)
theorem dX7_witness_289 : decode cX7_witness 289 = .ok (.invokestatic 147, 3) := dw_184 (kcX7_witness_4 33 184 rfl) (kcX7_witness_4 34 0 rfl) (kcX7_witness_4 35 147 rfl) rfl
theorem dX7_witness_292 : decode cX7_witness 292 = .ok (.invokevirtual 181, 3) := dw_182 (kcX7_witness_4 36 182 rfl) (kcX7_witness_4 37 0 rfl) (kcX7_witness_4 38 181 rfl) rfl
theorem dX7_witness_295 : decode cX7_witness 295 = .ok (.ifCond .eq 7, 3) := dw_153 (kcX7_witness_4 39 153 rfl) (kcX7_witness_4 40 0 rfl) (kcX7_witness_4 41 7 rfl) rfl
theorem dX7_witness_298 : decode cX7_witness 298 = .ok (.iconst 1, 1) := dw_4 (kcX7_witness_4 42 4 rfl)
theorem dX7_witness_299 : decode cX7_witness 299 = .ok (.goto 4, 3) := dw_167 (kcX7_witness_4 43 167 rfl) (kcX7_witness_4 44 0 rfl) (kcX7_witness_4 45 4 rfl) rfl
theorem dX7_witness_303 : decode cX7_witness 303 = .ok (.bastore, 1) := dw_84 (kcX7_witness_4 47 84 rfl)
theorem dX7_witness_304 : decode cX7_witness 304 = .ok (.iinc 8 1, 3) := dw_132 (kcX7_witness_4 48 132 rfl) (kcX7_witness_4 49 8 rfl) (kcX7_witness_4 50 1 rfl) rfl
theorem dX7_witness_307 : decode cX7_witness 307 = .ok (.goto (-58), 3) := dw_167 (kcX7_witness_4 51 167 rfl) (kcX7_witness_4 52 255 rfl) (kcX7_witness_4 53 198 rfl) rfl
theorem dX7_witness_310 : decode cX7_witness 310 = .ok (.iinc 7 1, 3) := dw_132 (kcX7_witness_4 54 132 rfl) (kcX7_witness_4 55 7 rfl) (kcX7_witness_4 56 1 rfl) rfl
theorem dX7_witness_313 : decode cX7_witness 313 = .ok (.goto (-76), 3) := dw_167 (kcX7_witness_4 57 167 rfl) (kcX7_witness_4 58 255 rfl) (kcX7_witness_4 59 180 rfl) rfl
theorem dX7_witness_316 : decode cX7_witness 316 = .ok (.aload_n 0, 1) := dw_42 (kcX7_witness_4 60 42 rfl)
theorem dX7_witness_317 : decode cX7_witness 317 = .ok (.getfield 65, 3) := dw_180 (kcX7_witness_4 61 180 rfl) (kcX7_witness_4 62 0 rfl) (kcX7_witness_4 63 65 rfl) rfl
theorem kcX7_witness_5 : CHb cX7_witness 320 [16, 12, 28, 104, 29, 96, 3, 84, 4, 54, 7, 21, 7, 153, 0, 123, 3, 54, 7, 3, 54, 8, 21, 8, 16, 24, 162, 0, 107, 42, 180, 0, 80, 21, 8, 51, 154, 0, 6, 167, 0, 88, 21, 8, 16, 12, 162, 0, 8, 16, 12, 167, 0, 4, 3, 54, 9, 21, 9, 54, 10, 21, 10, 21] := CHb_of (by decide +kernel)
theorem dX7_witness_320 : decode cX7_witness 320 = .ok (.bipush 12, 2) := dw_16 (kcX7_witness_5 0 16 rfl) (kcX7_witness_5 1 12 rfl) rfl
theorem dX7_witness_322 : decode cX7_witness 322 = .ok (.iload_n 2, 1) := dw_28 (kcX7_witness_5 2 28 rfl)
theorem dX7_witness_323 : decode cX7_witness 323 = .ok (.imul, 1) := dw_104 (kcX7_witness_5 3 104 rfl)
theorem dX7_witness_324 : decode cX7_witness 324 = .ok (.iload_n 3, 1) := dw_29 (kcX7_witness_5 4 29 rfl)
theorem dX7_witness_325 : decode cX7_witness 325 = .ok (.iadd, 1) := dw_96 (kcX7_witness_5 5 96 rfl)
theorem dX7_witness_326 : decode cX7_witness 326 = .ok (.iconst 0, 1) := dw_3 (kcX7_witness_5 6 3 rfl)
theorem dX7_witness_327 : decode cX7_witness 327 = .ok (.bastore, 1) := dw_84 (kcX7_witness_5 7 84 rfl)
theorem dX7_witness_328 : decode cX7_witness 328 = .ok (.iconst 1, 1) := dw_4 (kcX7_witness_5 8 4 rfl)
theorem dX7_witness_329 : decode cX7_witness 329 = .ok (.istore 7, 2) := dw_54 (kcX7_witness_5 9 54 rfl) (kcX7_witness_5 10 7 rfl)
theorem dX7_witness_331 : decode cX7_witness 331 = .ok (.iload 7, 2) := dw_21 (kcX7_witness_5 11 21 rfl) (kcX7_witness_5 12 7 rfl)
theorem dX7_witness_333 : decode cX7_witness 333 = .ok (.ifCond .eq 123, 3) := dw_153 (kcX7_witness_5 13 153 rfl) (kcX7_witness_5 14 0 rfl) (kcX7_witness_5 15 123 rfl) rfl
theorem kcX7_witness_7 : CHb cX7_witness 448 [8, 1, 167, 255, 148, 167, 255, 134, 42, 180, 0, 74, 16, 12, 28, 104, 29, 96, 46, 172] := CHb_of (by decide +kernel)
theorem dX7_witness_456 : decode cX7_witness 456 = .ok (.aload_n 0, 1) := dw_42 (kcX7_witness_7 8 42 rfl)
theorem dX7_witness_457 : decode cX7_witness 457 = .ok (.getfield 74, 3) := dw_180 (kcX7_witness_7 9 180 rfl) (kcX7_witness_7 10 0 rfl) (kcX7_witness_7 11 74 rfl) rfl
theorem dX7_witness_460 : decode cX7_witness 460 = .ok (.bipush 12, 2) := dw_16 (kcX7_witness_7 12 16 rfl) (kcX7_witness_7 13 12 rfl) rfl
theorem dX7_witness_462 : decode cX7_witness 462 = .ok (.iload_n 2, 1) := dw_28 (kcX7_witness_7 14 28 rfl)
theorem dX7_witness_463 : decode cX7_witness 463 = .ok (.imul, 1) := dw_104 (kcX7_witness_7 15 104 rfl)
theorem dX7_witness_464 : decode cX7_witness 464 = .ok (.iload_n 3, 1) := dw_29 (kcX7_witness_7 16 29 rfl)
theorem dX7_witness_465 : decode cX7_witness 465 = .ok (.iadd, 1) := dw_96 (kcX7_witness_7 17 96 rfl)
theorem dX7_witness_466 : decode cX7_witness 466 = .ok (.iaload, 1) := dw_46 (kcX7_witness_7 18 46 rfl)
theorem dX7_witness_467 : decode cX7_witness 467 = .ok (.ireturn, 1) := dw_172 (kcX7_witness_7 19 172 rfl)
theorem dX7_witness_336 : decode cX7_witness 336 = .ok (.iconst 0, 1) := dw_3 (kcX7_witness_5 16 3 rfl)
theorem dX7_witness_337 : decode cX7_witness 337 = .ok (.istore 7, 2) := dw_54 (kcX7_witness_5 17 54 rfl) (kcX7_witness_5 18 7 rfl)
theorem dX7_witness_339 : decode cX7_witness 339 = .ok (.iconst 0, 1) := dw_3 (kcX7_witness_5 19 3 rfl)
theorem dX7_witness_340 : decode cX7_witness 340 = .ok (.istore 8, 2) := dw_54 (kcX7_witness_5 20 54 rfl) (kcX7_witness_5 21 8 rfl)
theorem dX7_witness_342 : decode cX7_witness 342 = .ok (.iload 8, 2) := dw_21 (kcX7_witness_5 22 21 rfl) (kcX7_witness_5 23 8 rfl)
theorem dX7_witness_344 : decode cX7_witness 344 = .ok (.bipush 24, 2) := dw_16 (kcX7_witness_5 24 16 rfl) (kcX7_witness_5 25 24 rfl) rfl
theorem dX7_witness_346 : decode cX7_witness 346 = .ok (.if_icmp .ge 107, 3) := dw_162 (kcX7_witness_5 26 162 rfl) (kcX7_witness_5 27 0 rfl) (kcX7_witness_5 28 107 rfl) rfl
theorem dX7_witness_349 : decode cX7_witness 349 = .ok (.aload_n 0, 1) := dw_42 (kcX7_witness_5 29 42 rfl)
theorem dX7_witness_350 : decode cX7_witness 350 = .ok (.getfield 80, 3) := dw_180 (kcX7_witness_5 30 180 rfl) (kcX7_witness_5 31 0 rfl) (kcX7_witness_5 32 80 rfl) rfl
theorem dX7_witness_353 : decode cX7_witness 353 = .ok (.iload 8, 2) := dw_21 (kcX7_witness_5 33 21 rfl) (kcX7_witness_5 34 8 rfl)
theorem dX7_witness_355 : decode cX7_witness 355 = .ok (.baload, 1) := dw_51 (kcX7_witness_5 35 51 rfl)
theorem dX7_witness_356 : decode cX7_witness 356 = .ok (.ifCond .ne 6, 3) := dw_154 (kcX7_witness_5 36 154 rfl) (kcX7_witness_5 37 0 rfl) (kcX7_witness_5 38 6 rfl) rfl
theorem dX7_witness_362 : decode cX7_witness 362 = .ok (.iload 8, 2) := dw_21 (kcX7_witness_5 42 21 rfl) (kcX7_witness_5 43 8 rfl)
theorem dX7_witness_364 : decode cX7_witness 364 = .ok (.bipush 12, 2) := dw_16 (kcX7_witness_5 44 16 rfl) (kcX7_witness_5 45 12 rfl) rfl
theorem dX7_witness_366 : decode cX7_witness 366 = .ok (.if_icmp .ge 8, 3) := dw_162 (kcX7_witness_5 46 162 rfl) (kcX7_witness_5 47 0 rfl) (kcX7_witness_5 48 8 rfl) rfl
theorem dX7_witness_374 : decode cX7_witness 374 = .ok (.iconst 0, 1) := dw_3 (kcX7_witness_5 54 3 rfl)
theorem dX7_witness_375 : decode cX7_witness 375 = .ok (.istore 9, 2) := dw_54 (kcX7_witness_5 55 54 rfl) (kcX7_witness_5 56 9 rfl)
theorem dX7_witness_377 : decode cX7_witness 377 = .ok (.iload 9, 2) := dw_21 (kcX7_witness_5 57 21 rfl) (kcX7_witness_5 58 9 rfl)
theorem dX7_witness_379 : decode cX7_witness 379 = .ok (.istore 10, 2) := dw_54 (kcX7_witness_5 59 54 rfl) (kcX7_witness_5 60 10 rfl)
theorem dX7_witness_381 : decode cX7_witness 381 = .ok (.iload 10, 2) := dw_21 (kcX7_witness_5 61 21 rfl) (kcX7_witness_5 62 10 rfl)
theorem kcX7_witness_6 : CHb cX7_witness 384 [9, 16, 12, 96, 162, 0, 59, 42, 180, 0, 80, 21, 10, 51, 154, 0, 43, 42, 21, 10, 42, 180, 0, 62, 28, 46, 182, 0, 198, 153, 0, 28, 42, 21, 8, 21, 10, 182, 0, 201, 157, 0, 6, 167, 0, 14, 42, 180, 0, 80, 21, 10, 4, 84, 4, 54, 7, 132, 10, 1, 167, 255, 193, 132] := CHb_of (by decide +kernel)
theorem dX7_witness_383 : decode cX7_witness 383 = .ok (.iload 9, 2) := dw_21 (kcX7_witness_5 63 21 rfl) (kcX7_witness_6 0 9 rfl)
theorem dX7_witness_385 : decode cX7_witness 385 = .ok (.bipush 12, 2) := dw_16 (kcX7_witness_6 1 16 rfl) (kcX7_witness_6 2 12 rfl) rfl
theorem dX7_witness_387 : decode cX7_witness 387 = .ok (.iadd, 1) := dw_96 (kcX7_witness_6 3 96 rfl)
theorem dX7_witness_388 : decode cX7_witness 388 = .ok (.if_icmp .ge 59, 3) := dw_162 (kcX7_witness_6 4 162 rfl) (kcX7_witness_6 5 0 rfl) (kcX7_witness_6 6 59 rfl) rfl
theorem dX7_witness_447 : decode cX7_witness 447 = .ok (.iinc 8 1, 3) := dw_132 (kcX7_witness_6 63 132 rfl) (kcX7_witness_7 0 8 rfl) (kcX7_witness_7 1 1 rfl) rfl
theorem dX7_witness_450 : decode cX7_witness 450 = .ok (.goto (-108), 3) := dw_167 (kcX7_witness_7 2 167 rfl) (kcX7_witness_7 3 255 rfl) (kcX7_witness_7 4 148 rfl) rfl
theorem dX7_witness_391 : decode cX7_witness 391 = .ok (.aload_n 0, 1) := dw_42 (kcX7_witness_6 7 42 rfl)
theorem dX7_witness_392 : decode cX7_witness 392 = .ok (.getfield 80, 3) := dw_180 (kcX7_witness_6 8 180 rfl) (kcX7_witness_6 9 0 rfl) (kcX7_witness_6 10 80 rfl) rfl
theorem dX7_witness_395 : decode cX7_witness 395 = .ok (.iload 10, 2) := dw_21 (kcX7_witness_6 11 21 rfl) (kcX7_witness_6 12 10 rfl)
theorem dX7_witness_397 : decode cX7_witness 397 = .ok (.baload, 1) := dw_51 (kcX7_witness_6 13 51 rfl)
theorem dX7_witness_398 : decode cX7_witness 398 = .ok (.ifCond .ne 43, 3) := dw_154 (kcX7_witness_6 14 154 rfl) (kcX7_witness_6 15 0 rfl) (kcX7_witness_6 16 43 rfl) rfl
theorem dX7_witness_441 : decode cX7_witness 441 = .ok (.iinc 10 1, 3) := dw_132 (kcX7_witness_6 57 132 rfl) (kcX7_witness_6 58 10 rfl) (kcX7_witness_6 59 1 rfl) rfl
theorem dX7_witness_444 : decode cX7_witness 444 = .ok (.goto (-63), 3) := dw_167 (kcX7_witness_6 60 167 rfl) (kcX7_witness_6 61 255 rfl) (kcX7_witness_6 62 193 rfl) rfl
theorem dX7_witness_401 : decode cX7_witness 401 = .ok (.aload_n 0, 1) := dw_42 (kcX7_witness_6 17 42 rfl)
theorem dX7_witness_402 : decode cX7_witness 402 = .ok (.iload 10, 2) := dw_21 (kcX7_witness_6 18 21 rfl) (kcX7_witness_6 19 10 rfl)
theorem dX7_witness_404 : decode cX7_witness 404 = .ok (.aload_n 0, 1) := dw_42 (kcX7_witness_6 20 42 rfl)
theorem dX7_witness_405 : decode cX7_witness 405 = .ok (.getfield 62, 3) := dw_180 (kcX7_witness_6 21 180 rfl) (kcX7_witness_6 22 0 rfl) (kcX7_witness_6 23 62 rfl) rfl
theorem dX7_witness_408 : decode cX7_witness 408 = .ok (.iload_n 2, 1) := dw_28 (kcX7_witness_6 24 28 rfl)
theorem dX7_witness_409 : decode cX7_witness 409 = .ok (.iaload, 1) := dw_46 (kcX7_witness_6 25 46 rfl)
theorem dX7_witness_410 : decode cX7_witness 410 = .ok (.invokevirtual 198, 3) := dw_182 (kcX7_witness_6 26 182 rfl) (kcX7_witness_6 27 0 rfl) (kcX7_witness_6 28 198 rfl) rfl
theorem dX7_witness_413 : decode cX7_witness 413 = .ok (.ifCond .eq 28, 3) := dw_153 (kcX7_witness_6 29 153 rfl) (kcX7_witness_6 30 0 rfl) (kcX7_witness_6 31 28 rfl) rfl
theorem dX7_witness_416 : decode cX7_witness 416 = .ok (.aload_n 0, 1) := dw_42 (kcX7_witness_6 32 42 rfl)
theorem dX7_witness_417 : decode cX7_witness 417 = .ok (.iload 8, 2) := dw_21 (kcX7_witness_6 33 21 rfl) (kcX7_witness_6 34 8 rfl)
theorem dX7_witness_419 : decode cX7_witness 419 = .ok (.iload 10, 2) := dw_21 (kcX7_witness_6 35 21 rfl) (kcX7_witness_6 36 10 rfl)
theorem dX7_witness_421 : decode cX7_witness 421 = .ok (.invokevirtual 201, 3) := dw_182 (kcX7_witness_6 37 182 rfl) (kcX7_witness_6 38 0 rfl) (kcX7_witness_6 39 201 rfl) rfl
theorem dX7_witness_424 : decode cX7_witness 424 = .ok (.ifCond .gt 6, 3) := dw_157 (kcX7_witness_6 40 157 rfl) (kcX7_witness_6 41 0 rfl) (kcX7_witness_6 42 6 rfl) rfl
theorem dX7_witness_430 : decode cX7_witness 430 = .ok (.aload_n 0, 1) := dw_42 (kcX7_witness_6 46 42 rfl)
theorem dX7_witness_431 : decode cX7_witness 431 = .ok (.getfield 80, 3) := dw_180 (kcX7_witness_6 47 180 rfl) (kcX7_witness_6 48 0 rfl) (kcX7_witness_6 49 80 rfl) rfl
theorem dX7_witness_434 : decode cX7_witness 434 = .ok (.iload 10, 2) := dw_21 (kcX7_witness_6 50 21 rfl) (kcX7_witness_6 51 10 rfl)
theorem dX7_witness_436 : decode cX7_witness 436 = .ok (.iconst 1, 1) := dw_4 (kcX7_witness_6 52 4 rfl)
theorem dX7_witness_437 : decode cX7_witness 437 = .ok (.bastore, 1) := dw_84 (kcX7_witness_6 53 84 rfl)
theorem dX7_witness_438 : decode cX7_witness 438 = .ok (.iconst 1, 1) := dw_4 (kcX7_witness_6 54 4 rfl)
theorem dX7_witness_439 : decode cX7_witness 439 = .ok (.istore 7, 2) := dw_54 (kcX7_witness_6 55 54 rfl) (kcX7_witness_6 56 7 rfl)
theorem dX7_witness_427 : decode cX7_witness 427 = .ok (.goto 14, 3) := dw_167 (kcX7_witness_6 43 167 rfl) (kcX7_witness_6 44 0 rfl) (kcX7_witness_6 45 14 rfl) rfl
theorem dX7_witness_369 : decode cX7_witness 369 = .ok (.bipush 12, 2) := dw_16 (kcX7_witness_5 49 16 rfl) (kcX7_witness_5 50 12 rfl) rfl
theorem dX7_witness_371 : decode cX7_witness 371 = .ok (.goto 4, 3) := dw_167 (kcX7_witness_5 51 167 rfl) (kcX7_witness_5 52 0 rfl) (kcX7_witness_5 53 4 rfl) rfl
theorem dX7_witness_359 : decode cX7_witness 359 = .ok (.goto 88, 3) := dw_167 (kcX7_witness_5 39 167 rfl) (kcX7_witness_5 40 0 rfl) (kcX7_witness_5 41 88 rfl) rfl
theorem dX7_witness_453 : decode cX7_witness 453 = .ok (.goto (-122), 3) := dw_167 (kcX7_witness_7 5 167 rfl) (kcX7_witness_7 6 255 rfl) (kcX7_witness_7 7 134 rfl) rfl
theorem dX7_witness_222 : decode cX7_witness 222 = .ok (.aload_n 0, 1) := dw_42 (kcX7_witness_3 30 42 rfl)
theorem dX7_witness_223 : decode cX7_witness 223 = .ok (.getfield 53, 3) := dw_180 (kcX7_witness_3 31 180 rfl) (kcX7_witness_3 32 0 rfl) (kcX7_witness_3 33 53 rfl) rfl
theorem dX7_witness_226 : decode cX7_witness 226 = .ok (.bipush 12, 2) := dw_16 (kcX7_witness_3 34 16 rfl) (kcX7_witness_3 35 12 rfl) rfl
theorem dX7_witness_228 : decode cX7_witness 228 = .ok (.iload_n 2, 1) := dw_28 (kcX7_witness_3 36 28 rfl)
theorem dX7_witness_229 : decode cX7_witness 229 = .ok (.imul, 1) := dw_104 (kcX7_witness_3 37 104 rfl)
theorem dX7_witness_230 : decode cX7_witness 230 = .ok (.iload_n 3, 1) := dw_29 (kcX7_witness_3 38 29 rfl)
theorem dX7_witness_231 : decode cX7_witness 231 = .ok (.iadd, 1) := dw_96 (kcX7_witness_3 39 96 rfl)
theorem dX7_witness_232 : decode cX7_witness 232 = .ok (.iaload, 1) := dw_46 (kcX7_witness_3 40 46 rfl)
theorem dX7_witness_233 : decode cX7_witness 233 = .ok (.ireturn, 1) := dw_172 (kcX7_witness_3 41 172 rfl)
theorem dX7_witness_18 : decode cX7_witness 18 = .ok (.iconst (-1), 1) := dw_2 (kcX7_witness_0 18 2 rfl)
theorem dX7_witness_19 : decode cX7_witness 19 = .ok (.ireturn, 1) := dw_172 (kcX7_witness_0 19 172 rfl)
theorem kcX7_seen_0 : CHb cX7_seen 0 [27, 155, 0, 34, 27, 42, 180, 0, 233, 162, 0, 26, 28, 155, 0, 22, 28, 42, 180, 0, 236, 162, 0, 14, 42, 180, 0, 77, 27, 46, 16, 254, 160, 0, 5, 2, 172, 42, 180, 0, 74, 16, 12, 27, 104, 28, 96, 46, 172] := CHb_of (by decide +kernel)
theorem dX7_seen_0 : decode cX7_seen 0 = .ok (.iload_n 1, 1) := dw_27 (kcX7_seen_0 0 27 rfl)
theorem dX7_seen_1 : decode cX7_seen 1 = .ok (.ifCond .lt 34, 3) := dw_155 (kcX7_seen_0 1 155 rfl) (kcX7_seen_0 2 0 rfl) (kcX7_seen_0 3 34 rfl) rfl
theorem dX7_seen_35 : decode cX7_seen 35 = .ok (.iconst (-1), 1) := dw_2 (kcX7_seen_0 35 2 rfl)
theorem dX7_seen_36 : decode cX7_seen 36 = .ok (.ireturn, 1) := dw_172 (kcX7_seen_0 36 172 rfl)
theorem dX7_seen_4 : decode cX7_seen 4 = .ok (.iload_n 1, 1) := dw_27 (kcX7_seen_0 4 27 rfl)
theorem dX7_seen_5 : decode cX7_seen 5 = .ok (.aload_n 0, 1) := dw_42 (kcX7_seen_0 5 42 rfl)
theorem dX7_seen_6 : decode cX7_seen 6 = .ok (.getfield 233, 3) := dw_180 (kcX7_seen_0 6 180 rfl) (kcX7_seen_0 7 0 rfl) (kcX7_seen_0 8 233 rfl) rfl
theorem dX7_seen_9 : decode cX7_seen 9 = .ok (.if_icmp .ge 26, 3) := dw_162 (kcX7_seen_0 9 162 rfl) (kcX7_seen_0 10 0 rfl) (kcX7_seen_0 11 26 rfl) rfl
theorem dX7_seen_12 : decode cX7_seen 12 = .ok (.iload_n 2, 1) := dw_28 (kcX7_seen_0 12 28 rfl)
theorem dX7_seen_13 : decode cX7_seen 13 = .ok (.ifCond .lt 22, 3) := dw_155 (kcX7_seen_0 13 155 rfl) (kcX7_seen_0 14 0 rfl) (kcX7_seen_0 15 22 rfl) rfl
theorem dX7_seen_16 : decode cX7_seen 16 = .ok (.iload_n 2, 1) := dw_28 (kcX7_seen_0 16 28 rfl)
theorem dX7_seen_17 : decode cX7_seen 17 = .ok (.aload_n 0, 1) := dw_42 (kcX7_seen_0 17 42 rfl)
theorem dX7_seen_18 : decode cX7_seen 18 = .ok (.getfield 236, 3) := dw_180 (kcX7_seen_0 18 180 rfl) (kcX7_seen_0 19 0 rfl) (kcX7_seen_0 20 236 rfl) rfl
theorem dX7_seen_21 : decode cX7_seen 21 = .ok (.if_icmp .ge 14, 3) := dw_162 (kcX7_seen_0 21 162 rfl) (kcX7_seen_0 22 0 rfl) (kcX7_seen_0 23 14 rfl) rfl
theorem dX7_seen_24 : decode cX7_seen 24 = .ok (.aload_n 0, 1) := dw_42 (kcX7_seen_0 24 42 rfl)
theorem dX7_seen_25 : decode cX7_seen 25 = .ok (.getfield 77, 3) := dw_180 (kcX7_seen_0 25 180 rfl) (kcX7_seen_0 26 0 rfl) (kcX7_seen_0 27 77 rfl) rfl
theorem dX7_seen_28 : decode cX7_seen 28 = .ok (.iload_n 1, 1) := dw_27 (kcX7_seen_0 28 27 rfl)
theorem dX7_seen_29 : decode cX7_seen 29 = .ok (.iaload, 1) := dw_46 (kcX7_seen_0 29 46 rfl)
theorem dX7_seen_30 : decode cX7_seen 30 = .ok (.bipush (-2), 2) := dw_16 (kcX7_seen_0 30 16 rfl) (kcX7_seen_0 31 254 rfl) rfl
theorem dX7_seen_32 : decode cX7_seen 32 = .ok (.if_icmp .ne 5, 3) := dw_160 (kcX7_seen_0 32 160 rfl) (kcX7_seen_0 33 0 rfl) (kcX7_seen_0 34 5 rfl) rfl
theorem dX7_seen_37 : decode cX7_seen 37 = .ok (.aload_n 0, 1) := dw_42 (kcX7_seen_0 37 42 rfl)
theorem dX7_seen_38 : decode cX7_seen 38 = .ok (.getfield 74, 3) := dw_180 (kcX7_seen_0 38 180 rfl) (kcX7_seen_0 39 0 rfl) (kcX7_seen_0 40 74 rfl) rfl
theorem dX7_seen_41 : decode cX7_seen 41 = .ok (.bipush 12, 2) := dw_16 (kcX7_seen_0 41 16 rfl) (kcX7_seen_0 42 12 rfl) rfl
theorem dX7_seen_43 : decode cX7_seen 43 = .ok (.iload_n 1, 1) := dw_27 (kcX7_seen_0 43 27 rfl)
theorem dX7_seen_44 : decode cX7_seen 44 = .ok (.imul, 1) := dw_104 (kcX7_seen_0 44 104 rfl)
theorem dX7_seen_45 : decode cX7_seen 45 = .ok (.iload_n 2, 1) := dw_28 (kcX7_seen_0 45 28 rfl)
theorem dX7_seen_46 : decode cX7_seen 46 = .ok (.iadd, 1) := dw_96 (kcX7_seen_0 46 96 rfl)
theorem dX7_seen_47 : decode cX7_seen 47 = .ok (.iaload, 1) := dw_46 (kcX7_seen_0 47 46 rfl)
theorem dX7_seen_48 : decode cX7_seen 48 = .ok (.ireturn, 1) := dw_172 (kcX7_seen_0 48 172 rfl)
theorem kcX7_rounded_0 : CHb cX7_rounded 0 [27, 155, 0, 34, 27, 42, 180, 1, 9, 162, 0, 26, 28, 155, 0, 22, 28, 42, 180, 1, 12, 162, 0, 14, 42, 180, 0, 95, 27, 46, 16, 254, 160, 0, 5, 2, 172, 42, 180, 0, 92, 16, 12, 27, 104, 28, 96, 46, 172] := CHb_of (by decide +kernel)
theorem dX7_rounded_0 : decode cX7_rounded 0 = .ok (.iload_n 1, 1) := dw_27 (kcX7_rounded_0 0 27 rfl)
theorem dX7_rounded_1 : decode cX7_rounded 1 = .ok (.ifCond .lt 34, 3) := dw_155 (kcX7_rounded_0 1 155 rfl) (kcX7_rounded_0 2 0 rfl) (kcX7_rounded_0 3 34 rfl) rfl
theorem dX7_rounded_35 : decode cX7_rounded 35 = .ok (.iconst (-1), 1) := dw_2 (kcX7_rounded_0 35 2 rfl)
theorem dX7_rounded_36 : decode cX7_rounded 36 = .ok (.ireturn, 1) := dw_172 (kcX7_rounded_0 36 172 rfl)
theorem dX7_rounded_4 : decode cX7_rounded 4 = .ok (.iload_n 1, 1) := dw_27 (kcX7_rounded_0 4 27 rfl)
theorem dX7_rounded_5 : decode cX7_rounded 5 = .ok (.aload_n 0, 1) := dw_42 (kcX7_rounded_0 5 42 rfl)
theorem dX7_rounded_6 : decode cX7_rounded 6 = .ok (.getfield 265, 3) := dw_180 (kcX7_rounded_0 6 180 rfl) (kcX7_rounded_0 7 1 rfl) (kcX7_rounded_0 8 9 rfl) rfl
theorem dX7_rounded_9 : decode cX7_rounded 9 = .ok (.if_icmp .ge 26, 3) := dw_162 (kcX7_rounded_0 9 162 rfl) (kcX7_rounded_0 10 0 rfl) (kcX7_rounded_0 11 26 rfl) rfl
theorem dX7_rounded_12 : decode cX7_rounded 12 = .ok (.iload_n 2, 1) := dw_28 (kcX7_rounded_0 12 28 rfl)
theorem dX7_rounded_13 : decode cX7_rounded 13 = .ok (.ifCond .lt 22, 3) := dw_155 (kcX7_rounded_0 13 155 rfl) (kcX7_rounded_0 14 0 rfl) (kcX7_rounded_0 15 22 rfl) rfl
theorem dX7_rounded_16 : decode cX7_rounded 16 = .ok (.iload_n 2, 1) := dw_28 (kcX7_rounded_0 16 28 rfl)
theorem dX7_rounded_17 : decode cX7_rounded 17 = .ok (.aload_n 0, 1) := dw_42 (kcX7_rounded_0 17 42 rfl)
theorem dX7_rounded_18 : decode cX7_rounded 18 = .ok (.getfield 268, 3) := dw_180 (kcX7_rounded_0 18 180 rfl) (kcX7_rounded_0 19 1 rfl) (kcX7_rounded_0 20 12 rfl) rfl
theorem dX7_rounded_21 : decode cX7_rounded 21 = .ok (.if_icmp .ge 14, 3) := dw_162 (kcX7_rounded_0 21 162 rfl) (kcX7_rounded_0 22 0 rfl) (kcX7_rounded_0 23 14 rfl) rfl
theorem dX7_rounded_24 : decode cX7_rounded 24 = .ok (.aload_n 0, 1) := dw_42 (kcX7_rounded_0 24 42 rfl)
theorem dX7_rounded_25 : decode cX7_rounded 25 = .ok (.getfield 95, 3) := dw_180 (kcX7_rounded_0 25 180 rfl) (kcX7_rounded_0 26 0 rfl) (kcX7_rounded_0 27 95 rfl) rfl
theorem dX7_rounded_28 : decode cX7_rounded 28 = .ok (.iload_n 1, 1) := dw_27 (kcX7_rounded_0 28 27 rfl)
theorem dX7_rounded_29 : decode cX7_rounded 29 = .ok (.iaload, 1) := dw_46 (kcX7_rounded_0 29 46 rfl)
theorem dX7_rounded_30 : decode cX7_rounded 30 = .ok (.bipush (-2), 2) := dw_16 (kcX7_rounded_0 30 16 rfl) (kcX7_rounded_0 31 254 rfl) rfl
theorem dX7_rounded_32 : decode cX7_rounded 32 = .ok (.if_icmp .ne 5, 3) := dw_160 (kcX7_rounded_0 32 160 rfl) (kcX7_rounded_0 33 0 rfl) (kcX7_rounded_0 34 5 rfl) rfl
theorem dX7_rounded_37 : decode cX7_rounded 37 = .ok (.aload_n 0, 1) := dw_42 (kcX7_rounded_0 37 42 rfl)
theorem dX7_rounded_38 : decode cX7_rounded 38 = .ok (.getfield 92, 3) := dw_180 (kcX7_rounded_0 38 180 rfl) (kcX7_rounded_0 39 0 rfl) (kcX7_rounded_0 40 92 rfl) rfl
theorem dX7_rounded_41 : decode cX7_rounded 41 = .ok (.bipush 12, 2) := dw_16 (kcX7_rounded_0 41 16 rfl) (kcX7_rounded_0 42 12 rfl) rfl
theorem dX7_rounded_43 : decode cX7_rounded 43 = .ok (.iload_n 1, 1) := dw_27 (kcX7_rounded_0 43 27 rfl)
theorem dX7_rounded_44 : decode cX7_rounded 44 = .ok (.imul, 1) := dw_104 (kcX7_rounded_0 44 104 rfl)
theorem dX7_rounded_45 : decode cX7_rounded 45 = .ok (.iload_n 2, 1) := dw_28 (kcX7_rounded_0 45 28 rfl)
theorem dX7_rounded_46 : decode cX7_rounded 46 = .ok (.iadd, 1) := dw_96 (kcX7_rounded_0 46 96 rfl)
theorem dX7_rounded_47 : decode cX7_rounded 47 = .ok (.iaload, 1) := dw_46 (kcX7_rounded_0 47 46 rfl)
theorem dX7_rounded_48 : decode cX7_rounded 48 = .ok (.ireturn, 1) := dw_172 (kcX7_rounded_0 48 172 rfl)
theorem kcX7_cut_0 : CHb cX7_cut 0 [28, 155, 0, 22, 28, 27, 153, 0, 10, 42, 180, 0, 233, 167, 0, 7, 42, 180, 0, 236, 161, 0, 5, 2, 172, 42, 180, 0, 80, 27, 153, 0, 7, 28, 167, 0, 7, 16, 12, 28, 96, 51, 153, 0, 7, 4, 167, 0, 4, 3, 172] := CHb_of (by decide +kernel)
theorem dX7_cut_0 : decode cX7_cut 0 = .ok (.iload_n 2, 1) := dw_28 (kcX7_cut_0 0 28 rfl)
theorem dX7_cut_1 : decode cX7_cut 1 = .ok (.ifCond .lt 22, 3) := dw_155 (kcX7_cut_0 1 155 rfl) (kcX7_cut_0 2 0 rfl) (kcX7_cut_0 3 22 rfl) rfl
theorem dX7_cut_23 : decode cX7_cut 23 = .ok (.iconst (-1), 1) := dw_2 (kcX7_cut_0 23 2 rfl)
theorem dX7_cut_24 : decode cX7_cut 24 = .ok (.ireturn, 1) := dw_172 (kcX7_cut_0 24 172 rfl)
theorem dX7_cut_4 : decode cX7_cut 4 = .ok (.iload_n 2, 1) := dw_28 (kcX7_cut_0 4 28 rfl)
theorem dX7_cut_5 : decode cX7_cut 5 = .ok (.iload_n 1, 1) := dw_27 (kcX7_cut_0 5 27 rfl)
theorem dX7_cut_6 : decode cX7_cut 6 = .ok (.ifCond .eq 10, 3) := dw_153 (kcX7_cut_0 6 153 rfl) (kcX7_cut_0 7 0 rfl) (kcX7_cut_0 8 10 rfl) rfl
theorem dX7_cut_16 : decode cX7_cut 16 = .ok (.aload_n 0, 1) := dw_42 (kcX7_cut_0 16 42 rfl)
theorem dX7_cut_17 : decode cX7_cut 17 = .ok (.getfield 236, 3) := dw_180 (kcX7_cut_0 17 180 rfl) (kcX7_cut_0 18 0 rfl) (kcX7_cut_0 19 236 rfl) rfl
theorem dX7_cut_9 : decode cX7_cut 9 = .ok (.aload_n 0, 1) := dw_42 (kcX7_cut_0 9 42 rfl)
theorem dX7_cut_10 : decode cX7_cut 10 = .ok (.getfield 233, 3) := dw_180 (kcX7_cut_0 10 180 rfl) (kcX7_cut_0 11 0 rfl) (kcX7_cut_0 12 233 rfl) rfl
theorem dX7_cut_13 : decode cX7_cut 13 = .ok (.goto 7, 3) := dw_167 (kcX7_cut_0 13 167 rfl) (kcX7_cut_0 14 0 rfl) (kcX7_cut_0 15 7 rfl) rfl
theorem dX7_cut_20 : decode cX7_cut 20 = .ok (.if_icmp .lt 5, 3) := dw_161 (kcX7_cut_0 20 161 rfl) (kcX7_cut_0 21 0 rfl) (kcX7_cut_0 22 5 rfl) rfl
theorem dX7_cut_25 : decode cX7_cut 25 = .ok (.aload_n 0, 1) := dw_42 (kcX7_cut_0 25 42 rfl)
theorem dX7_cut_26 : decode cX7_cut 26 = .ok (.getfield 80, 3) := dw_180 (kcX7_cut_0 26 180 rfl) (kcX7_cut_0 27 0 rfl) (kcX7_cut_0 28 80 rfl) rfl
theorem dX7_cut_29 : decode cX7_cut 29 = .ok (.iload_n 1, 1) := dw_27 (kcX7_cut_0 29 27 rfl)
theorem dX7_cut_30 : decode cX7_cut 30 = .ok (.ifCond .eq 7, 3) := dw_153 (kcX7_cut_0 30 153 rfl) (kcX7_cut_0 31 0 rfl) (kcX7_cut_0 32 7 rfl) rfl
theorem dX7_cut_37 : decode cX7_cut 37 = .ok (.bipush 12, 2) := dw_16 (kcX7_cut_0 37 16 rfl) (kcX7_cut_0 38 12 rfl) rfl
theorem dX7_cut_39 : decode cX7_cut 39 = .ok (.iload_n 2, 1) := dw_28 (kcX7_cut_0 39 28 rfl)
theorem dX7_cut_40 : decode cX7_cut 40 = .ok (.iadd, 1) := dw_96 (kcX7_cut_0 40 96 rfl)
theorem dX7_cut_33 : decode cX7_cut 33 = .ok (.iload_n 2, 1) := dw_28 (kcX7_cut_0 33 28 rfl)
theorem dX7_cut_34 : decode cX7_cut 34 = .ok (.goto 7, 3) := dw_167 (kcX7_cut_0 34 167 rfl) (kcX7_cut_0 35 0 rfl) (kcX7_cut_0 36 7 rfl) rfl
theorem dX7_cut_41 : decode cX7_cut 41 = .ok (.baload, 1) := dw_51 (kcX7_cut_0 41 51 rfl)
theorem dX7_cut_42 : decode cX7_cut 42 = .ok (.ifCond .eq 7, 3) := dw_153 (kcX7_cut_0 42 153 rfl) (kcX7_cut_0 43 0 rfl) (kcX7_cut_0 44 7 rfl) rfl
theorem dX7_cut_49 : decode cX7_cut 49 = .ok (.iconst 0, 1) := dw_3 (kcX7_cut_0 49 3 rfl)
theorem dX7_cut_50 : decode cX7_cut 50 = .ok (.ireturn, 1) := dw_172 (kcX7_cut_0 50 172 rfl)
theorem dX7_cut_45 : decode cX7_cut 45 = .ok (.iconst 1, 1) := dw_4 (kcX7_cut_0 45 4 rfl)
theorem dX7_cut_46 : decode cX7_cut 46 = .ok (.goto 4, 3) := dw_167 (kcX7_cut_0 46 167 rfl) (kcX7_cut_0 47 0 rfl) (kcX7_cut_0 48 4 rfl) rfl
theorem kcX7_tells_0 : CHb cX7_tells 0 [42, 27, 28, 182, 0, 181, 153, 0, 7, 3, 167, 0, 4, 4, 62, 42, 180, 0, 38, 28, 4, 84, 29, 172] := CHb_of (by decide +kernel)
theorem dX7_tells_0 : decode cX7_tells 0 = .ok (.aload_n 0, 1) := dw_42 (kcX7_tells_0 0 42 rfl)
theorem dX7_tells_1 : decode cX7_tells 1 = .ok (.iload_n 1, 1) := dw_27 (kcX7_tells_0 1 27 rfl)
theorem dX7_tells_2 : decode cX7_tells 2 = .ok (.iload_n 2, 1) := dw_28 (kcX7_tells_0 2 28 rfl)
theorem dX7_tells_3 : decode cX7_tells 3 = .ok (.invokevirtual 181, 3) := dw_182 (kcX7_tells_0 3 182 rfl) (kcX7_tells_0 4 0 rfl) (kcX7_tells_0 5 181 rfl) rfl
theorem dX7_tells_6 : decode cX7_tells 6 = .ok (.ifCond .eq 7, 3) := dw_153 (kcX7_tells_0 6 153 rfl) (kcX7_tells_0 7 0 rfl) (kcX7_tells_0 8 7 rfl) rfl
theorem dX7_tells_13 : decode cX7_tells 13 = .ok (.iconst 1, 1) := dw_4 (kcX7_tells_0 13 4 rfl)
theorem dX7_tells_14 : decode cX7_tells 14 = .ok (.istore_n 3, 1) := dw_62 (kcX7_tells_0 14 62 rfl)
theorem dX7_tells_15 : decode cX7_tells 15 = .ok (.aload_n 0, 1) := dw_42 (kcX7_tells_0 15 42 rfl)
theorem dX7_tells_16 : decode cX7_tells 16 = .ok (.getfield 38, 3) := dw_180 (kcX7_tells_0 16 180 rfl) (kcX7_tells_0 17 0 rfl) (kcX7_tells_0 18 38 rfl) rfl
theorem dX7_tells_19 : decode cX7_tells 19 = .ok (.iload_n 2, 1) := dw_28 (kcX7_tells_0 19 28 rfl)
theorem dX7_tells_20 : decode cX7_tells 20 = .ok (.iconst 1, 1) := dw_4 (kcX7_tells_0 20 4 rfl)
theorem dX7_tells_21 : decode cX7_tells 21 = .ok (.bastore, 1) := dw_84 (kcX7_tells_0 21 84 rfl)
theorem dX7_tells_22 : decode cX7_tells 22 = .ok (.iload_n 3, 1) := dw_29 (kcX7_tells_0 22 29 rfl)
theorem dX7_tells_23 : decode cX7_tells 23 = .ok (.ireturn, 1) := dw_172 (kcX7_tells_0 23 172 rfl)
theorem dX7_tells_9 : decode cX7_tells 9 = .ok (.iconst 0, 1) := dw_3 (kcX7_tells_0 9 3 rfl)
theorem dX7_tells_10 : decode cX7_tells 10 = .ok (.goto 4, 3) := dw_167 (kcX7_tells_0 10 167 rfl) (kcX7_tells_0 11 0 rfl) (kcX7_tells_0 12 4 rfl) rfl
theorem kcX7_guard_0 : CHb cX7_guard 0 [2, 54, 4, 3, 54, 5, 3, 54, 6, 3, 54, 7, 21, 7, 42, 180, 0, 13, 27, 46, 162, 1, 5, 21, 7, 28, 159, 0, 249, 42, 27, 21, 7, 182, 0, 161, 153, 0, 239, 42, 27, 21, 7, 182, 0, 168, 42, 27, 28, 182, 0, 168, 159, 0, 6, 167, 0, 220, 3, 54, 8, 21, 8, 42] := CHb_of (by decide +kernel)
theorem dX7_guard_0 : decode cX7_guard 0 = .ok (.iconst (-1), 1) := dw_2 (kcX7_guard_0 0 2 rfl)
theorem dX7_guard_1 : decode cX7_guard 1 = .ok (.istore 4, 2) := dw_54 (kcX7_guard_0 1 54 rfl) (kcX7_guard_0 2 4 rfl)
theorem dX7_guard_3 : decode cX7_guard 3 = .ok (.iconst 0, 1) := dw_3 (kcX7_guard_0 3 3 rfl)
theorem dX7_guard_4 : decode cX7_guard 4 = .ok (.istore 5, 2) := dw_54 (kcX7_guard_0 4 54 rfl) (kcX7_guard_0 5 5 rfl)
theorem dX7_guard_6 : decode cX7_guard 6 = .ok (.iconst 0, 1) := dw_3 (kcX7_guard_0 6 3 rfl)
theorem dX7_guard_7 : decode cX7_guard 7 = .ok (.istore 6, 2) := dw_54 (kcX7_guard_0 7 54 rfl) (kcX7_guard_0 8 6 rfl)
theorem dX7_guard_9 : decode cX7_guard 9 = .ok (.iconst 0, 1) := dw_3 (kcX7_guard_0 9 3 rfl)
theorem dX7_guard_10 : decode cX7_guard 10 = .ok (.istore 7, 2) := dw_54 (kcX7_guard_0 10 54 rfl) (kcX7_guard_0 11 7 rfl)
theorem dX7_guard_12 : decode cX7_guard 12 = .ok (.iload 7, 2) := dw_21 (kcX7_guard_0 12 21 rfl) (kcX7_guard_0 13 7 rfl)
theorem dX7_guard_14 : decode cX7_guard 14 = .ok (.aload_n 0, 1) := dw_42 (kcX7_guard_0 14 42 rfl)
theorem dX7_guard_15 : decode cX7_guard 15 = .ok (.getfield 13, 3) := dw_180 (kcX7_guard_0 15 180 rfl) (kcX7_guard_0 16 0 rfl) (kcX7_guard_0 17 13 rfl) rfl
theorem dX7_guard_18 : decode cX7_guard 18 = .ok (.iload_n 1, 1) := dw_27 (kcX7_guard_0 18 27 rfl)
theorem dX7_guard_19 : decode cX7_guard 19 = .ok (.iaload, 1) := dw_46 (kcX7_guard_0 19 46 rfl)
theorem dX7_guard_20 : decode cX7_guard 20 = .ok (.if_icmp .ge 261, 3) := dw_162 (kcX7_guard_0 20 162 rfl) (kcX7_guard_0 21 1 rfl) (kcX7_guard_0 22 5 rfl) rfl
theorem dX7_guard_23 : decode cX7_guard 23 = .ok (.iload 7, 2) := dw_21 (kcX7_guard_0 23 21 rfl) (kcX7_guard_0 24 7 rfl)
theorem dX7_guard_25 : decode cX7_guard 25 = .ok (.iload_n 2, 1) := dw_28 (kcX7_guard_0 25 28 rfl)
theorem dX7_guard_26 : decode cX7_guard 26 = .ok (.if_icmp .eq 249, 3) := dw_159 (kcX7_guard_0 26 159 rfl) (kcX7_guard_0 27 0 rfl) (kcX7_guard_0 28 249 rfl) rfl
theorem kcX7_guard_4 : CHb cX7_guard 256 [15, 21, 12, 54, 4, 21, 7, 54, 5, 21, 8, 54, 6, 132, 8, 1, 167, 255, 45, 132, 7, 1, 167, 254, 246, 21, 4, 156, 0, 7, 3, 167, 0, 42, 42, 27, 27, 28, 21, 6, 184, 0, 147, 182, 0, 245, 42, 27, 27, 21, 5, 29, 184, 0, 147, 182, 0, 245, 96, 42, 27, 27, 21, 5] := CHb_of (by decide +kernel)
theorem dX7_guard_275 : decode cX7_guard 275 = .ok (.iinc 7 1, 3) := dw_132 (kcX7_guard_4 19 132 rfl) (kcX7_guard_4 20 7 rfl) (kcX7_guard_4 21 1 rfl) rfl
theorem dX7_guard_278 : decode cX7_guard 278 = .ok (.goto (-266), 3) := dw_167 (kcX7_guard_4 22 167 rfl) (kcX7_guard_4 23 254 rfl) (kcX7_guard_4 24 246 rfl) rfl
theorem dX7_guard_29 : decode cX7_guard 29 = .ok (.aload_n 0, 1) := dw_42 (kcX7_guard_0 29 42 rfl)
theorem dX7_guard_30 : decode cX7_guard 30 = .ok (.iload_n 1, 1) := dw_27 (kcX7_guard_0 30 27 rfl)
theorem dX7_guard_31 : decode cX7_guard 31 = .ok (.iload 7, 2) := dw_21 (kcX7_guard_0 31 21 rfl) (kcX7_guard_0 32 7 rfl)
theorem dX7_guard_33 : decode cX7_guard 33 = .ok (.invokevirtual 161, 3) := dw_182 (kcX7_guard_0 33 182 rfl) (kcX7_guard_0 34 0 rfl) (kcX7_guard_0 35 161 rfl) rfl
theorem dX7_guard_36 : decode cX7_guard 36 = .ok (.ifCond .eq 239, 3) := dw_153 (kcX7_guard_0 36 153 rfl) (kcX7_guard_0 37 0 rfl) (kcX7_guard_0 38 239 rfl) rfl
theorem dX7_guard_39 : decode cX7_guard 39 = .ok (.aload_n 0, 1) := dw_42 (kcX7_guard_0 39 42 rfl)
theorem dX7_guard_40 : decode cX7_guard 40 = .ok (.iload_n 1, 1) := dw_27 (kcX7_guard_0 40 27 rfl)
theorem dX7_guard_41 : decode cX7_guard 41 = .ok (.iload 7, 2) := dw_21 (kcX7_guard_0 41 21 rfl) (kcX7_guard_0 42 7 rfl)
theorem dX7_guard_43 : decode cX7_guard 43 = .ok (.invokevirtual 168, 3) := dw_182 (kcX7_guard_0 43 182 rfl) (kcX7_guard_0 44 0 rfl) (kcX7_guard_0 45 168 rfl) rfl
theorem dX7_guard_46 : decode cX7_guard 46 = .ok (.aload_n 0, 1) := dw_42 (kcX7_guard_0 46 42 rfl)
theorem dX7_guard_47 : decode cX7_guard 47 = .ok (.iload_n 1, 1) := dw_27 (kcX7_guard_0 47 27 rfl)
theorem dX7_guard_48 : decode cX7_guard 48 = .ok (.iload_n 2, 1) := dw_28 (kcX7_guard_0 48 28 rfl)
theorem dX7_guard_49 : decode cX7_guard 49 = .ok (.invokevirtual 168, 3) := dw_182 (kcX7_guard_0 49 182 rfl) (kcX7_guard_0 50 0 rfl) (kcX7_guard_0 51 168 rfl) rfl
theorem dX7_guard_52 : decode cX7_guard 52 = .ok (.if_icmp .eq 6, 3) := dw_159 (kcX7_guard_0 52 159 rfl) (kcX7_guard_0 53 0 rfl) (kcX7_guard_0 54 6 rfl) rfl
theorem dX7_guard_58 : decode cX7_guard 58 = .ok (.iconst 0, 1) := dw_3 (kcX7_guard_0 58 3 rfl)
theorem dX7_guard_59 : decode cX7_guard 59 = .ok (.istore 8, 2) := dw_54 (kcX7_guard_0 59 54 rfl) (kcX7_guard_0 60 8 rfl)
theorem dX7_guard_61 : decode cX7_guard 61 = .ok (.iload 8, 2) := dw_21 (kcX7_guard_0 61 21 rfl) (kcX7_guard_0 62 8 rfl)
theorem dX7_guard_63 : decode cX7_guard 63 = .ok (.aload_n 0, 1) := dw_42 (kcX7_guard_0 63 42 rfl)
theorem kcX7_guard_1 : CHb cX7_guard 64 [180, 0, 17, 27, 46, 162, 0, 206, 21, 8, 29, 160, 0, 6, 167, 0, 191, 27, 28, 21, 8, 184, 0, 147, 54, 9, 27, 21, 7, 29, 184, 0, 147, 54, 10, 27, 21, 7, 21, 8, 184, 0, 147, 54, 11, 42, 180, 0, 23, 21, 9, 46, 7, 159, 0, 152, 42, 180, 0, 23, 21, 10, 46, 7] := CHb_of (by decide +kernel)
theorem dX7_guard_64 : decode cX7_guard 64 = .ok (.getfield 17, 3) := dw_180 (kcX7_guard_1 0 180 rfl) (kcX7_guard_1 1 0 rfl) (kcX7_guard_1 2 17 rfl) rfl
theorem dX7_guard_67 : decode cX7_guard 67 = .ok (.iload_n 1, 1) := dw_27 (kcX7_guard_1 3 27 rfl)
theorem dX7_guard_68 : decode cX7_guard 68 = .ok (.iaload, 1) := dw_46 (kcX7_guard_1 4 46 rfl)
theorem dX7_guard_69 : decode cX7_guard 69 = .ok (.if_icmp .ge 206, 3) := dw_162 (kcX7_guard_1 5 162 rfl) (kcX7_guard_1 6 0 rfl) (kcX7_guard_1 7 206 rfl) rfl
theorem dX7_guard_72 : decode cX7_guard 72 = .ok (.iload 8, 2) := dw_21 (kcX7_guard_1 8 21 rfl) (kcX7_guard_1 9 8 rfl)
theorem dX7_guard_74 : decode cX7_guard 74 = .ok (.iload_n 3, 1) := dw_29 (kcX7_guard_1 10 29 rfl)
theorem dX7_guard_75 : decode cX7_guard 75 = .ok (.if_icmp .ne 6, 3) := dw_160 (kcX7_guard_1 11 160 rfl) (kcX7_guard_1 12 0 rfl) (kcX7_guard_1 13 6 rfl) rfl
theorem dX7_guard_81 : decode cX7_guard 81 = .ok (.iload_n 1, 1) := dw_27 (kcX7_guard_1 17 27 rfl)
theorem dX7_guard_82 : decode cX7_guard 82 = .ok (.iload_n 2, 1) := dw_28 (kcX7_guard_1 18 28 rfl)
theorem dX7_guard_83 : decode cX7_guard 83 = .ok (.iload 8, 2) := dw_21 (kcX7_guard_1 19 21 rfl) (kcX7_guard_1 20 8 rfl)
theorem dX7_guard_85 : decode cX7_guard 85 = .ok (.invokestatic 147, 3) := dw_184 (kcX7_guard_1 21 184 rfl) (kcX7_guard_1 22 0 rfl) (kcX7_guard_1 23 147 rfl) rfl
theorem dX7_guard_88 : decode cX7_guard 88 = .ok (.istore 9, 2) := dw_54 (kcX7_guard_1 24 54 rfl) (kcX7_guard_1 25 9 rfl)
theorem dX7_guard_90 : decode cX7_guard 90 = .ok (.iload_n 1, 1) := dw_27 (kcX7_guard_1 26 27 rfl)
theorem dX7_guard_91 : decode cX7_guard 91 = .ok (.iload 7, 2) := dw_21 (kcX7_guard_1 27 21 rfl) (kcX7_guard_1 28 7 rfl)
theorem dX7_guard_93 : decode cX7_guard 93 = .ok (.iload_n 3, 1) := dw_29 (kcX7_guard_1 29 29 rfl)
theorem dX7_guard_94 : decode cX7_guard 94 = .ok (.invokestatic 147, 3) := dw_184 (kcX7_guard_1 30 184 rfl) (kcX7_guard_1 31 0 rfl) (kcX7_guard_1 32 147 rfl) rfl
theorem dX7_guard_97 : decode cX7_guard 97 = .ok (.istore 10, 2) := dw_54 (kcX7_guard_1 33 54 rfl) (kcX7_guard_1 34 10 rfl)
theorem dX7_guard_99 : decode cX7_guard 99 = .ok (.iload_n 1, 1) := dw_27 (kcX7_guard_1 35 27 rfl)
theorem dX7_guard_100 : decode cX7_guard 100 = .ok (.iload 7, 2) := dw_21 (kcX7_guard_1 36 21 rfl) (kcX7_guard_1 37 7 rfl)
theorem dX7_guard_102 : decode cX7_guard 102 = .ok (.iload 8, 2) := dw_21 (kcX7_guard_1 38 21 rfl) (kcX7_guard_1 39 8 rfl)
theorem dX7_guard_104 : decode cX7_guard 104 = .ok (.invokestatic 147, 3) := dw_184 (kcX7_guard_1 40 184 rfl) (kcX7_guard_1 41 0 rfl) (kcX7_guard_1 42 147 rfl) rfl
theorem dX7_guard_107 : decode cX7_guard 107 = .ok (.istore 11, 2) := dw_54 (kcX7_guard_1 43 54 rfl) (kcX7_guard_1 44 11 rfl)
theorem dX7_guard_109 : decode cX7_guard 109 = .ok (.aload_n 0, 1) := dw_42 (kcX7_guard_1 45 42 rfl)
theorem dX7_guard_110 : decode cX7_guard 110 = .ok (.getfield 23, 3) := dw_180 (kcX7_guard_1 46 180 rfl) (kcX7_guard_1 47 0 rfl) (kcX7_guard_1 48 23 rfl) rfl
theorem dX7_guard_113 : decode cX7_guard 113 = .ok (.iload 9, 2) := dw_21 (kcX7_guard_1 49 21 rfl) (kcX7_guard_1 50 9 rfl)
theorem dX7_guard_115 : decode cX7_guard 115 = .ok (.iaload, 1) := dw_46 (kcX7_guard_1 51 46 rfl)
theorem dX7_guard_116 : decode cX7_guard 116 = .ok (.iconst 4, 1) := dw_7 (kcX7_guard_1 52 7 rfl)
theorem dX7_guard_117 : decode cX7_guard 117 = .ok (.if_icmp .eq 152, 3) := dw_159 (kcX7_guard_1 53 159 rfl) (kcX7_guard_1 54 0 rfl) (kcX7_guard_1 55 152 rfl) rfl
theorem dX7_guard_269 : decode cX7_guard 269 = .ok (.iinc 8 1, 3) := dw_132 (kcX7_guard_4 13 132 rfl) (kcX7_guard_4 14 8 rfl) (kcX7_guard_4 15 1 rfl) rfl
theorem dX7_guard_272 : decode cX7_guard 272 = .ok (.goto (-211), 3) := dw_167 (kcX7_guard_4 16 167 rfl) (kcX7_guard_4 17 255 rfl) (kcX7_guard_4 18 45 rfl) rfl
theorem dX7_guard_120 : decode cX7_guard 120 = .ok (.aload_n 0, 1) := dw_42 (kcX7_guard_1 56 42 rfl)
theorem dX7_guard_121 : decode cX7_guard 121 = .ok (.getfield 23, 3) := dw_180 (kcX7_guard_1 57 180 rfl) (kcX7_guard_1 58 0 rfl) (kcX7_guard_1 59 23 rfl) rfl
theorem dX7_guard_124 : decode cX7_guard 124 = .ok (.iload 10, 2) := dw_21 (kcX7_guard_1 60 21 rfl) (kcX7_guard_1 61 10 rfl)
theorem dX7_guard_126 : decode cX7_guard 126 = .ok (.iaload, 1) := dw_46 (kcX7_guard_1 62 46 rfl)
theorem dX7_guard_127 : decode cX7_guard 127 = .ok (.iconst 4, 1) := dw_7 (kcX7_guard_1 63 7 rfl)
theorem kcX7_guard_2 : CHb cX7_guard 128 [159, 0, 141, 42, 180, 0, 23, 21, 11, 46, 7, 159, 0, 130, 42, 27, 21, 9, 182, 0, 181, 153, 0, 26, 42, 27, 21, 10, 182, 0, 181, 153, 0, 16, 42, 27, 21, 11, 182, 0, 181, 153, 0, 6, 167, 0, 97, 42, 27, 21, 9, 182, 0, 181, 153, 0, 7, 3, 167, 0, 10, 42, 27, 21] := CHb_of (by decide +kernel)
theorem dX7_guard_128 : decode cX7_guard 128 = .ok (.if_icmp .eq 141, 3) := dw_159 (kcX7_guard_2 0 159 rfl) (kcX7_guard_2 1 0 rfl) (kcX7_guard_2 2 141 rfl) rfl
theorem dX7_guard_131 : decode cX7_guard 131 = .ok (.aload_n 0, 1) := dw_42 (kcX7_guard_2 3 42 rfl)
theorem dX7_guard_132 : decode cX7_guard 132 = .ok (.getfield 23, 3) := dw_180 (kcX7_guard_2 4 180 rfl) (kcX7_guard_2 5 0 rfl) (kcX7_guard_2 6 23 rfl) rfl
theorem dX7_guard_135 : decode cX7_guard 135 = .ok (.iload 11, 2) := dw_21 (kcX7_guard_2 7 21 rfl) (kcX7_guard_2 8 11 rfl)
theorem dX7_guard_137 : decode cX7_guard 137 = .ok (.iaload, 1) := dw_46 (kcX7_guard_2 9 46 rfl)
theorem dX7_guard_138 : decode cX7_guard 138 = .ok (.iconst 4, 1) := dw_7 (kcX7_guard_2 10 7 rfl)
theorem dX7_guard_139 : decode cX7_guard 139 = .ok (.if_icmp .eq 130, 3) := dw_159 (kcX7_guard_2 11 159 rfl) (kcX7_guard_2 12 0 rfl) (kcX7_guard_2 13 130 rfl) rfl
theorem dX7_guard_142 : decode cX7_guard 142 = .ok (.aload_n 0, 1) := dw_42 (kcX7_guard_2 14 42 rfl)
theorem dX7_guard_143 : decode cX7_guard 143 = .ok (.iload_n 1, 1) := dw_27 (kcX7_guard_2 15 27 rfl)
theorem dX7_guard_144 : decode cX7_guard 144 = .ok (.iload 9, 2) := dw_21 (kcX7_guard_2 16 21 rfl) (kcX7_guard_2 17 9 rfl)
theorem dX7_guard_146 : decode cX7_guard 146 = .ok (.invokevirtual 181, 3) := dw_182 (kcX7_guard_2 18 182 rfl) (kcX7_guard_2 19 0 rfl) (kcX7_guard_2 20 181 rfl) rfl
theorem dX7_guard_149 : decode cX7_guard 149 = .ok (.ifCond .eq 26, 3) := dw_153 (kcX7_guard_2 21 153 rfl) (kcX7_guard_2 22 0 rfl) (kcX7_guard_2 23 26 rfl) rfl
theorem dX7_guard_152 : decode cX7_guard 152 = .ok (.aload_n 0, 1) := dw_42 (kcX7_guard_2 24 42 rfl)
theorem dX7_guard_153 : decode cX7_guard 153 = .ok (.iload_n 1, 1) := dw_27 (kcX7_guard_2 25 27 rfl)
theorem dX7_guard_154 : decode cX7_guard 154 = .ok (.iload 10, 2) := dw_21 (kcX7_guard_2 26 21 rfl) (kcX7_guard_2 27 10 rfl)
theorem dX7_guard_156 : decode cX7_guard 156 = .ok (.invokevirtual 181, 3) := dw_182 (kcX7_guard_2 28 182 rfl) (kcX7_guard_2 29 0 rfl) (kcX7_guard_2 30 181 rfl) rfl
theorem dX7_guard_159 : decode cX7_guard 159 = .ok (.ifCond .eq 16, 3) := dw_153 (kcX7_guard_2 31 153 rfl) (kcX7_guard_2 32 0 rfl) (kcX7_guard_2 33 16 rfl) rfl
theorem dX7_guard_162 : decode cX7_guard 162 = .ok (.aload_n 0, 1) := dw_42 (kcX7_guard_2 34 42 rfl)
theorem dX7_guard_163 : decode cX7_guard 163 = .ok (.iload_n 1, 1) := dw_27 (kcX7_guard_2 35 27 rfl)
theorem dX7_guard_164 : decode cX7_guard 164 = .ok (.iload 11, 2) := dw_21 (kcX7_guard_2 36 21 rfl) (kcX7_guard_2 37 11 rfl)
theorem dX7_guard_166 : decode cX7_guard 166 = .ok (.invokevirtual 181, 3) := dw_182 (kcX7_guard_2 38 182 rfl) (kcX7_guard_2 39 0 rfl) (kcX7_guard_2 40 181 rfl) rfl
theorem dX7_guard_169 : decode cX7_guard 169 = .ok (.ifCond .eq 6, 3) := dw_153 (kcX7_guard_2 41 153 rfl) (kcX7_guard_2 42 0 rfl) (kcX7_guard_2 43 6 rfl) rfl
theorem dX7_guard_172 : decode cX7_guard 172 = .ok (.goto 97, 3) := dw_167 (kcX7_guard_2 44 167 rfl) (kcX7_guard_2 45 0 rfl) (kcX7_guard_2 46 97 rfl) rfl
theorem dX7_guard_175 : decode cX7_guard 175 = .ok (.aload_n 0, 1) := dw_42 (kcX7_guard_2 47 42 rfl)
theorem dX7_guard_176 : decode cX7_guard 176 = .ok (.iload_n 1, 1) := dw_27 (kcX7_guard_2 48 27 rfl)
theorem dX7_guard_177 : decode cX7_guard 177 = .ok (.iload 9, 2) := dw_21 (kcX7_guard_2 49 21 rfl) (kcX7_guard_2 50 9 rfl)
theorem dX7_guard_179 : decode cX7_guard 179 = .ok (.invokevirtual 181, 3) := dw_182 (kcX7_guard_2 51 182 rfl) (kcX7_guard_2 52 0 rfl) (kcX7_guard_2 53 181 rfl) rfl
theorem dX7_guard_182 : decode cX7_guard 182 = .ok (.ifCond .eq 7, 3) := dw_153 (kcX7_guard_2 54 153 rfl) (kcX7_guard_2 55 0 rfl) (kcX7_guard_2 56 7 rfl) rfl
theorem dX7_guard_189 : decode cX7_guard 189 = .ok (.aload_n 0, 1) := dw_42 (kcX7_guard_2 61 42 rfl)
theorem dX7_guard_190 : decode cX7_guard 190 = .ok (.iload_n 1, 1) := dw_27 (kcX7_guard_2 62 27 rfl)
theorem kcX7_guard_3 : CHb cX7_guard 192 [9, 182, 0, 242, 42, 27, 21, 10, 182, 0, 181, 153, 0, 7, 3, 167, 0, 10, 42, 27, 21, 10, 182, 0, 242, 96, 42, 27, 21, 11, 182, 0, 181, 153, 0, 7, 3, 167, 0, 10, 42, 27, 21, 11, 182, 0, 242, 96, 54, 12, 21, 4, 155, 0, 13, 21, 12, 21, 4, 161, 0, 6, 167, 0] := CHb_of (by decide +kernel)
theorem dX7_guard_191 : decode cX7_guard 191 = .ok (.iload 9, 2) := dw_21 (kcX7_guard_2 63 21 rfl) (kcX7_guard_3 0 9 rfl)
theorem dX7_guard_193 : decode cX7_guard 193 = .ok (.invokevirtual 242, 3) := dw_182 (kcX7_guard_3 1 182 rfl) (kcX7_guard_3 2 0 rfl) (kcX7_guard_3 3 242 rfl) rfl
theorem dX7_guard_185 : decode cX7_guard 185 = .ok (.iconst 0, 1) := dw_3 (kcX7_guard_2 57 3 rfl)
theorem dX7_guard_186 : decode cX7_guard 186 = .ok (.goto 10, 3) := dw_167 (kcX7_guard_2 58 167 rfl) (kcX7_guard_2 59 0 rfl) (kcX7_guard_2 60 10 rfl) rfl
theorem dX7_guard_196 : decode cX7_guard 196 = .ok (.aload_n 0, 1) := dw_42 (kcX7_guard_3 4 42 rfl)
theorem dX7_guard_197 : decode cX7_guard 197 = .ok (.iload_n 1, 1) := dw_27 (kcX7_guard_3 5 27 rfl)
theorem dX7_guard_198 : decode cX7_guard 198 = .ok (.iload 10, 2) := dw_21 (kcX7_guard_3 6 21 rfl) (kcX7_guard_3 7 10 rfl)
theorem dX7_guard_200 : decode cX7_guard 200 = .ok (.invokevirtual 181, 3) := dw_182 (kcX7_guard_3 8 182 rfl) (kcX7_guard_3 9 0 rfl) (kcX7_guard_3 10 181 rfl) rfl
theorem dX7_guard_203 : decode cX7_guard 203 = .ok (.ifCond .eq 7, 3) := dw_153 (kcX7_guard_3 11 153 rfl) (kcX7_guard_3 12 0 rfl) (kcX7_guard_3 13 7 rfl) rfl
theorem dX7_guard_210 : decode cX7_guard 210 = .ok (.aload_n 0, 1) := dw_42 (kcX7_guard_3 18 42 rfl)
theorem dX7_guard_211 : decode cX7_guard 211 = .ok (.iload_n 1, 1) := dw_27 (kcX7_guard_3 19 27 rfl)
theorem dX7_guard_212 : decode cX7_guard 212 = .ok (.iload 10, 2) := dw_21 (kcX7_guard_3 20 21 rfl) (kcX7_guard_3 21 10 rfl)
theorem dX7_guard_214 : decode cX7_guard 214 = .ok (.invokevirtual 242, 3) := dw_182 (kcX7_guard_3 22 182 rfl) (kcX7_guard_3 23 0 rfl) (kcX7_guard_3 24 242 rfl) rfl
theorem dX7_guard_206 : decode cX7_guard 206 = .ok (.iconst 0, 1) := dw_3 (kcX7_guard_3 14 3 rfl)
theorem dX7_guard_207 : decode cX7_guard 207 = .ok (.goto 10, 3) := dw_167 (kcX7_guard_3 15 167 rfl) (kcX7_guard_3 16 0 rfl) (kcX7_guard_3 17 10 rfl) rfl
theorem dX7_guard_217 : decode cX7_guard 217 = .ok (.iadd, 1) := dw_96 (kcX7_guard_3 25 96 rfl)
theorem dX7_guard_218 : decode cX7_guard 218 = .ok (.aload_n 0, 1) := dw_42 (kcX7_guard_3 26 42 rfl)
theorem dX7_guard_219 : decode cX7_guard 219 = .ok (.iload_n 1, 1) := dw_27 (kcX7_guard_3 27 27 rfl)
theorem dX7_guard_220 : decode cX7_guard 220 = .ok (.iload 11, 2) := dw_21 (kcX7_guard_3 28 21 rfl) (kcX7_guard_3 29 11 rfl)
theorem dX7_guard_222 : decode cX7_guard 222 = .ok (.invokevirtual 181, 3) := dw_182 (kcX7_guard_3 30 182 rfl) (kcX7_guard_3 31 0 rfl) (kcX7_guard_3 32 181 rfl) rfl
theorem dX7_guard_225 : decode cX7_guard 225 = .ok (.ifCond .eq 7, 3) := dw_153 (kcX7_guard_3 33 153 rfl) (kcX7_guard_3 34 0 rfl) (kcX7_guard_3 35 7 rfl) rfl
theorem dX7_guard_232 : decode cX7_guard 232 = .ok (.aload_n 0, 1) := dw_42 (kcX7_guard_3 40 42 rfl)
theorem dX7_guard_233 : decode cX7_guard 233 = .ok (.iload_n 1, 1) := dw_27 (kcX7_guard_3 41 27 rfl)
theorem dX7_guard_234 : decode cX7_guard 234 = .ok (.iload 11, 2) := dw_21 (kcX7_guard_3 42 21 rfl) (kcX7_guard_3 43 11 rfl)
theorem dX7_guard_236 : decode cX7_guard 236 = .ok (.invokevirtual 242, 3) := dw_182 (kcX7_guard_3 44 182 rfl) (kcX7_guard_3 45 0 rfl) (kcX7_guard_3 46 242 rfl) rfl
theorem dX7_guard_228 : decode cX7_guard 228 = .ok (.iconst 0, 1) := dw_3 (kcX7_guard_3 36 3 rfl)
theorem dX7_guard_229 : decode cX7_guard 229 = .ok (.goto 10, 3) := dw_167 (kcX7_guard_3 37 167 rfl) (kcX7_guard_3 38 0 rfl) (kcX7_guard_3 39 10 rfl) rfl
theorem dX7_guard_239 : decode cX7_guard 239 = .ok (.iadd, 1) := dw_96 (kcX7_guard_3 47 96 rfl)
theorem dX7_guard_240 : decode cX7_guard 240 = .ok (.istore 12, 2) := dw_54 (kcX7_guard_3 48 54 rfl) (kcX7_guard_3 49 12 rfl)
theorem dX7_guard_242 : decode cX7_guard 242 = .ok (.iload 4, 2) := dw_21 (kcX7_guard_3 50 21 rfl) (kcX7_guard_3 51 4 rfl)
theorem dX7_guard_244 : decode cX7_guard 244 = .ok (.ifCond .lt 13, 3) := dw_155 (kcX7_guard_3 52 155 rfl) (kcX7_guard_3 53 0 rfl) (kcX7_guard_3 54 13 rfl) rfl
theorem dX7_guard_257 : decode cX7_guard 257 = .ok (.iload 12, 2) := dw_21 (kcX7_guard_4 1 21 rfl) (kcX7_guard_4 2 12 rfl)
theorem dX7_guard_259 : decode cX7_guard 259 = .ok (.istore 4, 2) := dw_54 (kcX7_guard_4 3 54 rfl) (kcX7_guard_4 4 4 rfl)
theorem dX7_guard_261 : decode cX7_guard 261 = .ok (.iload 7, 2) := dw_21 (kcX7_guard_4 5 21 rfl) (kcX7_guard_4 6 7 rfl)
theorem dX7_guard_263 : decode cX7_guard 263 = .ok (.istore 5, 2) := dw_54 (kcX7_guard_4 7 54 rfl) (kcX7_guard_4 8 5 rfl)
theorem dX7_guard_265 : decode cX7_guard 265 = .ok (.iload 8, 2) := dw_21 (kcX7_guard_4 9 21 rfl) (kcX7_guard_4 10 8 rfl)
theorem dX7_guard_267 : decode cX7_guard 267 = .ok (.istore 6, 2) := dw_54 (kcX7_guard_4 11 54 rfl) (kcX7_guard_4 12 6 rfl)
theorem dX7_guard_247 : decode cX7_guard 247 = .ok (.iload 12, 2) := dw_21 (kcX7_guard_3 55 21 rfl) (kcX7_guard_3 56 12 rfl)
theorem dX7_guard_249 : decode cX7_guard 249 = .ok (.iload 4, 2) := dw_21 (kcX7_guard_3 57 21 rfl) (kcX7_guard_3 58 4 rfl)
theorem dX7_guard_251 : decode cX7_guard 251 = .ok (.if_icmp .lt 6, 3) := dw_161 (kcX7_guard_3 59 161 rfl) (kcX7_guard_3 60 0 rfl) (kcX7_guard_3 61 6 rfl) rfl
theorem dX7_guard_254 : decode cX7_guard 254 = .ok (.goto 15, 3) := dw_167 (kcX7_guard_3 62 167 rfl) (kcX7_guard_3 63 0 rfl) (kcX7_guard_4 0 15 rfl) rfl
theorem dX7_guard_78 : decode cX7_guard 78 = .ok (.goto 191, 3) := dw_167 (kcX7_guard_1 14 167 rfl) (kcX7_guard_1 15 0 rfl) (kcX7_guard_1 16 191 rfl) rfl
theorem dX7_guard_55 : decode cX7_guard 55 = .ok (.goto 220, 3) := dw_167 (kcX7_guard_0 55 167 rfl) (kcX7_guard_0 56 0 rfl) (kcX7_guard_0 57 220 rfl) rfl
theorem dX7_guard_281 : decode cX7_guard 281 = .ok (.iload 4, 2) := dw_21 (kcX7_guard_4 25 21 rfl) (kcX7_guard_4 26 4 rfl)
theorem dX7_guard_283 : decode cX7_guard 283 = .ok (.ifCond .ge 7, 3) := dw_156 (kcX7_guard_4 27 156 rfl) (kcX7_guard_4 28 0 rfl) (kcX7_guard_4 29 7 rfl) rfl
theorem dX7_guard_290 : decode cX7_guard 290 = .ok (.aload_n 0, 1) := dw_42 (kcX7_guard_4 34 42 rfl)
theorem dX7_guard_291 : decode cX7_guard 291 = .ok (.iload_n 1, 1) := dw_27 (kcX7_guard_4 35 27 rfl)
theorem dX7_guard_292 : decode cX7_guard 292 = .ok (.iload_n 1, 1) := dw_27 (kcX7_guard_4 36 27 rfl)
theorem dX7_guard_293 : decode cX7_guard 293 = .ok (.iload_n 2, 1) := dw_28 (kcX7_guard_4 37 28 rfl)
theorem dX7_guard_294 : decode cX7_guard 294 = .ok (.iload 6, 2) := dw_21 (kcX7_guard_4 38 21 rfl) (kcX7_guard_4 39 6 rfl)
theorem dX7_guard_296 : decode cX7_guard 296 = .ok (.invokestatic 147, 3) := dw_184 (kcX7_guard_4 40 184 rfl) (kcX7_guard_4 41 0 rfl) (kcX7_guard_4 42 147 rfl) rfl
theorem dX7_guard_299 : decode cX7_guard 299 = .ok (.invokevirtual 245, 3) := dw_182 (kcX7_guard_4 43 182 rfl) (kcX7_guard_4 44 0 rfl) (kcX7_guard_4 45 245 rfl) rfl
theorem dX7_guard_302 : decode cX7_guard 302 = .ok (.aload_n 0, 1) := dw_42 (kcX7_guard_4 46 42 rfl)
theorem dX7_guard_303 : decode cX7_guard 303 = .ok (.iload_n 1, 1) := dw_27 (kcX7_guard_4 47 27 rfl)
theorem dX7_guard_304 : decode cX7_guard 304 = .ok (.iload_n 1, 1) := dw_27 (kcX7_guard_4 48 27 rfl)
theorem dX7_guard_305 : decode cX7_guard 305 = .ok (.iload 5, 2) := dw_21 (kcX7_guard_4 49 21 rfl) (kcX7_guard_4 50 5 rfl)
theorem dX7_guard_307 : decode cX7_guard 307 = .ok (.iload_n 3, 1) := dw_29 (kcX7_guard_4 51 29 rfl)
theorem dX7_guard_308 : decode cX7_guard 308 = .ok (.invokestatic 147, 3) := dw_184 (kcX7_guard_4 52 184 rfl) (kcX7_guard_4 53 0 rfl) (kcX7_guard_4 54 147 rfl) rfl
theorem dX7_guard_311 : decode cX7_guard 311 = .ok (.invokevirtual 245, 3) := dw_182 (kcX7_guard_4 55 182 rfl) (kcX7_guard_4 56 0 rfl) (kcX7_guard_4 57 245 rfl) rfl
theorem dX7_guard_314 : decode cX7_guard 314 = .ok (.iadd, 1) := dw_96 (kcX7_guard_4 58 96 rfl)
theorem dX7_guard_315 : decode cX7_guard 315 = .ok (.aload_n 0, 1) := dw_42 (kcX7_guard_4 59 42 rfl)
theorem dX7_guard_316 : decode cX7_guard 316 = .ok (.iload_n 1, 1) := dw_27 (kcX7_guard_4 60 27 rfl)
theorem dX7_guard_317 : decode cX7_guard 317 = .ok (.iload_n 1, 1) := dw_27 (kcX7_guard_4 61 27 rfl)
theorem dX7_guard_318 : decode cX7_guard 318 = .ok (.iload 5, 2) := dw_21 (kcX7_guard_4 62 21 rfl) (kcX7_guard_4 63 5 rfl)
theorem kcX7_guard_5 : CHb cX7_guard 320 [21, 6, 184, 0, 147, 182, 0, 245, 96, 172] := CHb_of (by decide +kernel)
theorem dX7_guard_320 : decode cX7_guard 320 = .ok (.iload 6, 2) := dw_21 (kcX7_guard_5 0 21 rfl) (kcX7_guard_5 1 6 rfl)
theorem dX7_guard_322 : decode cX7_guard 322 = .ok (.invokestatic 147, 3) := dw_184 (kcX7_guard_5 2 184 rfl) (kcX7_guard_5 3 0 rfl) (kcX7_guard_5 4 147 rfl) rfl
theorem dX7_guard_325 : decode cX7_guard 325 = .ok (.invokevirtual 245, 3) := dw_182 (kcX7_guard_5 5 182 rfl) (kcX7_guard_5 6 0 rfl) (kcX7_guard_5 7 245 rfl) rfl
theorem dX7_guard_328 : decode cX7_guard 328 = .ok (.iadd, 1) := dw_96 (kcX7_guard_5 8 96 rfl)
theorem dX7_guard_329 : decode cX7_guard 329 = .ok (.ireturn, 1) := dw_172 (kcX7_guard_5 9 172 rfl)
theorem dX7_guard_286 : decode cX7_guard 286 = .ok (.iconst 0, 1) := dw_3 (kcX7_guard_4 30 3 rfl)
theorem dX7_guard_287 : decode cX7_guard 287 = .ok (.goto 42, 3) := dw_167 (kcX7_guard_4 31 167 rfl) (kcX7_guard_4 32 0 rfl) (kcX7_guard_4 33 42 rfl) rfl
theorem kcX7_plan_0 : CHb cX7_plan 0 [42, 42, 27, 182, 0, 120, 153, 0, 7, 3, 167, 0, 4, 4, 181, 0, 116, 42, 180, 0, 116, 158, 0, 5, 2, 172, 3, 61, 28, 17, 0, 144, 162, 0, 27, 42, 180, 0, 83, 28, 42, 180, 0, 38, 17, 0, 144, 27, 104, 28, 96, 51, 84, 132, 2, 1, 167, 255, 228, 3, 61, 42, 27, 3] := CHb_of (by decide +kernel)
theorem dX7_plan_0 : decode cX7_plan 0 = .ok (.aload_n 0, 1) := dw_42 (kcX7_plan_0 0 42 rfl)
theorem dX7_plan_1 : decode cX7_plan 1 = .ok (.aload_n 0, 1) := dw_42 (kcX7_plan_0 1 42 rfl)
theorem dX7_plan_2 : decode cX7_plan 2 = .ok (.iload_n 1, 1) := dw_27 (kcX7_plan_0 2 27 rfl)
theorem dX7_plan_3 : decode cX7_plan 3 = .ok (.invokevirtual 120, 3) := dw_182 (kcX7_plan_0 3 182 rfl) (kcX7_plan_0 4 0 rfl) (kcX7_plan_0 5 120 rfl) rfl
theorem dX7_plan_6 : decode cX7_plan 6 = .ok (.ifCond .eq 7, 3) := dw_153 (kcX7_plan_0 6 153 rfl) (kcX7_plan_0 7 0 rfl) (kcX7_plan_0 8 7 rfl) rfl
theorem dX7_plan_13 : decode cX7_plan 13 = .ok (.iconst 1, 1) := dw_4 (kcX7_plan_0 13 4 rfl)
theorem dX7_plan_14 : decode cX7_plan 14 = .ok (.putfield 116, 3) := dw_181 (kcX7_plan_0 14 181 rfl) (kcX7_plan_0 15 0 rfl) (kcX7_plan_0 16 116 rfl) rfl
theorem dX7_plan_17 : decode cX7_plan 17 = .ok (.aload_n 0, 1) := dw_42 (kcX7_plan_0 17 42 rfl)
theorem dX7_plan_18 : decode cX7_plan 18 = .ok (.getfield 116, 3) := dw_180 (kcX7_plan_0 18 180 rfl) (kcX7_plan_0 19 0 rfl) (kcX7_plan_0 20 116 rfl) rfl
theorem dX7_plan_21 : decode cX7_plan 21 = .ok (.ifCond .le 5, 3) := dw_158 (kcX7_plan_0 21 158 rfl) (kcX7_plan_0 22 0 rfl) (kcX7_plan_0 23 5 rfl) rfl
theorem dX7_plan_24 : decode cX7_plan 24 = .ok (.iconst (-1), 1) := dw_2 (kcX7_plan_0 24 2 rfl)
theorem dX7_plan_25 : decode cX7_plan 25 = .ok (.ireturn, 1) := dw_172 (kcX7_plan_0 25 172 rfl)
theorem dX7_plan_9 : decode cX7_plan 9 = .ok (.iconst 0, 1) := dw_3 (kcX7_plan_0 9 3 rfl)
theorem dX7_plan_10 : decode cX7_plan 10 = .ok (.goto 4, 3) := dw_167 (kcX7_plan_0 10 167 rfl) (kcX7_plan_0 11 0 rfl) (kcX7_plan_0 12 4 rfl) rfl
theorem dX7_plan_26 : decode cX7_plan 26 = .ok (.iconst 0, 1) := dw_3 (kcX7_plan_0 26 3 rfl)
theorem dX7_plan_27 : decode cX7_plan 27 = .ok (.istore_n 2, 1) := dw_61 (kcX7_plan_0 27 61 rfl)
theorem dX7_plan_28 : decode cX7_plan 28 = .ok (.iload_n 2, 1) := dw_28 (kcX7_plan_0 28 28 rfl)
theorem dX7_plan_29 : decode cX7_plan 29 = .ok (.sipush 144, 3) := dw_17 (kcX7_plan_0 29 17 rfl) (kcX7_plan_0 30 0 rfl) (kcX7_plan_0 31 144 rfl) rfl
theorem dX7_plan_32 : decode cX7_plan 32 = .ok (.if_icmp .ge 27, 3) := dw_162 (kcX7_plan_0 32 162 rfl) (kcX7_plan_0 33 0 rfl) (kcX7_plan_0 34 27 rfl) rfl
theorem dX7_plan_35 : decode cX7_plan 35 = .ok (.aload_n 0, 1) := dw_42 (kcX7_plan_0 35 42 rfl)
theorem dX7_plan_36 : decode cX7_plan 36 = .ok (.getfield 83, 3) := dw_180 (kcX7_plan_0 36 180 rfl) (kcX7_plan_0 37 0 rfl) (kcX7_plan_0 38 83 rfl) rfl
theorem dX7_plan_39 : decode cX7_plan 39 = .ok (.iload_n 2, 1) := dw_28 (kcX7_plan_0 39 28 rfl)
theorem dX7_plan_40 : decode cX7_plan 40 = .ok (.aload_n 0, 1) := dw_42 (kcX7_plan_0 40 42 rfl)
theorem dX7_plan_41 : decode cX7_plan 41 = .ok (.getfield 38, 3) := dw_180 (kcX7_plan_0 41 180 rfl) (kcX7_plan_0 42 0 rfl) (kcX7_plan_0 43 38 rfl) rfl
theorem dX7_plan_44 : decode cX7_plan 44 = .ok (.sipush 144, 3) := dw_17 (kcX7_plan_0 44 17 rfl) (kcX7_plan_0 45 0 rfl) (kcX7_plan_0 46 144 rfl) rfl
theorem dX7_plan_47 : decode cX7_plan 47 = .ok (.iload_n 1, 1) := dw_27 (kcX7_plan_0 47 27 rfl)
theorem dX7_plan_48 : decode cX7_plan 48 = .ok (.imul, 1) := dw_104 (kcX7_plan_0 48 104 rfl)
theorem dX7_plan_49 : decode cX7_plan 49 = .ok (.iload_n 2, 1) := dw_28 (kcX7_plan_0 49 28 rfl)
theorem dX7_plan_50 : decode cX7_plan 50 = .ok (.iadd, 1) := dw_96 (kcX7_plan_0 50 96 rfl)
theorem dX7_plan_51 : decode cX7_plan 51 = .ok (.baload, 1) := dw_51 (kcX7_plan_0 51 51 rfl)
theorem dX7_plan_52 : decode cX7_plan 52 = .ok (.bastore, 1) := dw_84 (kcX7_plan_0 52 84 rfl)
theorem dX7_plan_53 : decode cX7_plan 53 = .ok (.iinc 2 1, 3) := dw_132 (kcX7_plan_0 53 132 rfl) (kcX7_plan_0 54 2 rfl) (kcX7_plan_0 55 1 rfl) rfl
theorem dX7_plan_56 : decode cX7_plan 56 = .ok (.goto (-28), 3) := dw_167 (kcX7_plan_0 56 167 rfl) (kcX7_plan_0 57 255 rfl) (kcX7_plan_0 58 228 rfl) rfl
theorem dX7_plan_59 : decode cX7_plan 59 = .ok (.iconst 0, 1) := dw_3 (kcX7_plan_0 59 3 rfl)
theorem dX7_plan_60 : decode cX7_plan 60 = .ok (.istore_n 2, 1) := dw_61 (kcX7_plan_0 60 61 rfl)
theorem dX7_plan_61 : decode cX7_plan 61 = .ok (.aload_n 0, 1) := dw_42 (kcX7_plan_0 61 42 rfl)
theorem dX7_plan_62 : decode cX7_plan 62 = .ok (.iload_n 1, 1) := dw_27 (kcX7_plan_0 62 27 rfl)
theorem dX7_plan_63 : decode cX7_plan 63 = .ok (.iconst 0, 1) := dw_3 (kcX7_plan_0 63 3 rfl)
theorem kcX7_plan_1 : CHb cX7_plan 64 [182, 0, 230, 62, 29, 2, 159, 0, 83, 42, 27, 29, 16, 12, 108, 29, 16, 12, 112, 182, 0, 239, 54, 4, 21, 4, 154, 0, 48, 3, 54, 5, 21, 5, 17, 0, 144, 162, 0, 29, 42, 180, 0, 38, 17, 0, 144, 27, 104, 21, 5, 96, 42, 180, 0, 83, 21, 5, 51, 84, 132, 5, 1, 167] := CHb_of (by decide +kernel)
theorem dX7_plan_64 : decode cX7_plan 64 = .ok (.invokevirtual 230, 3) := dw_182 (kcX7_plan_1 0 182 rfl) (kcX7_plan_1 1 0 rfl) (kcX7_plan_1 2 230 rfl) rfl
theorem dX7_plan_67 : decode cX7_plan 67 = .ok (.istore_n 3, 1) := dw_62 (kcX7_plan_1 3 62 rfl)
theorem dX7_plan_68 : decode cX7_plan 68 = .ok (.iload_n 3, 1) := dw_29 (kcX7_plan_1 4 29 rfl)
theorem dX7_plan_69 : decode cX7_plan 69 = .ok (.iconst (-1), 1) := dw_2 (kcX7_plan_1 5 2 rfl)
theorem dX7_plan_70 : decode cX7_plan 70 = .ok (.if_icmp .eq 83, 3) := dw_159 (kcX7_plan_1 6 159 rfl) (kcX7_plan_1 7 0 rfl) (kcX7_plan_1 8 83 rfl) rfl
theorem kcX7_plan_2 : CHb cX7_plan 128 [255, 225, 42, 16, 10, 181, 0, 116, 2, 172, 28, 21, 4, 96, 61, 42, 27, 3, 182, 0, 230, 62, 167, 255, 174, 28, 172] := CHb_of (by decide +kernel)
theorem dX7_plan_153 : decode cX7_plan 153 = .ok (.iload_n 2, 1) := dw_28 (kcX7_plan_2 25 28 rfl)
theorem dX7_plan_154 : decode cX7_plan 154 = .ok (.ireturn, 1) := dw_172 (kcX7_plan_2 26 172 rfl)
theorem dX7_plan_73 : decode cX7_plan 73 = .ok (.aload_n 0, 1) := dw_42 (kcX7_plan_1 9 42 rfl)
theorem dX7_plan_74 : decode cX7_plan 74 = .ok (.iload_n 1, 1) := dw_27 (kcX7_plan_1 10 27 rfl)
theorem dX7_plan_75 : decode cX7_plan 75 = .ok (.iload_n 3, 1) := dw_29 (kcX7_plan_1 11 29 rfl)
theorem dX7_plan_76 : decode cX7_plan 76 = .ok (.bipush 12, 2) := dw_16 (kcX7_plan_1 12 16 rfl) (kcX7_plan_1 13 12 rfl) rfl
theorem dX7_plan_78 : decode cX7_plan 78 = .ok (.idiv, 1) := dw_108 (kcX7_plan_1 14 108 rfl)
theorem dX7_plan_79 : decode cX7_plan 79 = .ok (.iload_n 3, 1) := dw_29 (kcX7_plan_1 15 29 rfl)
theorem dX7_plan_80 : decode cX7_plan 80 = .ok (.bipush 12, 2) := dw_16 (kcX7_plan_1 16 16 rfl) (kcX7_plan_1 17 12 rfl) rfl
theorem dX7_plan_82 : decode cX7_plan 82 = .ok (.irem, 1) := dw_112 (kcX7_plan_1 18 112 rfl)
theorem dX7_plan_83 : decode cX7_plan 83 = .ok (.invokevirtual 239, 3) := dw_182 (kcX7_plan_1 19 182 rfl) (kcX7_plan_1 20 0 rfl) (kcX7_plan_1 21 239 rfl) rfl
theorem dX7_plan_86 : decode cX7_plan 86 = .ok (.istore 4, 2) := dw_54 (kcX7_plan_1 22 54 rfl) (kcX7_plan_1 23 4 rfl)
theorem dX7_plan_88 : decode cX7_plan 88 = .ok (.iload 4, 2) := dw_21 (kcX7_plan_1 24 21 rfl) (kcX7_plan_1 25 4 rfl)
theorem dX7_plan_90 : decode cX7_plan 90 = .ok (.ifCond .ne 48, 3) := dw_154 (kcX7_plan_1 26 154 rfl) (kcX7_plan_1 27 0 rfl) (kcX7_plan_1 28 48 rfl) rfl
theorem dX7_plan_138 : decode cX7_plan 138 = .ok (.iload_n 2, 1) := dw_28 (kcX7_plan_2 10 28 rfl)
theorem dX7_plan_139 : decode cX7_plan 139 = .ok (.iload 4, 2) := dw_21 (kcX7_plan_2 11 21 rfl) (kcX7_plan_2 12 4 rfl)
theorem dX7_plan_141 : decode cX7_plan 141 = .ok (.iadd, 1) := dw_96 (kcX7_plan_2 13 96 rfl)
theorem dX7_plan_142 : decode cX7_plan 142 = .ok (.istore_n 2, 1) := dw_61 (kcX7_plan_2 14 61 rfl)
theorem dX7_plan_143 : decode cX7_plan 143 = .ok (.aload_n 0, 1) := dw_42 (kcX7_plan_2 15 42 rfl)
theorem dX7_plan_144 : decode cX7_plan 144 = .ok (.iload_n 1, 1) := dw_27 (kcX7_plan_2 16 27 rfl)
theorem dX7_plan_145 : decode cX7_plan 145 = .ok (.iconst 0, 1) := dw_3 (kcX7_plan_2 17 3 rfl)
theorem dX7_plan_146 : decode cX7_plan 146 = .ok (.invokevirtual 230, 3) := dw_182 (kcX7_plan_2 18 182 rfl) (kcX7_plan_2 19 0 rfl) (kcX7_plan_2 20 230 rfl) rfl
theorem dX7_plan_149 : decode cX7_plan 149 = .ok (.istore_n 3, 1) := dw_62 (kcX7_plan_2 21 62 rfl)
theorem dX7_plan_150 : decode cX7_plan 150 = .ok (.goto (-82), 3) := dw_167 (kcX7_plan_2 22 167 rfl) (kcX7_plan_2 23 255 rfl) (kcX7_plan_2 24 174 rfl) rfl
theorem dX7_plan_93 : decode cX7_plan 93 = .ok (.iconst 0, 1) := dw_3 (kcX7_plan_1 29 3 rfl)
theorem dX7_plan_94 : decode cX7_plan 94 = .ok (.istore 5, 2) := dw_54 (kcX7_plan_1 30 54 rfl) (kcX7_plan_1 31 5 rfl)
theorem dX7_plan_96 : decode cX7_plan 96 = .ok (.iload 5, 2) := dw_21 (kcX7_plan_1 32 21 rfl) (kcX7_plan_1 33 5 rfl)
theorem dX7_plan_98 : decode cX7_plan 98 = .ok (.sipush 144, 3) := dw_17 (kcX7_plan_1 34 17 rfl) (kcX7_plan_1 35 0 rfl) (kcX7_plan_1 36 144 rfl) rfl
theorem dX7_plan_101 : decode cX7_plan 101 = .ok (.if_icmp .ge 29, 3) := dw_162 (kcX7_plan_1 37 162 rfl) (kcX7_plan_1 38 0 rfl) (kcX7_plan_1 39 29 rfl) rfl
theorem dX7_plan_104 : decode cX7_plan 104 = .ok (.aload_n 0, 1) := dw_42 (kcX7_plan_1 40 42 rfl)
theorem dX7_plan_105 : decode cX7_plan 105 = .ok (.getfield 38, 3) := dw_180 (kcX7_plan_1 41 180 rfl) (kcX7_plan_1 42 0 rfl) (kcX7_plan_1 43 38 rfl) rfl
theorem dX7_plan_108 : decode cX7_plan 108 = .ok (.sipush 144, 3) := dw_17 (kcX7_plan_1 44 17 rfl) (kcX7_plan_1 45 0 rfl) (kcX7_plan_1 46 144 rfl) rfl
theorem dX7_plan_111 : decode cX7_plan 111 = .ok (.iload_n 1, 1) := dw_27 (kcX7_plan_1 47 27 rfl)
theorem dX7_plan_112 : decode cX7_plan 112 = .ok (.imul, 1) := dw_104 (kcX7_plan_1 48 104 rfl)
theorem dX7_plan_113 : decode cX7_plan 113 = .ok (.iload 5, 2) := dw_21 (kcX7_plan_1 49 21 rfl) (kcX7_plan_1 50 5 rfl)
theorem dX7_plan_115 : decode cX7_plan 115 = .ok (.iadd, 1) := dw_96 (kcX7_plan_1 51 96 rfl)
theorem dX7_plan_116 : decode cX7_plan 116 = .ok (.aload_n 0, 1) := dw_42 (kcX7_plan_1 52 42 rfl)
theorem dX7_plan_117 : decode cX7_plan 117 = .ok (.getfield 83, 3) := dw_180 (kcX7_plan_1 53 180 rfl) (kcX7_plan_1 54 0 rfl) (kcX7_plan_1 55 83 rfl) rfl
theorem dX7_plan_120 : decode cX7_plan 120 = .ok (.iload 5, 2) := dw_21 (kcX7_plan_1 56 21 rfl) (kcX7_plan_1 57 5 rfl)
theorem dX7_plan_122 : decode cX7_plan 122 = .ok (.baload, 1) := dw_51 (kcX7_plan_1 58 51 rfl)
theorem dX7_plan_123 : decode cX7_plan 123 = .ok (.bastore, 1) := dw_84 (kcX7_plan_1 59 84 rfl)
theorem dX7_plan_124 : decode cX7_plan 124 = .ok (.iinc 5 1, 3) := dw_132 (kcX7_plan_1 60 132 rfl) (kcX7_plan_1 61 5 rfl) (kcX7_plan_1 62 1 rfl) rfl
theorem dX7_plan_127 : decode cX7_plan 127 = .ok (.goto (-31), 3) := dw_167 (kcX7_plan_1 63 167 rfl) (kcX7_plan_2 0 255 rfl) (kcX7_plan_2 1 225 rfl) rfl
theorem dX7_plan_130 : decode cX7_plan 130 = .ok (.aload_n 0, 1) := dw_42 (kcX7_plan_2 2 42 rfl)
theorem dX7_plan_131 : decode cX7_plan 131 = .ok (.bipush 10, 2) := dw_16 (kcX7_plan_2 3 16 rfl) (kcX7_plan_2 4 10 rfl) rfl
theorem dX7_plan_133 : decode cX7_plan 133 = .ok (.putfield 116, 3) := dw_181 (kcX7_plan_2 5 181 rfl) (kcX7_plan_2 6 0 rfl) (kcX7_plan_2 7 116 rfl) rfl
theorem dX7_plan_136 : decode cX7_plan 136 = .ok (.iconst (-1), 1) := dw_2 (kcX7_plan_2 8 2 rfl)
theorem dX7_plan_137 : decode cX7_plan 137 = .ok (.ireturn, 1) := dw_172 (kcX7_plan_2 9 172 rfl)
theorem kcX7_give_0 : CHb cX7_give 0 [42, 42, 27, 182, 0, 120, 154, 0, 7, 4, 167, 0, 33, 42, 180, 1, 18, 16, 16, 160, 0, 8, 16, 8, 167, 0, 19, 42, 27, 3, 182, 0, 230, 2, 159, 0, 8, 16, 10, 167, 0, 4, 3, 181, 0, 116, 42, 180, 0, 116, 158, 0, 5, 2, 172, 42, 180, 0, 110, 42, 180, 1, 18, 42] := CHb_of (by decide +kernel)
theorem dX7_give_0 : decode cX7_give 0 = .ok (.aload_n 0, 1) := dw_42 (kcX7_give_0 0 42 rfl)
theorem dX7_give_1 : decode cX7_give 1 = .ok (.aload_n 0, 1) := dw_42 (kcX7_give_0 1 42 rfl)
theorem dX7_give_2 : decode cX7_give 2 = .ok (.iload_n 1, 1) := dw_27 (kcX7_give_0 2 27 rfl)
theorem dX7_give_3 : decode cX7_give 3 = .ok (.invokevirtual 120, 3) := dw_182 (kcX7_give_0 3 182 rfl) (kcX7_give_0 4 0 rfl) (kcX7_give_0 5 120 rfl) rfl
theorem dX7_give_6 : decode cX7_give 6 = .ok (.ifCond .ne 7, 3) := dw_154 (kcX7_give_0 6 154 rfl) (kcX7_give_0 7 0 rfl) (kcX7_give_0 8 7 rfl) rfl
theorem dX7_give_13 : decode cX7_give 13 = .ok (.aload_n 0, 1) := dw_42 (kcX7_give_0 13 42 rfl)
theorem dX7_give_14 : decode cX7_give 14 = .ok (.getfield 274, 3) := dw_180 (kcX7_give_0 14 180 rfl) (kcX7_give_0 15 1 rfl) (kcX7_give_0 16 18 rfl) rfl
theorem dX7_give_17 : decode cX7_give 17 = .ok (.bipush 16, 2) := dw_16 (kcX7_give_0 17 16 rfl) (kcX7_give_0 18 16 rfl) rfl
theorem dX7_give_19 : decode cX7_give 19 = .ok (.if_icmp .ne 8, 3) := dw_160 (kcX7_give_0 19 160 rfl) (kcX7_give_0 20 0 rfl) (kcX7_give_0 21 8 rfl) rfl
theorem dX7_give_27 : decode cX7_give 27 = .ok (.aload_n 0, 1) := dw_42 (kcX7_give_0 27 42 rfl)
theorem dX7_give_28 : decode cX7_give 28 = .ok (.iload_n 1, 1) := dw_27 (kcX7_give_0 28 27 rfl)
theorem dX7_give_29 : decode cX7_give 29 = .ok (.iconst 0, 1) := dw_3 (kcX7_give_0 29 3 rfl)
theorem dX7_give_30 : decode cX7_give 30 = .ok (.invokevirtual 230, 3) := dw_182 (kcX7_give_0 30 182 rfl) (kcX7_give_0 31 0 rfl) (kcX7_give_0 32 230 rfl) rfl
theorem dX7_give_33 : decode cX7_give 33 = .ok (.iconst (-1), 1) := dw_2 (kcX7_give_0 33 2 rfl)
theorem dX7_give_34 : decode cX7_give 34 = .ok (.if_icmp .eq 8, 3) := dw_159 (kcX7_give_0 34 159 rfl) (kcX7_give_0 35 0 rfl) (kcX7_give_0 36 8 rfl) rfl
theorem dX7_give_42 : decode cX7_give 42 = .ok (.iconst 0, 1) := dw_3 (kcX7_give_0 42 3 rfl)
theorem dX7_give_43 : decode cX7_give 43 = .ok (.putfield 116, 3) := dw_181 (kcX7_give_0 43 181 rfl) (kcX7_give_0 44 0 rfl) (kcX7_give_0 45 116 rfl) rfl
theorem dX7_give_46 : decode cX7_give 46 = .ok (.aload_n 0, 1) := dw_42 (kcX7_give_0 46 42 rfl)
theorem dX7_give_47 : decode cX7_give 47 = .ok (.getfield 116, 3) := dw_180 (kcX7_give_0 47 180 rfl) (kcX7_give_0 48 0 rfl) (kcX7_give_0 49 116 rfl) rfl
theorem dX7_give_50 : decode cX7_give 50 = .ok (.ifCond .le 5, 3) := dw_158 (kcX7_give_0 50 158 rfl) (kcX7_give_0 51 0 rfl) (kcX7_give_0 52 5 rfl) rfl
theorem dX7_give_55 : decode cX7_give 55 = .ok (.aload_n 0, 1) := dw_42 (kcX7_give_0 55 42 rfl)
theorem dX7_give_56 : decode cX7_give 56 = .ok (.getfield 110, 3) := dw_180 (kcX7_give_0 56 180 rfl) (kcX7_give_0 57 0 rfl) (kcX7_give_0 58 110 rfl) rfl
theorem dX7_give_59 : decode cX7_give 59 = .ok (.aload_n 0, 1) := dw_42 (kcX7_give_0 59 42 rfl)
theorem dX7_give_60 : decode cX7_give 60 = .ok (.getfield 274, 3) := dw_180 (kcX7_give_0 60 180 rfl) (kcX7_give_0 61 1 rfl) (kcX7_give_0 62 18 rfl) rfl
theorem dX7_give_63 : decode cX7_give 63 = .ok (.aload_n 0, 1) := dw_42 (kcX7_give_0 63 42 rfl)
theorem kcX7_give_1 : CHb cX7_give 64 [180, 0, 13, 27, 46, 79, 42, 180, 0, 113, 42, 180, 1, 18, 42, 180, 0, 17, 27, 46, 79, 3, 61, 28, 42, 180, 0, 13, 27, 46, 162, 0, 97, 42, 27, 28, 182, 0, 161, 62, 3, 54, 4, 21, 4, 42, 180, 0, 17, 27, 46, 162, 0, 70, 27, 28, 21, 4, 184, 0, 147, 54, 5, 42] := CHb_of (by decide +kernel)
theorem dX7_give_64 : decode cX7_give 64 = .ok (.getfield 13, 3) := dw_180 (kcX7_give_1 0 180 rfl) (kcX7_give_1 1 0 rfl) (kcX7_give_1 2 13 rfl) rfl
theorem dX7_give_67 : decode cX7_give 67 = .ok (.iload_n 1, 1) := dw_27 (kcX7_give_1 3 27 rfl)
theorem dX7_give_68 : decode cX7_give 68 = .ok (.iaload, 1) := dw_46 (kcX7_give_1 4 46 rfl)
theorem dX7_give_69 : decode cX7_give 69 = .ok (.iastore, 1) := dw_79 (kcX7_give_1 5 79 rfl)
theorem dX7_give_70 : decode cX7_give 70 = .ok (.aload_n 0, 1) := dw_42 (kcX7_give_1 6 42 rfl)
theorem dX7_give_71 : decode cX7_give 71 = .ok (.getfield 113, 3) := dw_180 (kcX7_give_1 7 180 rfl) (kcX7_give_1 8 0 rfl) (kcX7_give_1 9 113 rfl) rfl
theorem dX7_give_74 : decode cX7_give 74 = .ok (.aload_n 0, 1) := dw_42 (kcX7_give_1 10 42 rfl)
theorem dX7_give_75 : decode cX7_give 75 = .ok (.getfield 274, 3) := dw_180 (kcX7_give_1 11 180 rfl) (kcX7_give_1 12 1 rfl) (kcX7_give_1 13 18 rfl) rfl
theorem dX7_give_78 : decode cX7_give 78 = .ok (.aload_n 0, 1) := dw_42 (kcX7_give_1 14 42 rfl)
theorem dX7_give_79 : decode cX7_give 79 = .ok (.getfield 17, 3) := dw_180 (kcX7_give_1 15 180 rfl) (kcX7_give_1 16 0 rfl) (kcX7_give_1 17 17 rfl) rfl
theorem dX7_give_82 : decode cX7_give 82 = .ok (.iload_n 1, 1) := dw_27 (kcX7_give_1 18 27 rfl)
theorem dX7_give_83 : decode cX7_give 83 = .ok (.iaload, 1) := dw_46 (kcX7_give_1 19 46 rfl)
theorem dX7_give_84 : decode cX7_give 84 = .ok (.iastore, 1) := dw_79 (kcX7_give_1 20 79 rfl)
theorem dX7_give_85 : decode cX7_give 85 = .ok (.iconst 0, 1) := dw_3 (kcX7_give_1 21 3 rfl)
theorem dX7_give_86 : decode cX7_give 86 = .ok (.istore_n 2, 1) := dw_61 (kcX7_give_1 22 61 rfl)
theorem dX7_give_87 : decode cX7_give 87 = .ok (.iload_n 2, 1) := dw_28 (kcX7_give_1 23 28 rfl)
theorem dX7_give_88 : decode cX7_give 88 = .ok (.aload_n 0, 1) := dw_42 (kcX7_give_1 24 42 rfl)
theorem dX7_give_89 : decode cX7_give 89 = .ok (.getfield 13, 3) := dw_180 (kcX7_give_1 25 180 rfl) (kcX7_give_1 26 0 rfl) (kcX7_give_1 27 13 rfl) rfl
theorem dX7_give_92 : decode cX7_give 92 = .ok (.iload_n 1, 1) := dw_27 (kcX7_give_1 28 27 rfl)
theorem dX7_give_93 : decode cX7_give 93 = .ok (.iaload, 1) := dw_46 (kcX7_give_1 29 46 rfl)
theorem dX7_give_94 : decode cX7_give 94 = .ok (.if_icmp .ge 97, 3) := dw_162 (kcX7_give_1 30 162 rfl) (kcX7_give_1 31 0 rfl) (kcX7_give_1 32 97 rfl) rfl
theorem dX7_give_97 : decode cX7_give 97 = .ok (.aload_n 0, 1) := dw_42 (kcX7_give_1 33 42 rfl)
theorem dX7_give_98 : decode cX7_give 98 = .ok (.iload_n 1, 1) := dw_27 (kcX7_give_1 34 27 rfl)
theorem dX7_give_99 : decode cX7_give 99 = .ok (.iload_n 2, 1) := dw_28 (kcX7_give_1 35 28 rfl)
theorem dX7_give_100 : decode cX7_give 100 = .ok (.invokevirtual 161, 3) := dw_182 (kcX7_give_1 36 182 rfl) (kcX7_give_1 37 0 rfl) (kcX7_give_1 38 161 rfl) rfl
theorem dX7_give_103 : decode cX7_give 103 = .ok (.istore_n 3, 1) := dw_62 (kcX7_give_1 39 62 rfl)
theorem dX7_give_104 : decode cX7_give 104 = .ok (.iconst 0, 1) := dw_3 (kcX7_give_1 40 3 rfl)
theorem dX7_give_105 : decode cX7_give 105 = .ok (.istore 4, 2) := dw_54 (kcX7_give_1 41 54 rfl) (kcX7_give_1 42 4 rfl)
theorem dX7_give_107 : decode cX7_give 107 = .ok (.iload 4, 2) := dw_21 (kcX7_give_1 43 21 rfl) (kcX7_give_1 44 4 rfl)
theorem dX7_give_109 : decode cX7_give 109 = .ok (.aload_n 0, 1) := dw_42 (kcX7_give_1 45 42 rfl)
theorem dX7_give_110 : decode cX7_give 110 = .ok (.getfield 17, 3) := dw_180 (kcX7_give_1 46 180 rfl) (kcX7_give_1 47 0 rfl) (kcX7_give_1 48 17 rfl) rfl
theorem dX7_give_113 : decode cX7_give 113 = .ok (.iload_n 1, 1) := dw_27 (kcX7_give_1 49 27 rfl)
theorem dX7_give_114 : decode cX7_give 114 = .ok (.iaload, 1) := dw_46 (kcX7_give_1 50 46 rfl)
theorem dX7_give_115 : decode cX7_give 115 = .ok (.if_icmp .ge 70, 3) := dw_162 (kcX7_give_1 51 162 rfl) (kcX7_give_1 52 0 rfl) (kcX7_give_1 53 70 rfl) rfl
theorem dX7_give_118 : decode cX7_give 118 = .ok (.iload_n 1, 1) := dw_27 (kcX7_give_1 54 27 rfl)
theorem dX7_give_119 : decode cX7_give 119 = .ok (.iload_n 2, 1) := dw_28 (kcX7_give_1 55 28 rfl)
theorem dX7_give_120 : decode cX7_give 120 = .ok (.iload 4, 2) := dw_21 (kcX7_give_1 56 21 rfl) (kcX7_give_1 57 4 rfl)
theorem dX7_give_122 : decode cX7_give 122 = .ok (.invokestatic 147, 3) := dw_184 (kcX7_give_1 58 184 rfl) (kcX7_give_1 59 0 rfl) (kcX7_give_1 60 147 rfl) rfl
theorem dX7_give_125 : decode cX7_give 125 = .ok (.istore 5, 2) := dw_54 (kcX7_give_1 61 54 rfl) (kcX7_give_1 62 5 rfl)
theorem dX7_give_127 : decode cX7_give 127 = .ok (.aload_n 0, 1) := dw_42 (kcX7_give_1 63 42 rfl)
theorem kcX7_give_2 : CHb cX7_give 128 [180, 0, 107, 17, 0, 144, 42, 180, 1, 18, 104, 16, 12, 28, 104, 96, 21, 4, 96, 29, 154, 0, 8, 16, 253, 167, 0, 25, 42, 27, 21, 5, 182, 0, 181, 153, 0, 8, 16, 254, 167, 0, 10, 42, 180, 0, 26, 21, 5, 46, 79, 132, 4, 1, 167, 255, 181, 132, 2, 1, 167, 255, 155, 42] := CHb_of (by decide +kernel)
theorem dX7_give_128 : decode cX7_give 128 = .ok (.getfield 107, 3) := dw_180 (kcX7_give_2 0 180 rfl) (kcX7_give_2 1 0 rfl) (kcX7_give_2 2 107 rfl) rfl
theorem dX7_give_131 : decode cX7_give 131 = .ok (.sipush 144, 3) := dw_17 (kcX7_give_2 3 17 rfl) (kcX7_give_2 4 0 rfl) (kcX7_give_2 5 144 rfl) rfl
theorem dX7_give_134 : decode cX7_give 134 = .ok (.aload_n 0, 1) := dw_42 (kcX7_give_2 6 42 rfl)
theorem dX7_give_135 : decode cX7_give 135 = .ok (.getfield 274, 3) := dw_180 (kcX7_give_2 7 180 rfl) (kcX7_give_2 8 1 rfl) (kcX7_give_2 9 18 rfl) rfl
theorem dX7_give_138 : decode cX7_give 138 = .ok (.imul, 1) := dw_104 (kcX7_give_2 10 104 rfl)
theorem dX7_give_139 : decode cX7_give 139 = .ok (.bipush 12, 2) := dw_16 (kcX7_give_2 11 16 rfl) (kcX7_give_2 12 12 rfl) rfl
theorem dX7_give_141 : decode cX7_give 141 = .ok (.iload_n 2, 1) := dw_28 (kcX7_give_2 13 28 rfl)
theorem dX7_give_142 : decode cX7_give 142 = .ok (.imul, 1) := dw_104 (kcX7_give_2 14 104 rfl)
theorem dX7_give_143 : decode cX7_give 143 = .ok (.iadd, 1) := dw_96 (kcX7_give_2 15 96 rfl)
theorem dX7_give_144 : decode cX7_give 144 = .ok (.iload 4, 2) := dw_21 (kcX7_give_2 16 21 rfl) (kcX7_give_2 17 4 rfl)
theorem dX7_give_146 : decode cX7_give 146 = .ok (.iadd, 1) := dw_96 (kcX7_give_2 18 96 rfl)
theorem dX7_give_147 : decode cX7_give 147 = .ok (.iload_n 3, 1) := dw_29 (kcX7_give_2 19 29 rfl)
theorem dX7_give_148 : decode cX7_give 148 = .ok (.ifCond .ne 8, 3) := dw_154 (kcX7_give_2 20 154 rfl) (kcX7_give_2 21 0 rfl) (kcX7_give_2 22 8 rfl) rfl
theorem dX7_give_156 : decode cX7_give 156 = .ok (.aload_n 0, 1) := dw_42 (kcX7_give_2 28 42 rfl)
theorem dX7_give_157 : decode cX7_give 157 = .ok (.iload_n 1, 1) := dw_27 (kcX7_give_2 29 27 rfl)
theorem dX7_give_158 : decode cX7_give 158 = .ok (.iload 5, 2) := dw_21 (kcX7_give_2 30 21 rfl) (kcX7_give_2 31 5 rfl)
theorem dX7_give_160 : decode cX7_give 160 = .ok (.invokevirtual 181, 3) := dw_182 (kcX7_give_2 32 182 rfl) (kcX7_give_2 33 0 rfl) (kcX7_give_2 34 181 rfl) rfl
theorem dX7_give_163 : decode cX7_give 163 = .ok (.ifCond .eq 8, 3) := dw_153 (kcX7_give_2 35 153 rfl) (kcX7_give_2 36 0 rfl) (kcX7_give_2 37 8 rfl) rfl
theorem dX7_give_171 : decode cX7_give 171 = .ok (.aload_n 0, 1) := dw_42 (kcX7_give_2 43 42 rfl)
theorem dX7_give_172 : decode cX7_give 172 = .ok (.getfield 26, 3) := dw_180 (kcX7_give_2 44 180 rfl) (kcX7_give_2 45 0 rfl) (kcX7_give_2 46 26 rfl) rfl
theorem dX7_give_175 : decode cX7_give 175 = .ok (.iload 5, 2) := dw_21 (kcX7_give_2 47 21 rfl) (kcX7_give_2 48 5 rfl)
theorem dX7_give_177 : decode cX7_give 177 = .ok (.iaload, 1) := dw_46 (kcX7_give_2 49 46 rfl)
theorem dX7_give_166 : decode cX7_give 166 = .ok (.bipush (-2), 2) := dw_16 (kcX7_give_2 38 16 rfl) (kcX7_give_2 39 254 rfl) rfl
theorem dX7_give_168 : decode cX7_give 168 = .ok (.goto 10, 3) := dw_167 (kcX7_give_2 40 167 rfl) (kcX7_give_2 41 0 rfl) (kcX7_give_2 42 10 rfl) rfl
theorem dX7_give_151 : decode cX7_give 151 = .ok (.bipush (-3), 2) := dw_16 (kcX7_give_2 23 16 rfl) (kcX7_give_2 24 253 rfl) rfl
theorem dX7_give_153 : decode cX7_give 153 = .ok (.goto 25, 3) := dw_167 (kcX7_give_2 25 167 rfl) (kcX7_give_2 26 0 rfl) (kcX7_give_2 27 25 rfl) rfl
theorem dX7_give_178 : decode cX7_give 178 = .ok (.iastore, 1) := dw_79 (kcX7_give_2 50 79 rfl)
theorem dX7_give_179 : decode cX7_give 179 = .ok (.iinc 4 1, 3) := dw_132 (kcX7_give_2 51 132 rfl) (kcX7_give_2 52 4 rfl) (kcX7_give_2 53 1 rfl) rfl
theorem dX7_give_182 : decode cX7_give 182 = .ok (.goto (-75), 3) := dw_167 (kcX7_give_2 54 167 rfl) (kcX7_give_2 55 255 rfl) (kcX7_give_2 56 181 rfl) rfl
theorem dX7_give_185 : decode cX7_give 185 = .ok (.iinc 2 1, 3) := dw_132 (kcX7_give_2 57 132 rfl) (kcX7_give_2 58 2 rfl) (kcX7_give_2 59 1 rfl) rfl
theorem dX7_give_188 : decode cX7_give 188 = .ok (.goto (-101), 3) := dw_167 (kcX7_give_2 60 167 rfl) (kcX7_give_2 61 255 rfl) (kcX7_give_2 62 155 rfl) rfl
theorem dX7_give_191 : decode cX7_give 191 = .ok (.aload_n 0, 1) := dw_42 (kcX7_give_2 63 42 rfl)
theorem kcX7_give_3 : CHb cX7_give 192 [89, 180, 1, 18, 4, 96, 181, 1, 18, 42, 180, 1, 18, 4, 100, 172] := CHb_of (by decide +kernel)
theorem dX7_give_192 : decode cX7_give 192 = .ok (.dup, 1) := dw_89 (kcX7_give_3 0 89 rfl)
theorem dX7_give_193 : decode cX7_give 193 = .ok (.getfield 274, 3) := dw_180 (kcX7_give_3 1 180 rfl) (kcX7_give_3 2 1 rfl) (kcX7_give_3 3 18 rfl) rfl
theorem dX7_give_196 : decode cX7_give 196 = .ok (.iconst 1, 1) := dw_4 (kcX7_give_3 4 4 rfl)
theorem dX7_give_197 : decode cX7_give 197 = .ok (.iadd, 1) := dw_96 (kcX7_give_3 5 96 rfl)
theorem dX7_give_198 : decode cX7_give 198 = .ok (.putfield 274, 3) := dw_181 (kcX7_give_3 6 181 rfl) (kcX7_give_3 7 1 rfl) (kcX7_give_3 8 18 rfl) rfl
theorem dX7_give_201 : decode cX7_give 201 = .ok (.aload_n 0, 1) := dw_42 (kcX7_give_3 9 42 rfl)
theorem dX7_give_202 : decode cX7_give 202 = .ok (.getfield 274, 3) := dw_180 (kcX7_give_3 10 180 rfl) (kcX7_give_3 11 1 rfl) (kcX7_give_3 12 18 rfl) rfl
theorem dX7_give_205 : decode cX7_give 205 = .ok (.iconst 1, 1) := dw_4 (kcX7_give_3 13 4 rfl)
theorem dX7_give_206 : decode cX7_give 206 = .ok (.isub, 1) := dw_100 (kcX7_give_3 14 100 rfl)
theorem dX7_give_207 : decode cX7_give 207 = .ok (.ireturn, 1) := dw_172 (kcX7_give_3 15 172 rfl)
theorem dX7_give_37 : decode cX7_give 37 = .ok (.bipush 10, 2) := dw_16 (kcX7_give_0 37 16 rfl) (kcX7_give_0 38 10 rfl) rfl
theorem dX7_give_39 : decode cX7_give 39 = .ok (.goto 4, 3) := dw_167 (kcX7_give_0 39 167 rfl) (kcX7_give_0 40 0 rfl) (kcX7_give_0 41 4 rfl) rfl
theorem dX7_give_53 : decode cX7_give 53 = .ok (.iconst (-1), 1) := dw_2 (kcX7_give_0 53 2 rfl)
theorem dX7_give_54 : decode cX7_give 54 = .ok (.ireturn, 1) := dw_172 (kcX7_give_0 54 172 rfl)
theorem dX7_give_22 : decode cX7_give 22 = .ok (.bipush 8, 2) := dw_16 (kcX7_give_0 22 16 rfl) (kcX7_give_0 23 8 rfl) rfl
theorem dX7_give_24 : decode cX7_give 24 = .ok (.goto 19, 3) := dw_167 (kcX7_give_0 24 167 rfl) (kcX7_give_0 25 0 rfl) (kcX7_give_0 26 19 rfl) rfl
theorem dX7_give_9 : decode cX7_give 9 = .ok (.iconst 1, 1) := dw_4 (kcX7_give_0 9 4 rfl)
theorem dX7_give_10 : decode cX7_give 10 = .ok (.goto 33, 3) := dw_167 (kcX7_give_0 10 167 rfl) (kcX7_give_0 11 0 rfl) (kcX7_give_0 12 33 rfl) rfl
theorem kcX7_isIn_0 : CHb cX7_isIn 0 [27, 155, 0, 43, 27, 42, 180, 1, 18, 162, 0, 35, 28, 155, 0, 31, 29, 155, 0, 27, 28, 42, 180, 0, 110, 27, 46, 162, 0, 17, 29, 42, 180, 0, 113, 27, 46, 162, 0, 7, 4, 167, 0, 4, 3, 172] := CHb_of (by decide +kernel)
theorem dX7_isIn_0 : decode cX7_isIn 0 = .ok (.iload_n 1, 1) := dw_27 (kcX7_isIn_0 0 27 rfl)
theorem dX7_isIn_1 : decode cX7_isIn 1 = .ok (.ifCond .lt 43, 3) := dw_155 (kcX7_isIn_0 1 155 rfl) (kcX7_isIn_0 2 0 rfl) (kcX7_isIn_0 3 43 rfl) rfl
theorem dX7_isIn_44 : decode cX7_isIn 44 = .ok (.iconst 0, 1) := dw_3 (kcX7_isIn_0 44 3 rfl)
theorem dX7_isIn_45 : decode cX7_isIn 45 = .ok (.ireturn, 1) := dw_172 (kcX7_isIn_0 45 172 rfl)
theorem dX7_isIn_4 : decode cX7_isIn 4 = .ok (.iload_n 1, 1) := dw_27 (kcX7_isIn_0 4 27 rfl)
theorem dX7_isIn_5 : decode cX7_isIn 5 = .ok (.aload_n 0, 1) := dw_42 (kcX7_isIn_0 5 42 rfl)
theorem dX7_isIn_6 : decode cX7_isIn 6 = .ok (.getfield 274, 3) := dw_180 (kcX7_isIn_0 6 180 rfl) (kcX7_isIn_0 7 1 rfl) (kcX7_isIn_0 8 18 rfl) rfl
theorem dX7_isIn_9 : decode cX7_isIn 9 = .ok (.if_icmp .ge 35, 3) := dw_162 (kcX7_isIn_0 9 162 rfl) (kcX7_isIn_0 10 0 rfl) (kcX7_isIn_0 11 35 rfl) rfl
theorem dX7_isIn_12 : decode cX7_isIn 12 = .ok (.iload_n 2, 1) := dw_28 (kcX7_isIn_0 12 28 rfl)
theorem dX7_isIn_13 : decode cX7_isIn 13 = .ok (.ifCond .lt 31, 3) := dw_155 (kcX7_isIn_0 13 155 rfl) (kcX7_isIn_0 14 0 rfl) (kcX7_isIn_0 15 31 rfl) rfl
theorem dX7_isIn_16 : decode cX7_isIn 16 = .ok (.iload_n 3, 1) := dw_29 (kcX7_isIn_0 16 29 rfl)
theorem dX7_isIn_17 : decode cX7_isIn 17 = .ok (.ifCond .lt 27, 3) := dw_155 (kcX7_isIn_0 17 155 rfl) (kcX7_isIn_0 18 0 rfl) (kcX7_isIn_0 19 27 rfl) rfl
theorem dX7_isIn_20 : decode cX7_isIn 20 = .ok (.iload_n 2, 1) := dw_28 (kcX7_isIn_0 20 28 rfl)
theorem dX7_isIn_21 : decode cX7_isIn 21 = .ok (.aload_n 0, 1) := dw_42 (kcX7_isIn_0 21 42 rfl)
theorem dX7_isIn_22 : decode cX7_isIn 22 = .ok (.getfield 110, 3) := dw_180 (kcX7_isIn_0 22 180 rfl) (kcX7_isIn_0 23 0 rfl) (kcX7_isIn_0 24 110 rfl) rfl
theorem dX7_isIn_25 : decode cX7_isIn 25 = .ok (.iload_n 1, 1) := dw_27 (kcX7_isIn_0 25 27 rfl)
theorem dX7_isIn_26 : decode cX7_isIn 26 = .ok (.iaload, 1) := dw_46 (kcX7_isIn_0 26 46 rfl)
theorem dX7_isIn_27 : decode cX7_isIn 27 = .ok (.if_icmp .ge 17, 3) := dw_162 (kcX7_isIn_0 27 162 rfl) (kcX7_isIn_0 28 0 rfl) (kcX7_isIn_0 29 17 rfl) rfl
theorem dX7_isIn_30 : decode cX7_isIn 30 = .ok (.iload_n 3, 1) := dw_29 (kcX7_isIn_0 30 29 rfl)
theorem dX7_isIn_31 : decode cX7_isIn 31 = .ok (.aload_n 0, 1) := dw_42 (kcX7_isIn_0 31 42 rfl)
theorem dX7_isIn_32 : decode cX7_isIn 32 = .ok (.getfield 113, 3) := dw_180 (kcX7_isIn_0 32 180 rfl) (kcX7_isIn_0 33 0 rfl) (kcX7_isIn_0 34 113 rfl) rfl
theorem dX7_isIn_35 : decode cX7_isIn 35 = .ok (.iload_n 1, 1) := dw_27 (kcX7_isIn_0 35 27 rfl)
theorem dX7_isIn_36 : decode cX7_isIn 36 = .ok (.iaload, 1) := dw_46 (kcX7_isIn_0 36 46 rfl)
theorem dX7_isIn_37 : decode cX7_isIn 37 = .ok (.if_icmp .ge 7, 3) := dw_162 (kcX7_isIn_0 37 162 rfl) (kcX7_isIn_0 38 0 rfl) (kcX7_isIn_0 39 7 rfl) rfl
theorem dX7_isIn_40 : decode cX7_isIn 40 = .ok (.iconst 1, 1) := dw_4 (kcX7_isIn_0 40 4 rfl)
theorem dX7_isIn_41 : decode cX7_isIn 41 = .ok (.goto 4, 3) := dw_167 (kcX7_isIn_0 41 167 rfl) (kcX7_isIn_0 42 0 rfl) (kcX7_isIn_0 43 4 rfl) rfl
theorem kcX7_gift_0 : CHb cX7_gift 0 [42, 27, 28, 29, 182, 1, 21, 153, 0, 23, 42, 180, 0, 107, 17, 0, 144, 27, 104, 16, 12, 28, 104, 96, 29, 96, 46, 167, 0, 4, 2, 172] := CHb_of (by decide +kernel)
theorem dX7_gift_0 : decode cX7_gift 0 = .ok (.aload_n 0, 1) := dw_42 (kcX7_gift_0 0 42 rfl)
theorem dX7_gift_1 : decode cX7_gift 1 = .ok (.iload_n 1, 1) := dw_27 (kcX7_gift_0 1 27 rfl)
theorem dX7_gift_2 : decode cX7_gift 2 = .ok (.iload_n 2, 1) := dw_28 (kcX7_gift_0 2 28 rfl)
theorem dX7_gift_3 : decode cX7_gift 3 = .ok (.iload_n 3, 1) := dw_29 (kcX7_gift_0 3 29 rfl)
theorem dX7_gift_4 : decode cX7_gift 4 = .ok (.invokevirtual 277, 3) := dw_182 (kcX7_gift_0 4 182 rfl) (kcX7_gift_0 5 1 rfl) (kcX7_gift_0 6 21 rfl) rfl
theorem dX7_gift_7 : decode cX7_gift 7 = .ok (.ifCond .eq 23, 3) := dw_153 (kcX7_gift_0 7 153 rfl) (kcX7_gift_0 8 0 rfl) (kcX7_gift_0 9 23 rfl) rfl
theorem dX7_gift_30 : decode cX7_gift 30 = .ok (.iconst (-1), 1) := dw_2 (kcX7_gift_0 30 2 rfl)
theorem dX7_gift_31 : decode cX7_gift 31 = .ok (.ireturn, 1) := dw_172 (kcX7_gift_0 31 172 rfl)
theorem dX7_gift_10 : decode cX7_gift 10 = .ok (.aload_n 0, 1) := dw_42 (kcX7_gift_0 10 42 rfl)
theorem dX7_gift_11 : decode cX7_gift 11 = .ok (.getfield 107, 3) := dw_180 (kcX7_gift_0 11 180 rfl) (kcX7_gift_0 12 0 rfl) (kcX7_gift_0 13 107 rfl) rfl
theorem dX7_gift_14 : decode cX7_gift 14 = .ok (.sipush 144, 3) := dw_17 (kcX7_gift_0 14 17 rfl) (kcX7_gift_0 15 0 rfl) (kcX7_gift_0 16 144 rfl) rfl
theorem dX7_gift_17 : decode cX7_gift 17 = .ok (.iload_n 1, 1) := dw_27 (kcX7_gift_0 17 27 rfl)
theorem dX7_gift_18 : decode cX7_gift 18 = .ok (.imul, 1) := dw_104 (kcX7_gift_0 18 104 rfl)
theorem dX7_gift_19 : decode cX7_gift 19 = .ok (.bipush 12, 2) := dw_16 (kcX7_gift_0 19 16 rfl) (kcX7_gift_0 20 12 rfl) rfl
theorem dX7_gift_21 : decode cX7_gift 21 = .ok (.iload_n 2, 1) := dw_28 (kcX7_gift_0 21 28 rfl)
theorem dX7_gift_22 : decode cX7_gift 22 = .ok (.imul, 1) := dw_104 (kcX7_gift_0 22 104 rfl)
theorem dX7_gift_23 : decode cX7_gift 23 = .ok (.iadd, 1) := dw_96 (kcX7_gift_0 23 96 rfl)
theorem dX7_gift_24 : decode cX7_gift 24 = .ok (.iload_n 3, 1) := dw_29 (kcX7_gift_0 24 29 rfl)
theorem dX7_gift_25 : decode cX7_gift 25 = .ok (.iadd, 1) := dw_96 (kcX7_gift_0 25 96 rfl)
theorem dX7_gift_26 : decode cX7_gift 26 = .ok (.iaload, 1) := dw_46 (kcX7_gift_0 26 46 rfl)
theorem dX7_gift_27 : decode cX7_gift 27 = .ok (.goto 4, 3) := dw_167 (kcX7_gift_0 27 167 rfl) (kcX7_gift_0 28 0 rfl) (kcX7_gift_0 29 4 rfl) rfl
theorem kcX7_agree_0 : CHb cX7_agree 0 [27, 155, 0, 23, 28, 155, 0, 19, 27, 42, 180, 1, 18, 162, 0, 11, 28, 42, 180, 1, 18, 161, 0, 5, 2, 172, 3, 62, 29, 16, 12, 162, 0, 115, 3, 54, 4, 21, 4, 16, 12, 162, 0, 99, 42, 27, 29, 21, 4, 182, 1, 21, 153, 0, 82, 42, 28, 29, 21, 4, 182, 1, 21, 154] := CHb_of (by decide +kernel)
theorem dX7_agree_0 : decode cX7_agree 0 = .ok (.iload_n 1, 1) := dw_27 (kcX7_agree_0 0 27 rfl)
theorem dX7_agree_1 : decode cX7_agree 1 = .ok (.ifCond .lt 23, 3) := dw_155 (kcX7_agree_0 1 155 rfl) (kcX7_agree_0 2 0 rfl) (kcX7_agree_0 3 23 rfl) rfl
theorem dX7_agree_24 : decode cX7_agree 24 = .ok (.iconst (-1), 1) := dw_2 (kcX7_agree_0 24 2 rfl)
theorem dX7_agree_25 : decode cX7_agree 25 = .ok (.ireturn, 1) := dw_172 (kcX7_agree_0 25 172 rfl)
theorem dX7_agree_4 : decode cX7_agree 4 = .ok (.iload_n 2, 1) := dw_28 (kcX7_agree_0 4 28 rfl)
theorem dX7_agree_5 : decode cX7_agree 5 = .ok (.ifCond .lt 19, 3) := dw_155 (kcX7_agree_0 5 155 rfl) (kcX7_agree_0 6 0 rfl) (kcX7_agree_0 7 19 rfl) rfl
theorem dX7_agree_8 : decode cX7_agree 8 = .ok (.iload_n 1, 1) := dw_27 (kcX7_agree_0 8 27 rfl)
theorem dX7_agree_9 : decode cX7_agree 9 = .ok (.aload_n 0, 1) := dw_42 (kcX7_agree_0 9 42 rfl)
theorem dX7_agree_10 : decode cX7_agree 10 = .ok (.getfield 274, 3) := dw_180 (kcX7_agree_0 10 180 rfl) (kcX7_agree_0 11 1 rfl) (kcX7_agree_0 12 18 rfl) rfl
theorem dX7_agree_13 : decode cX7_agree 13 = .ok (.if_icmp .ge 11, 3) := dw_162 (kcX7_agree_0 13 162 rfl) (kcX7_agree_0 14 0 rfl) (kcX7_agree_0 15 11 rfl) rfl
theorem dX7_agree_16 : decode cX7_agree 16 = .ok (.iload_n 2, 1) := dw_28 (kcX7_agree_0 16 28 rfl)
theorem dX7_agree_17 : decode cX7_agree 17 = .ok (.aload_n 0, 1) := dw_42 (kcX7_agree_0 17 42 rfl)
theorem dX7_agree_18 : decode cX7_agree 18 = .ok (.getfield 274, 3) := dw_180 (kcX7_agree_0 18 180 rfl) (kcX7_agree_0 19 1 rfl) (kcX7_agree_0 20 18 rfl) rfl
theorem dX7_agree_21 : decode cX7_agree 21 = .ok (.if_icmp .lt 5, 3) := dw_161 (kcX7_agree_0 21 161 rfl) (kcX7_agree_0 22 0 rfl) (kcX7_agree_0 23 5 rfl) rfl
theorem dX7_agree_26 : decode cX7_agree 26 = .ok (.iconst 0, 1) := dw_3 (kcX7_agree_0 26 3 rfl)
theorem dX7_agree_27 : decode cX7_agree 27 = .ok (.istore_n 3, 1) := dw_62 (kcX7_agree_0 27 62 rfl)
theorem dX7_agree_28 : decode cX7_agree 28 = .ok (.iload_n 3, 1) := dw_29 (kcX7_agree_0 28 29 rfl)
theorem dX7_agree_29 : decode cX7_agree 29 = .ok (.bipush 12, 2) := dw_16 (kcX7_agree_0 29 16 rfl) (kcX7_agree_0 30 12 rfl) rfl
theorem dX7_agree_31 : decode cX7_agree 31 = .ok (.if_icmp .ge 115, 3) := dw_162 (kcX7_agree_0 31 162 rfl) (kcX7_agree_0 32 0 rfl) (kcX7_agree_0 33 115 rfl) rfl
theorem kcX7_agree_2 : CHb cX7_agree 128 [29, 104, 21, 4, 96, 172, 132, 4, 1, 167, 255, 156, 132, 3, 1, 167, 255, 141, 16, 254, 172] := CHb_of (by decide +kernel)
theorem dX7_agree_146 : decode cX7_agree 146 = .ok (.bipush (-2), 2) := dw_16 (kcX7_agree_2 18 16 rfl) (kcX7_agree_2 19 254 rfl) rfl
theorem dX7_agree_148 : decode cX7_agree 148 = .ok (.ireturn, 1) := dw_172 (kcX7_agree_2 20 172 rfl)
theorem dX7_agree_34 : decode cX7_agree 34 = .ok (.iconst 0, 1) := dw_3 (kcX7_agree_0 34 3 rfl)
theorem dX7_agree_35 : decode cX7_agree 35 = .ok (.istore 4, 2) := dw_54 (kcX7_agree_0 35 54 rfl) (kcX7_agree_0 36 4 rfl)
theorem dX7_agree_37 : decode cX7_agree 37 = .ok (.iload 4, 2) := dw_21 (kcX7_agree_0 37 21 rfl) (kcX7_agree_0 38 4 rfl)
theorem dX7_agree_39 : decode cX7_agree 39 = .ok (.bipush 12, 2) := dw_16 (kcX7_agree_0 39 16 rfl) (kcX7_agree_0 40 12 rfl) rfl
theorem dX7_agree_41 : decode cX7_agree 41 = .ok (.if_icmp .ge 99, 3) := dw_162 (kcX7_agree_0 41 162 rfl) (kcX7_agree_0 42 0 rfl) (kcX7_agree_0 43 99 rfl) rfl
theorem dX7_agree_140 : decode cX7_agree 140 = .ok (.iinc 3 1, 3) := dw_132 (kcX7_agree_2 12 132 rfl) (kcX7_agree_2 13 3 rfl) (kcX7_agree_2 14 1 rfl) rfl
theorem dX7_agree_143 : decode cX7_agree 143 = .ok (.goto (-115), 3) := dw_167 (kcX7_agree_2 15 167 rfl) (kcX7_agree_2 16 255 rfl) (kcX7_agree_2 17 141 rfl) rfl
theorem dX7_agree_44 : decode cX7_agree 44 = .ok (.aload_n 0, 1) := dw_42 (kcX7_agree_0 44 42 rfl)
theorem dX7_agree_45 : decode cX7_agree 45 = .ok (.iload_n 1, 1) := dw_27 (kcX7_agree_0 45 27 rfl)
theorem dX7_agree_46 : decode cX7_agree 46 = .ok (.iload_n 3, 1) := dw_29 (kcX7_agree_0 46 29 rfl)
theorem dX7_agree_47 : decode cX7_agree 47 = .ok (.iload 4, 2) := dw_21 (kcX7_agree_0 47 21 rfl) (kcX7_agree_0 48 4 rfl)
theorem dX7_agree_49 : decode cX7_agree 49 = .ok (.invokevirtual 277, 3) := dw_182 (kcX7_agree_0 49 182 rfl) (kcX7_agree_0 50 1 rfl) (kcX7_agree_0 51 21 rfl) rfl
theorem dX7_agree_52 : decode cX7_agree 52 = .ok (.ifCond .eq 82, 3) := dw_153 (kcX7_agree_0 52 153 rfl) (kcX7_agree_0 53 0 rfl) (kcX7_agree_0 54 82 rfl) rfl
theorem dX7_agree_134 : decode cX7_agree 134 = .ok (.iinc 4 1, 3) := dw_132 (kcX7_agree_2 6 132 rfl) (kcX7_agree_2 7 4 rfl) (kcX7_agree_2 8 1 rfl) rfl
theorem dX7_agree_137 : decode cX7_agree 137 = .ok (.goto (-100), 3) := dw_167 (kcX7_agree_2 9 167 rfl) (kcX7_agree_2 10 255 rfl) (kcX7_agree_2 11 156 rfl) rfl
theorem dX7_agree_55 : decode cX7_agree 55 = .ok (.aload_n 0, 1) := dw_42 (kcX7_agree_0 55 42 rfl)
theorem dX7_agree_56 : decode cX7_agree 56 = .ok (.iload_n 2, 1) := dw_28 (kcX7_agree_0 56 28 rfl)
theorem dX7_agree_57 : decode cX7_agree 57 = .ok (.iload_n 3, 1) := dw_29 (kcX7_agree_0 57 29 rfl)
theorem dX7_agree_58 : decode cX7_agree 58 = .ok (.iload 4, 2) := dw_21 (kcX7_agree_0 58 21 rfl) (kcX7_agree_0 59 4 rfl)
theorem dX7_agree_60 : decode cX7_agree 60 = .ok (.invokevirtual 277, 3) := dw_182 (kcX7_agree_0 60 182 rfl) (kcX7_agree_0 61 1 rfl) (kcX7_agree_0 62 21 rfl) rfl
theorem kcX7_agree_1 : CHb cX7_agree 64 [0, 6, 167, 0, 68, 42, 180, 0, 107, 17, 0, 144, 27, 104, 16, 12, 29, 104, 96, 21, 4, 96, 46, 54, 5, 42, 180, 0, 107, 17, 0, 144, 28, 104, 16, 12, 29, 104, 96, 21, 4, 96, 46, 54, 6, 21, 5, 155, 0, 23, 21, 6, 155, 0, 18, 21, 5, 21, 6, 159, 0, 11, 16, 100] := CHb_of (by decide +kernel)
theorem dX7_agree_63 : decode cX7_agree 63 = .ok (.ifCond .ne 6, 3) := dw_154 (kcX7_agree_0 63 154 rfl) (kcX7_agree_1 0 0 rfl) (kcX7_agree_1 1 6 rfl) rfl
theorem dX7_agree_69 : decode cX7_agree 69 = .ok (.aload_n 0, 1) := dw_42 (kcX7_agree_1 5 42 rfl)
theorem dX7_agree_70 : decode cX7_agree 70 = .ok (.getfield 107, 3) := dw_180 (kcX7_agree_1 6 180 rfl) (kcX7_agree_1 7 0 rfl) (kcX7_agree_1 8 107 rfl) rfl
theorem dX7_agree_73 : decode cX7_agree 73 = .ok (.sipush 144, 3) := dw_17 (kcX7_agree_1 9 17 rfl) (kcX7_agree_1 10 0 rfl) (kcX7_agree_1 11 144 rfl) rfl
theorem dX7_agree_76 : decode cX7_agree 76 = .ok (.iload_n 1, 1) := dw_27 (kcX7_agree_1 12 27 rfl)
theorem dX7_agree_77 : decode cX7_agree 77 = .ok (.imul, 1) := dw_104 (kcX7_agree_1 13 104 rfl)
theorem dX7_agree_78 : decode cX7_agree 78 = .ok (.bipush 12, 2) := dw_16 (kcX7_agree_1 14 16 rfl) (kcX7_agree_1 15 12 rfl) rfl
theorem dX7_agree_80 : decode cX7_agree 80 = .ok (.iload_n 3, 1) := dw_29 (kcX7_agree_1 16 29 rfl)
theorem dX7_agree_81 : decode cX7_agree 81 = .ok (.imul, 1) := dw_104 (kcX7_agree_1 17 104 rfl)
theorem dX7_agree_82 : decode cX7_agree 82 = .ok (.iadd, 1) := dw_96 (kcX7_agree_1 18 96 rfl)
theorem dX7_agree_83 : decode cX7_agree 83 = .ok (.iload 4, 2) := dw_21 (kcX7_agree_1 19 21 rfl) (kcX7_agree_1 20 4 rfl)
theorem dX7_agree_85 : decode cX7_agree 85 = .ok (.iadd, 1) := dw_96 (kcX7_agree_1 21 96 rfl)
theorem dX7_agree_86 : decode cX7_agree 86 = .ok (.iaload, 1) := dw_46 (kcX7_agree_1 22 46 rfl)
theorem dX7_agree_87 : decode cX7_agree 87 = .ok (.istore 5, 2) := dw_54 (kcX7_agree_1 23 54 rfl) (kcX7_agree_1 24 5 rfl)
theorem dX7_agree_89 : decode cX7_agree 89 = .ok (.aload_n 0, 1) := dw_42 (kcX7_agree_1 25 42 rfl)
theorem dX7_agree_90 : decode cX7_agree 90 = .ok (.getfield 107, 3) := dw_180 (kcX7_agree_1 26 180 rfl) (kcX7_agree_1 27 0 rfl) (kcX7_agree_1 28 107 rfl) rfl
theorem dX7_agree_93 : decode cX7_agree 93 = .ok (.sipush 144, 3) := dw_17 (kcX7_agree_1 29 17 rfl) (kcX7_agree_1 30 0 rfl) (kcX7_agree_1 31 144 rfl) rfl
theorem dX7_agree_96 : decode cX7_agree 96 = .ok (.iload_n 2, 1) := dw_28 (kcX7_agree_1 32 28 rfl)
theorem dX7_agree_97 : decode cX7_agree 97 = .ok (.imul, 1) := dw_104 (kcX7_agree_1 33 104 rfl)
theorem dX7_agree_98 : decode cX7_agree 98 = .ok (.bipush 12, 2) := dw_16 (kcX7_agree_1 34 16 rfl) (kcX7_agree_1 35 12 rfl) rfl
theorem dX7_agree_100 : decode cX7_agree 100 = .ok (.iload_n 3, 1) := dw_29 (kcX7_agree_1 36 29 rfl)
theorem dX7_agree_101 : decode cX7_agree 101 = .ok (.imul, 1) := dw_104 (kcX7_agree_1 37 104 rfl)
theorem dX7_agree_102 : decode cX7_agree 102 = .ok (.iadd, 1) := dw_96 (kcX7_agree_1 38 96 rfl)
theorem dX7_agree_103 : decode cX7_agree 103 = .ok (.iload 4, 2) := dw_21 (kcX7_agree_1 39 21 rfl) (kcX7_agree_1 40 4 rfl)
theorem dX7_agree_105 : decode cX7_agree 105 = .ok (.iadd, 1) := dw_96 (kcX7_agree_1 41 96 rfl)
theorem dX7_agree_106 : decode cX7_agree 106 = .ok (.iaload, 1) := dw_46 (kcX7_agree_1 42 46 rfl)
theorem dX7_agree_107 : decode cX7_agree 107 = .ok (.istore 6, 2) := dw_54 (kcX7_agree_1 43 54 rfl) (kcX7_agree_1 44 6 rfl)
theorem dX7_agree_109 : decode cX7_agree 109 = .ok (.iload 5, 2) := dw_21 (kcX7_agree_1 45 21 rfl) (kcX7_agree_1 46 5 rfl)
theorem dX7_agree_111 : decode cX7_agree 111 = .ok (.ifCond .lt 23, 3) := dw_155 (kcX7_agree_1 47 155 rfl) (kcX7_agree_1 48 0 rfl) (kcX7_agree_1 49 23 rfl) rfl
theorem dX7_agree_114 : decode cX7_agree 114 = .ok (.iload 6, 2) := dw_21 (kcX7_agree_1 50 21 rfl) (kcX7_agree_1 51 6 rfl)
theorem dX7_agree_116 : decode cX7_agree 116 = .ok (.ifCond .lt 18, 3) := dw_155 (kcX7_agree_1 52 155 rfl) (kcX7_agree_1 53 0 rfl) (kcX7_agree_1 54 18 rfl) rfl
theorem dX7_agree_119 : decode cX7_agree 119 = .ok (.iload 5, 2) := dw_21 (kcX7_agree_1 55 21 rfl) (kcX7_agree_1 56 5 rfl)
theorem dX7_agree_121 : decode cX7_agree 121 = .ok (.iload 6, 2) := dw_21 (kcX7_agree_1 57 21 rfl) (kcX7_agree_1 58 6 rfl)
theorem dX7_agree_123 : decode cX7_agree 123 = .ok (.if_icmp .eq 11, 3) := dw_159 (kcX7_agree_1 59 159 rfl) (kcX7_agree_1 60 0 rfl) (kcX7_agree_1 61 11 rfl) rfl
theorem dX7_agree_126 : decode cX7_agree 126 = .ok (.bipush 100, 2) := dw_16 (kcX7_agree_1 62 16 rfl) (kcX7_agree_1 63 100 rfl) rfl
theorem dX7_agree_128 : decode cX7_agree 128 = .ok (.iload_n 3, 1) := dw_29 (kcX7_agree_2 0 29 rfl)
theorem dX7_agree_129 : decode cX7_agree 129 = .ok (.imul, 1) := dw_104 (kcX7_agree_2 1 104 rfl)
theorem dX7_agree_130 : decode cX7_agree 130 = .ok (.iload 4, 2) := dw_21 (kcX7_agree_2 2 21 rfl) (kcX7_agree_2 3 4 rfl)
theorem dX7_agree_132 : decode cX7_agree 132 = .ok (.iadd, 1) := dw_96 (kcX7_agree_2 4 96 rfl)
theorem dX7_agree_133 : decode cX7_agree 133 = .ok (.ireturn, 1) := dw_172 (kcX7_agree_2 5 172 rfl)
theorem dX7_agree_66 : decode cX7_agree 66 = .ok (.goto 68, 3) := dw_167 (kcX7_agree_1 2 167 rfl) (kcX7_agree_1 3 0 rfl) (kcX7_agree_1 4 68 rfl) rfl
/-- how many of the first are 0 -/
def cZ (x : Nat → Int32) : Nat → Nat
  | 0 => 0
  | k + 1 => cZ x k + (if x k = 0 then 1 else 0)
theorem cZ_le (x : Nat → Int32) : ∀ N, cZ x N ≤ N
  | 0 => Nat.le_refl 0
  | k + 1 => by have h := cZ_le x k; simp only [cZ]; split <;> omega
theorem cZ_out {x : Nat → Int32} {y : Nat} {v : Int32} : ∀ N, N ≤ y → cZ (upd x y v) N = cZ x N
  | 0, _ => rfl
  | k + 1, h => by simp only [cZ]; rw [cZ_out k (by omega), pk_un (by omega)]
theorem cZ_set (x : Nat → Int32) (y : Nat) : ∀ N, cZ (upd x y 1) N ≤ cZ x N
  | 0 => Nat.le_refl 0
  | k + 1 => by
    have h := cZ_set x y k
    simp only [cZ]
    by_cases e : k = y
    · subst e; rw [pk_us, if_neg (by decide)]; omega
    · rw [pk_un e]; omega
theorem cZ_lt {x : Nat → Int32} {y : Nat} (hx : x y = 0) : ∀ N, y < N → cZ (upd x y 1) N < cZ x N
  | 0, h => absurd h (Nat.not_lt_zero _)
  | k + 1, h => by
    simp only [cZ]
    by_cases e : k = y
    · subst e; rw [pk_us, if_neg (by decide), if_pos hx, cZ_out k (Nat.le_refl _)]; omega
    · have h2 := cZ_lt hx k (by omega); rw [pk_un e]; omega
def nL (m : Nat) (x : Int32) : Prop := ∃ n, n ≤ m ∧ x = nI n
def dnK (x0 x1 : Nat → Int32) (q : Int32) : Prop := cZ x1 864 ≤ cZ x0 864 ∧ (q = 0 ∨ cZ x1 864 < cZ x0 864)
theorem dnK_3 {x0 x1 x2 x3 : Nat → Int32} {q1 q2 q3 v v2 : Int32} (h1 : dnK x0 x1 q1) (h2 : dnK x1 x2 q2) (h3 : dnK x2 x3 q3) (ev : v = v2 + q3) (ev2 : v2 = q1 + q2) : dnK x0 x3 v := by
  obtain ⟨a1, b1⟩ := h1
  obtain ⟨a2, b2⟩ := h2
  obtain ⟨a3, b3⟩ := h3
  refine ⟨by omega, ?_⟩
  rcases b1 with b1 | b1
  · rcases b2 with b2 | b2
    · rcases b3 with b3 | b3
      · exact Or.inl (by rw [ev, ev2, b1, b2, b3]; decide)
      · exact Or.inr (by omega)
    · exact Or.inr (by omega)
  · exact Or.inr (by omega)
set_option maxHeartbeats 4000000 in
set_option maxRecDepth 100000 in
theorem m_X7_witness (l : Launch) (G : GG) (y : Nat) (b : Nat → Nat) (f : Nat → Int32) (r : Nat → Nat → Int32) (tb : Int32) (row : Int32) (col : Int32) (gr : Int32) (hM2 : nOK 6 12 (r 2)) (hM3 : nOK 6 12 (r 3)) (hM12 : nOK 6 12 (r 12)) (hG : nOK 864 6 (r 7)) (h27 : nL 12 (f 27)) (h28 : nL 12 (f 28)) : WrI l yX7_witness cX7_witness 11 (some .int) ({ frames := 4, cells := 0, slots := 0, locals := 105 }) G (mM G y b f r) [.ref y, .int tb, .int row, .int col, .int gr] (fun q w => ∃ (n_f_0 : Int32) (n_f_20 : Int32) (n_f_21 : Int32) (n_f_27 : Int32) (n_f_28 : Int32) (n_r_15 : Nat → Int32) (n_r_16 : Nat → Int32) (n_r_17 : Nat → Int32) (n_r_18 : Nat → Int32) (n_r_19 : Nat → Int32) (n_r_22 : Nat → Int32) (n_r_23 : Nat → Int32) (n_r_24 : Nat → Int32) (n_r_25 : Nat → Int32) (n_r_26 : Nat → Int32), w = mM G y b (upd (upd (upd (upd (upd f 0 n_f_0) 20 n_f_20) 21 n_f_21) 27 n_f_27) 28 n_f_28) (up2 (up2 (up2 (up2 (up2 (up2 (up2 (up2 (up2 (up2 r 15 n_r_15) 16 n_r_16) 17 n_r_17) 18 n_r_18) 19 n_r_19) 22 n_r_22) 23 n_r_23) 24 n_r_24) 25 n_r_25) 26 n_r_26) ∧ (nL 12 n_f_27) ∧ (nL 12 n_f_28)) := by
  refine wr_entryI (by decide +kernel) (Nat.le_of_ble_eq_true rfl) ?_
  intro p e s m below meth c A C0 hP hK hD hA ls hl
  have hS : va_S A s.heap s.heap [] := va_S.rf
  obtain ⟨hx, hb, hml, hown, hts, hr, hlocks, hin⟩ := C0
  have hown : s.vm.findClass RX7 = some m.cls := hown
  have hDD : ∀ f' r', va_D A (mM G y b f' r') := fun f' r' => D_same hD rfl
  have hl : lv_has ls 11 [(0, .ref y), (1, .int tb), (2, .int row), (3, .int col), (4, .int gr)] := hl
  refine lv_aload_n hx hb dX7_witness_0 rfl (lv_at hl 0 rfl) ?_
  refine lv_aload_n hx hb dX7_witness_1 rfl (lv_at hl 0 rfl) ?_
  refine lv_iload_n hx hb dX7_witness_2 rfl (lv_at hl 1 rfl) ?_
  refine lv_iload_n hx hb dX7_witness_3 rfl (lv_at hl 2 rfl) ?_
  refine lv_iload_n hx hb dX7_witness_4 rfl (lv_at hl 3 rfl) ?_
  refine rdV (rest := [.ref y]) (q0 := 0) ⟨hx, hb, hml, hown, hts⟩ (m_X7_wrongSound l G y b f r tb row col  hM2 hM3 hM12) mi_yX7_wrongSound mv_yX7_wrongSound ml_X7_178 ⟨rfl, rfl, Nat.le_of_ble_eq_true rfl, Nat.le_of_ble_eq_true rfl⟩ hK (hP) rfl rfl rfl hl.1 rfl (Nat.le_of_ble_eq_true rfl) dX7_witness_5 ⟨Nat.zero_le _, Nat.zero_le _⟩ hS hA hP (fun r1 H locs hr1 hP hS => ?_)
  have hr1 : stM (r 1) (r 2) (r 3) (r 11) tb row col (fun t i k => kfS ((r 5) (144 * t + 12 * i + k)) (sndN ((r 3) t) (r 11) (r 5) t i)) r1 := hr1
  refine va_put (D := G.1) (ci := 7) (v := .int r1) (C := RX7) (T := TX7) (N := 43) hx hb hts inX7 tyX7 tyX7_ok nmX7 hown hK.1 hP (hDD _ _) hS 0 rfl rfl 0 (by decide) (hts _ mf_X7_116) (fun _ h9 => h9) rfl (tyX7_ok 0 (by decide)) (rfl) (rfl) (Nat.le_of_ble_eq_true rfl) dX7_witness_8 (fun H locs hP _ hS => ?_)
  have hP : PP G (mM G y b (upd f 0 r1) r) H := hP
  refine lv_aload_n hx hb dX7_witness_11 rfl (lv_at hl 0 rfl) ?_
  refine va_get (D := G.1) (ci := 7) (v := .int r1) (C := RX7) (T := TX7) (N := 43) hx hb hts inX7 hown hK.1 hP 0 rfl rfl 0 (by decide) (hts _ mf_X7_116) (fun _ h9 => h9) rfl dX7_witness_12 ?_
  refine lv_if_le (tgt := 20) hx hb dX7_witness_15 (by decide) (fun c2 => ?_) (fun c2 => ?_)
  · obtain ⟨t, i, k, rw, cl, ht, hi, hk, hrw, hcl, rfl, rfl, rfl, h2, h3⟩ := wS_ok (stM_w hM2 hM3 (fun _ _ _ => kfS_p _ _) hr1) (npos_of_le c2)
    obtain ⟨bk, hbk, h12⟩ := hM12 t ht
    refine lv_aload_n hx hb dX7_witness_20 rfl (lv_at hl 0 rfl) ?_
    refine lv_iload_n hx hb dX7_witness_21 rfl (lv_at hl 1 rfl) ?_
    refine wrVVa (rest := []) (q0 := 0) ⟨hx, hb, hml, hown, hts⟩ (m_X7_lay l G y b (upd f 0 r1) r t rw cl bk (by omega) (by omega) (by omega) (by omega) h2 h3 h12 hG) mi_yX7_lay mv_yX7_lay ml_X7_216 ⟨rfl, rfl, Nat.le_of_ble_eq_true rfl, Nat.le_of_ble_eq_true rfl⟩ hK hP (hDD _ _) rfl rfl rfl hl.1 rfl (Nat.le_of_ble_eq_true rfl) dX7_witness_22 ⟨Nat.zero_le _, Nat.zero_le _⟩ hS hA (fun w4 H locs hw4 hP hS => ?_)
    obtain ⟨x5, x6, x7, x8, x9, x10, x11, rfl, h20, h21⟩ := hw4
    have hP : PP G (mM G y b (upd (upd (upd f 0 r1) 20 x5) 21 x6) (up2 (up2 (up2 (up2 (up2 r 15 x7) 16 x8) 17 x9) 18 x10) 19 x11)) H := hP
    have h20 : x5 = nI rw := h20
    have h21 : x6 = nI cl := h21
    refine lv_aload_n hx hb dX7_witness_25 rfl (lv_at hl 0 rfl) ?_
    refine va_get (D := G.1) (ci := 7) (v := .ref (b 19)) (C := RX7) (T := TX7) (N := 43) hx hb hts inX7 hown hK.1 hP 0 rfl rfl 19 (by decide) (hts _ mf_X7_65) (fun _ h9 => h9) rfl dX7_witness_26 ?_
    refine lv_bipush (v := 12) hx hb dX7_witness_29 (by decide) ?_
    refine lv_iload_n hx hb dX7_witness_31 rfl (lv_at hl 2 rfl) ?_
    refine lv_imul hx hb dX7_witness_32 ?_
    refine lv_topi (fun v12 ev12 => ?_)
    obtain rfl : v12 = nI (12 * i) := nI_times ev12 rfl rfl
    refine lv_iload_n hx hb dX7_witness_33 rfl (lv_at hl 3 rfl) ?_
    refine lv_iadd hx hb dX7_witness_34 ?_
    refine lv_topi (fun v13 ev13 => ?_)
    obtain rfl : v13 = nI ((12 * i) + k) := nI_plus ev13 rfl rfl
    refine xzald (f := x11) hx hb hK hP 19 (((12 * i) + k)) (rfl) (by omega) (by decide) rfl dX7_witness_35 ?_
    refine lv_topi (fun v14 ev14 => ?_)
    refine lv_istore (lv' := [(5, .int v14), (0, .ref y), (1, .int (nI t)), (2, .int (nI i)), (3, .int (nI k)), (4, .int gr)]) hx hb dX7_witness_36 hl (by decide) rfl (fun ls hl => ?_)
    refine lv_aload_n hx hb dX7_witness_38 rfl (lv_at hl 1 rfl) ?_
    refine lv_iload_n hx hb dX7_witness_39 rfl (lv_at hl 3 rfl) ?_
    refine lv_iload_n hx hb dX7_witness_40 rfl (lv_at hl 4 rfl) ?_
    refine lv_iload hx hb dX7_witness_41 (lv_at hl 5 rfl) ?_
    refine wrVVa (rest := []) (q0 := 0) ⟨hx, hb, hml, hown, hts⟩ (m_X7_settle l G y b (upd (upd (upd f 0 r1) 20 x5) 21 x6) (up2 (up2 (up2 (up2 (up2 r 15 x7) 16 x8) 17 x9) 18 x10) 19 x11) i k gr  (by omega) (by omega)) mi_yX7_settle mv_yX7_settle ml_X7_219 ⟨rfl, rfl, Nat.le_of_ble_eq_true rfl, Nat.le_of_ble_eq_true rfl⟩ hK hP (hDD _ _) rfl rfl rfl hl.1 rfl (Nat.le_of_ble_eq_true rfl) dX7_witness_43 ⟨Nat.zero_le _, Nat.zero_le _⟩ hS hA (fun w16 H locs hw16 hP hS => ?_)
    obtain ⟨x17, x18, x19, x20, rfl⟩ := hw16
    have hP : PP G (mM G y b (upd (upd (upd f 0 r1) 20 x5) 21 x6) (up2 (up2 (up2 (up2 (up2 (up2 (up2 r 15 x17) 16 x8) 17 x9) 18 x10) 19 x18) 22 x19) 23 x20)) H := hP
    refine lv_iconst (v := 0) hx hb dX7_witness_46 (by decide) ?_
    refine lv_istore (lv' := [(6, .int 0), (5, .int v14), (0, .ref y), (1, .int (nI t)), (2, .int (nI i)), (3, .int (nI k)), (4, .int gr)]) hx hb dX7_witness_47 hl (by decide) rfl (fun ls hl => ?_)
    have loop49 : ∀ (k21 i1 : Nat) (x22 : Nat → Int32) (x23 : Nat → Int32) (x24 : Nat → Int32) (x25 : Nat → Int32), i1 ≤ rw → rw < i1 + k21 → ∀ (H : Heap) (locs : List Loc) (ls : Array Slot), PP G (mM G y b (upd (upd (upd f 0 r1) 20 x5) 21 x6) (up2 (up2 (up2 (up2 (up2 (up2 (up2 r 15 x22) 16 x8) 17 x9) 18 x10) 19 x23) 22 x24) 23 x25)) H → va_S A s.heap H locs → lv_has ls 11 [(6, .int (nI i1)), (5, .int v14), (0, .ref y), (1, .int (nI t)), (2, .int (nI i)), (3, .int (nI k)), (4, .int gr)] → W p l e ({ frames := 4, cells := 0, slots := 0, locals := 105 }) s m ([.ref y, .int (nI t), .int (nI i), .int (nI k), .int gr] : List Value).toArray below meth c H locs 0 0 (MQ below (QwI G (fun q w => ∃ (n_f_0 : Int32) (n_f_20 : Int32) (n_f_21 : Int32) (n_f_27 : Int32) (n_f_28 : Int32) (n_r_15 : Nat → Int32) (n_r_16 : Nat → Int32) (n_r_17 : Nat → Int32) (n_r_18 : Nat → Int32) (n_r_19 : Nat → Int32) (n_r_22 : Nat → Int32) (n_r_23 : Nat → Int32) (n_r_24 : Nat → Int32) (n_r_25 : Nat → Int32) (n_r_26 : Nat → Int32), w = mM G y b (upd (upd (upd (upd (upd f 0 n_f_0) 20 n_f_20) 21 n_f_21) 27 n_f_27) 28 n_f_28) (up2 (up2 (up2 (up2 (up2 (up2 (up2 (up2 (up2 (up2 r 15 n_r_15) 16 n_r_16) 17 n_r_17) 18 n_r_18) 19 n_r_19) 22 n_r_22) 23 n_r_23) 24 n_r_24) 25 n_r_25) 26 n_r_26) ∧ (nL 12 n_f_27) ∧ (nL 12 n_f_28)) A) ([.ref y, .int (nI t), .int (nI i), .int (nI k), .int gr] : List Value).toArray s 0 0 A) (F0 m 49 ls []) := by
      intro k21
      induction k21 with
      | zero => intro i1 x22 x23 x24 x25 h1 h2; exact absurd h1 (by omega)
      | succ k21 ih49k21 =>
        intro i1 x22 x23 x24 x25 hi_i1 hk_i1  H locs ls hP hS hl
        refine lv_iload hx hb dX7_witness_49 (lv_at hl 0 rfl) ?_
        refine lv_aload_n hx hb dX7_witness_51 rfl (lv_at hl 2 rfl) ?_
        refine va_get (D := G.1) (ci := 7) (v := .int x5) (C := RX7) (T := TX7) (N := 43) hx hb hts inX7 hown hK.1 hP 0 rfl rfl 20 (by decide) (hts _ mf_X7_189) (fun _ h9 => h9) rfl dX7_witness_52 ?_
        rw [show x5 = nI (rw) from h20]
        refine lv_icmp_ge (tgt := 91) hx hb dX7_witness_55 (by decide) (fun c26 => ?_) (fun c26 => ?_)
        · have b55 := qge_t (a := i1) (b := (rw)) (by omega) (by omega) c26
          refine lv_aload_n hx hb dX7_witness_91 rfl (lv_at hl 2 rfl) ?_
          refine lv_aload_n hx hb dX7_witness_92 rfl (lv_at hl 2 rfl) ?_
          refine va_get (D := G.1) (ci := 7) (v := .int x5) (C := RX7) (T := TX7) (N := 43) hx hb hts inX7 hown hK.1 hP 0 rfl rfl 20 (by decide) (hts _ mf_X7_189) (fun _ h9 => h9) rfl dX7_witness_93 ?_
          rw [show x5 = nI (rw) from h20]
          refine va_put (D := G.1) (ci := 7) (v := .int (nI (rw))) (C := RX7) (T := TX7) (N := 43) hx hb hts inX7 tyX7 tyX7_ok nmX7 hown hK.1 hP (hDD _ _) hS 0 rfl rfl 27 (by decide) (hts _ mf_X7_233) (fun _ h9 => h9) rfl (tyX7_ok 27 (by decide)) (rfl) (rfl) (Nat.le_of_ble_eq_true rfl) dX7_witness_96 (fun H locs hP _ hS => ?_)
          have hP : PP G (mM G y b (upd (upd (upd (upd f 0 r1) 20 x5) 21 x6) 27 (nI (rw))) (up2 (up2 (up2 (up2 (up2 (up2 (up2 r 15 x22) 16 x8) 17 x9) 18 x10) 19 x23) 22 x24) 23 x25)) H := hP
          have h27 : nL 12 (nI (rw)) := ⟨rw, hrw, rfl⟩
          refine lv_aload_n hx hb dX7_witness_99 rfl (lv_at hl 2 rfl) ?_
          refine lv_aload_n hx hb dX7_witness_100 rfl (lv_at hl 2 rfl) ?_
          refine va_get (D := G.1) (ci := 7) (v := .int x6) (C := RX7) (T := TX7) (N := 43) hx hb hts inX7 hown hK.1 hP 0 rfl rfl 21 (by decide) (hts _ mf_X7_192) (fun _ h9 => h9) rfl dX7_witness_101 ?_
          rw [show x6 = nI (cl) from h21]
          refine va_put (D := G.1) (ci := 7) (v := .int (nI (cl))) (C := RX7) (T := TX7) (N := 43) hx hb hts inX7 tyX7 tyX7_ok nmX7 hown hK.1 hP (hDD _ _) hS 0 rfl rfl 28 (by decide) (hts _ mf_X7_236) (fun _ h9 => h9) rfl (tyX7_ok 28 (by decide)) (rfl) (rfl) (Nat.le_of_ble_eq_true rfl) dX7_witness_104 (fun H locs hP _ hS => ?_)
          have hP : PP G (mM G y b (upd (upd (upd (upd (upd f 0 r1) 20 x5) 21 x6) 27 (nI (rw))) 28 (nI (cl))) (up2 (up2 (up2 (up2 (up2 (up2 (up2 r 15 x22) 16 x8) 17 x9) 18 x10) 19 x23) 22 x24) 23 x25)) H := hP
          have h28 : nL 12 (nI (cl)) := ⟨cl, hcl, rfl⟩
          refine lv_iconst (v := 0) hx hb dX7_witness_107 (by decide) ?_
          refine lv_istore (lv' := [(6, .int 0), (5, .int v14), (0, .ref y), (1, .int (nI t)), (2, .int (nI i)), (3, .int (nI k)), (4, .int gr)]) hx hb dX7_witness_108 hl (by decide) rfl (fun ls hl => ?_)
          have loop110 : ∀ (k27 n1 : Nat) (x28 : Nat → Int32), n1 ≤ 144 → 144 < n1 + k27 → ∀ (H : Heap) (locs : List Loc) (ls : Array Slot), PP G (mM G y b (upd (upd (upd (upd (upd f 0 r1) 20 x5) 21 x6) 27 (nI (rw))) 28 (nI (cl))) (up2 (up2 (up2 (up2 (up2 (up2 (up2 (up2 r 15 x22) 16 x8) 17 x9) 18 x10) 19 x23) 22 x24) 23 x25) 24 x28)) H → va_S A s.heap H locs → lv_has ls 11 [(6, .int (nI n1)), (5, .int v14), (0, .ref y), (1, .int (nI t)), (2, .int (nI i)), (3, .int (nI k)), (4, .int gr)] → W p l e ({ frames := 4, cells := 0, slots := 0, locals := 105 }) s m ([.ref y, .int (nI t), .int (nI i), .int (nI k), .int gr] : List Value).toArray below meth c H locs 0 0 (MQ below (QwI G (fun q w => ∃ (n_f_0 : Int32) (n_f_20 : Int32) (n_f_21 : Int32) (n_f_27 : Int32) (n_f_28 : Int32) (n_r_15 : Nat → Int32) (n_r_16 : Nat → Int32) (n_r_17 : Nat → Int32) (n_r_18 : Nat → Int32) (n_r_19 : Nat → Int32) (n_r_22 : Nat → Int32) (n_r_23 : Nat → Int32) (n_r_24 : Nat → Int32) (n_r_25 : Nat → Int32) (n_r_26 : Nat → Int32), w = mM G y b (upd (upd (upd (upd (upd f 0 n_f_0) 20 n_f_20) 21 n_f_21) 27 n_f_27) 28 n_f_28) (up2 (up2 (up2 (up2 (up2 (up2 (up2 (up2 (up2 (up2 r 15 n_r_15) 16 n_r_16) 17 n_r_17) 18 n_r_18) 19 n_r_19) 22 n_r_22) 23 n_r_23) 24 n_r_24) 25 n_r_25) 26 n_r_26) ∧ (nL 12 n_f_27) ∧ (nL 12 n_f_28)) A) ([.ref y, .int (nI t), .int (nI i), .int (nI k), .int gr] : List Value).toArray s 0 0 A) (F0 m 110 ls []) := by
            intro k27
            induction k27 with
            | zero => intro n1 x28 h1 h2; exact absurd h1 (by omega)
            | succ k27 ih110k27 =>
              intro n1 x28 hi_n1 hk_n1  H locs ls hP hS hl
              refine lv_iload hx hb dX7_witness_110 (lv_at hl 0 rfl) ?_
              refine lv_sipush (v := 144) hx hb dX7_witness_112 (by decide) ?_
              refine lv_icmp_ge (tgt := 138) hx hb dX7_witness_115 (by decide) (fun c29 => ?_) (fun c29 => ?_)
              · have b115 := qge_t (a := n1) (b := 144) (by omega) (by omega) c29
                refine lv_iconst (v := 0) hx hb dX7_witness_138 (by decide) ?_
                refine lv_istore (lv' := [(6, .int 0), (5, .int v14), (0, .ref y), (1, .int (nI t)), (2, .int (nI i)), (3, .int (nI k)), (4, .int gr)]) hx hb dX7_witness_139 hl (by decide) rfl (fun ls hl => ?_)
                have loop141 : ∀ (k30 n2 : Nat) (x31 : Nat → Int32), n2 ≤ rw → rw < n2 + k30 → ∀ (H : Heap) (locs : List Loc) (ls : Array Slot), PP G (mM G y b (upd (upd (upd (upd (upd f 0 r1) 20 x5) 21 x6) 27 (nI (rw))) 28 (nI (cl))) (up2 (up2 (up2 (up2 (up2 (up2 (up2 (up2 (up2 r 15 x22) 16 x8) 17 x9) 18 x10) 19 x23) 22 x24) 23 x25) 24 x28) 25 x31)) H → va_S A s.heap H locs → lv_has ls 11 [(6, .int (nI n2)), (5, .int v14), (0, .ref y), (1, .int (nI t)), (2, .int (nI i)), (3, .int (nI k)), (4, .int gr)] → W p l e ({ frames := 4, cells := 0, slots := 0, locals := 105 }) s m ([.ref y, .int (nI t), .int (nI i), .int (nI k), .int gr] : List Value).toArray below meth c H locs 0 0 (MQ below (QwI G (fun q w => ∃ (n_f_0 : Int32) (n_f_20 : Int32) (n_f_21 : Int32) (n_f_27 : Int32) (n_f_28 : Int32) (n_r_15 : Nat → Int32) (n_r_16 : Nat → Int32) (n_r_17 : Nat → Int32) (n_r_18 : Nat → Int32) (n_r_19 : Nat → Int32) (n_r_22 : Nat → Int32) (n_r_23 : Nat → Int32) (n_r_24 : Nat → Int32) (n_r_25 : Nat → Int32) (n_r_26 : Nat → Int32), w = mM G y b (upd (upd (upd (upd (upd f 0 n_f_0) 20 n_f_20) 21 n_f_21) 27 n_f_27) 28 n_f_28) (up2 (up2 (up2 (up2 (up2 (up2 (up2 (up2 (up2 (up2 r 15 n_r_15) 16 n_r_16) 17 n_r_17) 18 n_r_18) 19 n_r_19) 22 n_r_22) 23 n_r_23) 24 n_r_24) 25 n_r_25) 26 n_r_26) ∧ (nL 12 n_f_27) ∧ (nL 12 n_f_28)) A) ([.ref y, .int (nI t), .int (nI i), .int (nI k), .int gr] : List Value).toArray s 0 0 A) (F0 m 141 ls []) := by
                  intro k30
                  induction k30 with
                  | zero => intro n2 x31 h1 h2; exact absurd h1 (by omega)
                  | succ k30 ih141k30 =>
                    intro n2 x31 hi_n2 hk_n2  H locs ls hP hS hl
                    refine lv_iload hx hb dX7_witness_141 (lv_at hl 0 rfl) ?_
                    refine lv_aload_n hx hb dX7_witness_143 rfl (lv_at hl 2 rfl) ?_
                    refine va_get (D := G.1) (ci := 7) (v := .int x5) (C := RX7) (T := TX7) (N := 43) hx hb hts inX7 hown hK.1 hP 0 rfl rfl 20 (by decide) (hts _ mf_X7_189) (fun _ h9 => h9) rfl dX7_witness_144 ?_
                    rw [show x5 = nI (rw) from h20]
                    refine lv_icmp_ge (tgt := 170) hx hb dX7_witness_147 (by decide) (fun c32 => ?_) (fun c32 => ?_)
                    · have b147 := qge_t (a := n2) (b := (rw)) (by omega) (by omega) c32
                      refine lv_iconst (v := 0) hx hb dX7_witness_170 (by decide) ?_
                      refine lv_istore (lv' := [(6, .int 0), (5, .int v14), (0, .ref y), (1, .int (nI t)), (2, .int (nI i)), (3, .int (nI k)), (4, .int gr)]) hx hb dX7_witness_171 hl (by decide) rfl (fun ls hl => ?_)
                      have loop173 : ∀ (k33 n3 : Nat) (x34 : Nat → Int32), n3 ≤ 24 → 24 < n3 + k33 → ∀ (H : Heap) (locs : List Loc) (ls : Array Slot), PP G (mM G y b (upd (upd (upd (upd (upd f 0 r1) 20 x5) 21 x6) 27 (nI (rw))) 28 (nI (cl))) (up2 (up2 (up2 (up2 (up2 (up2 (up2 (up2 (up2 (up2 r 15 x22) 16 x8) 17 x9) 18 x10) 19 x23) 22 x24) 23 x25) 24 x28) 25 x31) 26 x34)) H → va_S A s.heap H locs → lv_has ls 11 [(6, .int (nI n3)), (5, .int v14), (0, .ref y), (1, .int (nI t)), (2, .int (nI i)), (3, .int (nI k)), (4, .int gr)] → W p l e ({ frames := 4, cells := 0, slots := 0, locals := 105 }) s m ([.ref y, .int (nI t), .int (nI i), .int (nI k), .int gr] : List Value).toArray below meth c H locs 0 0 (MQ below (QwI G (fun q w => ∃ (n_f_0 : Int32) (n_f_20 : Int32) (n_f_21 : Int32) (n_f_27 : Int32) (n_f_28 : Int32) (n_r_15 : Nat → Int32) (n_r_16 : Nat → Int32) (n_r_17 : Nat → Int32) (n_r_18 : Nat → Int32) (n_r_19 : Nat → Int32) (n_r_22 : Nat → Int32) (n_r_23 : Nat → Int32) (n_r_24 : Nat → Int32) (n_r_25 : Nat → Int32) (n_r_26 : Nat → Int32), w = mM G y b (upd (upd (upd (upd (upd f 0 n_f_0) 20 n_f_20) 21 n_f_21) 27 n_f_27) 28 n_f_28) (up2 (up2 (up2 (up2 (up2 (up2 (up2 (up2 (up2 (up2 r 15 n_r_15) 16 n_r_16) 17 n_r_17) 18 n_r_18) 19 n_r_19) 22 n_r_22) 23 n_r_23) 24 n_r_24) 25 n_r_25) 26 n_r_26) ∧ (nL 12 n_f_27) ∧ (nL 12 n_f_28)) A) ([.ref y, .int (nI t), .int (nI i), .int (nI k), .int gr] : List Value).toArray s 0 0 A) (F0 m 173 ls []) := by
                        intro k33
                        induction k33 with
                        | zero => intro n3 x34 h1 h2; exact absurd h1 (by omega)
                        | succ k33 ih173k33 =>
                          intro n3 x34 hi_n3 hk_n3  H locs ls hP hS hl
                          refine lv_iload hx hb dX7_witness_173 (lv_at hl 0 rfl) ?_
                          refine lv_bipush (v := 24) hx hb dX7_witness_175 (by decide) ?_
                          refine lv_icmp_ge (tgt := 194) hx hb dX7_witness_177 (by decide) (fun c35 => ?_) (fun c35 => ?_)
                          · have b177 := qge_t (a := n3) (b := 24) (by omega) (by omega) c35
                            refine lv_iload hx hb dX7_witness_194 (lv_at hl 6 rfl) ?_
                            have j207_36 : ∀ (z36 : Nat) (gz36 : z36 < 24) (H : Heap) (locs : List Loc) (ls : Array Slot), PP G (mM G y b (upd (upd (upd (upd (upd f 0 r1) 20 x5) 21 x6) 27 (nI (rw))) 28 (nI (cl))) (up2 (up2 (up2 (up2 (up2 (up2 (up2 (up2 (up2 (up2 r 15 x22) 16 x8) 17 x9) 18 x10) 19 x23) 22 x24) 23 x25) 24 x28) 25 x31) 26 x34)) H → va_S A s.heap H locs → lv_has ls 11 [(5, .int v14), (0, .ref y), (1, .int (nI t)), (2, .int (nI i)), (3, .int (nI k))] → W p l e ({ frames := 4, cells := 0, slots := 0, locals := 105 }) s m ([.ref y, .int (nI t), .int (nI i), .int (nI k), .int gr] : List Value).toArray below meth c H locs 0 0 (MQ below (QwI G (fun q w => ∃ (n_f_0 : Int32) (n_f_20 : Int32) (n_f_21 : Int32) (n_f_27 : Int32) (n_f_28 : Int32) (n_r_15 : Nat → Int32) (n_r_16 : Nat → Int32) (n_r_17 : Nat → Int32) (n_r_18 : Nat → Int32) (n_r_19 : Nat → Int32) (n_r_22 : Nat → Int32) (n_r_23 : Nat → Int32) (n_r_24 : Nat → Int32) (n_r_25 : Nat → Int32) (n_r_26 : Nat → Int32), w = mM G y b (upd (upd (upd (upd (upd f 0 n_f_0) 20 n_f_20) 21 n_f_21) 27 n_f_27) 28 n_f_28) (up2 (up2 (up2 (up2 (up2 (up2 (up2 (up2 (up2 (up2 r 15 n_r_15) 16 n_r_16) 17 n_r_17) 18 n_r_18) 19 n_r_19) 22 n_r_22) 23 n_r_23) 24 n_r_24) 25 n_r_25) 26 n_r_26) ∧ (nL 12 n_f_27) ∧ (nL 12 n_f_28)) A) ([.ref y, .int (nI t), .int (nI i), .int (nI k), .int gr] : List Value).toArray s 0 0 A) (F0 m 207 ls [.int (nI z36)]) := by
                              intro z36 gz36 H locs ls hP hS hl
                              refine lv_istore (lv' := [(6, .int (nI z36)), (5, .int v14), (0, .ref y), (1, .int (nI t)), (2, .int (nI i)), (3, .int (nI k))]) hx hb dX7_witness_207 hl (by decide) rfl (fun ls hl => ?_)
                              refine lv_aload_n hx hb dX7_witness_209 rfl (lv_at hl 2 rfl) ?_
                              refine va_get (D := G.1) (ci := 7) (v := .ref (b 26)) (C := RX7) (T := TX7) (N := 43) hx hb hts inX7 hown hK.1 hP 0 rfl rfl 26 (by decide) (hts _ mf_X7_80) (fun _ h9 => h9) rfl dX7_witness_210 ?_
                              refine lv_iload hx hb dX7_witness_213 (lv_at hl 0 rfl) ?_
                              refine lv_iconst (v := 1) hx hb dX7_witness_215 (by decide) ?_
                              refine xzast (f := x34) (x := 1) hx hb hK hP (hDD _ _) hS 24 (z36) (rfl) (by omega) (by decide) (Or.inr rfl) rfl dX7_witness_216 (fun H locs hP _ hS => ?_)
                              have hP : PP G (mM G y b (upd (upd (upd (upd (upd f 0 r1) 20 x5) 21 x6) 27 (nI (rw))) 28 (nI (cl))) (up2 (up2 (up2 (up2 (up2 (up2 (up2 (up2 (up2 (up2 r 15 x22) 16 x8) 17 x9) 18 x10) 19 x23) 22 x24) 23 x25) 24 x28) 25 x31) 26 (upd x34 (z36) (1)))) H := hP
                              refine lv_iload hx hb dX7_witness_217 (lv_at hl 1 rfl) ?_
                              refine lv_if_ne (tgt := 234) hx hb dX7_witness_219 (by decide) (fun c37 => ?_) (fun c37 => ?_)
                              · refine lv_iconst (v := 0) hx hb dX7_witness_234 (by decide) ?_
                                refine lv_istore (lv' := [(7, .int 0), (6, .int (nI z36)), (5, .int v14), (0, .ref y), (1, .int (nI t)), (2, .int (nI i)), (3, .int (nI k))]) hx hb dX7_witness_235 hl (by decide) rfl (fun ls hl => ?_)
                                have loop237 : ∀ (k38 i4 : Nat) (x39 : Nat → Int32), i4 ≤ rw → rw < i4 + k38 → ∀ (H : Heap) (locs : List Loc) (ls : Array Slot), PP G (mM G y b (upd (upd (upd (upd (upd f 0 r1) 20 x5) 21 x6) 27 (nI (rw))) 28 (nI (cl))) (up2 (up2 (up2 (up2 (up2 (up2 (up2 (up2 (up2 (up2 r 15 x22) 16 x8) 17 x9) 18 x10) 19 x39) 22 x24) 23 x25) 24 x28) 25 x31) 26 (upd x34 (z36) (1)))) H → va_S A s.heap H locs → lv_has ls 11 [(7, .int (nI i4)), (0, .ref y), (1, .int (nI t)), (2, .int (nI i)), (3, .int (nI k))] → W p l e ({ frames := 4, cells := 0, slots := 0, locals := 105 }) s m ([.ref y, .int (nI t), .int (nI i), .int (nI k), .int gr] : List Value).toArray below meth c H locs 0 0 (MQ below (QwI G (fun q w => ∃ (n_f_0 : Int32) (n_f_20 : Int32) (n_f_21 : Int32) (n_f_27 : Int32) (n_f_28 : Int32) (n_r_15 : Nat → Int32) (n_r_16 : Nat → Int32) (n_r_17 : Nat → Int32) (n_r_18 : Nat → Int32) (n_r_19 : Nat → Int32) (n_r_22 : Nat → Int32) (n_r_23 : Nat → Int32) (n_r_24 : Nat → Int32) (n_r_25 : Nat → Int32) (n_r_26 : Nat → Int32), w = mM G y b (upd (upd (upd (upd (upd f 0 n_f_0) 20 n_f_20) 21 n_f_21) 27 n_f_27) 28 n_f_28) (up2 (up2 (up2 (up2 (up2 (up2 (up2 (up2 (up2 (up2 r 15 n_r_15) 16 n_r_16) 17 n_r_17) 18 n_r_18) 19 n_r_19) 22 n_r_22) 23 n_r_23) 24 n_r_24) 25 n_r_25) 26 n_r_26) ∧ (nL 12 n_f_27) ∧ (nL 12 n_f_28)) A) ([.ref y, .int (nI t), .int (nI i), .int (nI k), .int gr] : List Value).toArray s 0 0 A) (F0 m 237 ls []) := by
                                  intro k38
                                  induction k38 with
                                  | zero => intro i4 x39 h1 h2; exact absurd h1 (by omega)
                                  | succ k38 ih237k38 =>
                                    intro i4 x39 hi_i4 hk_i4  H locs ls hP hS hl
                                    refine lv_iload hx hb dX7_witness_237 (lv_at hl 0 rfl) ?_
                                    refine lv_aload_n hx hb dX7_witness_239 rfl (lv_at hl 1 rfl) ?_
                                    refine va_get (D := G.1) (ci := 7) (v := .int x5) (C := RX7) (T := TX7) (N := 43) hx hb hts inX7 hown hK.1 hP 0 rfl rfl 20 (by decide) (hts _ mf_X7_189) (fun _ h9 => h9) rfl dX7_witness_240 ?_
                                    rw [show x5 = nI (rw) from h20]
                                    refine lv_icmp_ge (tgt := 316) hx hb dX7_witness_243 (by decide) (fun c40 => ?_) (fun c40 => ?_)
                                    · have b243 := qge_t (a := i4) (b := (rw)) (by omega) (by omega) c40
                                      refine lv_aload_n hx hb dX7_witness_316 rfl (lv_at hl 1 rfl) ?_
                                      refine va_get (D := G.1) (ci := 7) (v := .ref (b 19)) (C := RX7) (T := TX7) (N := 43) hx hb hts inX7 hown hK.1 hP 0 rfl rfl 19 (by decide) (hts _ mf_X7_65) (fun _ h9 => h9) rfl dX7_witness_317 ?_
                                      refine lv_bipush (v := 12) hx hb dX7_witness_320 (by decide) ?_
                                      refine lv_iload_n hx hb dX7_witness_322 rfl (lv_at hl 3 rfl) ?_
                                      refine lv_imul hx hb dX7_witness_323 ?_
                                      refine lv_topi (fun v41 ev41 => ?_)
                                      obtain rfl : v41 = nI (12 * i) := nI_times ev41 rfl rfl
                                      refine lv_iload_n hx hb dX7_witness_324 rfl (lv_at hl 4 rfl) ?_
                                      refine lv_iadd hx hb dX7_witness_325 ?_
                                      refine lv_topi (fun v42 ev42 => ?_)
                                      obtain rfl : v42 = nI ((12 * i) + k) := nI_plus ev42 rfl rfl
                                      refine lv_iconst (v := 0) hx hb dX7_witness_326 (by decide) ?_
                                      refine xzast (f := x39) (x := 0) hx hb hK hP (hDD _ _) hS 19 (((12 * i) + k)) (rfl) (by omega) (by decide) (Or.inl rfl) rfl dX7_witness_327 (fun H locs hP _ hS => ?_)
                                      have hP : PP G (mM G y b (upd (upd (upd (upd (upd f 0 r1) 20 x5) 21 x6) 27 (nI (rw))) 28 (nI (cl))) (up2 (up2 (up2 (up2 (up2 (up2 (up2 (up2 (up2 (up2 r 15 x22) 16 x8) 17 x9) 18 x10) 19 (upd x39 (((12 * i) + k)) (0))) 22 x24) 23 x25) 24 x28) 25 x31) 26 (upd x34 (z36) (1)))) H := hP
                                      refine lv_iconst (v := 1) hx hb dX7_witness_328 (by decide) ?_
                                      refine lv_istore (lv' := [(7, .int 1), (0, .ref y), (1, .int (nI t)), (2, .int (nI i)), (3, .int (nI k))]) hx hb dX7_witness_329 hl (by decide) rfl (fun ls hl => ?_)
                                      have loop331 : ∀ (k43 : Nat) (z45 : Int32) (x46 : Nat → Int32), 2 * cZ x46 24 + (if (z45 : Int32) = 0 then 0 else 1) < k43 → ∀ (H : Heap) (locs : List Loc) (ls : Array Slot), PP G (mM G y b (upd (upd (upd (upd (upd f 0 r1) 20 x5) 21 x6) 27 (nI (rw))) 28 (nI (cl))) (up2 (up2 (up2 (up2 (up2 (up2 (up2 (up2 (up2 (up2 r 15 x22) 16 x8) 17 x9) 18 x10) 19 (upd x39 (((12 * i) + k)) (0))) 22 x24) 23 x25) 24 x28) 25 x31) 26 x46)) H → va_S A s.heap H locs → lv_has ls 11 [(7, .int z45), (0, .ref y), (2, .int (nI i)), (3, .int (nI k))] → W p l e ({ frames := 4, cells := 0, slots := 0, locals := 105 }) s m ([.ref y, .int (nI t), .int (nI i), .int (nI k), .int gr] : List Value).toArray below meth c H locs 0 0 (MQ below (QwI G (fun q w => ∃ (n_f_0 : Int32) (n_f_20 : Int32) (n_f_21 : Int32) (n_f_27 : Int32) (n_f_28 : Int32) (n_r_15 : Nat → Int32) (n_r_16 : Nat → Int32) (n_r_17 : Nat → Int32) (n_r_18 : Nat → Int32) (n_r_19 : Nat → Int32) (n_r_22 : Nat → Int32) (n_r_23 : Nat → Int32) (n_r_24 : Nat → Int32) (n_r_25 : Nat → Int32) (n_r_26 : Nat → Int32), w = mM G y b (upd (upd (upd (upd (upd f 0 n_f_0) 20 n_f_20) 21 n_f_21) 27 n_f_27) 28 n_f_28) (up2 (up2 (up2 (up2 (up2 (up2 (up2 (up2 (up2 (up2 r 15 n_r_15) 16 n_r_16) 17 n_r_17) 18 n_r_18) 19 n_r_19) 22 n_r_22) 23 n_r_23) 24 n_r_24) 25 n_r_25) 26 n_r_26) ∧ (nL 12 n_f_27) ∧ (nL 12 n_f_28)) A) ([.ref y, .int (nI t), .int (nI i), .int (nI k), .int gr] : List Value).toArray s 0 0 A) (F0 m 331 ls []) := by
                                        intro k43
                                        induction k43 with
                                        | zero => intro z45 x46 h1; exact absurd h1 (Nat.not_lt_zero _)
                                        | succ k43 ih331k43 =>
                                          intro  z45 x46 hm_k43  H locs ls hP hS hl
                                          refine lv_iload hx hb dX7_witness_331 (lv_at hl 0 rfl) ?_
                                          refine lv_if_eq (tgt := 456) hx hb dX7_witness_333 (by decide) (fun c47 => ?_) (fun c47 => ?_)
                                          · refine lv_aload_n hx hb dX7_witness_456 rfl (lv_at hl 1 rfl) ?_
                                            refine va_get (D := G.1) (ci := 7) (v := .ref (b 24)) (C := RX7) (T := TX7) (N := 43) hx hb hts inX7 hown hK.1 hP 0 rfl rfl 24 (by decide) (hts _ mf_X7_74) (fun _ h9 => h9) rfl dX7_witness_457 ?_
                                            refine lv_bipush (v := 12) hx hb dX7_witness_460 (by decide) ?_
                                            refine lv_iload_n hx hb dX7_witness_462 rfl (lv_at hl 2 rfl) ?_
                                            refine lv_imul hx hb dX7_witness_463 ?_
                                            refine lv_topi (fun v48 ev48 => ?_)
                                            obtain rfl : v48 = nI (12 * i) := nI_times ev48 rfl rfl
                                            refine lv_iload_n hx hb dX7_witness_464 rfl (lv_at hl 3 rfl) ?_
                                            refine lv_iadd hx hb dX7_witness_465 ?_
                                            refine lv_topi (fun v49 ev49 => ?_)
                                            obtain rfl : v49 = nI ((12 * i) + k) := nI_plus ev49 rfl rfl
                                            refine xiald (f := x28) hx hb hK hP 22 (((12 * i) + k)) (rfl) (by omega) (by decide) rfl dX7_witness_466 ?_
                                            refine lv_topi (fun v50 ev50 => ?_)
                                            exact wr_iret hx hb hr hlocks hS hP ⟨r1, x5, x6, (nI (rw)), (nI (cl)), x22, x8, x9, x10, (upd x39 (((12 * i) + k)) (0)), x24, x25, x28, x31, x46, rfl, h27, h28⟩ dX7_witness_467
                                          · refine lv_iconst (v := 0) hx hb dX7_witness_336 (by decide) ?_
                                            refine lv_istore (lv' := [(7, .int 0), (0, .ref y), (2, .int (nI i)), (3, .int (nI k))]) hx hb dX7_witness_337 hl (by decide) rfl (fun ls hl => ?_)
                                            refine lv_iconst (v := 0) hx hb dX7_witness_339 (by decide) ?_
                                            refine lv_istore (lv' := [(8, .int 0), (7, .int 0), (0, .ref y), (2, .int (nI i)), (3, .int (nI k))]) hx hb dX7_witness_340 hl (by decide) rfl (fun ls hl => ?_)
                                            have loop342 : ∀ (k51 a2 : Nat) (z52 : Int32) (x53 : Nat → Int32), a2 ≤ 24 → 24 < a2 + k51 → (cZ x53 24 ≤ cZ x46 24 ∧ ((z52 : Int32) = 0 ∨ cZ x53 24 < cZ x46 24)) → ∀ (H : Heap) (locs : List Loc) (ls : Array Slot), PP G (mM G y b (upd (upd (upd (upd (upd f 0 r1) 20 x5) 21 x6) 27 (nI (rw))) 28 (nI (cl))) (up2 (up2 (up2 (up2 (up2 (up2 (up2 (up2 (up2 (up2 r 15 x22) 16 x8) 17 x9) 18 x10) 19 (upd x39 (((12 * i) + k)) (0))) 22 x24) 23 x25) 24 x28) 25 x31) 26 x53)) H → va_S A s.heap H locs → lv_has ls 11 [(8, .int (nI a2)), (7, .int z52), (0, .ref y), (2, .int (nI i)), (3, .int (nI k))] → W p l e ({ frames := 4, cells := 0, slots := 0, locals := 105 }) s m ([.ref y, .int (nI t), .int (nI i), .int (nI k), .int gr] : List Value).toArray below meth c H locs 0 0 (MQ below (QwI G (fun q w => ∃ (n_f_0 : Int32) (n_f_20 : Int32) (n_f_21 : Int32) (n_f_27 : Int32) (n_f_28 : Int32) (n_r_15 : Nat → Int32) (n_r_16 : Nat → Int32) (n_r_17 : Nat → Int32) (n_r_18 : Nat → Int32) (n_r_19 : Nat → Int32) (n_r_22 : Nat → Int32) (n_r_23 : Nat → Int32) (n_r_24 : Nat → Int32) (n_r_25 : Nat → Int32) (n_r_26 : Nat → Int32), w = mM G y b (upd (upd (upd (upd (upd f 0 n_f_0) 20 n_f_20) 21 n_f_21) 27 n_f_27) 28 n_f_28) (up2 (up2 (up2 (up2 (up2 (up2 (up2 (up2 (up2 (up2 r 15 n_r_15) 16 n_r_16) 17 n_r_17) 18 n_r_18) 19 n_r_19) 22 n_r_22) 23 n_r_23) 24 n_r_24) 25 n_r_25) 26 n_r_26) ∧ (nL 12 n_f_27) ∧ (nL 12 n_f_28)) A) ([.ref y, .int (nI t), .int (nI i), .int (nI k), .int gr] : List Value).toArray s 0 0 A) (F0 m 342 ls []) := by
                                              intro k51
                                              induction k51 with
                                              | zero => intro a2 z52 x53 h1 h2; exact absurd h1 (by omega)
                                              | succ k51 ih342k51 =>
                                                intro a2 z52 x53 hi_a2 hk_a2 hc H locs ls hP hS hl
                                                refine lv_iload hx hb dX7_witness_342 (lv_at hl 0 rfl) ?_
                                                refine lv_bipush (v := 24) hx hb dX7_witness_344 (by decide) ?_
                                                refine lv_icmp_ge (tgt := 453) hx hb dX7_witness_346 (by decide) (fun c54 => ?_) (fun c54 => ?_)
                                                · have b346 := qge_t (a := a2) (b := 24) (by omega) (by omega) c54
                                                  refine lv_goto (tgt := 331) hx hb dX7_witness_453 (by decide) ?_
                                                  exact ih331k43 z52 x53 (by have h8 := hc.1; have hm := hm_k43; rw [if_neg c47] at hm; exact hc.2.elim (fun h9 => by rw [if_pos h9]; omega) (fun h9 => by split <;> omega)) _ _ _ hP hS (lv_sub hl [1, 2, 3, 4] rfl)
                                                · have b346 := qge_f (a := a2) (b := 24) (by omega) (by omega) c54
                                                  refine lv_aload_n hx hb dX7_witness_349 rfl (lv_at hl 2 rfl) ?_
                                                  refine va_get (D := G.1) (ci := 7) (v := .ref (b 26)) (C := RX7) (T := TX7) (N := 43) hx hb hts inX7 hown hK.1 hP 0 rfl rfl 26 (by decide) (hts _ mf_X7_80) (fun _ h9 => h9) rfl dX7_witness_350 ?_
                                                  refine lv_iload hx hb dX7_witness_353 (lv_at hl 0 rfl) ?_
                                                  refine xzald (f := x53) hx hb hK hP 24 (a2) (rfl) (by omega) (by decide) rfl dX7_witness_355 ?_
                                                  refine lv_topi (fun v55 ev55 => ?_)
                                                  refine lv_if_ne (tgt := 362) hx hb dX7_witness_356 (by decide) (fun c56 => ?_) (fun c56 => ?_)
                                                  · refine lv_iload hx hb dX7_witness_362 (lv_at hl 0 rfl) ?_
                                                    refine lv_bipush (v := 12) hx hb dX7_witness_364 (by decide) ?_
                                                    refine lv_icmp_ge (tgt := 374) hx hb dX7_witness_366 (by decide) (fun c57 => ?_) (fun c57 => ?_)
                                                    · have b366 := qge_t (a := a2) (b := 12) (by omega) (by omega) c57
                                                      refine lv_iconst (v := 0) hx hb dX7_witness_374 (by decide) ?_
                                                      refine lv_istore (lv' := [(9, .int 0), (8, .int (nI a2)), (7, .int z52), (0, .ref y), (2, .int (nI i)), (3, .int (nI k))]) hx hb dX7_witness_375 hl (by decide) rfl (fun ls hl => ?_)
                                                      refine lv_iload hx hb dX7_witness_377 (lv_at hl 0 rfl) ?_
                                                      refine lv_istore (lv' := [(10, .int 0), (9, .int 0), (8, .int (nI a2)), (7, .int z52), (0, .ref y), (2, .int (nI i)), (3, .int (nI k))]) hx hb dX7_witness_379 hl (by decide) rfl (fun ls hl => ?_)
                                                      have loop381 : ∀ (k58 j2 : Nat) (z59 : Int32) (x60 : Nat → Int32), j2 ≤ 12 → 12 < j2 + k58 → (cZ x60 24 ≤ cZ x46 24 ∧ ((z59 : Int32) = 0 ∨ cZ x60 24 < cZ x46 24)) → (0 ≤ j2) → ∀ (H : Heap) (locs : List Loc) (ls : Array Slot), PP G (mM G y b (upd (upd (upd (upd (upd f 0 r1) 20 x5) 21 x6) 27 (nI (rw))) 28 (nI (cl))) (up2 (up2 (up2 (up2 (up2 (up2 (up2 (up2 (up2 (up2 r 15 x22) 16 x8) 17 x9) 18 x10) 19 (upd x39 (((12 * i) + k)) (0))) 22 x24) 23 x25) 24 x28) 25 x31) 26 x60)) H → va_S A s.heap H locs → lv_has ls 11 [(10, .int (nI j2)), (9, .int 0), (8, .int (nI a2)), (7, .int z59), (0, .ref y), (2, .int (nI i)), (3, .int (nI k))] → W p l e ({ frames := 4, cells := 0, slots := 0, locals := 105 }) s m ([.ref y, .int (nI t), .int (nI i), .int (nI k), .int gr] : List Value).toArray below meth c H locs 0 0 (MQ below (QwI G (fun q w => ∃ (n_f_0 : Int32) (n_f_20 : Int32) (n_f_21 : Int32) (n_f_27 : Int32) (n_f_28 : Int32) (n_r_15 : Nat → Int32) (n_r_16 : Nat → Int32) (n_r_17 : Nat → Int32) (n_r_18 : Nat → Int32) (n_r_19 : Nat → Int32) (n_r_22 : Nat → Int32) (n_r_23 : Nat → Int32) (n_r_24 : Nat → Int32) (n_r_25 : Nat → Int32) (n_r_26 : Nat → Int32), w = mM G y b (upd (upd (upd (upd (upd f 0 n_f_0) 20 n_f_20) 21 n_f_21) 27 n_f_27) 28 n_f_28) (up2 (up2 (up2 (up2 (up2 (up2 (up2 (up2 (up2 (up2 r 15 n_r_15) 16 n_r_16) 17 n_r_17) 18 n_r_18) 19 n_r_19) 22 n_r_22) 23 n_r_23) 24 n_r_24) 25 n_r_25) 26 n_r_26) ∧ (nL 12 n_f_27) ∧ (nL 12 n_f_28)) A) ([.ref y, .int (nI t), .int (nI i), .int (nI k), .int gr] : List Value).toArray s 0 0 A) (F0 m 381 ls []) := by
                                                        intro k58
                                                        induction k58 with
                                                        | zero => intro j2 z59 x60 h1 h2; exact absurd h1 (by omega)
                                                        | succ k58 ih381k58 =>
                                                          intro j2 z59 x60 hi_j2 hk_j2 hc hj0 H locs ls hP hS hl
                                                          refine lv_iload hx hb dX7_witness_381 (lv_at hl 0 rfl) ?_
                                                          refine lv_iload hx hb dX7_witness_383 (lv_at hl 1 rfl) ?_
                                                          refine lv_bipush (v := 12) hx hb dX7_witness_385 (by decide) ?_
                                                          refine lv_iadd hx hb dX7_witness_387 ?_
                                                          refine lv_topi (fun v61 ev61 => ?_)
                                                          obtain rfl : v61 = nI (0 + 12) := nI_plus ev61 rfl rfl
                                                          refine lv_icmp_ge (tgt := 447) hx hb dX7_witness_388 (by decide) (fun c62 => ?_) (fun c62 => ?_)
                                                          · have b388 := qge_t (a := j2) (b := (0 + 12)) (by omega) (by omega) c62
                                                            obtain ⟨v63, ev63⟩ : ∃ y9 : Int32, y9 = (nI a2) + Int32.ofInt (1) := ⟨_, rfl⟩
                                                            refine lv_iinc (v := v63) (lv' := [(8, .int v63), (10, .int (nI j2)), (9, .int 0), (7, .int z59), (0, .ref y), (2, .int (nI i)), (3, .int (nI k))]) hx hb dX7_witness_447 hl (k := 2) rfl ev63.symm (by decide) rfl (fun ls hl => ?_)
                                                            obtain rfl : v63 = nI (a2 + 1) := nI_plus (i := a2) (j := 1) ev63 rfl (by decide)
                                                            refine lv_goto (tgt := 342) hx hb dX7_witness_450 (by decide) ?_
                                                            exact ih342k51 (a2 + 1) z59 x60 (by omega) (by omega) (hc) _ _ _ hP hS (lv_sub hl [0, 3, 4, 5, 6] rfl)
                                                          · have b388 := qge_f (a := j2) (b := (0 + 12)) (by omega) (by omega) c62
                                                            refine lv_aload_n hx hb dX7_witness_391 rfl (lv_at hl 4 rfl) ?_
                                                            refine va_get (D := G.1) (ci := 7) (v := .ref (b 26)) (C := RX7) (T := TX7) (N := 43) hx hb hts inX7 hown hK.1 hP 0 rfl rfl 26 (by decide) (hts _ mf_X7_80) (fun _ h9 => h9) rfl dX7_witness_392 ?_
                                                            refine lv_iload hx hb dX7_witness_395 (lv_at hl 0 rfl) ?_
                                                            refine xzald (f := x60) hx hb hK hP 24 (j2) (rfl) (by omega) (by decide) rfl dX7_witness_397 ?_
                                                            refine lv_topi (fun v64 ev64 => ?_)
                                                            refine lv_if_ne (tgt := 441) hx hb dX7_witness_398 (by decide) (fun c65 => ?_) (fun c65 => ?_)
                                                            · obtain ⟨v66, ev66⟩ : ∃ y9 : Int32, y9 = (nI j2) + Int32.ofInt (1) := ⟨_, rfl⟩
                                                              refine lv_iinc (v := v66) (lv' := [(10, .int v66), (9, .int 0), (8, .int (nI a2)), (7, .int z59), (0, .ref y), (2, .int (nI i)), (3, .int (nI k))]) hx hb dX7_witness_441 hl (k := 0) rfl ev66.symm (by decide) rfl (fun ls hl => ?_)
                                                              obtain rfl : v66 = nI (j2 + 1) := nI_plus (i := j2) (j := 1) ev66 rfl (by decide)
                                                              refine lv_goto (tgt := 381) hx hb dX7_witness_444 (by decide) ?_
                                                              exact ih381k58 (j2 + 1) z59 x60 (by omega) (by omega) (hc) (by omega) _ _ _ hP hS (lv_sub hl [0, 1, 2, 3, 4, 5, 6] rfl)
                                                            · refine lv_aload_n hx hb dX7_witness_401 rfl (lv_at hl 4 rfl) ?_
                                                              refine lv_iload hx hb dX7_witness_402 (lv_at hl 0 rfl) ?_
                                                              refine lv_aload_n hx hb dX7_witness_404 rfl (lv_at hl 4 rfl) ?_
                                                              refine va_get (D := G.1) (ci := 7) (v := .ref (b 18)) (C := RX7) (T := TX7) (N := 43) hx hb hts inX7 hown hK.1 hP 0 rfl rfl 18 (by decide) (hts _ mf_X7_62) (fun _ h9 => h9) rfl dX7_witness_405 ?_
                                                              refine lv_iload_n hx hb dX7_witness_408 rfl (lv_at hl 5 rfl) ?_
                                                              refine xiald (f := x10) hx hb hK hP 18 (i) (rfl) (by omega) (by decide) rfl dX7_witness_409 ?_
                                                              refine lv_topi (fun v67 ev67 => ?_)
                                                              refine rdV (rest := []) (q0 := 0) ⟨hx, hb, hml, hown, hts⟩ (m_X7_isNode l G y b (upd (upd (upd (upd (upd f 0 r1) 20 x5) 21 x6) 27 (nI (rw))) 28 (nI (cl))) (up2 (up2 (up2 (up2 (up2 (up2 (up2 (up2 (up2 (up2 r 15 x22) 16 x8) 17 x9) 18 x10) 19 (upd x39 (((12 * i) + k)) (0))) 22 x24) 23 x25) 24 x28) 25 x31) 26 x60) j2 v67  (by omega)) mi_yX7_isNode mv_yX7_isNode ml_X7_198 ⟨rfl, rfl, Nat.le_of_ble_eq_true rfl, Nat.le_of_ble_eq_true rfl⟩ hK (hP) rfl rfl rfl hl.1 rfl (Nat.le_of_ble_eq_true rfl) dX7_witness_410 ⟨Nat.zero_le _, Nat.zero_le _⟩ hS hA hP (fun r68 H locs hr68 hP hS => ?_)
                                                              have hr68 : (r68 = 0 ∨ r68 = 1) := hr68
                                                              refine lv_if_eq (tgt := 441) hx hb dX7_witness_413 (by decide) (fun c69 => ?_) (fun c69 => ?_)
                                                              · obtain ⟨v70, ev70⟩ : ∃ y9 : Int32, y9 = (nI j2) + Int32.ofInt (1) := ⟨_, rfl⟩
                                                                refine lv_iinc (v := v70) (lv' := [(10, .int v70), (9, .int 0), (8, .int (nI a2)), (7, .int z59), (0, .ref y), (2, .int (nI i)), (3, .int (nI k))]) hx hb dX7_witness_441 hl (k := 0) rfl ev70.symm (by decide) rfl (fun ls hl => ?_)
                                                                obtain rfl : v70 = nI (j2 + 1) := nI_plus (i := j2) (j := 1) ev70 rfl (by decide)
                                                                refine lv_goto (tgt := 381) hx hb dX7_witness_444 (by decide) ?_
                                                                exact ih381k58 (j2 + 1) z59 x60 (by omega) (by omega) (hc) (by omega) _ _ _ hP hS (lv_sub hl [0, 1, 2, 3, 4, 5, 6] rfl)
                                                              · refine lv_aload_n hx hb dX7_witness_416 rfl (lv_at hl 4 rfl) ?_
                                                                refine lv_iload hx hb dX7_witness_417 (lv_at hl 2 rfl) ?_
                                                                refine lv_iload hx hb dX7_witness_419 (lv_at hl 0 rfl) ?_
                                                                refine rdV (rest := []) (q0 := 0) ⟨hx, hb, hml, hown, hts⟩ (m_X7_room l G y b (upd (upd (upd (upd (upd f 0 r1) 20 x5) 21 x6) 27 (nI (rw))) 28 (nI (cl))) (up2 (up2 (up2 (up2 (up2 (up2 (up2 (up2 (up2 (up2 r 15 x22) 16 x8) 17 x9) 18 x10) 19 (upd x39 (((12 * i) + k)) (0))) 22 x24) 23 x25) 24 x28) 25 x31) 26 x60) a2 j2  (by unfold bip; omega)) mi_yX7_room mv_yX7_room ml_X7_201 ⟨rfl, rfl, Nat.le_of_ble_eq_true rfl, Nat.le_of_ble_eq_true rfl⟩ hK (hP) rfl rfl rfl hl.1 rfl (Nat.le_of_ble_eq_true rfl) dX7_witness_421 ⟨Nat.zero_le _, Nat.zero_le _⟩ hS hA hP (fun r71 H locs hr71 hP hS => ?_)
                                                                obtain rfl := hr71
                                                                refine lv_if_gt (tgt := 430) hx hb dX7_witness_424 (by decide) (fun c72 => ?_) (fun c72 => ?_)
                                                                · refine lv_aload_n hx hb dX7_witness_430 rfl (lv_at hl 4 rfl) ?_
                                                                  refine va_get (D := G.1) (ci := 7) (v := .ref (b 26)) (C := RX7) (T := TX7) (N := 43) hx hb hts inX7 hown hK.1 hP 0 rfl rfl 26 (by decide) (hts _ mf_X7_80) (fun _ h9 => h9) rfl dX7_witness_431 ?_
                                                                  refine lv_iload hx hb dX7_witness_434 (lv_at hl 0 rfl) ?_
                                                                  refine lv_iconst (v := 1) hx hb dX7_witness_436 (by decide) ?_
                                                                  refine xzast (f := x60) (x := 1) hx hb hK hP (hDD _ _) hS 24 (j2) (rfl) (by omega) (by decide) (Or.inr rfl) rfl dX7_witness_437 (fun H locs hP _ hS => ?_)
                                                                  have hP : PP G (mM G y b (upd (upd (upd (upd (upd f 0 r1) 20 x5) 21 x6) 27 (nI (rw))) 28 (nI (cl))) (up2 (up2 (up2 (up2 (up2 (up2 (up2 (up2 (up2 (up2 r 15 x22) 16 x8) 17 x9) 18 x10) 19 (upd x39 (((12 * i) + k)) (0))) 22 x24) 23 x25) 24 x28) 25 x31) 26 (upd x60 (j2) (1)))) H := hP
                                                                  have hz9 := cZ_lt (x := x60) (y := j2) (ev64.symm.trans c65) 24 (by omega)
                                                                  refine lv_iconst (v := 1) hx hb dX7_witness_438 (by decide) ?_
                                                                  refine lv_istore (lv' := [(7, .int 1), (10, .int (nI j2)), (9, .int 0), (8, .int (nI a2)), (0, .ref y), (2, .int (nI i)), (3, .int (nI k))]) hx hb dX7_witness_439 hl (by decide) rfl (fun ls hl => ?_)
                                                                  obtain ⟨v73, ev73⟩ : ∃ y9 : Int32, y9 = (nI j2) + Int32.ofInt (1) := ⟨_, rfl⟩
                                                                  refine lv_iinc (v := v73) (lv' := [(10, .int v73), (7, .int 1), (9, .int 0), (8, .int (nI a2)), (0, .ref y), (2, .int (nI i)), (3, .int (nI k))]) hx hb dX7_witness_441 hl (k := 1) rfl ev73.symm (by decide) rfl (fun ls hl => ?_)
                                                                  obtain rfl : v73 = nI (j2 + 1) := nI_plus (i := j2) (j := 1) ev73 rfl (by decide)
                                                                  refine lv_goto (tgt := 381) hx hb dX7_witness_444 (by decide) ?_
                                                                  exact ih381k58 (j2 + 1) 1 (upd x60 (j2) (1)) (by omega) (by omega) (⟨Nat.le_trans (Nat.le_of_lt hz9) hc.1, Or.inr (Nat.lt_of_lt_of_le hz9 hc.1)⟩) (by omega) _ _ _ hP hS (lv_sub hl [0, 2, 3, 1, 4, 5, 6] rfl)
                                                                · refine lv_goto (tgt := 441) hx hb dX7_witness_427 (by decide) ?_
                                                                  obtain ⟨v74, ev74⟩ : ∃ y9 : Int32, y9 = (nI j2) + Int32.ofInt (1) := ⟨_, rfl⟩
                                                                  refine lv_iinc (v := v74) (lv' := [(10, .int v74), (9, .int 0), (8, .int (nI a2)), (7, .int z59), (0, .ref y), (2, .int (nI i)), (3, .int (nI k))]) hx hb dX7_witness_441 hl (k := 0) rfl ev74.symm (by decide) rfl (fun ls hl => ?_)
                                                                  obtain rfl : v74 = nI (j2 + 1) := nI_plus (i := j2) (j := 1) ev74 rfl (by decide)
                                                                  refine lv_goto (tgt := 381) hx hb dX7_witness_444 (by decide) ?_
                                                                  exact ih381k58 (j2 + 1) z59 x60 (by omega) (by omega) (hc) (by omega) _ _ _ hP hS (lv_sub hl [0, 1, 2, 3, 4, 5, 6] rfl)
                                                      exact loop381 (12 + 1) 0 z52 x53 (by omega) (by omega) (hc) (by omega) _ _ _ hP hS (lv_sub hl [0, 1, 2, 3, 4, 5, 6] rfl)
                                                    · have b366 := qge_f (a := a2) (b := 12) (by omega) (by omega) c57
                                                      refine lv_bipush (v := 12) hx hb dX7_witness_369 (by decide) ?_
                                                      refine lv_goto (tgt := 375) hx hb dX7_witness_371 (by decide) ?_
                                                      refine lv_istore (lv' := [(9, .int 12), (8, .int (nI a2)), (7, .int z52), (0, .ref y), (2, .int (nI i)), (3, .int (nI k))]) hx hb dX7_witness_375 hl (by decide) rfl (fun ls hl => ?_)
                                                      refine lv_iload hx hb dX7_witness_377 (lv_at hl 0 rfl) ?_
                                                      refine lv_istore (lv' := [(10, .int 12), (9, .int 12), (8, .int (nI a2)), (7, .int z52), (0, .ref y), (2, .int (nI i)), (3, .int (nI k))]) hx hb dX7_witness_379 hl (by decide) rfl (fun ls hl => ?_)
                                                      have loop381 : ∀ (k75 j2 : Nat) (z76 : Int32) (x77 : Nat → Int32), j2 ≤ 24 → 24 < j2 + k75 → (cZ x77 24 ≤ cZ x46 24 ∧ ((z76 : Int32) = 0 ∨ cZ x77 24 < cZ x46 24)) → (12 ≤ j2) → ∀ (H : Heap) (locs : List Loc) (ls : Array Slot), PP G (mM G y b (upd (upd (upd (upd (upd f 0 r1) 20 x5) 21 x6) 27 (nI (rw))) 28 (nI (cl))) (up2 (up2 (up2 (up2 (up2 (up2 (up2 (up2 (up2 (up2 r 15 x22) 16 x8) 17 x9) 18 x10) 19 (upd x39 (((12 * i) + k)) (0))) 22 x24) 23 x25) 24 x28) 25 x31) 26 x77)) H → va_S A s.heap H locs → lv_has ls 11 [(10, .int (nI j2)), (9, .int 12), (8, .int (nI a2)), (7, .int z76), (0, .ref y), (2, .int (nI i)), (3, .int (nI k))] → W p l e ({ frames := 4, cells := 0, slots := 0, locals := 105 }) s m ([.ref y, .int (nI t), .int (nI i), .int (nI k), .int gr] : List Value).toArray below meth c H locs 0 0 (MQ below (QwI G (fun q w => ∃ (n_f_0 : Int32) (n_f_20 : Int32) (n_f_21 : Int32) (n_f_27 : Int32) (n_f_28 : Int32) (n_r_15 : Nat → Int32) (n_r_16 : Nat → Int32) (n_r_17 : Nat → Int32) (n_r_18 : Nat → Int32) (n_r_19 : Nat → Int32) (n_r_22 : Nat → Int32) (n_r_23 : Nat → Int32) (n_r_24 : Nat → Int32) (n_r_25 : Nat → Int32) (n_r_26 : Nat → Int32), w = mM G y b (upd (upd (upd (upd (upd f 0 n_f_0) 20 n_f_20) 21 n_f_21) 27 n_f_27) 28 n_f_28) (up2 (up2 (up2 (up2 (up2 (up2 (up2 (up2 (up2 (up2 r 15 n_r_15) 16 n_r_16) 17 n_r_17) 18 n_r_18) 19 n_r_19) 22 n_r_22) 23 n_r_23) 24 n_r_24) 25 n_r_25) 26 n_r_26) ∧ (nL 12 n_f_27) ∧ (nL 12 n_f_28)) A) ([.ref y, .int (nI t), .int (nI i), .int (nI k), .int gr] : List Value).toArray s 0 0 A) (F0 m 381 ls []) := by
                                                        intro k75
                                                        induction k75 with
                                                        | zero => intro j2 z76 x77 h1 h2; exact absurd h1 (by omega)
                                                        | succ k75 ih381k75 =>
                                                          intro j2 z76 x77 hi_j2 hk_j2 hc hj0 H locs ls hP hS hl
                                                          refine lv_iload hx hb dX7_witness_381 (lv_at hl 0 rfl) ?_
                                                          refine lv_iload hx hb dX7_witness_383 (lv_at hl 1 rfl) ?_
                                                          refine lv_bipush (v := 12) hx hb dX7_witness_385 (by decide) ?_
                                                          refine lv_iadd hx hb dX7_witness_387 ?_
                                                          refine lv_topi (fun v78 ev78 => ?_)
                                                          obtain rfl : v78 = nI (12 + 12) := nI_plus ev78 rfl rfl
                                                          refine lv_icmp_ge (tgt := 447) hx hb dX7_witness_388 (by decide) (fun c79 => ?_) (fun c79 => ?_)
                                                          · have b388 := qge_t (a := j2) (b := (12 + 12)) (by omega) (by omega) c79
                                                            obtain ⟨v80, ev80⟩ : ∃ y9 : Int32, y9 = (nI a2) + Int32.ofInt (1) := ⟨_, rfl⟩
                                                            refine lv_iinc (v := v80) (lv' := [(8, .int v80), (10, .int (nI j2)), (9, .int 12), (7, .int z76), (0, .ref y), (2, .int (nI i)), (3, .int (nI k))]) hx hb dX7_witness_447 hl (k := 2) rfl ev80.symm (by decide) rfl (fun ls hl => ?_)
                                                            obtain rfl : v80 = nI (a2 + 1) := nI_plus (i := a2) (j := 1) ev80 rfl (by decide)
                                                            refine lv_goto (tgt := 342) hx hb dX7_witness_450 (by decide) ?_
                                                            exact ih342k51 (a2 + 1) z76 x77 (by omega) (by omega) (hc) _ _ _ hP hS (lv_sub hl [0, 3, 4, 5, 6] rfl)
                                                          · have b388 := qge_f (a := j2) (b := (12 + 12)) (by omega) (by omega) c79
                                                            refine lv_aload_n hx hb dX7_witness_391 rfl (lv_at hl 4 rfl) ?_
                                                            refine va_get (D := G.1) (ci := 7) (v := .ref (b 26)) (C := RX7) (T := TX7) (N := 43) hx hb hts inX7 hown hK.1 hP 0 rfl rfl 26 (by decide) (hts _ mf_X7_80) (fun _ h9 => h9) rfl dX7_witness_392 ?_
                                                            refine lv_iload hx hb dX7_witness_395 (lv_at hl 0 rfl) ?_
                                                            refine xzald (f := x77) hx hb hK hP 24 (j2) (rfl) (by omega) (by decide) rfl dX7_witness_397 ?_
                                                            refine lv_topi (fun v81 ev81 => ?_)
                                                            refine lv_if_ne (tgt := 441) hx hb dX7_witness_398 (by decide) (fun c82 => ?_) (fun c82 => ?_)
                                                            · obtain ⟨v83, ev83⟩ : ∃ y9 : Int32, y9 = (nI j2) + Int32.ofInt (1) := ⟨_, rfl⟩
                                                              refine lv_iinc (v := v83) (lv' := [(10, .int v83), (9, .int 12), (8, .int (nI a2)), (7, .int z76), (0, .ref y), (2, .int (nI i)), (3, .int (nI k))]) hx hb dX7_witness_441 hl (k := 0) rfl ev83.symm (by decide) rfl (fun ls hl => ?_)
                                                              obtain rfl : v83 = nI (j2 + 1) := nI_plus (i := j2) (j := 1) ev83 rfl (by decide)
                                                              refine lv_goto (tgt := 381) hx hb dX7_witness_444 (by decide) ?_
                                                              exact ih381k75 (j2 + 1) z76 x77 (by omega) (by omega) (hc) (by omega) _ _ _ hP hS (lv_sub hl [0, 1, 2, 3, 4, 5, 6] rfl)
                                                            · refine lv_aload_n hx hb dX7_witness_401 rfl (lv_at hl 4 rfl) ?_
                                                              refine lv_iload hx hb dX7_witness_402 (lv_at hl 0 rfl) ?_
                                                              refine lv_aload_n hx hb dX7_witness_404 rfl (lv_at hl 4 rfl) ?_
                                                              refine va_get (D := G.1) (ci := 7) (v := .ref (b 18)) (C := RX7) (T := TX7) (N := 43) hx hb hts inX7 hown hK.1 hP 0 rfl rfl 18 (by decide) (hts _ mf_X7_62) (fun _ h9 => h9) rfl dX7_witness_405 ?_
                                                              refine lv_iload_n hx hb dX7_witness_408 rfl (lv_at hl 5 rfl) ?_
                                                              refine xiald (f := x10) hx hb hK hP 18 (i) (rfl) (by omega) (by decide) rfl dX7_witness_409 ?_
                                                              refine lv_topi (fun v84 ev84 => ?_)
                                                              refine rdV (rest := []) (q0 := 0) ⟨hx, hb, hml, hown, hts⟩ (m_X7_isNode l G y b (upd (upd (upd (upd (upd f 0 r1) 20 x5) 21 x6) 27 (nI (rw))) 28 (nI (cl))) (up2 (up2 (up2 (up2 (up2 (up2 (up2 (up2 (up2 (up2 r 15 x22) 16 x8) 17 x9) 18 x10) 19 (upd x39 (((12 * i) + k)) (0))) 22 x24) 23 x25) 24 x28) 25 x31) 26 x77) j2 v84  (by omega)) mi_yX7_isNode mv_yX7_isNode ml_X7_198 ⟨rfl, rfl, Nat.le_of_ble_eq_true rfl, Nat.le_of_ble_eq_true rfl⟩ hK (hP) rfl rfl rfl hl.1 rfl (Nat.le_of_ble_eq_true rfl) dX7_witness_410 ⟨Nat.zero_le _, Nat.zero_le _⟩ hS hA hP (fun r85 H locs hr85 hP hS => ?_)
                                                              have hr85 : (r85 = 0 ∨ r85 = 1) := hr85
                                                              refine lv_if_eq (tgt := 441) hx hb dX7_witness_413 (by decide) (fun c86 => ?_) (fun c86 => ?_)
                                                              · obtain ⟨v87, ev87⟩ : ∃ y9 : Int32, y9 = (nI j2) + Int32.ofInt (1) := ⟨_, rfl⟩
                                                                refine lv_iinc (v := v87) (lv' := [(10, .int v87), (9, .int 12), (8, .int (nI a2)), (7, .int z76), (0, .ref y), (2, .int (nI i)), (3, .int (nI k))]) hx hb dX7_witness_441 hl (k := 0) rfl ev87.symm (by decide) rfl (fun ls hl => ?_)
                                                                obtain rfl : v87 = nI (j2 + 1) := nI_plus (i := j2) (j := 1) ev87 rfl (by decide)
                                                                refine lv_goto (tgt := 381) hx hb dX7_witness_444 (by decide) ?_
                                                                exact ih381k75 (j2 + 1) z76 x77 (by omega) (by omega) (hc) (by omega) _ _ _ hP hS (lv_sub hl [0, 1, 2, 3, 4, 5, 6] rfl)
                                                              · refine lv_aload_n hx hb dX7_witness_416 rfl (lv_at hl 4 rfl) ?_
                                                                refine lv_iload hx hb dX7_witness_417 (lv_at hl 2 rfl) ?_
                                                                refine lv_iload hx hb dX7_witness_419 (lv_at hl 0 rfl) ?_
                                                                refine rdV (rest := []) (q0 := 0) ⟨hx, hb, hml, hown, hts⟩ (m_X7_room l G y b (upd (upd (upd (upd (upd f 0 r1) 20 x5) 21 x6) 27 (nI (rw))) 28 (nI (cl))) (up2 (up2 (up2 (up2 (up2 (up2 (up2 (up2 (up2 (up2 r 15 x22) 16 x8) 17 x9) 18 x10) 19 (upd x39 (((12 * i) + k)) (0))) 22 x24) 23 x25) 24 x28) 25 x31) 26 x77) a2 j2  (by unfold bip; omega)) mi_yX7_room mv_yX7_room ml_X7_201 ⟨rfl, rfl, Nat.le_of_ble_eq_true rfl, Nat.le_of_ble_eq_true rfl⟩ hK (hP) rfl rfl rfl hl.1 rfl (Nat.le_of_ble_eq_true rfl) dX7_witness_421 ⟨Nat.zero_le _, Nat.zero_le _⟩ hS hA hP (fun r88 H locs hr88 hP hS => ?_)
                                                                obtain rfl := hr88
                                                                refine lv_if_gt (tgt := 430) hx hb dX7_witness_424 (by decide) (fun c89 => ?_) (fun c89 => ?_)
                                                                · refine lv_aload_n hx hb dX7_witness_430 rfl (lv_at hl 4 rfl) ?_
                                                                  refine va_get (D := G.1) (ci := 7) (v := .ref (b 26)) (C := RX7) (T := TX7) (N := 43) hx hb hts inX7 hown hK.1 hP 0 rfl rfl 26 (by decide) (hts _ mf_X7_80) (fun _ h9 => h9) rfl dX7_witness_431 ?_
                                                                  refine lv_iload hx hb dX7_witness_434 (lv_at hl 0 rfl) ?_
                                                                  refine lv_iconst (v := 1) hx hb dX7_witness_436 (by decide) ?_
                                                                  refine xzast (f := x77) (x := 1) hx hb hK hP (hDD _ _) hS 24 (j2) (rfl) (by omega) (by decide) (Or.inr rfl) rfl dX7_witness_437 (fun H locs hP _ hS => ?_)
                                                                  have hP : PP G (mM G y b (upd (upd (upd (upd (upd f 0 r1) 20 x5) 21 x6) 27 (nI (rw))) 28 (nI (cl))) (up2 (up2 (up2 (up2 (up2 (up2 (up2 (up2 (up2 (up2 r 15 x22) 16 x8) 17 x9) 18 x10) 19 (upd x39 (((12 * i) + k)) (0))) 22 x24) 23 x25) 24 x28) 25 x31) 26 (upd x77 (j2) (1)))) H := hP
                                                                  have hz9 := cZ_lt (x := x77) (y := j2) (ev81.symm.trans c82) 24 (by omega)
                                                                  refine lv_iconst (v := 1) hx hb dX7_witness_438 (by decide) ?_
                                                                  refine lv_istore (lv' := [(7, .int 1), (10, .int (nI j2)), (9, .int 12), (8, .int (nI a2)), (0, .ref y), (2, .int (nI i)), (3, .int (nI k))]) hx hb dX7_witness_439 hl (by decide) rfl (fun ls hl => ?_)
                                                                  obtain ⟨v90, ev90⟩ : ∃ y9 : Int32, y9 = (nI j2) + Int32.ofInt (1) := ⟨_, rfl⟩
                                                                  refine lv_iinc (v := v90) (lv' := [(10, .int v90), (7, .int 1), (9, .int 12), (8, .int (nI a2)), (0, .ref y), (2, .int (nI i)), (3, .int (nI k))]) hx hb dX7_witness_441 hl (k := 1) rfl ev90.symm (by decide) rfl (fun ls hl => ?_)
                                                                  obtain rfl : v90 = nI (j2 + 1) := nI_plus (i := j2) (j := 1) ev90 rfl (by decide)
                                                                  refine lv_goto (tgt := 381) hx hb dX7_witness_444 (by decide) ?_
                                                                  exact ih381k75 (j2 + 1) 1 (upd x77 (j2) (1)) (by omega) (by omega) (⟨Nat.le_trans (Nat.le_of_lt hz9) hc.1, Or.inr (Nat.lt_of_lt_of_le hz9 hc.1)⟩) (by omega) _ _ _ hP hS (lv_sub hl [0, 2, 3, 1, 4, 5, 6] rfl)
                                                                · refine lv_goto (tgt := 441) hx hb dX7_witness_427 (by decide) ?_
                                                                  obtain ⟨v91, ev91⟩ : ∃ y9 : Int32, y9 = (nI j2) + Int32.ofInt (1) := ⟨_, rfl⟩
                                                                  refine lv_iinc (v := v91) (lv' := [(10, .int v91), (9, .int 12), (8, .int (nI a2)), (7, .int z76), (0, .ref y), (2, .int (nI i)), (3, .int (nI k))]) hx hb dX7_witness_441 hl (k := 0) rfl ev91.symm (by decide) rfl (fun ls hl => ?_)
                                                                  obtain rfl : v91 = nI (j2 + 1) := nI_plus (i := j2) (j := 1) ev91 rfl (by decide)
                                                                  refine lv_goto (tgt := 381) hx hb dX7_witness_444 (by decide) ?_
                                                                  exact ih381k75 (j2 + 1) z76 x77 (by omega) (by omega) (hc) (by omega) _ _ _ hP hS (lv_sub hl [0, 1, 2, 3, 4, 5, 6] rfl)
                                                      exact loop381 (24 + 1) 12 z52 x53 (by omega) (by omega) (hc) (by omega) _ _ _ hP hS (lv_sub hl [0, 1, 2, 3, 4, 5, 6] rfl)
                                                  · refine lv_goto (tgt := 447) hx hb dX7_witness_359 (by decide) ?_
                                                    obtain ⟨v92, ev92⟩ : ∃ y9 : Int32, y9 = (nI a2) + Int32.ofInt (1) := ⟨_, rfl⟩
                                                    refine lv_iinc (v := v92) (lv' := [(8, .int v92), (7, .int z52), (0, .ref y), (2, .int (nI i)), (3, .int (nI k))]) hx hb dX7_witness_447 hl (k := 0) rfl ev92.symm (by decide) rfl (fun ls hl => ?_)
                                                    obtain rfl : v92 = nI (a2 + 1) := nI_plus (i := a2) (j := 1) ev92 rfl (by decide)
                                                    refine lv_goto (tgt := 342) hx hb dX7_witness_450 (by decide) ?_
                                                    exact ih342k51 (a2 + 1) z52 x53 (by omega) (by omega) (hc) _ _ _ hP hS (lv_sub hl [0, 1, 2, 3, 4] rfl)
                                            exact loop342 (24 + 1) 0 0 x46 (by omega) (by omega) (⟨Nat.le_refl _, Or.inl rfl⟩) _ _ _ hP hS (lv_sub hl [0, 1, 2, 3, 4] rfl)
                                      exact loop331 50 1 (upd x34 (z36) (1)) (by have h9 := cZ_le (upd x34 (z36) (1)) 24; split <;> omega) _ _ _ hP hS (lv_sub hl [0, 1, 3, 4] rfl)
                                    · have b243 := qge_f (a := i4) (b := (rw)) (by omega) (by omega) c40
                                      refine lv_iconst (v := 0) hx hb dX7_witness_246 (by decide) ?_
                                      refine lv_istore (lv' := [(8, .int 0), (7, .int (nI i4)), (0, .ref y), (1, .int (nI t)), (2, .int (nI i)), (3, .int (nI k))]) hx hb dX7_witness_247 hl (by decide) rfl (fun ls hl => ?_)
                                      have loop249 : ∀ (k93 j4 : Nat) (x94 : Nat → Int32), j4 ≤ cl → cl < j4 + k93 → ∀ (H : Heap) (locs : List Loc) (ls : Array Slot), PP G (mM G y b (upd (upd (upd (upd (upd f 0 r1) 20 x5) 21 x6) 27 (nI (rw))) 28 (nI (cl))) (up2 (up2 (up2 (up2 (up2 (up2 (up2 (up2 (up2 (up2 r 15 x22) 16 x8) 17 x9) 18 x10) 19 x94) 22 x24) 23 x25) 24 x28) 25 x31) 26 (upd x34 (z36) (1)))) H → va_S A s.heap H locs → lv_has ls 11 [(8, .int (nI j4)), (7, .int (nI i4)), (0, .ref y), (1, .int (nI t)), (2, .int (nI i)), (3, .int (nI k))] → W p l e ({ frames := 4, cells := 0, slots := 0, locals := 105 }) s m ([.ref y, .int (nI t), .int (nI i), .int (nI k), .int gr] : List Value).toArray below meth c H locs 0 0 (MQ below (QwI G (fun q w => ∃ (n_f_0 : Int32) (n_f_20 : Int32) (n_f_21 : Int32) (n_f_27 : Int32) (n_f_28 : Int32) (n_r_15 : Nat → Int32) (n_r_16 : Nat → Int32) (n_r_17 : Nat → Int32) (n_r_18 : Nat → Int32) (n_r_19 : Nat → Int32) (n_r_22 : Nat → Int32) (n_r_23 : Nat → Int32) (n_r_24 : Nat → Int32) (n_r_25 : Nat → Int32) (n_r_26 : Nat → Int32), w = mM G y b (upd (upd (upd (upd (upd f 0 n_f_0) 20 n_f_20) 21 n_f_21) 27 n_f_27) 28 n_f_28) (up2 (up2 (up2 (up2 (up2 (up2 (up2 (up2 (up2 (up2 r 15 n_r_15) 16 n_r_16) 17 n_r_17) 18 n_r_18) 19 n_r_19) 22 n_r_22) 23 n_r_23) 24 n_r_24) 25 n_r_25) 26 n_r_26) ∧ (nL 12 n_f_27) ∧ (nL 12 n_f_28)) A) ([.ref y, .int (nI t), .int (nI i), .int (nI k), .int gr] : List Value).toArray s 0 0 A) (F0 m 249 ls []) := by
                                        intro k93
                                        induction k93 with
                                        | zero => intro j4 x94 h1 h2; exact absurd h1 (by omega)
                                        | succ k93 ih249k93 =>
                                          intro j4 x94 hi_j4 hk_j4  H locs ls hP hS hl
                                          refine lv_iload hx hb dX7_witness_249 (lv_at hl 0 rfl) ?_
                                          refine lv_aload_n hx hb dX7_witness_251 rfl (lv_at hl 2 rfl) ?_
                                          refine va_get (D := G.1) (ci := 7) (v := .int x6) (C := RX7) (T := TX7) (N := 43) hx hb hts inX7 hown hK.1 hP 0 rfl rfl 21 (by decide) (hts _ mf_X7_192) (fun _ h9 => h9) rfl dX7_witness_252 ?_
                                          rw [show x6 = nI (cl) from h21]
                                          refine lv_icmp_ge (tgt := 310) hx hb dX7_witness_255 (by decide) (fun c95 => ?_) (fun c95 => ?_)
                                          · have b255 := qge_t (a := j4) (b := (cl)) (by omega) (by omega) c95
                                            obtain ⟨v96, ev96⟩ : ∃ y9 : Int32, y9 = (nI i4) + Int32.ofInt (1) := ⟨_, rfl⟩
                                            refine lv_iinc (v := v96) (lv' := [(7, .int v96), (8, .int (nI j4)), (0, .ref y), (1, .int (nI t)), (2, .int (nI i)), (3, .int (nI k))]) hx hb dX7_witness_310 hl (k := 1) rfl ev96.symm (by decide) rfl (fun ls hl => ?_)
                                            obtain rfl : v96 = nI (i4 + 1) := nI_plus (i := i4) (j := 1) ev96 rfl (by decide)
                                            refine lv_goto (tgt := 237) hx hb dX7_witness_313 (by decide) ?_
                                            exact ih237k38 (i4 + 1) x94 (by omega) (by omega) _ _ _ hP hS (lv_sub hl [0, 2, 3, 4, 5] rfl)
                                          · have b255 := qge_f (a := j4) (b := (cl)) (by omega) (by omega) c95
                                            refine lv_aload_n hx hb dX7_witness_258 rfl (lv_at hl 2 rfl) ?_
                                            refine va_get (D := G.1) (ci := 7) (v := .ref (b 19)) (C := RX7) (T := TX7) (N := 43) hx hb hts inX7 hown hK.1 hP 0 rfl rfl 19 (by decide) (hts _ mf_X7_65) (fun _ h9 => h9) rfl dX7_witness_259 ?_
                                            refine lv_bipush (v := 12) hx hb dX7_witness_262 (by decide) ?_
                                            refine lv_iload hx hb dX7_witness_264 (lv_at hl 1 rfl) ?_
                                            refine lv_imul hx hb dX7_witness_266 ?_
                                            refine lv_topi (fun v97 ev97 => ?_)
                                            obtain rfl : v97 = nI (12 * i4) := nI_times ev97 rfl rfl
                                            refine lv_iload hx hb dX7_witness_267 (lv_at hl 0 rfl) ?_
                                            refine lv_iadd hx hb dX7_witness_269 ?_
                                            refine lv_topi (fun v98 ev98 => ?_)
                                            obtain rfl : v98 = nI ((12 * i4) + j4) := nI_plus ev98 rfl rfl
                                            refine lv_aload_n hx hb dX7_witness_270 rfl (lv_at hl 2 rfl) ?_
                                            refine va_get (D := G.1) (ci := 7) (v := .ref (b 18)) (C := RX7) (T := TX7) (N := 43) hx hb hts inX7 hown hK.1 hP 0 rfl rfl 18 (by decide) (hts _ mf_X7_62) (fun _ h9 => h9) rfl dX7_witness_271 ?_
                                            refine lv_iload hx hb dX7_witness_274 (lv_at hl 1 rfl) ?_
                                            refine xiald (f := x10) hx hb hK hP 18 (i4) (rfl) (by omega) (by decide) rfl dX7_witness_276 ?_
                                            refine lv_topi (fun v99 ev99 => ?_)
                                            refine lv_bipush (v := -2) hx hb dX7_witness_277 (by decide) ?_
                                            have j303_100 : ∀ (z100 : Int32) (gz100 : z100 = 0 ∨ z100 = 1) (H : Heap) (locs : List Loc) (ls : Array Slot), PP G (mM G y b (upd (upd (upd (upd (upd f 0 r1) 20 x5) 21 x6) 27 (nI (rw))) 28 (nI (cl))) (up2 (up2 (up2 (up2 (up2 (up2 (up2 (up2 (up2 (up2 r 15 x22) 16 x8) 17 x9) 18 x10) 19 x94) 22 x24) 23 x25) 24 x28) 25 x31) 26 (upd x34 (z36) (1)))) H → va_S A s.heap H locs → lv_has ls 11 [(8, .int (nI j4)), (7, .int (nI i4)), (0, .ref y), (1, .int (nI t)), (2, .int (nI i)), (3, .int (nI k))] → W p l e ({ frames := 4, cells := 0, slots := 0, locals := 105 }) s m ([.ref y, .int (nI t), .int (nI i), .int (nI k), .int gr] : List Value).toArray below meth c H locs 0 0 (MQ below (QwI G (fun q w => ∃ (n_f_0 : Int32) (n_f_20 : Int32) (n_f_21 : Int32) (n_f_27 : Int32) (n_f_28 : Int32) (n_r_15 : Nat → Int32) (n_r_16 : Nat → Int32) (n_r_17 : Nat → Int32) (n_r_18 : Nat → Int32) (n_r_19 : Nat → Int32) (n_r_22 : Nat → Int32) (n_r_23 : Nat → Int32) (n_r_24 : Nat → Int32) (n_r_25 : Nat → Int32) (n_r_26 : Nat → Int32), w = mM G y b (upd (upd (upd (upd (upd f 0 n_f_0) 20 n_f_20) 21 n_f_21) 27 n_f_27) 28 n_f_28) (up2 (up2 (up2 (up2 (up2 (up2 (up2 (up2 (up2 (up2 r 15 n_r_15) 16 n_r_16) 17 n_r_17) 18 n_r_18) 19 n_r_19) 22 n_r_22) 23 n_r_23) 24 n_r_24) 25 n_r_25) 26 n_r_26) ∧ (nL 12 n_f_27) ∧ (nL 12 n_f_28)) A) ([.ref y, .int (nI t), .int (nI i), .int (nI k), .int gr] : List Value).toArray s 0 0 A) (F0 m 303 ls [.int z100, .int (nI ((12 * i4) + j4)), .ref (b 19)]) := by
                                              intro z100 gz100 H locs ls hP hS hl
                                              refine xzast (f := x94) (x := z100) hx hb hK hP (hDD _ _) hS 19 (((12 * i4) + j4)) (rfl) (by omega) (by decide) (gz100) rfl dX7_witness_303 (fun H locs hP _ hS => ?_)
                                              have hP : PP G (mM G y b (upd (upd (upd (upd (upd f 0 r1) 20 x5) 21 x6) 27 (nI (rw))) 28 (nI (cl))) (up2 (up2 (up2 (up2 (up2 (up2 (up2 (up2 (up2 (up2 r 15 x22) 16 x8) 17 x9) 18 x10) 19 (upd x94 (((12 * i4) + j4)) (z100))) 22 x24) 23 x25) 24 x28) 25 x31) 26 (upd x34 (z36) (1)))) H := hP
                                              obtain ⟨v101, ev101⟩ : ∃ y9 : Int32, y9 = (nI j4) + Int32.ofInt (1) := ⟨_, rfl⟩
                                              refine lv_iinc (v := v101) (lv' := [(8, .int v101), (7, .int (nI i4)), (0, .ref y), (1, .int (nI t)), (2, .int (nI i)), (3, .int (nI k))]) hx hb dX7_witness_304 hl (k := 0) rfl ev101.symm (by decide) rfl (fun ls hl => ?_)
                                              obtain rfl : v101 = nI (j4 + 1) := nI_plus (i := j4) (j := 1) ev101 rfl (by decide)
                                              refine lv_goto (tgt := 249) hx hb dX7_witness_307 (by decide) ?_
                                              exact ih249k93 (j4 + 1) (upd x94 (((12 * i4) + j4)) (z100)) (by omega) (by omega) _ _ _ hP hS (lv_sub hl [0, 1, 2, 3, 4, 5] rfl)
                                            refine lv_icmp_eq (tgt := 302) hx hb dX7_witness_279 (by decide) (fun c102 => ?_) (fun c102 => ?_)
                                            · refine lv_iconst (v := 0) hx hb dX7_witness_302 (by decide) ?_
                                              exact j303_100 0 (Or.inl rfl) _ _ _ hP hS (lv_sub hl [0, 1, 2, 3, 4, 5] rfl)
                                            · refine lv_aload_n hx hb dX7_witness_282 rfl (lv_at hl 2 rfl) ?_
                                              refine lv_iload_n hx hb dX7_witness_283 rfl (lv_at hl 3 rfl) ?_
                                              refine lv_iload_n hx hb dX7_witness_284 rfl (lv_at hl 3 rfl) ?_
                                              refine lv_iload hx hb dX7_witness_285 (lv_at hl 1 rfl) ?_
                                              refine lv_iload hx hb dX7_witness_287 (lv_at hl 0 rfl) ?_
                                              refine rdS (rest := [.int (nI t), .ref y, .int (nI ((12 * i4) + j4)), .ref (b 19)]) ⟨hx, hb, hml, hown, hts⟩ (m_X7_at l G y b (upd (upd (upd (upd (upd f 0 r1) 20 x5) 21 x6) 27 (nI (rw))) 28 (nI (cl))) (up2 (up2 (up2 (up2 (up2 (up2 (up2 (up2 (up2 (up2 r 15 x22) 16 x8) 17 x9) 18 x10) 19 x94) 22 x24) 23 x25) 24 x28) 25 x31) 26 (upd x34 (z36) (1))) t i4 j4  ) mi_yX7_at mst_yX7_at ml_X7_147 ⟨rfl, rfl, Nat.le_of_ble_eq_true rfl, Nat.le_of_ble_eq_true rfl⟩ hK (hP) rfl hl.1 rfl (Nat.le_of_ble_eq_true rfl) dX7_witness_289 ⟨Nat.zero_le _, Nat.zero_le _⟩ hS hA hP (fun r103 H locs hr103 hP hS => ?_)
                                              obtain rfl := hr103
                                              refine rdV (rest := [.int (nI ((12 * i4) + j4)), .ref (b 19)]) (q0 := 0) ⟨hx, hb, hml, hown, hts⟩ (m_X7_isKept l G y b (upd (upd (upd (upd (upd f 0 r1) 20 x5) 21 x6) 27 (nI (rw))) 28 (nI (cl))) (up2 (up2 (up2 (up2 (up2 (up2 (up2 (up2 (up2 (up2 r 15 x22) 16 x8) 17 x9) 18 x10) 19 x94) 22 x24) 23 x25) 24 x28) 25 x31) 26 (upd x34 (z36) (1))) t (144 * t + 12 * i4 + j4)  (by omega) (by omega) hG) mi_yX7_isKept mv_yX7_isKept ml_X7_181 ⟨rfl, rfl, Nat.le_of_ble_eq_true rfl, Nat.le_of_ble_eq_true rfl⟩ hK (hP) rfl rfl rfl hl.1 rfl (Nat.le_of_ble_eq_true rfl) dX7_witness_292 ⟨Nat.zero_le _, Nat.zero_le _⟩ hS hA hP (fun r104 H locs hr104 hP hS => ?_)
                                              have hr104 : ((r104 = 0 ∨ r104 = 1) ∧ (r104 = 0 → (r 5) (144 * t + 12 * i4 + j4) = 4 ∨ (r 10) (144 * t + 12 * i4 + j4) = 0)) := hr104
                                              refine lv_if_eq (tgt := 302) hx hb dX7_witness_295 (by decide) (fun c105 => ?_) (fun c105 => ?_)
                                              · refine lv_iconst (v := 0) hx hb dX7_witness_302 (by decide) ?_
                                                exact j303_100 0 (Or.inl rfl) _ _ _ hP hS (lv_sub hl [0, 1, 2, 3, 4, 5] rfl)
                                              · refine lv_iconst (v := 1) hx hb dX7_witness_298 (by decide) ?_
                                                refine lv_goto (tgt := 303) hx hb dX7_witness_299 (by decide) ?_
                                                exact j303_100 1 (Or.inr rfl) _ _ _ hP hS (lv_sub hl [0, 1, 2, 3, 4, 5] rfl)
                                      exact loop249 (cl + 1) 0 x39 (by omega) (by omega) _ _ _ hP hS (lv_sub hl [0, 1, 2, 3, 4, 5] rfl)
                                exact loop237 (rw + 1) 0 x23 (by omega) (by omega) _ _ _ hP hS (lv_sub hl [0, 3, 4, 5, 6] rfl)
                              · refine lv_aload_n hx hb dX7_witness_222 rfl (lv_at hl 2 rfl) ?_
                                refine va_get (D := G.1) (ci := 7) (v := .ref (b 15)) (C := RX7) (T := TX7) (N := 43) hx hb hts inX7 hown hK.1 hP 0 rfl rfl 15 (by decide) (hts _ mf_X7_53) (fun _ h9 => h9) rfl dX7_witness_223 ?_
                                refine lv_bipush (v := 12) hx hb dX7_witness_226 (by decide) ?_
                                refine lv_iload_n hx hb dX7_witness_228 rfl (lv_at hl 4 rfl) ?_
                                refine lv_imul hx hb dX7_witness_229 ?_
                                refine lv_topi (fun v106 ev106 => ?_)
                                obtain rfl : v106 = nI (12 * i) := nI_times ev106 rfl rfl
                                refine lv_iload_n hx hb dX7_witness_230 rfl (lv_at hl 5 rfl) ?_
                                refine lv_iadd hx hb dX7_witness_231 ?_
                                refine lv_topi (fun v107 ev107 => ?_)
                                obtain rfl : v107 = nI ((12 * i) + k) := nI_plus ev107 rfl rfl
                                refine xiald (f := x22) hx hb hK hP 15 (((12 * i) + k)) (rfl) (by omega) (by decide) rfl dX7_witness_232 ?_
                                refine lv_topi (fun v108 ev108 => ?_)
                                exact wr_iret hx hb hr hlocks hS hP ⟨r1, x5, x6, (nI (rw)), (nI (cl)), x22, x8, x9, x10, x23, x24, x25, x28, x31, (upd x34 (z36) (1)), rfl, h27, h28⟩ dX7_witness_233
                            refine lv_if_eq (tgt := 206) hx hb dX7_witness_196 (by decide) (fun c109 => ?_) (fun c109 => ?_)
                            · refine lv_iload_n hx hb dX7_witness_206 rfl (lv_at hl 4 rfl) ?_
                              exact j207_36 i (by omega) _ _ _ hP hS (lv_sub hl [1, 2, 3, 4, 5] rfl)
                            · refine lv_bipush (v := 12) hx hb dX7_witness_199 (by decide) ?_
                              refine lv_iload_n hx hb dX7_witness_201 rfl (lv_at hl 5 rfl) ?_
                              refine lv_iadd hx hb dX7_witness_202 ?_
                              refine lv_topi (fun v110 ev110 => ?_)
                              obtain rfl : v110 = nI (12 + k) := nI_plus ev110 rfl rfl
                              refine lv_goto (tgt := 207) hx hb dX7_witness_203 (by decide) ?_
                              exact j207_36 (12 + k) (by omega) _ _ _ hP hS (lv_sub hl [1, 2, 3, 4, 5] rfl)
                          · have b177 := qge_f (a := n3) (b := 24) (by omega) (by omega) c35
                            refine lv_aload_n hx hb dX7_witness_180 rfl (lv_at hl 2 rfl) ?_
                            refine va_get (D := G.1) (ci := 7) (v := .ref (b 26)) (C := RX7) (T := TX7) (N := 43) hx hb hts inX7 hown hK.1 hP 0 rfl rfl 26 (by decide) (hts _ mf_X7_80) (fun _ h9 => h9) rfl dX7_witness_181 ?_
                            refine lv_iload hx hb dX7_witness_184 (lv_at hl 0 rfl) ?_
                            refine lv_iconst (v := 0) hx hb dX7_witness_186 (by decide) ?_
                            refine xzast (f := x34) (x := 0) hx hb hK hP (hDD _ _) hS 24 (n3) (rfl) (by omega) (by decide) (Or.inl rfl) rfl dX7_witness_187 (fun H locs hP _ hS => ?_)
                            have hP : PP G (mM G y b (upd (upd (upd (upd (upd f 0 r1) 20 x5) 21 x6) 27 (nI (rw))) 28 (nI (cl))) (up2 (up2 (up2 (up2 (up2 (up2 (up2 (up2 (up2 (up2 r 15 x22) 16 x8) 17 x9) 18 x10) 19 x23) 22 x24) 23 x25) 24 x28) 25 x31) 26 (upd x34 (n3) (0)))) H := hP
                            obtain ⟨v111, ev111⟩ : ∃ y9 : Int32, y9 = (nI n3) + Int32.ofInt (1) := ⟨_, rfl⟩
                            refine lv_iinc (v := v111) (lv' := [(6, .int v111), (5, .int v14), (0, .ref y), (1, .int (nI t)), (2, .int (nI i)), (3, .int (nI k)), (4, .int gr)]) hx hb dX7_witness_188 hl (k := 0) rfl ev111.symm (by decide) rfl (fun ls hl => ?_)
                            obtain rfl : v111 = nI (n3 + 1) := nI_plus (i := n3) (j := 1) ev111 rfl (by decide)
                            refine lv_goto (tgt := 173) hx hb dX7_witness_191 (by decide) ?_
                            exact ih173k33 (n3 + 1) (upd x34 (n3) (0)) (by omega) (by omega) _ _ _ hP hS (lv_sub hl [0, 1, 2, 3, 4, 5, 6] rfl)
                      exact loop173 (24 + 1) 0 (r 26) (by omega) (by omega) _ _ _ hP hS (lv_sub hl [0, 1, 2, 3, 4, 5, 6] rfl)
                    · have b147 := qge_f (a := n2) (b := (rw)) (by omega) (by omega) c32
                      refine lv_aload_n hx hb dX7_witness_150 rfl (lv_at hl 2 rfl) ?_
                      refine va_get (D := G.1) (ci := 7) (v := .ref (b 25)) (C := RX7) (T := TX7) (N := 43) hx hb hts inX7 hown hK.1 hP 0 rfl rfl 25 (by decide) (hts _ mf_X7_77) (fun _ h9 => h9) rfl dX7_witness_151 ?_
                      refine lv_iload hx hb dX7_witness_154 (lv_at hl 0 rfl) ?_
                      refine lv_aload_n hx hb dX7_witness_156 rfl (lv_at hl 2 rfl) ?_
                      refine va_get (D := G.1) (ci := 7) (v := .ref (b 18)) (C := RX7) (T := TX7) (N := 43) hx hb hts inX7 hown hK.1 hP 0 rfl rfl 18 (by decide) (hts _ mf_X7_62) (fun _ h9 => h9) rfl dX7_witness_157 ?_
                      refine lv_iload hx hb dX7_witness_160 (lv_at hl 0 rfl) ?_
                      refine xiald (f := x10) hx hb hK hP 18 (n2) (rfl) (by omega) (by decide) rfl dX7_witness_162 ?_
                      refine lv_topi (fun v112 ev112 => ?_)
                      refine xiast (f := x31) (x := v112) hx hb hK hP (hDD _ _) hS 23 (n2) (rfl) (by omega) (by decide) rfl dX7_witness_163 (fun H locs hP _ hS => ?_)
                      have hP : PP G (mM G y b (upd (upd (upd (upd (upd f 0 r1) 20 x5) 21 x6) 27 (nI (rw))) 28 (nI (cl))) (up2 (up2 (up2 (up2 (up2 (up2 (up2 (up2 (up2 r 15 x22) 16 x8) 17 x9) 18 x10) 19 x23) 22 x24) 23 x25) 24 x28) 25 (upd x31 (n2) (v112)))) H := hP
                      obtain ⟨v113, ev113⟩ : ∃ y9 : Int32, y9 = (nI n2) + Int32.ofInt (1) := ⟨_, rfl⟩
                      refine lv_iinc (v := v113) (lv' := [(6, .int v113), (5, .int v14), (0, .ref y), (1, .int (nI t)), (2, .int (nI i)), (3, .int (nI k)), (4, .int gr)]) hx hb dX7_witness_164 hl (k := 0) rfl ev113.symm (by decide) rfl (fun ls hl => ?_)
                      obtain rfl : v113 = nI (n2 + 1) := nI_plus (i := n2) (j := 1) ev113 rfl (by decide)
                      refine lv_goto (tgt := 141) hx hb dX7_witness_167 (by decide) ?_
                      exact ih141k30 (n2 + 1) (upd x31 (n2) (v112)) (by omega) (by omega) _ _ _ hP hS (lv_sub hl [0, 1, 2, 3, 4, 5, 6] rfl)
                exact loop141 (rw + 1) 0 (r 25) (by omega) (by omega) _ _ _ hP hS (lv_sub hl [0, 1, 2, 3, 4, 5, 6] rfl)
              · have b115 := qge_f (a := n1) (b := 144) (by omega) (by omega) c29
                refine lv_aload_n hx hb dX7_witness_118 rfl (lv_at hl 2 rfl) ?_
                refine va_get (D := G.1) (ci := 7) (v := .ref (b 24)) (C := RX7) (T := TX7) (N := 43) hx hb hts inX7 hown hK.1 hP 0 rfl rfl 24 (by decide) (hts _ mf_X7_74) (fun _ h9 => h9) rfl dX7_witness_119 ?_
                refine lv_iload hx hb dX7_witness_122 (lv_at hl 0 rfl) ?_
                refine lv_aload_n hx hb dX7_witness_124 rfl (lv_at hl 2 rfl) ?_
                refine va_get (D := G.1) (ci := 7) (v := .ref (b 15)) (C := RX7) (T := TX7) (N := 43) hx hb hts inX7 hown hK.1 hP 0 rfl rfl 15 (by decide) (hts _ mf_X7_53) (fun _ h9 => h9) rfl dX7_witness_125 ?_
                refine lv_iload hx hb dX7_witness_128 (lv_at hl 0 rfl) ?_
                refine xiald (f := x22) hx hb hK hP 15 (n1) (rfl) (by omega) (by decide) rfl dX7_witness_130 ?_
                refine lv_topi (fun v114 ev114 => ?_)
                refine xiast (f := x28) (x := v114) hx hb hK hP (hDD _ _) hS 22 (n1) (rfl) (by omega) (by decide) rfl dX7_witness_131 (fun H locs hP _ hS => ?_)
                have hP : PP G (mM G y b (upd (upd (upd (upd (upd f 0 r1) 20 x5) 21 x6) 27 (nI (rw))) 28 (nI (cl))) (up2 (up2 (up2 (up2 (up2 (up2 (up2 (up2 r 15 x22) 16 x8) 17 x9) 18 x10) 19 x23) 22 x24) 23 x25) 24 (upd x28 (n1) (v114)))) H := hP
                obtain ⟨v115, ev115⟩ : ∃ y9 : Int32, y9 = (nI n1) + Int32.ofInt (1) := ⟨_, rfl⟩
                refine lv_iinc (v := v115) (lv' := [(6, .int v115), (5, .int v14), (0, .ref y), (1, .int (nI t)), (2, .int (nI i)), (3, .int (nI k)), (4, .int gr)]) hx hb dX7_witness_132 hl (k := 0) rfl ev115.symm (by decide) rfl (fun ls hl => ?_)
                obtain rfl : v115 = nI (n1 + 1) := nI_plus (i := n1) (j := 1) ev115 rfl (by decide)
                refine lv_goto (tgt := 110) hx hb dX7_witness_135 (by decide) ?_
                exact ih110k27 (n1 + 1) (upd x28 (n1) (v114)) (by omega) (by omega) _ _ _ hP hS (lv_sub hl [0, 1, 2, 3, 4, 5, 6] rfl)
          exact loop110 (144 + 1) 0 (r 24) (by omega) (by omega) _ _ _ hP hS (lv_sub hl [0, 1, 2, 3, 4, 5, 6] rfl)
        · have b55 := qge_f (a := i1) (b := (rw)) (by omega) (by omega) c26
          refine lv_iconst (v := 0) hx hb dX7_witness_58 (by decide) ?_
          refine lv_istore (lv' := [(7, .int 0), (6, .int (nI i1)), (5, .int v14), (0, .ref y), (1, .int (nI t)), (2, .int (nI i)), (3, .int (nI k)), (4, .int gr)]) hx hb dX7_witness_59 hl (by decide) rfl (fun ls hl => ?_)
          have loop61 : ∀ (k116 j1 : Nat) (x117 : Nat → Int32) (x118 : Nat → Int32) (x119 : Nat → Int32) (x120 : Nat → Int32), j1 ≤ cl → cl < j1 + k116 → ∀ (H : Heap) (locs : List Loc) (ls : Array Slot), PP G (mM G y b (upd (upd (upd f 0 r1) 20 x5) 21 x6) (up2 (up2 (up2 (up2 (up2 (up2 (up2 r 15 x117) 16 x8) 17 x9) 18 x10) 19 x118) 22 x119) 23 x120)) H → va_S A s.heap H locs → lv_has ls 11 [(7, .int (nI j1)), (6, .int (nI i1)), (5, .int v14), (0, .ref y), (1, .int (nI t)), (2, .int (nI i)), (3, .int (nI k)), (4, .int gr)] → W p l e ({ frames := 4, cells := 0, slots := 0, locals := 105 }) s m ([.ref y, .int (nI t), .int (nI i), .int (nI k), .int gr] : List Value).toArray below meth c H locs 0 0 (MQ below (QwI G (fun q w => ∃ (n_f_0 : Int32) (n_f_20 : Int32) (n_f_21 : Int32) (n_f_27 : Int32) (n_f_28 : Int32) (n_r_15 : Nat → Int32) (n_r_16 : Nat → Int32) (n_r_17 : Nat → Int32) (n_r_18 : Nat → Int32) (n_r_19 : Nat → Int32) (n_r_22 : Nat → Int32) (n_r_23 : Nat → Int32) (n_r_24 : Nat → Int32) (n_r_25 : Nat → Int32) (n_r_26 : Nat → Int32), w = mM G y b (upd (upd (upd (upd (upd f 0 n_f_0) 20 n_f_20) 21 n_f_21) 27 n_f_27) 28 n_f_28) (up2 (up2 (up2 (up2 (up2 (up2 (up2 (up2 (up2 (up2 r 15 n_r_15) 16 n_r_16) 17 n_r_17) 18 n_r_18) 19 n_r_19) 22 n_r_22) 23 n_r_23) 24 n_r_24) 25 n_r_25) 26 n_r_26) ∧ (nL 12 n_f_27) ∧ (nL 12 n_f_28)) A) ([.ref y, .int (nI t), .int (nI i), .int (nI k), .int gr] : List Value).toArray s 0 0 A) (F0 m 61 ls []) := by
            intro k116
            induction k116 with
            | zero => intro j1 x117 x118 x119 x120 h1 h2; exact absurd h1 (by omega)
            | succ k116 ih61k116 =>
              intro j1 x117 x118 x119 x120 hi_j1 hk_j1  H locs ls hP hS hl
              refine lv_iload hx hb dX7_witness_61 (lv_at hl 0 rfl) ?_
              refine lv_aload_n hx hb dX7_witness_63 rfl (lv_at hl 3 rfl) ?_
              refine va_get (D := G.1) (ci := 7) (v := .int x6) (C := RX7) (T := TX7) (N := 43) hx hb hts inX7 hown hK.1 hP 0 rfl rfl 21 (by decide) (hts _ mf_X7_192) (fun _ h9 => h9) rfl dX7_witness_64 ?_
              rw [show x6 = nI (cl) from h21]
              refine lv_icmp_ge (tgt := 85) hx hb dX7_witness_67 (by decide) (fun c121 => ?_) (fun c121 => ?_)
              · have b67 := qge_t (a := j1) (b := (cl)) (by omega) (by omega) c121
                obtain ⟨v122, ev122⟩ : ∃ y9 : Int32, y9 = (nI i1) + Int32.ofInt (1) := ⟨_, rfl⟩
                refine lv_iinc (v := v122) (lv' := [(6, .int v122), (7, .int (nI j1)), (5, .int v14), (0, .ref y), (1, .int (nI t)), (2, .int (nI i)), (3, .int (nI k)), (4, .int gr)]) hx hb dX7_witness_85 hl (k := 1) rfl ev122.symm (by decide) rfl (fun ls hl => ?_)
                obtain rfl : v122 = nI (i1 + 1) := nI_plus (i := i1) (j := 1) ev122 rfl (by decide)
                refine lv_goto (tgt := 49) hx hb dX7_witness_88 (by decide) ?_
                exact ih49k21 (i1 + 1) x117 x118 x119 x120 (by omega) (by omega) _ _ _ hP hS (lv_sub hl [0, 2, 3, 4, 5, 6, 7] rfl)
              · have b67 := qge_f (a := j1) (b := (cl)) (by omega) (by omega) c121
                refine lv_aload_n hx hb dX7_witness_70 rfl (lv_at hl 3 rfl) ?_
                refine lv_iload hx hb dX7_witness_71 (lv_at hl 1 rfl) ?_
                refine lv_iload hx hb dX7_witness_73 (lv_at hl 0 rfl) ?_
                refine lv_iconst (v := 0) hx hb dX7_witness_75 (by decide) ?_
                refine wrVVa (rest := []) (q0 := 0) ⟨hx, hb, hml, hown, hts⟩ (m_X7_settle l G y b (upd (upd (upd f 0 r1) 20 x5) 21 x6) (up2 (up2 (up2 (up2 (up2 (up2 (up2 r 15 x117) 16 x8) 17 x9) 18 x10) 19 x118) 22 x119) 23 x120) i1 j1 0  (by omega) (by omega)) mi_yX7_settle mv_yX7_settle ml_X7_219 ⟨rfl, rfl, Nat.le_of_ble_eq_true rfl, Nat.le_of_ble_eq_true rfl⟩ hK hP (hDD _ _) rfl rfl rfl hl.1 rfl (Nat.le_of_ble_eq_true rfl) dX7_witness_76 ⟨Nat.zero_le _, Nat.zero_le _⟩ hS hA (fun w124 H locs hw124 hP hS => ?_)
                obtain ⟨x125, x126, x127, x128, rfl⟩ := hw124
                have hP : PP G (mM G y b (upd (upd (upd f 0 r1) 20 x5) 21 x6) (up2 (up2 (up2 (up2 (up2 (up2 (up2 r 15 x125) 16 x8) 17 x9) 18 x10) 19 x126) 22 x127) 23 x128)) H := hP
                obtain ⟨v129, ev129⟩ : ∃ y9 : Int32, y9 = (nI j1) + Int32.ofInt (1) := ⟨_, rfl⟩
                refine lv_iinc (v := v129) (lv' := [(7, .int v129), (6, .int (nI i1)), (5, .int v14), (0, .ref y), (1, .int (nI t)), (2, .int (nI i)), (3, .int (nI k)), (4, .int gr)]) hx hb dX7_witness_79 hl (k := 0) rfl ev129.symm (by decide) rfl (fun ls hl => ?_)
                obtain rfl : v129 = nI (j1 + 1) := nI_plus (i := j1) (j := 1) ev129 rfl (by decide)
                refine lv_goto (tgt := 61) hx hb dX7_witness_82 (by decide) ?_
                exact ih61k116 (j1 + 1) x125 x126 x127 x128 (by omega) (by omega) _ _ _ hP hS (lv_sub hl [0, 1, 2, 3, 4, 5, 6, 7] rfl)
          exact loop61 (cl + 1) 0 x22 x23 x24 x25 (by omega) (by omega) _ _ _ hP hS (lv_sub hl [0, 1, 2, 3, 4, 5, 6, 7] rfl)
    exact loop49 (rw + 1) 0 x17 x18 x19 x20 (by omega) (by omega) _ _ _ hP hS (lv_sub hl [0, 1, 2, 3, 4, 5, 6] rfl)
  · refine lv_iconst (v := -1) hx hb dX7_witness_18 (by decide) ?_
    exact wr_iret hx hb hr hlocks hS hP ⟨r1, (f 20), (f 21), (f 27), (f 28), (r 15), (r 16), (r 17), (r 18), (r 19), (r 22), (r 23), (r 24), (r 25), (r 26), rfl, h27, h28⟩ dX7_witness_19
set_option maxHeartbeats 4000000 in
set_option maxRecDepth 100000 in
theorem m_X7_seen (l : Launch) (G : GG) (y : Nat) (b : Nat → Nat) (f : Nat → Int32) (r : Nat → Nat → Int32) (row : Int32) (col : Int32) (h27 : nL 12 (f 27)) (h28 : nL 12 (f 28)) : RdI l yX7_seen cX7_seen 3 (some .int) ({ frames := 0, cells := 0, slots := 0, locals := 0 }) G (mM G y b f r) [.ref y, .int row, .int col] (fun q => True) := by
  refine rd_entry (by decide +kernel) (Nat.le_of_ble_eq_true rfl) ?_
  intro p e s m below meth c C0 hP hK ls hl
  have hS : va_S (fun q => s.heap.size ≤ q) s.heap s.heap [] := va_S.rf
  have hA : ∀ q, s.heap.size ≤ q → (fun q => s.heap.size ≤ q) q := fun _ h => h
  obtain ⟨hx, hb, hml, hown, hts, hr, hlocks, hin⟩ := C0
  have hown : s.vm.findClass RX7 = some m.cls := hown
  have hl : lv_has ls 3 [(0, .ref y), (1, .int row), (2, .int col)] := hl
  obtain ⟨n1, hn1, e1⟩ := h27
  obtain ⟨n2, hn2, e2⟩ := h28
  refine lv_iload_n hx hb dX7_seen_0 rfl (lv_at hl 1 rfl) ?_
  refine lv_if_lt (tgt := 35) hx hb dX7_seen_1 (by decide) (fun c1 => ?_) (fun c1 => ?_)
  · refine lv_iconst (v := -1) hx hb dX7_seen_35 (by decide) ?_
    exact rd_iret hx hb hr hlocks hS (trivial) dX7_seen_36
  · refine lv_iload_n hx hb dX7_seen_4 rfl (lv_at hl 1 rfl) ?_
    refine lv_aload_n hx hb dX7_seen_5 rfl (lv_at hl 0 rfl) ?_
    refine va_get (D := G.1) (ci := 7) (v := .int (f 27)) (C := RX7) (T := TX7) (N := 43) hx hb hts inX7 hown hK.1 hP 0 rfl rfl 27 (by decide) (hts _ mf_X7_233) (fun _ h9 => h9) rfl dX7_seen_6 ?_
    rw [show (f 27) = nI (n1) from e1]
    refine lv_icmp_ge (tgt := 35) hx hb dX7_seen_9 (by decide) (fun c2 => ?_) (fun c2 => ?_)
    · refine lv_iconst (v := -1) hx hb dX7_seen_35 (by decide) ?_
      exact rd_iret hx hb hr hlocks hS (trivial) dX7_seen_36
    · refine lv_iload_n hx hb dX7_seen_12 rfl (lv_at hl 2 rfl) ?_
      refine lv_if_lt (tgt := 35) hx hb dX7_seen_13 (by decide) (fun c3 => ?_) (fun c3 => ?_)
      · refine lv_iconst (v := -1) hx hb dX7_seen_35 (by decide) ?_
        exact rd_iret hx hb hr hlocks hS (trivial) dX7_seen_36
      · refine lv_iload_n hx hb dX7_seen_16 rfl (lv_at hl 2 rfl) ?_
        refine lv_aload_n hx hb dX7_seen_17 rfl (lv_at hl 0 rfl) ?_
        refine va_get (D := G.1) (ci := 7) (v := .int (f 28)) (C := RX7) (T := TX7) (N := 43) hx hb hts inX7 hown hK.1 hP 0 rfl rfl 28 (by decide) (hts _ mf_X7_236) (fun _ h9 => h9) rfl dX7_seen_18 ?_
        rw [show (f 28) = nI (n2) from e2]
        refine lv_icmp_ge (tgt := 35) hx hb dX7_seen_21 (by decide) (fun c4 => ?_) (fun c4 => ?_)
        · refine lv_iconst (v := -1) hx hb dX7_seen_35 (by decide) ?_
          exact rd_iret hx hb hr hlocks hS (trivial) dX7_seen_36
        · obtain ⟨i, hi, rfl⟩ := lt_ix (x := row) (n := n1) (by omega) c1 c2
          obtain ⟨k, hk, rfl⟩ := lt_ix (x := col) (n := n2) (by omega) c3 c4
          refine lv_aload_n hx hb dX7_seen_24 rfl (lv_at hl 0 rfl) ?_
          refine va_get (D := G.1) (ci := 7) (v := .ref (b 25)) (C := RX7) (T := TX7) (N := 43) hx hb hts inX7 hown hK.1 hP 0 rfl rfl 25 (by decide) (hts _ mf_X7_77) (fun _ h9 => h9) rfl dX7_seen_25 ?_
          refine lv_iload_n hx hb dX7_seen_28 rfl (lv_at hl 1 rfl) ?_
          refine xiald (f := (r 25)) hx hb hK hP 23 (i) (rfl) (by omega) (by decide) rfl dX7_seen_29 ?_
          refine lv_topi (fun v5 ev5 => ?_)
          refine lv_bipush (v := -2) hx hb dX7_seen_30 (by decide) ?_
          refine lv_icmp_ne (tgt := 37) hx hb dX7_seen_32 (by decide) (fun c6 => ?_) (fun c6 => ?_)
          · refine lv_aload_n hx hb dX7_seen_37 rfl (lv_at hl 0 rfl) ?_
            refine va_get (D := G.1) (ci := 7) (v := .ref (b 24)) (C := RX7) (T := TX7) (N := 43) hx hb hts inX7 hown hK.1 hP 0 rfl rfl 24 (by decide) (hts _ mf_X7_74) (fun _ h9 => h9) rfl dX7_seen_38 ?_
            refine lv_bipush (v := 12) hx hb dX7_seen_41 (by decide) ?_
            refine lv_iload_n hx hb dX7_seen_43 rfl (lv_at hl 1 rfl) ?_
            refine lv_imul hx hb dX7_seen_44 ?_
            refine lv_topi (fun v7 ev7 => ?_)
            obtain rfl : v7 = nI (12 * i) := nI_times ev7 rfl rfl
            refine lv_iload_n hx hb dX7_seen_45 rfl (lv_at hl 2 rfl) ?_
            refine lv_iadd hx hb dX7_seen_46 ?_
            refine lv_topi (fun v8 ev8 => ?_)
            obtain rfl : v8 = nI ((12 * i) + k) := nI_plus ev8 rfl rfl
            refine xiald (f := (r 24)) hx hb hK hP 22 (((12 * i) + k)) (rfl) (by omega) (by decide) rfl dX7_seen_47 ?_
            refine lv_topi (fun v9 ev9 => ?_)
            exact rd_iret hx hb hr hlocks hS (trivial) dX7_seen_48
          · refine lv_iconst (v := -1) hx hb dX7_seen_35 (by decide) ?_
            exact rd_iret hx hb hr hlocks hS (trivial) dX7_seen_36
set_option maxHeartbeats 4000000 in
set_option maxRecDepth 100000 in
theorem m_X7_rounded (l : Launch) (G : GG) (y : Nat) (b : Nat → Nat) (f : Nat → Int32) (r : Nat → Nat → Int32) (row : Int32) (col : Int32) (h34 : nL 12 (f 34)) (h35 : nL 12 (f 35)) : RdI l yX7_rounded cX7_rounded 3 (some .int) ({ frames := 0, cells := 0, slots := 0, locals := 0 }) G (mM G y b f r) [.ref y, .int row, .int col] (fun q => True) := by
  refine rd_entry (by decide +kernel) (Nat.le_of_ble_eq_true rfl) ?_
  intro p e s m below meth c C0 hP hK ls hl
  have hS : va_S (fun q => s.heap.size ≤ q) s.heap s.heap [] := va_S.rf
  have hA : ∀ q, s.heap.size ≤ q → (fun q => s.heap.size ≤ q) q := fun _ h => h
  obtain ⟨hx, hb, hml, hown, hts, hr, hlocks, hin⟩ := C0
  have hown : s.vm.findClass RX7 = some m.cls := hown
  have hl : lv_has ls 3 [(0, .ref y), (1, .int row), (2, .int col)] := hl
  obtain ⟨n1, hn1, e1⟩ := h34
  obtain ⟨n2, hn2, e2⟩ := h35
  refine lv_iload_n hx hb dX7_rounded_0 rfl (lv_at hl 1 rfl) ?_
  refine lv_if_lt (tgt := 35) hx hb dX7_rounded_1 (by decide) (fun c1 => ?_) (fun c1 => ?_)
  · refine lv_iconst (v := -1) hx hb dX7_rounded_35 (by decide) ?_
    exact rd_iret hx hb hr hlocks hS (trivial) dX7_rounded_36
  · refine lv_iload_n hx hb dX7_rounded_4 rfl (lv_at hl 1 rfl) ?_
    refine lv_aload_n hx hb dX7_rounded_5 rfl (lv_at hl 0 rfl) ?_
    refine va_get (D := G.1) (ci := 7) (v := .int (f 34)) (C := RX7) (T := TX7) (N := 43) hx hb hts inX7 hown hK.1 hP 0 rfl rfl 34 (by decide) (hts _ mf_X7_265) (fun _ h9 => h9) rfl dX7_rounded_6 ?_
    rw [show (f 34) = nI (n1) from e1]
    refine lv_icmp_ge (tgt := 35) hx hb dX7_rounded_9 (by decide) (fun c2 => ?_) (fun c2 => ?_)
    · refine lv_iconst (v := -1) hx hb dX7_rounded_35 (by decide) ?_
      exact rd_iret hx hb hr hlocks hS (trivial) dX7_rounded_36
    · refine lv_iload_n hx hb dX7_rounded_12 rfl (lv_at hl 2 rfl) ?_
      refine lv_if_lt (tgt := 35) hx hb dX7_rounded_13 (by decide) (fun c3 => ?_) (fun c3 => ?_)
      · refine lv_iconst (v := -1) hx hb dX7_rounded_35 (by decide) ?_
        exact rd_iret hx hb hr hlocks hS (trivial) dX7_rounded_36
      · refine lv_iload_n hx hb dX7_rounded_16 rfl (lv_at hl 2 rfl) ?_
        refine lv_aload_n hx hb dX7_rounded_17 rfl (lv_at hl 0 rfl) ?_
        refine va_get (D := G.1) (ci := 7) (v := .int (f 35)) (C := RX7) (T := TX7) (N := 43) hx hb hts inX7 hown hK.1 hP 0 rfl rfl 35 (by decide) (hts _ mf_X7_268) (fun _ h9 => h9) rfl dX7_rounded_18 ?_
        rw [show (f 35) = nI (n2) from e2]
        refine lv_icmp_ge (tgt := 35) hx hb dX7_rounded_21 (by decide) (fun c4 => ?_) (fun c4 => ?_)
        · refine lv_iconst (v := -1) hx hb dX7_rounded_35 (by decide) ?_
          exact rd_iret hx hb hr hlocks hS (trivial) dX7_rounded_36
        · obtain ⟨i, hi, rfl⟩ := lt_ix (x := row) (n := n1) (by omega) c1 c2
          obtain ⟨k, hk, rfl⟩ := lt_ix (x := col) (n := n2) (by omega) c3 c4
          refine lv_aload_n hx hb dX7_rounded_24 rfl (lv_at hl 0 rfl) ?_
          refine va_get (D := G.1) (ci := 7) (v := .ref (b 33)) (C := RX7) (T := TX7) (N := 43) hx hb hts inX7 hown hK.1 hP 0 rfl rfl 33 (by decide) (hts _ mf_X7_95) (fun _ h9 => h9) rfl dX7_rounded_25 ?_
          refine lv_iload_n hx hb dX7_rounded_28 rfl (lv_at hl 1 rfl) ?_
          refine xiald (f := (r 33)) hx hb hK hP 29 (i) (rfl) (by omega) (by decide) rfl dX7_rounded_29 ?_
          refine lv_topi (fun v5 ev5 => ?_)
          refine lv_bipush (v := -2) hx hb dX7_rounded_30 (by decide) ?_
          refine lv_icmp_ne (tgt := 37) hx hb dX7_rounded_32 (by decide) (fun c6 => ?_) (fun c6 => ?_)
          · refine lv_aload_n hx hb dX7_rounded_37 rfl (lv_at hl 0 rfl) ?_
            refine va_get (D := G.1) (ci := 7) (v := .ref (b 32)) (C := RX7) (T := TX7) (N := 43) hx hb hts inX7 hown hK.1 hP 0 rfl rfl 32 (by decide) (hts _ mf_X7_92) (fun _ h9 => h9) rfl dX7_rounded_38 ?_
            refine lv_bipush (v := 12) hx hb dX7_rounded_41 (by decide) ?_
            refine lv_iload_n hx hb dX7_rounded_43 rfl (lv_at hl 1 rfl) ?_
            refine lv_imul hx hb dX7_rounded_44 ?_
            refine lv_topi (fun v7 ev7 => ?_)
            obtain rfl : v7 = nI (12 * i) := nI_times ev7 rfl rfl
            refine lv_iload_n hx hb dX7_rounded_45 rfl (lv_at hl 2 rfl) ?_
            refine lv_iadd hx hb dX7_rounded_46 ?_
            refine lv_topi (fun v8 ev8 => ?_)
            obtain rfl : v8 = nI ((12 * i) + k) := nI_plus ev8 rfl rfl
            refine xiald (f := (r 32)) hx hb hK hP 28 (((12 * i) + k)) (rfl) (by omega) (by decide) rfl dX7_rounded_47 ?_
            refine lv_topi (fun v9 ev9 => ?_)
            exact rd_iret hx hb hr hlocks hS (trivial) dX7_rounded_48
          · refine lv_iconst (v := -1) hx hb dX7_rounded_35 (by decide) ?_
            exact rd_iret hx hb hr hlocks hS (trivial) dX7_rounded_36
set_option maxHeartbeats 4000000 in
set_option maxRecDepth 100000 in
theorem m_X7_cut (l : Launch) (G : GG) (y : Nat) (b : Nat → Nat) (f : Nat → Int32) (r : Nat → Nat → Int32) (rs : Int32) (x : Int32) (h27 : nL 12 (f 27)) (h28 : nL 12 (f 28)) : RdI l yX7_cut cX7_cut 3 (some .int) ({ frames := 0, cells := 0, slots := 0, locals := 0 }) G (mM G y b f r) [.ref y, .int rs, .int x] (fun q => True) := by
  refine rd_entry (by decide +kernel) (Nat.le_of_ble_eq_true rfl) ?_
  intro p e s m below meth c C0 hP hK ls hl
  have hS : va_S (fun q => s.heap.size ≤ q) s.heap s.heap [] := va_S.rf
  have hA : ∀ q, s.heap.size ≤ q → (fun q => s.heap.size ≤ q) q := fun _ h => h
  obtain ⟨hx, hb, hml, hown, hts, hr, hlocks, hin⟩ := C0
  have hown : s.vm.findClass RX7 = some m.cls := hown
  have hl : lv_has ls 3 [(0, .ref y), (1, .int rs), (2, .int x)] := hl
  obtain ⟨n1, hn1, e1⟩ := h27
  obtain ⟨n2, hn2, e2⟩ := h28
  refine lv_iload_n hx hb dX7_cut_0 rfl (lv_at hl 2 rfl) ?_
  refine lv_if_lt (tgt := 23) hx hb dX7_cut_1 (by decide) (fun c1 => ?_) (fun c1 => ?_)
  · refine lv_iconst (v := -1) hx hb dX7_cut_23 (by decide) ?_
    exact rd_iret hx hb hr hlocks hS (trivial) dX7_cut_24
  · refine lv_iload_n hx hb dX7_cut_4 rfl (lv_at hl 2 rfl) ?_
    refine lv_iload_n hx hb dX7_cut_5 rfl (lv_at hl 1 rfl) ?_
    have j20_2 : ∀ (z2 : Nat) (gz2 : z2 ≤ 12) (H : Heap) (locs : List Loc) (ls : Array Slot), PP G (mM G y b f r) H → va_S (fun q => s.heap.size ≤ q) s.heap H locs → lv_has ls 3 [(0, .ref y), (1, .int rs), (2, .int x)] → W p l e ({ frames := 0, cells := 0, slots := 0, locals := 0 }) s m ([.ref y, .int rs, .int x] : List Value).toArray below meth c H locs 0 0 (MQ below (QrI (fun q => True) (fun q => s.heap.size ≤ q)) ([.ref y, .int rs, .int x] : List Value).toArray s 0 0 (fun q => s.heap.size ≤ q)) (F0 m 20 ls [.int (nI z2), .int x]) := by
      intro z2 gz2 H locs ls hP hS hl
      refine lv_icmp_lt (tgt := 25) hx hb dX7_cut_20 (by decide) (fun c3 => ?_) (fun c3 => ?_)
      · obtain ⟨i, hi, rfl⟩ := lt_ix (x := x) (n := z2) (by omega) c1 (Int32.not_le.mpr c3)
        refine lv_aload_n hx hb dX7_cut_25 rfl (lv_at hl 0 rfl) ?_
        refine va_get (D := G.1) (ci := 7) (v := .ref (b 26)) (C := RX7) (T := TX7) (N := 43) hx hb hts inX7 hown hK.1 hP 0 rfl rfl 26 (by decide) (hts _ mf_X7_80) (fun _ h9 => h9) rfl dX7_cut_26 ?_
        refine lv_iload_n hx hb dX7_cut_29 rfl (lv_at hl 1 rfl) ?_
        have j41_4 : ∀ (z4 : Nat) (gz4 : z4 < 24) (H : Heap) (locs : List Loc) (ls : Array Slot), PP G (mM G y b f r) H → va_S (fun q => s.heap.size ≤ q) s.heap H locs → lv_has ls 3 [] → W p l e ({ frames := 0, cells := 0, slots := 0, locals := 0 }) s m ([.ref y, .int rs, .int (nI i)] : List Value).toArray below meth c H locs 0 0 (MQ below (QrI (fun q => True) (fun q => s.heap.size ≤ q)) ([.ref y, .int rs, .int (nI i)] : List Value).toArray s 0 0 (fun q => s.heap.size ≤ q)) (F0 m 41 ls [.int (nI z4), .ref (b 26)]) := by
          intro z4 gz4 H locs ls hP hS hl
          refine xzald (f := (r 26)) hx hb hK hP 24 (z4) (rfl) (by omega) (by decide) rfl dX7_cut_41 ?_
          refine lv_topi (fun v5 ev5 => ?_)
          refine lv_if_eq (tgt := 49) hx hb dX7_cut_42 (by decide) (fun c6 => ?_) (fun c6 => ?_)
          · refine lv_iconst (v := 0) hx hb dX7_cut_49 (by decide) ?_
            exact rd_iret hx hb hr hlocks hS (trivial) dX7_cut_50
          · refine lv_iconst (v := 1) hx hb dX7_cut_45 (by decide) ?_
            refine lv_goto (tgt := 50) hx hb dX7_cut_46 (by decide) ?_
            exact rd_iret hx hb hr hlocks hS (trivial) dX7_cut_50
        refine lv_if_eq (tgt := 37) hx hb dX7_cut_30 (by decide) (fun c7 => ?_) (fun c7 => ?_)
        · refine lv_bipush (v := 12) hx hb dX7_cut_37 (by decide) ?_
          refine lv_iload_n hx hb dX7_cut_39 rfl (lv_at hl 2 rfl) ?_
          refine lv_iadd hx hb dX7_cut_40 ?_
          refine lv_topi (fun v8 ev8 => ?_)
          obtain rfl : v8 = nI (12 + i) := nI_plus ev8 rfl rfl
          exact j41_4 (12 + i) (by omega) _ _ _ hP hS (lv_sub hl [] rfl)
        · refine lv_iload_n hx hb dX7_cut_33 rfl (lv_at hl 2 rfl) ?_
          refine lv_goto (tgt := 41) hx hb dX7_cut_34 (by decide) ?_
          exact j41_4 i (by omega) _ _ _ hP hS (lv_sub hl [] rfl)
      · refine lv_iconst (v := -1) hx hb dX7_cut_23 (by decide) ?_
        exact rd_iret hx hb hr hlocks hS (trivial) dX7_cut_24
    refine lv_if_eq (tgt := 16) hx hb dX7_cut_6 (by decide) (fun c9 => ?_) (fun c9 => ?_)
    · refine lv_aload_n hx hb dX7_cut_16 rfl (lv_at hl 0 rfl) ?_
      refine va_get (D := G.1) (ci := 7) (v := .int (f 28)) (C := RX7) (T := TX7) (N := 43) hx hb hts inX7 hown hK.1 hP 0 rfl rfl 28 (by decide) (hts _ mf_X7_236) (fun _ h9 => h9) rfl dX7_cut_17 ?_
      rw [show (f 28) = nI (n2) from e2]
      exact j20_2 (n2) (by omega) _ _ _ hP hS (lv_sub hl [0, 1, 2] rfl)
    · refine lv_aload_n hx hb dX7_cut_9 rfl (lv_at hl 0 rfl) ?_
      refine va_get (D := G.1) (ci := 7) (v := .int (f 27)) (C := RX7) (T := TX7) (N := 43) hx hb hts inX7 hown hK.1 hP 0 rfl rfl 27 (by decide) (hts _ mf_X7_233) (fun _ h9 => h9) rfl dX7_cut_10 ?_
      rw [show (f 27) = nI (n1) from e1]
      refine lv_goto (tgt := 20) hx hb dX7_cut_13 (by decide) ?_
      exact j20_2 (n1) (by omega) _ _ _ hP hS (lv_sub hl [0, 1, 2] rfl)
set_option maxHeartbeats 4000000 in
set_option maxRecDepth 100000 in
theorem m_X7_tells (l : Launch) (G : GG) (y : Nat) (b : Nat → Nat) (f : Nat → Int32) (r : Nat → Nat → Int32) (t : Nat) (pa : Nat) (ht : t < 6) (hp : pa < 864) (hG : nOK 864 6 (r 7)) (hk4 : ¬ (r 5) pa = 4) : WrI l yX7_tells cX7_tells 4 (some .int) ({ frames := 3, cells := 0, slots := 0, locals := 72 }) G (mM G y b f r) [.ref y, .int (nI t), .int (nI pa)] (fun q w => ∃ (n_r_10 : Nat → Int32), w = mM G y b f (up2 r 10 n_r_10) ∧ dnK (r 10) n_r_10 q) := by
  refine wr_entryI (by decide +kernel) (Nat.le_of_ble_eq_true rfl) ?_
  intro p e s m below meth c A C0 hP hK hD hA ls hl
  have hS : va_S A s.heap s.heap [] := va_S.rf
  obtain ⟨hx, hb, hml, hown, hts, hr, hlocks, hin⟩ := C0
  have hown : s.vm.findClass RX7 = some m.cls := hown
  have hDD : ∀ f' r', va_D A (mM G y b f' r') := fun f' r' => D_same hD rfl
  have hl : lv_has ls 4 [(0, .ref y), (1, .int (nI t)), (2, .int (nI pa))] := hl
  refine lv_aload_n hx hb dX7_tells_0 rfl (lv_at hl 0 rfl) ?_
  refine lv_iload_n hx hb dX7_tells_1 rfl (lv_at hl 1 rfl) ?_
  refine lv_iload_n hx hb dX7_tells_2 rfl (lv_at hl 2 rfl) ?_
  refine rdV (rest := []) (q0 := 0) ⟨hx, hb, hml, hown, hts⟩ (m_X7_isKept l G y b f r t pa  (by omega) (by omega) hG) mi_yX7_isKept mv_yX7_isKept ml_X7_181 ⟨rfl, rfl, Nat.le_of_ble_eq_true rfl, Nat.le_of_ble_eq_true rfl⟩ hK (hP) rfl rfl rfl hl.1 rfl (Nat.le_of_ble_eq_true rfl) dX7_tells_3 ⟨Nat.zero_le _, Nat.zero_le _⟩ hS hA hP (fun r1 H locs hr1 hP hS => ?_)
  have hr1 : ((r1 = 0 ∨ r1 = 1) ∧ (r1 = 0 → (r 5) pa = 4 ∨ (r 10) pa = 0)) := hr1
  refine lv_if_eq (tgt := 13) hx hb dX7_tells_6 (by decide) (fun c2 => ?_) (fun c2 => ?_)
  · refine lv_iconst (v := 1) hx hb dX7_tells_13 (by decide) ?_
    refine lv_istore_n (lv' := [(3, .int 1), (0, .ref y), (1, .int (nI t)), (2, .int (nI pa))]) hx hb dX7_tells_14 rfl hl (by decide) rfl (fun ls hl => ?_)
    refine lv_aload_n hx hb dX7_tells_15 rfl (lv_at hl 1 rfl) ?_
    refine va_get (D := G.1) (ci := 7) (v := .ref (b 10)) (C := RX7) (T := TX7) (N := 43) hx hb hts inX7 hown hK.1 hP 0 rfl rfl 10 (by decide) (hts _ mf_X7_38) (fun _ h9 => h9) rfl dX7_tells_16 ?_
    refine lv_iload_n hx hb dX7_tells_19 rfl (lv_at hl 3 rfl) ?_
    refine lv_iconst (v := 1) hx hb dX7_tells_20 (by decide) ?_
    refine xzast (f := (r 10)) (x := 1) hx hb hK hP (hDD _ _) hS 10 (pa) (rfl) (by omega) (by decide) (Or.inr rfl) rfl dX7_tells_21 (fun H locs hP _ hS => ?_)
    have hP : PP G (mM G y b f (up2 r 10 (upd (r 10) (pa) (1)))) H := hP
    refine lv_iload_n hx hb dX7_tells_22 rfl (lv_at hl 0 rfl) ?_
    exact wr_iret hx hb hr hlocks hS hP ⟨(upd (r 10) (pa) (1)), rfl, ⟨cZ_set _ _ _, Or.inr (cZ_lt ((hr1.2 c2).resolve_left hk4) 864 (by omega))⟩⟩ dX7_tells_23
  · refine lv_iconst (v := 0) hx hb dX7_tells_9 (by decide) ?_
    refine lv_goto (tgt := 14) hx hb dX7_tells_10 (by decide) ?_
    refine lv_istore_n (lv' := [(3, .int 0), (0, .ref y), (1, .int (nI t)), (2, .int (nI pa))]) hx hb dX7_tells_14 rfl hl (by decide) rfl (fun ls hl => ?_)
    refine lv_aload_n hx hb dX7_tells_15 rfl (lv_at hl 1 rfl) ?_
    refine va_get (D := G.1) (ci := 7) (v := .ref (b 10)) (C := RX7) (T := TX7) (N := 43) hx hb hts inX7 hown hK.1 hP 0 rfl rfl 10 (by decide) (hts _ mf_X7_38) (fun _ h9 => h9) rfl dX7_tells_16 ?_
    refine lv_iload_n hx hb dX7_tells_19 rfl (lv_at hl 3 rfl) ?_
    refine lv_iconst (v := 1) hx hb dX7_tells_20 (by decide) ?_
    refine xzast (f := (r 10)) (x := 1) hx hb hK hP (hDD _ _) hS 10 (pa) (rfl) (by omega) (by decide) (Or.inr rfl) rfl dX7_tells_21 (fun H locs hP _ hS => ?_)
    have hP : PP G (mM G y b f (up2 r 10 (upd (r 10) (pa) (1)))) H := hP
    refine lv_iload_n hx hb dX7_tells_22 rfl (lv_at hl 0 rfl) ?_
    exact wr_iret hx hb hr hlocks hS hP ⟨(upd (r 10) (pa) (1)), rfl, ⟨cZ_set _ _ _, Or.inl rfl⟩⟩ dX7_tells_23
set_option maxHeartbeats 4000000 in
set_option maxRecDepth 100000 in
theorem m_X7_guard (l : Launch) (G : GG) (y : Nat) (b : Nat → Nat) (f : Nat → Int32) (r : Nat → Nat → Int32) (t : Nat) (i : Nat) (j : Nat) (rw : Nat) (cl : Nat) (bk : Nat) (ht : t < 6) (hrw : rw ≤ 12) (hcl : cl ≤ 12) (hbk : bk ≤ 12) (h2 : (r 2) t = nI rw) (h3 : (r 3) t = nI cl) (h12 : (r 12) t = nI bk) (hi : i < 12) (hj : j < 12) (hG : nOK 864 6 (r 7)) : WrI l yX7_guard cX7_guard 13 (some .int) ({ frames := 4, cells := 0, slots := 0, locals := 95 }) G (mM G y b f r) [.ref y, .int (nI t), .int (nI i), .int (nI j)] (fun q w => ∃ (n_r_10 : Nat → Int32), w = mM G y b f (up2 r 10 n_r_10) ∧ dnK (r 10) n_r_10 q) := by
  refine wr_entryI (by decide +kernel) (Nat.le_of_ble_eq_true rfl) ?_
  intro p e s m below meth c A C0 hP hK hD hA ls hl
  have hS : va_S A s.heap s.heap [] := va_S.rf
  obtain ⟨hx, hb, hml, hown, hts, hr, hlocks, hin⟩ := C0
  have hown : s.vm.findClass RX7 = some m.cls := hown
  have hDD : ∀ f' r', va_D A (mM G y b f' r') := fun f' r' => D_same hD rfl
  have hl : lv_has ls 13 [(0, .ref y), (1, .int (nI t)), (2, .int (nI i)), (3, .int (nI j))] := hl
  refine lv_iconst (v := -1) hx hb dX7_guard_0 (by decide) ?_
  refine lv_istore (lv' := [(4, .int (-1)), (0, .ref y), (1, .int (nI t)), (2, .int (nI i)), (3, .int (nI j))]) hx hb dX7_guard_1 hl (by decide) rfl (fun ls hl => ?_)
  refine lv_iconst (v := 0) hx hb dX7_guard_3 (by decide) ?_
  refine lv_istore (lv' := [(5, .int 0), (4, .int (-1)), (0, .ref y), (1, .int (nI t)), (2, .int (nI i)), (3, .int (nI j))]) hx hb dX7_guard_4 hl (by decide) rfl (fun ls hl => ?_)
  refine lv_iconst (v := 0) hx hb dX7_guard_6 (by decide) ?_
  refine lv_istore (lv' := [(6, .int 0), (5, .int 0), (4, .int (-1)), (0, .ref y), (1, .int (nI t)), (2, .int (nI i)), (3, .int (nI j))]) hx hb dX7_guard_7 hl (by decide) rfl (fun ls hl => ?_)
  refine lv_iconst (v := 0) hx hb dX7_guard_9 (by decide) ?_
  refine lv_istore (lv' := [(7, .int 0), (6, .int 0), (5, .int 0), (4, .int (-1)), (0, .ref y), (1, .int (nI t)), (2, .int (nI i)), (3, .int (nI j))]) hx hb dX7_guard_10 hl (by decide) rfl (fun ls hl => ?_)
  have loop12 : ∀ (k1 q1 : Nat) (bd : Nat) (bq : Nat) (z4 : Int32), q1 ≤ rw → rw < q1 + k1 → (bd < 12) → (bq < 12) → ((z4 : Int32) < 0 ∨ (¬ (r 5) (144 * t + 12 * i + bd) = 4 ∧ ¬ (r 5) (144 * t + 12 * bq + j) = 4 ∧ ¬ (r 5) (144 * t + 12 * bq + bd) = 4)) → ∀ (H : Heap) (locs : List Loc) (ls : Array Slot), PP G (mM G y b f r) H → va_S A s.heap H locs → lv_has ls 13 [(7, .int (nI q1)), (6, .int (nI bd)), (5, .int (nI bq)), (4, .int z4), (0, .ref y), (1, .int (nI t)), (2, .int (nI i)), (3, .int (nI j))] → W p l e ({ frames := 4, cells := 0, slots := 0, locals := 95 }) s m ([.ref y, .int (nI t), .int (nI i), .int (nI j)] : List Value).toArray below meth c H locs 0 0 (MQ below (QwI G (fun q w => ∃ (n_r_10 : Nat → Int32), w = mM G y b f (up2 r 10 n_r_10) ∧ dnK (r 10) n_r_10 q) A) ([.ref y, .int (nI t), .int (nI i), .int (nI j)] : List Value).toArray s 0 0 A) (F0 m 12 ls []) := by
    intro k1
    induction k1 with
    | zero => intro q1 bd bq z4 h1 h2; exact absurd h1 (by omega)
    | succ k1 ih12k1 =>
      intro q1 bd bq z4 hi_q1 hk_q1 gbd gbq hbst H locs ls hP hS hl
      refine lv_iload hx hb dX7_guard_12 (lv_at hl 0 rfl) ?_
      refine lv_aload_n hx hb dX7_guard_14 rfl (lv_at hl 4 rfl) ?_
      refine va_get (D := G.1) (ci := 7) (v := .ref (b 2)) (C := RX7) (T := TX7) (N := 43) hx hb hts inX7 hown hK.1 hP 0 rfl rfl 2 (by decide) (hts _ mf_X7_13) (fun _ h9 => h9) rfl dX7_guard_15 ?_
      refine lv_iload_n hx hb dX7_guard_18 rfl (lv_at hl 5 rfl) ?_
      refine xiald (f := (r 2)) hx hb hK hP 2 (t) (rfl) (by omega) (by decide) rfl dX7_guard_19 ?_
      refine lv_topi (fun v5 ev5 => ?_)
      obtain rfl : v5 = nI (rw) := ev5.trans (h2)
      refine lv_icmp_ge (tgt := 281) hx hb dX7_guard_20 (by decide) (fun c6 => ?_) (fun c6 => ?_)
      · have b20 := qge_t (a := q1) (b := (rw)) (by omega) (by omega) c6
        refine lv_iload hx hb dX7_guard_281 (lv_at hl 3 rfl) ?_
        refine lv_if_ge (tgt := 290) hx hb dX7_guard_283 (by decide) (fun c7 => ?_) (fun c7 => ?_)
        · obtain ⟨k1, k2, k3⟩ := hbst.resolve_left (Int32.not_lt.mpr c7)
          refine lv_aload_n hx hb dX7_guard_290 rfl (lv_at hl 4 rfl) ?_
          refine lv_iload_n hx hb dX7_guard_291 rfl (lv_at hl 5 rfl) ?_
          refine lv_iload_n hx hb dX7_guard_292 rfl (lv_at hl 5 rfl) ?_
          refine lv_iload_n hx hb dX7_guard_293 rfl (lv_at hl 6 rfl) ?_
          refine lv_iload hx hb dX7_guard_294 (lv_at hl 1 rfl) ?_
          refine rdS (rest := [.int (nI t), .ref y]) ⟨hx, hb, hml, hown, hts⟩ (m_X7_at l G y b f r t i bd  ) mi_yX7_at mst_yX7_at ml_X7_147 ⟨rfl, rfl, Nat.le_of_ble_eq_true rfl, Nat.le_of_ble_eq_true rfl⟩ hK (hP) rfl hl.1 rfl (Nat.le_of_ble_eq_true rfl) dX7_guard_296 ⟨Nat.zero_le _, Nat.zero_le _⟩ hS hA hP (fun r8 H locs hr8 hP hS => ?_)
          obtain rfl := hr8
          refine wrVIa (rest := []) (q0 := 0) ⟨hx, hb, hml, hown, hts⟩ (m_X7_tells l G y b f r t (144 * t + 12 * i + bd)  (by omega) (by omega) hG k1) mi_yX7_tells mv_yX7_tells ml_X7_245 ⟨rfl, rfl, Nat.le_of_ble_eq_true rfl, Nat.le_of_ble_eq_true rfl⟩ hK hP (hDD _ _) rfl rfl rfl hl.1 rfl (Nat.le_of_ble_eq_true rfl) dX7_guard_299 ⟨Nat.zero_le _, Nat.zero_le _⟩ hS hA (fun r9 w10 H locs hw10 hP hS => ?_)
          obtain ⟨x11, rfl, hw10r⟩ := hw10
          have hP : PP G (mM G y b f (up2 r 10 x11)) H := hP
          have hw10r : dnK (r 10) x11 r9 := hw10r
          refine lv_aload_n hx hb dX7_guard_302 rfl (lv_at hl 4 rfl) ?_
          refine lv_iload_n hx hb dX7_guard_303 rfl (lv_at hl 5 rfl) ?_
          refine lv_iload_n hx hb dX7_guard_304 rfl (lv_at hl 5 rfl) ?_
          refine lv_iload hx hb dX7_guard_305 (lv_at hl 2 rfl) ?_
          refine lv_iload_n hx hb dX7_guard_307 rfl (lv_at hl 7 rfl) ?_
          refine rdS (rest := [.int (nI t), .ref y, .int r9]) ⟨hx, hb, hml, hown, hts⟩ (m_X7_at l G y b f (up2 r 10 x11) t bq j  ) mi_yX7_at mst_yX7_at ml_X7_147 ⟨rfl, rfl, Nat.le_of_ble_eq_true rfl, Nat.le_of_ble_eq_true rfl⟩ hK (hP) rfl hl.1 rfl (Nat.le_of_ble_eq_true rfl) dX7_guard_308 ⟨Nat.zero_le _, Nat.zero_le _⟩ hS hA hP (fun r12 H locs hr12 hP hS => ?_)
          obtain rfl := hr12
          refine wrVIa (rest := [.int r9]) (q0 := 0) ⟨hx, hb, hml, hown, hts⟩ (m_X7_tells l G y b f (up2 r 10 x11) t (144 * t + 12 * bq + j)  (by omega) (by omega) hG k2) mi_yX7_tells mv_yX7_tells ml_X7_245 ⟨rfl, rfl, Nat.le_of_ble_eq_true rfl, Nat.le_of_ble_eq_true rfl⟩ hK hP (hDD _ _) rfl rfl rfl hl.1 rfl (Nat.le_of_ble_eq_true rfl) dX7_guard_311 ⟨Nat.zero_le _, Nat.zero_le _⟩ hS hA (fun r13 w14 H locs hw14 hP hS => ?_)
          obtain ⟨x15, rfl, hw14r⟩ := hw14
          have hP : PP G (mM G y b f (up2 r 10 x15)) H := hP
          have hw14r : dnK x11 x15 r13 := hw14r
          refine lv_iadd hx hb dX7_guard_314 ?_
          refine lv_topi (fun v16 ev16 => ?_)
          refine lv_aload_n hx hb dX7_guard_315 rfl (lv_at hl 4 rfl) ?_
          refine lv_iload_n hx hb dX7_guard_316 rfl (lv_at hl 5 rfl) ?_
          refine lv_iload_n hx hb dX7_guard_317 rfl (lv_at hl 5 rfl) ?_
          refine lv_iload hx hb dX7_guard_318 (lv_at hl 2 rfl) ?_
          refine lv_iload hx hb dX7_guard_320 (lv_at hl 1 rfl) ?_
          refine rdS (rest := [.int (nI t), .ref y, .int v16]) ⟨hx, hb, hml, hown, hts⟩ (m_X7_at l G y b f (up2 r 10 x15) t bq bd  ) mi_yX7_at mst_yX7_at ml_X7_147 ⟨rfl, rfl, Nat.le_of_ble_eq_true rfl, Nat.le_of_ble_eq_true rfl⟩ hK (hP) rfl hl.1 rfl (Nat.le_of_ble_eq_true rfl) dX7_guard_322 ⟨Nat.zero_le _, Nat.zero_le _⟩ hS hA hP (fun r17 H locs hr17 hP hS => ?_)
          obtain rfl := hr17
          refine wrVIa (rest := [.int v16]) (q0 := 0) ⟨hx, hb, hml, hown, hts⟩ (m_X7_tells l G y b f (up2 r 10 x15) t (144 * t + 12 * bq + bd)  (by omega) (by omega) hG k3) mi_yX7_tells mv_yX7_tells ml_X7_245 ⟨rfl, rfl, Nat.le_of_ble_eq_true rfl, Nat.le_of_ble_eq_true rfl⟩ hK hP (hDD _ _) rfl rfl rfl hl.1 rfl (Nat.le_of_ble_eq_true rfl) dX7_guard_325 ⟨Nat.zero_le _, Nat.zero_le _⟩ hS hA (fun r18 w19 H locs hw19 hP hS => ?_)
          obtain ⟨x20, rfl, hw19r⟩ := hw19
          have hP : PP G (mM G y b f (up2 r 10 x20)) H := hP
          have hw19r : dnK x15 x20 r18 := hw19r
          refine lv_iadd hx hb dX7_guard_328 ?_
          refine lv_topi (fun v21 ev21 => ?_)
          exact wr_iret hx hb hr hlocks hS hP ⟨x20, rfl, dnK_3 hw10r hw14r hw19r ev21 ev16⟩ dX7_guard_329
        · refine lv_iconst (v := 0) hx hb dX7_guard_286 (by decide) ?_
          refine lv_goto (tgt := 329) hx hb dX7_guard_287 (by decide) ?_
          exact wr_iret hx hb hr hlocks hS hP ⟨(r 10), rfl, ⟨Nat.le_refl _, Or.inl rfl⟩⟩ dX7_guard_329
      · have b20 := qge_f (a := q1) (b := (rw)) (by omega) (by omega) c6
        refine lv_iload hx hb dX7_guard_23 (lv_at hl 0 rfl) ?_
        refine lv_iload_n hx hb dX7_guard_25 rfl (lv_at hl 6 rfl) ?_
        refine lv_icmp_eq (tgt := 275) hx hb dX7_guard_26 (by decide) (fun c22 => ?_) (fun c22 => ?_)
        · have b26 := qeq_t (a := q1) (b := i) (by omega) (by omega) c22
          obtain ⟨v23, ev23⟩ : ∃ y9 : Int32, y9 = (nI q1) + Int32.ofInt (1) := ⟨_, rfl⟩
          refine lv_iinc (v := v23) (lv' := [(7, .int v23), (6, .int (nI bd)), (5, .int (nI bq)), (4, .int z4), (0, .ref y), (1, .int (nI t)), (2, .int (nI i)), (3, .int (nI j))]) hx hb dX7_guard_275 hl (k := 0) rfl ev23.symm (by decide) rfl (fun ls hl => ?_)
          obtain rfl : v23 = nI (q1 + 1) := nI_plus (i := q1) (j := 1) ev23 rfl (by decide)
          refine lv_goto (tgt := 12) hx hb dX7_guard_278 (by decide) ?_
          exact ih12k1 (q1 + 1) bd bq z4 (by omega) (by omega) (by omega) (by omega) (hbst) _ _ _ hP hS (lv_sub hl [0, 1, 2, 3, 4, 5, 6, 7] rfl)
        · have b26 := qeq_f (a := q1) (b := i) (by omega) (by omega) c22
          refine lv_aload_n hx hb dX7_guard_29 rfl (lv_at hl 4 rfl) ?_
          refine lv_iload_n hx hb dX7_guard_30 rfl (lv_at hl 5 rfl) ?_
          refine lv_iload hx hb dX7_guard_31 (lv_at hl 0 rfl) ?_
          refine rdV (rest := []) (q0 := 0) ⟨hx, hb, hml, hown, hts⟩ (m_X7_isSound l G y b f r t q1 rw cl bk (by omega) (by omega) (by omega) (by omega) h2 h3 h12 (by omega)) mi_yX7_isSound mv_yX7_isSound ml_X7_161 ⟨rfl, rfl, Nat.le_of_ble_eq_true rfl, Nat.le_of_ble_eq_true rfl⟩ hK (hP) rfl rfl rfl hl.1 rfl (Nat.le_of_ble_eq_true rfl) dX7_guard_33 ⟨Nat.zero_le _, Nat.zero_le _⟩ hS hA hP (fun r24 H locs hr24 hP hS => ?_)
          have hr24 : ((r24 = 1 ∧ (sndN ((r 3) t) (r 11) (r 5) t q1)) ∨ (r24 = 0 ∧ ¬ (sndN ((r 3) t) (r 11) (r 5) t q1))) := hr24
          refine lv_if_eq (tgt := 275) hx hb dX7_guard_36 (by decide) (fun c25 => ?_) (fun c25 => ?_)
          · have b36 := bF hr24 c25
            obtain ⟨v26, ev26⟩ : ∃ y9 : Int32, y9 = (nI q1) + Int32.ofInt (1) := ⟨_, rfl⟩
            refine lv_iinc (v := v26) (lv' := [(7, .int v26), (6, .int (nI bd)), (5, .int (nI bq)), (4, .int z4), (0, .ref y), (1, .int (nI t)), (2, .int (nI i)), (3, .int (nI j))]) hx hb dX7_guard_275 hl (k := 0) rfl ev26.symm (by decide) rfl (fun ls hl => ?_)
            obtain rfl : v26 = nI (q1 + 1) := nI_plus (i := q1) (j := 1) ev26 rfl (by decide)
            refine lv_goto (tgt := 12) hx hb dX7_guard_278 (by decide) ?_
            exact ih12k1 (q1 + 1) bd bq z4 (by omega) (by omega) (by omega) (by omega) (hbst) _ _ _ hP hS (lv_sub hl [0, 1, 2, 3, 4, 5, 6, 7] rfl)
          · have b36 := bT hr24 c25
            refine lv_aload_n hx hb dX7_guard_39 rfl (lv_at hl 4 rfl) ?_
            refine lv_iload_n hx hb dX7_guard_40 rfl (lv_at hl 5 rfl) ?_
            refine lv_iload hx hb dX7_guard_41 (lv_at hl 0 rfl) ?_
            refine rdV (rest := []) (q0 := 0) ⟨hx, hb, hml, hown, hts⟩ (m_X7_classOf l G y b f r t (nI q1) rw cl bk (by omega) (by omega) (by omega) (by omega) h2 h3 h12) mi_yX7_classOf mv_yX7_classOf ml_X7_168 ⟨rfl, rfl, Nat.le_of_ble_eq_true rfl, Nat.le_of_ble_eq_true rfl⟩ hK (hP) rfl rfl rfl hl.1 rfl (Nat.le_of_ble_eq_true rfl) dX7_guard_43 ⟨Nat.zero_le _, Nat.zero_le _⟩ hS hA hP (fun r27 H locs hr27 hP hS => ?_)
            obtain rfl := hr27
            refine lv_aload_n hx hb dX7_guard_46 rfl (lv_at hl 4 rfl) ?_
            refine lv_iload_n hx hb dX7_guard_47 rfl (lv_at hl 5 rfl) ?_
            refine lv_iload_n hx hb dX7_guard_48 rfl (lv_at hl 6 rfl) ?_
            refine rdV (rest := [.int ((clM (r 13) (r 14) t (nI q1) ((r 12) t).toNatClampNeg).1)]) (q0 := 0) ⟨hx, hb, hml, hown, hts⟩ (m_X7_classOf l G y b f r t (nI i) rw cl bk (by omega) (by omega) (by omega) (by omega) h2 h3 h12) mi_yX7_classOf mv_yX7_classOf ml_X7_168 ⟨rfl, rfl, Nat.le_of_ble_eq_true rfl, Nat.le_of_ble_eq_true rfl⟩ hK (hP) rfl rfl rfl hl.1 rfl (Nat.le_of_ble_eq_true rfl) dX7_guard_49 ⟨Nat.zero_le _, Nat.zero_le _⟩ hS hA hP (fun r28 H locs hr28 hP hS => ?_)
            obtain rfl := hr28
            refine lv_icmp_eq (tgt := 58) hx hb dX7_guard_52 (by decide) (fun c29 => ?_) (fun c29 => ?_)
            · refine lv_iconst (v := 0) hx hb dX7_guard_58 (by decide) ?_
              refine lv_istore (lv' := [(8, .int 0), (7, .int (nI q1)), (6, .int (nI bd)), (5, .int (nI bq)), (4, .int z4), (0, .ref y), (1, .int (nI t)), (2, .int (nI i)), (3, .int (nI j))]) hx hb dX7_guard_59 hl (by decide) rfl (fun ls hl => ?_)
              have loop61 : ∀ (k30 d1 : Nat) (bd : Nat) (bq : Nat) (z33 : Int32), d1 ≤ cl → cl < d1 + k30 → (bd < 12) → (bq < 12) → ((z33 : Int32) < 0 ∨ (¬ (r 5) (144 * t + 12 * i + bd) = 4 ∧ ¬ (r 5) (144 * t + 12 * bq + j) = 4 ∧ ¬ (r 5) (144 * t + 12 * bq + bd) = 4)) → ∀ (H : Heap) (locs : List Loc) (ls : Array Slot), PP G (mM G y b f r) H → va_S A s.heap H locs → lv_has ls 13 [(8, .int (nI d1)), (7, .int (nI q1)), (6, .int (nI bd)), (5, .int (nI bq)), (4, .int z33), (0, .ref y), (1, .int (nI t)), (2, .int (nI i)), (3, .int (nI j))] → W p l e ({ frames := 4, cells := 0, slots := 0, locals := 95 }) s m ([.ref y, .int (nI t), .int (nI i), .int (nI j)] : List Value).toArray below meth c H locs 0 0 (MQ below (QwI G (fun q w => ∃ (n_r_10 : Nat → Int32), w = mM G y b f (up2 r 10 n_r_10) ∧ dnK (r 10) n_r_10 q) A) ([.ref y, .int (nI t), .int (nI i), .int (nI j)] : List Value).toArray s 0 0 A) (F0 m 61 ls []) := by
                intro k30
                induction k30 with
                | zero => intro d1 bd bq z33 h1 h2; exact absurd h1 (by omega)
                | succ k30 ih61k30 =>
                  intro d1 bd bq z33 hi_d1 hk_d1 gbd gbq hbst H locs ls hP hS hl
                  refine lv_iload hx hb dX7_guard_61 (lv_at hl 0 rfl) ?_
                  refine lv_aload_n hx hb dX7_guard_63 rfl (lv_at hl 5 rfl) ?_
                  refine va_get (D := G.1) (ci := 7) (v := .ref (b 3)) (C := RX7) (T := TX7) (N := 43) hx hb hts inX7 hown hK.1 hP 0 rfl rfl 3 (by decide) (hts _ mf_X7_17) (fun _ h9 => h9) rfl dX7_guard_64 ?_
                  refine lv_iload_n hx hb dX7_guard_67 rfl (lv_at hl 6 rfl) ?_
                  refine xiald (f := (r 3)) hx hb hK hP 3 (t) (rfl) (by omega) (by decide) rfl dX7_guard_68 ?_
                  refine lv_topi (fun v34 ev34 => ?_)
                  obtain rfl : v34 = nI (cl) := ev34.trans (h3)
                  refine lv_icmp_ge (tgt := 275) hx hb dX7_guard_69 (by decide) (fun c35 => ?_) (fun c35 => ?_)
                  · have b69 := qge_t (a := d1) (b := (cl)) (by omega) (by omega) c35
                    obtain ⟨v36, ev36⟩ : ∃ y9 : Int32, y9 = (nI q1) + Int32.ofInt (1) := ⟨_, rfl⟩
                    refine lv_iinc (v := v36) (lv' := [(7, .int v36), (8, .int (nI d1)), (6, .int (nI bd)), (5, .int (nI bq)), (4, .int z33), (0, .ref y), (1, .int (nI t)), (2, .int (nI i)), (3, .int (nI j))]) hx hb dX7_guard_275 hl (k := 1) rfl ev36.symm (by decide) rfl (fun ls hl => ?_)
                    obtain rfl : v36 = nI (q1 + 1) := nI_plus (i := q1) (j := 1) ev36 rfl (by decide)
                    refine lv_goto (tgt := 12) hx hb dX7_guard_278 (by decide) ?_
                    exact ih12k1 (q1 + 1) bd bq z33 (by omega) (by omega) (by omega) (by omega) (hbst) _ _ _ hP hS (lv_sub hl [0, 2, 3, 4, 5, 6, 7, 8] rfl)
                  · have b69 := qge_f (a := d1) (b := (cl)) (by omega) (by omega) c35
                    refine lv_iload hx hb dX7_guard_72 (lv_at hl 0 rfl) ?_
                    refine lv_iload_n hx hb dX7_guard_74 rfl (lv_at hl 8 rfl) ?_
                    refine lv_icmp_ne (tgt := 81) hx hb dX7_guard_75 (by decide) (fun c37 => ?_) (fun c37 => ?_)
                    · have b75 := qeq_f (a := d1) (b := j) (by omega) (by omega) c37
                      refine lv_iload_n hx hb dX7_guard_81 rfl (lv_at hl 6 rfl) ?_
                      refine lv_iload_n hx hb dX7_guard_82 rfl (lv_at hl 7 rfl) ?_
                      refine lv_iload hx hb dX7_guard_83 (lv_at hl 0 rfl) ?_
                      refine rdS (rest := []) ⟨hx, hb, hml, hown, hts⟩ (m_X7_at l G y b f r t i d1  ) mi_yX7_at mst_yX7_at ml_X7_147 ⟨rfl, rfl, Nat.le_of_ble_eq_true rfl, Nat.le_of_ble_eq_true rfl⟩ hK (hP) rfl hl.1 rfl (Nat.le_of_ble_eq_true rfl) dX7_guard_85 ⟨Nat.zero_le _, Nat.zero_le _⟩ hS hA hP (fun r38 H locs hr38 hP hS => ?_)
                      obtain rfl := hr38
                      refine lv_istore (lv' := [(9, .int (nI (144 * t + 12 * i + d1))), (8, .int (nI d1)), (7, .int (nI q1)), (6, .int (nI bd)), (5, .int (nI bq)), (4, .int z33), (0, .ref y), (1, .int (nI t)), (2, .int (nI i)), (3, .int (nI j))]) hx hb dX7_guard_88 hl (by decide) rfl (fun ls hl => ?_)
                      refine lv_iload_n hx hb dX7_guard_90 rfl (lv_at hl 7 rfl) ?_
                      refine lv_iload hx hb dX7_guard_91 (lv_at hl 2 rfl) ?_
                      refine lv_iload_n hx hb dX7_guard_93 rfl (lv_at hl 9 rfl) ?_
                      refine rdS (rest := []) ⟨hx, hb, hml, hown, hts⟩ (m_X7_at l G y b f r t q1 j  ) mi_yX7_at mst_yX7_at ml_X7_147 ⟨rfl, rfl, Nat.le_of_ble_eq_true rfl, Nat.le_of_ble_eq_true rfl⟩ hK (hP) rfl hl.1 rfl (Nat.le_of_ble_eq_true rfl) dX7_guard_94 ⟨Nat.zero_le _, Nat.zero_le _⟩ hS hA hP (fun r39 H locs hr39 hP hS => ?_)
                      obtain rfl := hr39
                      refine lv_istore (lv' := [(10, .int (nI (144 * t + 12 * q1 + j))), (9, .int (nI (144 * t + 12 * i + d1))), (8, .int (nI d1)), (7, .int (nI q1)), (6, .int (nI bd)), (5, .int (nI bq)), (4, .int z33), (0, .ref y), (1, .int (nI t)), (2, .int (nI i)), (3, .int (nI j))]) hx hb dX7_guard_97 hl (by decide) rfl (fun ls hl => ?_)
                      refine lv_iload_n hx hb dX7_guard_99 rfl (lv_at hl 8 rfl) ?_
                      refine lv_iload hx hb dX7_guard_100 (lv_at hl 3 rfl) ?_
                      refine lv_iload hx hb dX7_guard_102 (lv_at hl 2 rfl) ?_
                      refine rdS (rest := []) ⟨hx, hb, hml, hown, hts⟩ (m_X7_at l G y b f r t q1 d1  ) mi_yX7_at mst_yX7_at ml_X7_147 ⟨rfl, rfl, Nat.le_of_ble_eq_true rfl, Nat.le_of_ble_eq_true rfl⟩ hK (hP) rfl hl.1 rfl (Nat.le_of_ble_eq_true rfl) dX7_guard_104 ⟨Nat.zero_le _, Nat.zero_le _⟩ hS hA hP (fun r40 H locs hr40 hP hS => ?_)
                      obtain rfl := hr40
                      refine lv_istore (lv' := [(11, .int (nI (144 * t + 12 * q1 + d1))), (10, .int (nI (144 * t + 12 * q1 + j))), (9, .int (nI (144 * t + 12 * i + d1))), (8, .int (nI d1)), (7, .int (nI q1)), (6, .int (nI bd)), (5, .int (nI bq)), (4, .int z33), (0, .ref y), (1, .int (nI t)), (2, .int (nI i)), (3, .int (nI j))]) hx hb dX7_guard_107 hl (by decide) rfl (fun ls hl => ?_)
                      refine lv_aload_n hx hb dX7_guard_109 rfl (lv_at hl 8 rfl) ?_
                      refine va_get (D := G.1) (ci := 7) (v := .ref (b 5)) (C := RX7) (T := TX7) (N := 43) hx hb hts inX7 hown hK.1 hP 0 rfl rfl 5 (by decide) (hts _ mf_X7_23) (fun _ h9 => h9) rfl dX7_guard_110 ?_
                      refine lv_iload hx hb dX7_guard_113 (lv_at hl 2 rfl) ?_
                      refine xiald (f := (r 5)) hx hb hK hP 5 ((144 * t + 12 * i + d1)) (rfl) (by omega) (by decide) rfl dX7_guard_115 ?_
                      refine lv_topi (fun v41 ev41 => ?_)
                      refine lv_iconst (v := 4) hx hb dX7_guard_116 (by decide) ?_
                      refine lv_icmp_eq (tgt := 269) hx hb dX7_guard_117 (by decide) (fun c42 => ?_) (fun c42 => ?_)
                      · obtain ⟨v43, ev43⟩ : ∃ y9 : Int32, y9 = (nI d1) + Int32.ofInt (1) := ⟨_, rfl⟩
                        refine lv_iinc (v := v43) (lv' := [(8, .int v43), (11, .int (nI (144 * t + 12 * q1 + d1))), (10, .int (nI (144 * t + 12 * q1 + j))), (9, .int (nI (144 * t + 12 * i + d1))), (7, .int (nI q1)), (6, .int (nI bd)), (5, .int (nI bq)), (4, .int z33), (0, .ref y), (1, .int (nI t)), (2, .int (nI i)), (3, .int (nI j))]) hx hb dX7_guard_269 hl (k := 3) rfl ev43.symm (by decide) rfl (fun ls hl => ?_)
                        obtain rfl : v43 = nI (d1 + 1) := nI_plus (i := d1) (j := 1) ev43 rfl (by decide)
                        refine lv_goto (tgt := 61) hx hb dX7_guard_272 (by decide) ?_
                        exact ih61k30 (d1 + 1) bd bq z33 (by omega) (by omega) (by omega) (by omega) (hbst) _ _ _ hP hS (lv_sub hl [0, 4, 5, 6, 7, 8, 9, 10, 11] rfl)
                      · refine lv_aload_n hx hb dX7_guard_120 rfl (lv_at hl 8 rfl) ?_
                        refine va_get (D := G.1) (ci := 7) (v := .ref (b 5)) (C := RX7) (T := TX7) (N := 43) hx hb hts inX7 hown hK.1 hP 0 rfl rfl 5 (by decide) (hts _ mf_X7_23) (fun _ h9 => h9) rfl dX7_guard_121 ?_
                        refine lv_iload hx hb dX7_guard_124 (lv_at hl 1 rfl) ?_
                        refine xiald (f := (r 5)) hx hb hK hP 5 ((144 * t + 12 * q1 + j)) (rfl) (by omega) (by decide) rfl dX7_guard_126 ?_
                        refine lv_topi (fun v44 ev44 => ?_)
                        refine lv_iconst (v := 4) hx hb dX7_guard_127 (by decide) ?_
                        refine lv_icmp_eq (tgt := 269) hx hb dX7_guard_128 (by decide) (fun c45 => ?_) (fun c45 => ?_)
                        · obtain ⟨v46, ev46⟩ : ∃ y9 : Int32, y9 = (nI d1) + Int32.ofInt (1) := ⟨_, rfl⟩
                          refine lv_iinc (v := v46) (lv' := [(8, .int v46), (11, .int (nI (144 * t + 12 * q1 + d1))), (10, .int (nI (144 * t + 12 * q1 + j))), (9, .int (nI (144 * t + 12 * i + d1))), (7, .int (nI q1)), (6, .int (nI bd)), (5, .int (nI bq)), (4, .int z33), (0, .ref y), (1, .int (nI t)), (2, .int (nI i)), (3, .int (nI j))]) hx hb dX7_guard_269 hl (k := 3) rfl ev46.symm (by decide) rfl (fun ls hl => ?_)
                          obtain rfl : v46 = nI (d1 + 1) := nI_plus (i := d1) (j := 1) ev46 rfl (by decide)
                          refine lv_goto (tgt := 61) hx hb dX7_guard_272 (by decide) ?_
                          exact ih61k30 (d1 + 1) bd bq z33 (by omega) (by omega) (by omega) (by omega) (hbst) _ _ _ hP hS (lv_sub hl [0, 4, 5, 6, 7, 8, 9, 10, 11] rfl)
                        · refine lv_aload_n hx hb dX7_guard_131 rfl (lv_at hl 8 rfl) ?_
                          refine va_get (D := G.1) (ci := 7) (v := .ref (b 5)) (C := RX7) (T := TX7) (N := 43) hx hb hts inX7 hown hK.1 hP 0 rfl rfl 5 (by decide) (hts _ mf_X7_23) (fun _ h9 => h9) rfl dX7_guard_132 ?_
                          refine lv_iload hx hb dX7_guard_135 (lv_at hl 0 rfl) ?_
                          refine xiald (f := (r 5)) hx hb hK hP 5 ((144 * t + 12 * q1 + d1)) (rfl) (by omega) (by decide) rfl dX7_guard_137 ?_
                          refine lv_topi (fun v47 ev47 => ?_)
                          refine lv_iconst (v := 4) hx hb dX7_guard_138 (by decide) ?_
                          refine lv_icmp_eq (tgt := 269) hx hb dX7_guard_139 (by decide) (fun c48 => ?_) (fun c48 => ?_)
                          · obtain ⟨v49, ev49⟩ : ∃ y9 : Int32, y9 = (nI d1) + Int32.ofInt (1) := ⟨_, rfl⟩
                            refine lv_iinc (v := v49) (lv' := [(8, .int v49), (11, .int (nI (144 * t + 12 * q1 + d1))), (10, .int (nI (144 * t + 12 * q1 + j))), (9, .int (nI (144 * t + 12 * i + d1))), (7, .int (nI q1)), (6, .int (nI bd)), (5, .int (nI bq)), (4, .int z33), (0, .ref y), (1, .int (nI t)), (2, .int (nI i)), (3, .int (nI j))]) hx hb dX7_guard_269 hl (k := 3) rfl ev49.symm (by decide) rfl (fun ls hl => ?_)
                            obtain rfl : v49 = nI (d1 + 1) := nI_plus (i := d1) (j := 1) ev49 rfl (by decide)
                            refine lv_goto (tgt := 61) hx hb dX7_guard_272 (by decide) ?_
                            exact ih61k30 (d1 + 1) bd bq z33 (by omega) (by omega) (by omega) (by omega) (hbst) _ _ _ hP hS (lv_sub hl [0, 4, 5, 6, 7, 8, 9, 10, 11] rfl)
                          · refine lv_aload_n hx hb dX7_guard_142 rfl (lv_at hl 8 rfl) ?_
                            refine lv_iload_n hx hb dX7_guard_143 rfl (lv_at hl 9 rfl) ?_
                            refine lv_iload hx hb dX7_guard_144 (lv_at hl 2 rfl) ?_
                            refine rdV (rest := []) (q0 := 0) ⟨hx, hb, hml, hown, hts⟩ (m_X7_isKept l G y b f r t (144 * t + 12 * i + d1)  (by omega) (by omega) hG) mi_yX7_isKept mv_yX7_isKept ml_X7_181 ⟨rfl, rfl, Nat.le_of_ble_eq_true rfl, Nat.le_of_ble_eq_true rfl⟩ hK (hP) rfl rfl rfl hl.1 rfl (Nat.le_of_ble_eq_true rfl) dX7_guard_146 ⟨Nat.zero_le _, Nat.zero_le _⟩ hS hA hP (fun r50 H locs hr50 hP hS => ?_)
                            have hr50 : ((r50 = 0 ∨ r50 = 1) ∧ (r50 = 0 → (r 5) (144 * t + 12 * i + d1) = 4 ∨ (r 10) (144 * t + 12 * i + d1) = 0)) := hr50
                            have j175_50 : ∀ (H : Heap) (locs : List Loc) (ls : Array Slot), PP G (mM G y b f r) H → va_S A s.heap H locs → lv_has ls 13 [(11, .int (nI (144 * t + 12 * q1 + d1))), (10, .int (nI (144 * t + 12 * q1 + j))), (9, .int (nI (144 * t + 12 * i + d1))), (8, .int (nI d1)), (7, .int (nI q1)), (6, .int (nI bd)), (5, .int (nI bq)), (4, .int z33), (0, .ref y), (1, .int (nI t)), (2, .int (nI i)), (3, .int (nI j))] → W p l e ({ frames := 4, cells := 0, slots := 0, locals := 95 }) s m ([.ref y, .int (nI t), .int (nI i), .int (nI j)] : List Value).toArray below meth c H locs 0 0 (MQ below (QwI G (fun q w => ∃ (n_r_10 : Nat → Int32), w = mM G y b f (up2 r 10 n_r_10) ∧ dnK (r 10) n_r_10 q) A) ([.ref y, .int (nI t), .int (nI i), .int (nI j)] : List Value).toArray s 0 0 A) (F0 m 175 ls []) := by
                              intro   H locs ls hP hS hl
                              refine lv_aload_n hx hb dX7_guard_175 rfl (lv_at hl 8 rfl) ?_
                              refine lv_iload_n hx hb dX7_guard_176 rfl (lv_at hl 9 rfl) ?_
                              refine lv_iload hx hb dX7_guard_177 (lv_at hl 2 rfl) ?_
                              refine rdV (rest := []) (q0 := 0) ⟨hx, hb, hml, hown, hts⟩ (m_X7_isKept l G y b f r t (144 * t + 12 * i + d1)  (by omega) (by omega) hG) mi_yX7_isKept mv_yX7_isKept ml_X7_181 ⟨rfl, rfl, Nat.le_of_ble_eq_true rfl, Nat.le_of_ble_eq_true rfl⟩ hK (hP) rfl rfl rfl hl.1 rfl (Nat.le_of_ble_eq_true rfl) dX7_guard_179 ⟨Nat.zero_le _, Nat.zero_le _⟩ hS hA hP (fun r51 H locs hr51 hP hS => ?_)
                              have hr51 : ((r51 = 0 ∨ r51 = 1) ∧ (r51 = 0 → (r 5) (144 * t + 12 * i + d1) = 4 ∨ (r 10) (144 * t + 12 * i + d1) = 0)) := hr51
                              have j196_52 : ∀ (z52 : Int32) (H : Heap) (locs : List Loc) (ls : Array Slot), PP G (mM G y b f r) H → va_S A s.heap H locs → lv_has ls 13 [(11, .int (nI (144 * t + 12 * q1 + d1))), (10, .int (nI (144 * t + 12 * q1 + j))), (8, .int (nI d1)), (7, .int (nI q1)), (6, .int (nI bd)), (5, .int (nI bq)), (4, .int z33), (0, .ref y), (1, .int (nI t)), (2, .int (nI i)), (3, .int (nI j))] → W p l e ({ frames := 4, cells := 0, slots := 0, locals := 95 }) s m ([.ref y, .int (nI t), .int (nI i), .int (nI j)] : List Value).toArray below meth c H locs 0 0 (MQ below (QwI G (fun q w => ∃ (n_r_10 : Nat → Int32), w = mM G y b f (up2 r 10 n_r_10) ∧ dnK (r 10) n_r_10 q) A) ([.ref y, .int (nI t), .int (nI i), .int (nI j)] : List Value).toArray s 0 0 A) (F0 m 196 ls [.int z52]) := by
                                intro z52  H locs ls hP hS hl
                                refine lv_aload_n hx hb dX7_guard_196 rfl (lv_at hl 7 rfl) ?_
                                refine lv_iload_n hx hb dX7_guard_197 rfl (lv_at hl 8 rfl) ?_
                                refine lv_iload hx hb dX7_guard_198 (lv_at hl 1 rfl) ?_
                                refine rdV (rest := [.int z52]) (q0 := 0) ⟨hx, hb, hml, hown, hts⟩ (m_X7_isKept l G y b f r t (144 * t + 12 * q1 + j)  (by omega) (by omega) hG) mi_yX7_isKept mv_yX7_isKept ml_X7_181 ⟨rfl, rfl, Nat.le_of_ble_eq_true rfl, Nat.le_of_ble_eq_true rfl⟩ hK (hP) rfl rfl rfl hl.1 rfl (Nat.le_of_ble_eq_true rfl) dX7_guard_200 ⟨Nat.zero_le _, Nat.zero_le _⟩ hS hA hP (fun r53 H locs hr53 hP hS => ?_)
                                have hr53 : ((r53 = 0 ∨ r53 = 1) ∧ (r53 = 0 → (r 5) (144 * t + 12 * q1 + j) = 4 ∨ (r 10) (144 * t + 12 * q1 + j) = 0)) := hr53
                                have j217_54 : ∀ (z54 : Int32) (H : Heap) (locs : List Loc) (ls : Array Slot), PP G (mM G y b f r) H → va_S A s.heap H locs → lv_has ls 13 [(11, .int (nI (144 * t + 12 * q1 + d1))), (8, .int (nI d1)), (7, .int (nI q1)), (6, .int (nI bd)), (5, .int (nI bq)), (4, .int z33), (0, .ref y), (1, .int (nI t)), (2, .int (nI i)), (3, .int (nI j))] → W p l e ({ frames := 4, cells := 0, slots := 0, locals := 95 }) s m ([.ref y, .int (nI t), .int (nI i), .int (nI j)] : List Value).toArray below meth c H locs 0 0 (MQ below (QwI G (fun q w => ∃ (n_r_10 : Nat → Int32), w = mM G y b f (up2 r 10 n_r_10) ∧ dnK (r 10) n_r_10 q) A) ([.ref y, .int (nI t), .int (nI i), .int (nI j)] : List Value).toArray s 0 0 A) (F0 m 217 ls [.int z54, .int z52]) := by
                                  intro z54  H locs ls hP hS hl
                                  refine lv_iadd hx hb dX7_guard_217 ?_
                                  refine lv_topi (fun v55 ev55 => ?_)
                                  refine lv_aload_n hx hb dX7_guard_218 rfl (lv_at hl 6 rfl) ?_
                                  refine lv_iload_n hx hb dX7_guard_219 rfl (lv_at hl 7 rfl) ?_
                                  refine lv_iload hx hb dX7_guard_220 (lv_at hl 0 rfl) ?_
                                  refine rdV (rest := [.int v55]) (q0 := 0) ⟨hx, hb, hml, hown, hts⟩ (m_X7_isKept l G y b f r t (144 * t + 12 * q1 + d1)  (by omega) (by omega) hG) mi_yX7_isKept mv_yX7_isKept ml_X7_181 ⟨rfl, rfl, Nat.le_of_ble_eq_true rfl, Nat.le_of_ble_eq_true rfl⟩ hK (hP) rfl rfl rfl hl.1 rfl (Nat.le_of_ble_eq_true rfl) dX7_guard_222 ⟨Nat.zero_le _, Nat.zero_le _⟩ hS hA hP (fun r56 H locs hr56 hP hS => ?_)
                                  have hr56 : ((r56 = 0 ∨ r56 = 1) ∧ (r56 = 0 → (r 5) (144 * t + 12 * q1 + d1) = 4 ∨ (r 10) (144 * t + 12 * q1 + d1) = 0)) := hr56
                                  have j239_57 : ∀ (z57 : Int32) (H : Heap) (locs : List Loc) (ls : Array Slot), PP G (mM G y b f r) H → va_S A s.heap H locs → lv_has ls 13 [(8, .int (nI d1)), (7, .int (nI q1)), (6, .int (nI bd)), (5, .int (nI bq)), (4, .int z33), (0, .ref y), (1, .int (nI t)), (2, .int (nI i)), (3, .int (nI j))] → W p l e ({ frames := 4, cells := 0, slots := 0, locals := 95 }) s m ([.ref y, .int (nI t), .int (nI i), .int (nI j)] : List Value).toArray below meth c H locs 0 0 (MQ below (QwI G (fun q w => ∃ (n_r_10 : Nat → Int32), w = mM G y b f (up2 r 10 n_r_10) ∧ dnK (r 10) n_r_10 q) A) ([.ref y, .int (nI t), .int (nI i), .int (nI j)] : List Value).toArray s 0 0 A) (F0 m 239 ls [.int z57, .int v55]) := by
                                    intro z57  H locs ls hP hS hl
                                    refine lv_iadd hx hb dX7_guard_239 ?_
                                    refine lv_topi (fun v58 ev58 => ?_)
                                    refine lv_istore (lv' := [(12, .int v58), (8, .int (nI d1)), (7, .int (nI q1)), (6, .int (nI bd)), (5, .int (nI bq)), (4, .int z33), (0, .ref y), (1, .int (nI t)), (2, .int (nI i)), (3, .int (nI j))]) hx hb dX7_guard_240 hl (by decide) rfl (fun ls hl => ?_)
                                    refine lv_iload hx hb dX7_guard_242 (lv_at hl 5 rfl) ?_
                                    refine lv_if_lt (tgt := 257) hx hb dX7_guard_244 (by decide) (fun c59 => ?_) (fun c59 => ?_)
                                    · refine lv_iload hx hb dX7_guard_257 (lv_at hl 0 rfl) ?_
                                      refine lv_istore (lv' := [(4, .int v58), (12, .int v58), (8, .int (nI d1)), (7, .int (nI q1)), (6, .int (nI bd)), (5, .int (nI bq)), (0, .ref y), (1, .int (nI t)), (2, .int (nI i)), (3, .int (nI j))]) hx hb dX7_guard_259 hl (by decide) rfl (fun ls hl => ?_)
                                      refine lv_iload hx hb dX7_guard_261 (lv_at hl 3 rfl) ?_
                                      refine lv_istore (lv' := [(5, .int (nI q1)), (4, .int v58), (12, .int v58), (8, .int (nI d1)), (7, .int (nI q1)), (6, .int (nI bd)), (0, .ref y), (1, .int (nI t)), (2, .int (nI i)), (3, .int (nI j))]) hx hb dX7_guard_263 hl (by decide) rfl (fun ls hl => ?_)
                                      refine lv_iload hx hb dX7_guard_265 (lv_at hl 3 rfl) ?_
                                      refine lv_istore (lv' := [(6, .int (nI d1)), (5, .int (nI q1)), (4, .int v58), (12, .int v58), (8, .int (nI d1)), (7, .int (nI q1)), (0, .ref y), (1, .int (nI t)), (2, .int (nI i)), (3, .int (nI j))]) hx hb dX7_guard_267 hl (by decide) rfl (fun ls hl => ?_)
                                      obtain ⟨v60, ev60⟩ : ∃ y9 : Int32, y9 = (nI d1) + Int32.ofInt (1) := ⟨_, rfl⟩
                                      refine lv_iinc (v := v60) (lv' := [(8, .int v60), (6, .int (nI d1)), (5, .int (nI q1)), (4, .int v58), (12, .int v58), (7, .int (nI q1)), (0, .ref y), (1, .int (nI t)), (2, .int (nI i)), (3, .int (nI j))]) hx hb dX7_guard_269 hl (k := 4) rfl ev60.symm (by decide) rfl (fun ls hl => ?_)
                                      obtain rfl : v60 = nI (d1 + 1) := nI_plus (i := d1) (j := 1) ev60 rfl (by decide)
                                      refine lv_goto (tgt := 61) hx hb dX7_guard_272 (by decide) ?_
                                      exact ih61k30 (d1 + 1) d1 q1 v58 (by omega) (by omega) (by omega) (by omega) (Or.inr ⟨fun h => c42 (ev41.trans h), fun h => c45 (ev44.trans h), fun h => c48 (ev47.trans h)⟩) _ _ _ hP hS (lv_sub hl [0, 5, 1, 2, 3, 6, 7, 8, 9] rfl)
                                    · refine lv_iload hx hb dX7_guard_247 (lv_at hl 0 rfl) ?_
                                      refine lv_iload hx hb dX7_guard_249 (lv_at hl 5 rfl) ?_
                                      refine lv_icmp_lt (tgt := 257) hx hb dX7_guard_251 (by decide) (fun c61 => ?_) (fun c61 => ?_)
                                      · refine lv_iload hx hb dX7_guard_257 (lv_at hl 0 rfl) ?_
                                        refine lv_istore (lv' := [(4, .int v58), (12, .int v58), (8, .int (nI d1)), (7, .int (nI q1)), (6, .int (nI bd)), (5, .int (nI bq)), (0, .ref y), (1, .int (nI t)), (2, .int (nI i)), (3, .int (nI j))]) hx hb dX7_guard_259 hl (by decide) rfl (fun ls hl => ?_)
                                        refine lv_iload hx hb dX7_guard_261 (lv_at hl 3 rfl) ?_
                                        refine lv_istore (lv' := [(5, .int (nI q1)), (4, .int v58), (12, .int v58), (8, .int (nI d1)), (7, .int (nI q1)), (6, .int (nI bd)), (0, .ref y), (1, .int (nI t)), (2, .int (nI i)), (3, .int (nI j))]) hx hb dX7_guard_263 hl (by decide) rfl (fun ls hl => ?_)
                                        refine lv_iload hx hb dX7_guard_265 (lv_at hl 3 rfl) ?_
                                        refine lv_istore (lv' := [(6, .int (nI d1)), (5, .int (nI q1)), (4, .int v58), (12, .int v58), (8, .int (nI d1)), (7, .int (nI q1)), (0, .ref y), (1, .int (nI t)), (2, .int (nI i)), (3, .int (nI j))]) hx hb dX7_guard_267 hl (by decide) rfl (fun ls hl => ?_)
                                        obtain ⟨v62, ev62⟩ : ∃ y9 : Int32, y9 = (nI d1) + Int32.ofInt (1) := ⟨_, rfl⟩
                                        refine lv_iinc (v := v62) (lv' := [(8, .int v62), (6, .int (nI d1)), (5, .int (nI q1)), (4, .int v58), (12, .int v58), (7, .int (nI q1)), (0, .ref y), (1, .int (nI t)), (2, .int (nI i)), (3, .int (nI j))]) hx hb dX7_guard_269 hl (k := 4) rfl ev62.symm (by decide) rfl (fun ls hl => ?_)
                                        obtain rfl : v62 = nI (d1 + 1) := nI_plus (i := d1) (j := 1) ev62 rfl (by decide)
                                        refine lv_goto (tgt := 61) hx hb dX7_guard_272 (by decide) ?_
                                        exact ih61k30 (d1 + 1) d1 q1 v58 (by omega) (by omega) (by omega) (by omega) (Or.inr ⟨fun h => c42 (ev41.trans h), fun h => c45 (ev44.trans h), fun h => c48 (ev47.trans h)⟩) _ _ _ hP hS (lv_sub hl [0, 5, 1, 2, 3, 6, 7, 8, 9] rfl)
                                      · refine lv_goto (tgt := 269) hx hb dX7_guard_254 (by decide) ?_
                                        obtain ⟨v63, ev63⟩ : ∃ y9 : Int32, y9 = (nI d1) + Int32.ofInt (1) := ⟨_, rfl⟩
                                        refine lv_iinc (v := v63) (lv' := [(8, .int v63), (12, .int v58), (7, .int (nI q1)), (6, .int (nI bd)), (5, .int (nI bq)), (4, .int z33), (0, .ref y), (1, .int (nI t)), (2, .int (nI i)), (3, .int (nI j))]) hx hb dX7_guard_269 hl (k := 1) rfl ev63.symm (by decide) rfl (fun ls hl => ?_)
                                        obtain rfl : v63 = nI (d1 + 1) := nI_plus (i := d1) (j := 1) ev63 rfl (by decide)
                                        refine lv_goto (tgt := 61) hx hb dX7_guard_272 (by decide) ?_
                                        exact ih61k30 (d1 + 1) bd bq z33 (by omega) (by omega) (by omega) (by omega) (hbst) _ _ _ hP hS (lv_sub hl [0, 2, 3, 4, 5, 6, 7, 8, 9] rfl)
                                  refine lv_if_eq (tgt := 232) hx hb dX7_guard_225 (by decide) (fun c64 => ?_) (fun c64 => ?_)
                                  · refine lv_aload_n hx hb dX7_guard_232 rfl (lv_at hl 6 rfl) ?_
                                    refine lv_iload_n hx hb dX7_guard_233 rfl (lv_at hl 7 rfl) ?_
                                    refine lv_iload hx hb dX7_guard_234 (lv_at hl 0 rfl) ?_
                                    refine rdV (rest := [.int v55]) (q0 := 0) ⟨hx, hb, hml, hown, hts⟩ (m_X7_costOf l G y b f r t (144 * t + 12 * q1 + d1)  (by omega) (by omega)) mi_yX7_costOf mv_yX7_costOf ml_X7_242 ⟨rfl, rfl, Nat.le_of_ble_eq_true rfl, Nat.le_of_ble_eq_true rfl⟩ hK (hP) rfl rfl rfl hl.1 rfl (Nat.le_of_ble_eq_true rfl) dX7_guard_236 ⟨Nat.zero_le _, Nat.zero_le _⟩ hS hA hP (fun r65 H locs hr65 hP hS => ?_)
                                    obtain rfl := hr65
                                    exact j239_57 (coF (r 4) (r 6) t (144 * t + 12 * q1 + d1)) _ _ _ hP hS (lv_sub hl [1, 2, 3, 4, 5, 6, 7, 8, 9] rfl)
                                  · refine lv_iconst (v := 0) hx hb dX7_guard_228 (by decide) ?_
                                    refine lv_goto (tgt := 239) hx hb dX7_guard_229 (by decide) ?_
                                    exact j239_57 0 _ _ _ hP hS (lv_sub hl [1, 2, 3, 4, 5, 6, 7, 8, 9] rfl)
                                refine lv_if_eq (tgt := 210) hx hb dX7_guard_203 (by decide) (fun c66 => ?_) (fun c66 => ?_)
                                · refine lv_aload_n hx hb dX7_guard_210 rfl (lv_at hl 7 rfl) ?_
                                  refine lv_iload_n hx hb dX7_guard_211 rfl (lv_at hl 8 rfl) ?_
                                  refine lv_iload hx hb dX7_guard_212 (lv_at hl 1 rfl) ?_
                                  refine rdV (rest := [.int z52]) (q0 := 0) ⟨hx, hb, hml, hown, hts⟩ (m_X7_costOf l G y b f r t (144 * t + 12 * q1 + j)  (by omega) (by omega)) mi_yX7_costOf mv_yX7_costOf ml_X7_242 ⟨rfl, rfl, Nat.le_of_ble_eq_true rfl, Nat.le_of_ble_eq_true rfl⟩ hK (hP) rfl rfl rfl hl.1 rfl (Nat.le_of_ble_eq_true rfl) dX7_guard_214 ⟨Nat.zero_le _, Nat.zero_le _⟩ hS hA hP (fun r67 H locs hr67 hP hS => ?_)
                                  obtain rfl := hr67
                                  exact j217_54 (coF (r 4) (r 6) t (144 * t + 12 * q1 + j)) _ _ _ hP hS (lv_sub hl [0, 2, 3, 4, 5, 6, 7, 8, 9, 10] rfl)
                                · refine lv_iconst (v := 0) hx hb dX7_guard_206 (by decide) ?_
                                  refine lv_goto (tgt := 217) hx hb dX7_guard_207 (by decide) ?_
                                  exact j217_54 0 _ _ _ hP hS (lv_sub hl [0, 2, 3, 4, 5, 6, 7, 8, 9, 10] rfl)
                              refine lv_if_eq (tgt := 189) hx hb dX7_guard_182 (by decide) (fun c68 => ?_) (fun c68 => ?_)
                              · refine lv_aload_n hx hb dX7_guard_189 rfl (lv_at hl 8 rfl) ?_
                                refine lv_iload_n hx hb dX7_guard_190 rfl (lv_at hl 9 rfl) ?_
                                refine lv_iload hx hb dX7_guard_191 (lv_at hl 2 rfl) ?_
                                refine rdV (rest := []) (q0 := 0) ⟨hx, hb, hml, hown, hts⟩ (m_X7_costOf l G y b f r t (144 * t + 12 * i + d1)  (by omega) (by omega)) mi_yX7_costOf mv_yX7_costOf ml_X7_242 ⟨rfl, rfl, Nat.le_of_ble_eq_true rfl, Nat.le_of_ble_eq_true rfl⟩ hK (hP) rfl rfl rfl hl.1 rfl (Nat.le_of_ble_eq_true rfl) dX7_guard_193 ⟨Nat.zero_le _, Nat.zero_le _⟩ hS hA hP (fun r69 H locs hr69 hP hS => ?_)
                                obtain rfl := hr69
                                exact j196_52 (coF (r 4) (r 6) t (144 * t + 12 * i + d1)) _ _ _ hP hS (lv_sub hl [0, 1, 3, 4, 5, 6, 7, 8, 9, 10, 11] rfl)
                              · refine lv_iconst (v := 0) hx hb dX7_guard_185 (by decide) ?_
                                refine lv_goto (tgt := 196) hx hb dX7_guard_186 (by decide) ?_
                                exact j196_52 0 _ _ _ hP hS (lv_sub hl [0, 1, 3, 4, 5, 6, 7, 8, 9, 10, 11] rfl)
                            refine lv_if_eq (tgt := 175) hx hb dX7_guard_149 (by decide) (fun c70 => ?_) (fun c70 => ?_)
                            · exact j175_50  _ _ _ hP hS (lv_sub hl [0, 1, 2, 3, 4, 5, 6, 7, 8, 9, 10, 11] rfl)
                            · refine lv_aload_n hx hb dX7_guard_152 rfl (lv_at hl 8 rfl) ?_
                              refine lv_iload_n hx hb dX7_guard_153 rfl (lv_at hl 9 rfl) ?_
                              refine lv_iload hx hb dX7_guard_154 (lv_at hl 1 rfl) ?_
                              refine rdV (rest := []) (q0 := 0) ⟨hx, hb, hml, hown, hts⟩ (m_X7_isKept l G y b f r t (144 * t + 12 * q1 + j)  (by omega) (by omega) hG) mi_yX7_isKept mv_yX7_isKept ml_X7_181 ⟨rfl, rfl, Nat.le_of_ble_eq_true rfl, Nat.le_of_ble_eq_true rfl⟩ hK (hP) rfl rfl rfl hl.1 rfl (Nat.le_of_ble_eq_true rfl) dX7_guard_156 ⟨Nat.zero_le _, Nat.zero_le _⟩ hS hA hP (fun r71 H locs hr71 hP hS => ?_)
                              have hr71 : ((r71 = 0 ∨ r71 = 1) ∧ (r71 = 0 → (r 5) (144 * t + 12 * q1 + j) = 4 ∨ (r 10) (144 * t + 12 * q1 + j) = 0)) := hr71
                              refine lv_if_eq (tgt := 175) hx hb dX7_guard_159 (by decide) (fun c72 => ?_) (fun c72 => ?_)
                              · exact j175_50  _ _ _ hP hS (lv_sub hl [0, 1, 2, 3, 4, 5, 6, 7, 8, 9, 10, 11] rfl)
                              · refine lv_aload_n hx hb dX7_guard_162 rfl (lv_at hl 8 rfl) ?_
                                refine lv_iload_n hx hb dX7_guard_163 rfl (lv_at hl 9 rfl) ?_
                                refine lv_iload hx hb dX7_guard_164 (lv_at hl 0 rfl) ?_
                                refine rdV (rest := []) (q0 := 0) ⟨hx, hb, hml, hown, hts⟩ (m_X7_isKept l G y b f r t (144 * t + 12 * q1 + d1)  (by omega) (by omega) hG) mi_yX7_isKept mv_yX7_isKept ml_X7_181 ⟨rfl, rfl, Nat.le_of_ble_eq_true rfl, Nat.le_of_ble_eq_true rfl⟩ hK (hP) rfl rfl rfl hl.1 rfl (Nat.le_of_ble_eq_true rfl) dX7_guard_166 ⟨Nat.zero_le _, Nat.zero_le _⟩ hS hA hP (fun r73 H locs hr73 hP hS => ?_)
                                have hr73 : ((r73 = 0 ∨ r73 = 1) ∧ (r73 = 0 → (r 5) (144 * t + 12 * q1 + d1) = 4 ∨ (r 10) (144 * t + 12 * q1 + d1) = 0)) := hr73
                                refine lv_if_eq (tgt := 175) hx hb dX7_guard_169 (by decide) (fun c74 => ?_) (fun c74 => ?_)
                                · exact j175_50  _ _ _ hP hS (lv_sub hl [0, 1, 2, 3, 4, 5, 6, 7, 8, 9, 10, 11] rfl)
                                · refine lv_goto (tgt := 269) hx hb dX7_guard_172 (by decide) ?_
                                  obtain ⟨v75, ev75⟩ : ∃ y9 : Int32, y9 = (nI d1) + Int32.ofInt (1) := ⟨_, rfl⟩
                                  refine lv_iinc (v := v75) (lv' := [(8, .int v75), (11, .int (nI (144 * t + 12 * q1 + d1))), (10, .int (nI (144 * t + 12 * q1 + j))), (9, .int (nI (144 * t + 12 * i + d1))), (7, .int (nI q1)), (6, .int (nI bd)), (5, .int (nI bq)), (4, .int z33), (0, .ref y), (1, .int (nI t)), (2, .int (nI i)), (3, .int (nI j))]) hx hb dX7_guard_269 hl (k := 3) rfl ev75.symm (by decide) rfl (fun ls hl => ?_)
                                  obtain rfl : v75 = nI (d1 + 1) := nI_plus (i := d1) (j := 1) ev75 rfl (by decide)
                                  refine lv_goto (tgt := 61) hx hb dX7_guard_272 (by decide) ?_
                                  exact ih61k30 (d1 + 1) bd bq z33 (by omega) (by omega) (by omega) (by omega) (hbst) _ _ _ hP hS (lv_sub hl [0, 4, 5, 6, 7, 8, 9, 10, 11] rfl)
                    · have b75 := qeq_t (a := d1) (b := j) (by omega) (by omega) c37
                      refine lv_goto (tgt := 269) hx hb dX7_guard_78 (by decide) ?_
                      obtain ⟨v76, ev76⟩ : ∃ y9 : Int32, y9 = (nI d1) + Int32.ofInt (1) := ⟨_, rfl⟩
                      refine lv_iinc (v := v76) (lv' := [(8, .int v76), (7, .int (nI q1)), (6, .int (nI bd)), (5, .int (nI bq)), (4, .int z33), (0, .ref y), (1, .int (nI t)), (2, .int (nI i)), (3, .int (nI j))]) hx hb dX7_guard_269 hl (k := 0) rfl ev76.symm (by decide) rfl (fun ls hl => ?_)
                      obtain rfl : v76 = nI (d1 + 1) := nI_plus (i := d1) (j := 1) ev76 rfl (by decide)
                      refine lv_goto (tgt := 61) hx hb dX7_guard_272 (by decide) ?_
                      exact ih61k30 (d1 + 1) bd bq z33 (by omega) (by omega) (by omega) (by omega) (hbst) _ _ _ hP hS (lv_sub hl [0, 1, 2, 3, 4, 5, 6, 7, 8] rfl)
              exact loop61 (cl + 1) 0 bd bq z4 (by omega) (by omega) (by omega) (by omega) (hbst) _ _ _ hP hS (lv_sub hl [0, 1, 2, 3, 4, 5, 6, 7, 8] rfl)
            · refine lv_goto (tgt := 275) hx hb dX7_guard_55 (by decide) ?_
              obtain ⟨v77, ev77⟩ : ∃ y9 : Int32, y9 = (nI q1) + Int32.ofInt (1) := ⟨_, rfl⟩
              refine lv_iinc (v := v77) (lv' := [(7, .int v77), (6, .int (nI bd)), (5, .int (nI bq)), (4, .int z4), (0, .ref y), (1, .int (nI t)), (2, .int (nI i)), (3, .int (nI j))]) hx hb dX7_guard_275 hl (k := 0) rfl ev77.symm (by decide) rfl (fun ls hl => ?_)
              obtain rfl : v77 = nI (q1 + 1) := nI_plus (i := q1) (j := 1) ev77 rfl (by decide)
              refine lv_goto (tgt := 12) hx hb dX7_guard_278 (by decide) ?_
              exact ih12k1 (q1 + 1) bd bq z4 (by omega) (by omega) (by omega) (by omega) (hbst) _ _ _ hP hS (lv_sub hl [0, 1, 2, 3, 4, 5, 6, 7] rfl)
  exact loop12 (rw + 1) 0 0 0 (-1) (by omega) (by omega) (by omega) (by omega) (Or.inl (by decide)) _ _ _ hP hS (lv_sub hl [0, 1, 2, 3, 4, 5, 6, 7] rfl)
set_option maxHeartbeats 4000000 in
set_option maxRecDepth 100000 in
theorem m_X7_plan (l : Launch) (G : GG) (y : Nat) (b : Nat → Nat) (f : Nat → Int32) (r : Nat → Nat → Int32) (tb : Int32) (hM2 : nOK 6 12 (r 2)) (hM3 : nOK 6 12 (r 3)) (hM12 : nOK 6 12 (r 12)) (hG : nOK 864 6 (r 7)) : WrI l yX7_plan cX7_plan 6 (some .int) ({ frames := 7, cells := 0, slots := 0, locals := 179 }) G (mM G y b f r) [.ref y, .int tb] (fun q w => ∃ (n_f_0 : Int32) (n_f_20 : Int32) (n_f_21 : Int32) (n_r_10 : Nat → Int32) (n_r_15 : Nat → Int32) (n_r_16 : Nat → Int32) (n_r_17 : Nat → Int32) (n_r_18 : Nat → Int32) (n_r_19 : Nat → Int32) (n_r_22 : Nat → Int32) (n_r_23 : Nat → Int32) (n_r_29 : Nat → Int32), w = mM G y b (upd (upd (upd f 0 n_f_0) 20 n_f_20) 21 n_f_21) (up2 (up2 (up2 (up2 (up2 (up2 (up2 (up2 (up2 r 10 n_r_10) 15 n_r_15) 16 n_r_16) 17 n_r_17) 18 n_r_18) 19 n_r_19) 22 n_r_22) 23 n_r_23) 29 n_r_29)) := by
  refine wr_entryI (by decide +kernel) (Nat.le_of_ble_eq_true rfl) ?_
  intro p e s m below meth c A C0 hP hK hD hA ls hl
  have hS : va_S A s.heap s.heap [] := va_S.rf
  obtain ⟨hx, hb, hml, hown, hts, hr, hlocks, hin⟩ := C0
  have hown : s.vm.findClass RX7 = some m.cls := hown
  have hDD : ∀ f' r', va_D A (mM G y b f' r') := fun f' r' => D_same hD rfl
  have hl : lv_has ls 6 [(0, .ref y), (1, .int tb)] := hl
  refine lv_aload_n hx hb dX7_plan_0 rfl (lv_at hl 0 rfl) ?_
  refine lv_aload_n hx hb dX7_plan_1 rfl (lv_at hl 0 rfl) ?_
  refine lv_iload_n hx hb dX7_plan_2 rfl (lv_at hl 1 rfl) ?_
  refine rdV (rest := [.ref y]) (q0 := 0) ⟨hx, hb, hml, hown, hts⟩ (m_X7_isTable l G y b f r tb  ) mi_yX7_isTable mv_yX7_isTable ml_X7_120 ⟨rfl, rfl, Nat.le_of_ble_eq_true rfl, Nat.le_of_ble_eq_true rfl⟩ hK (hP) rfl rfl rfl hl.1 rfl (Nat.le_of_ble_eq_true rfl) dX7_plan_3 ⟨Nat.zero_le _, Nat.zero_le _⟩ hS hA hP (fun r1 H locs hr1 hP hS => ?_)
  have hr1 : ((r1 = 1 ∧ (opn (r 1) tb)) ∨ (r1 = 0 ∧ ¬ (opn (r 1) tb))) := hr1
  refine lv_if_eq (tgt := 13) hx hb dX7_plan_6 (by decide) (fun c2 => ?_) (fun c2 => ?_)
  · have b6 := bF hr1 c2
    refine lv_iconst (v := 1) hx hb dX7_plan_13 (by decide) ?_
    refine va_put (D := G.1) (ci := 7) (v := .int 1) (C := RX7) (T := TX7) (N := 43) hx hb hts inX7 tyX7 tyX7_ok nmX7 hown hK.1 hP (hDD _ _) hS 0 rfl rfl 0 (by decide) (hts _ mf_X7_116) (fun _ h9 => h9) rfl (tyX7_ok 0 (by decide)) (rfl) (rfl) (Nat.le_of_ble_eq_true rfl) dX7_plan_14 (fun H locs hP _ hS => ?_)
    have hP : PP G (mM G y b (upd f 0 1) r) H := hP
    refine lv_aload_n hx hb dX7_plan_17 rfl (lv_at hl 0 rfl) ?_
    refine va_get (D := G.1) (ci := 7) (v := .int 1) (C := RX7) (T := TX7) (N := 43) hx hb hts inX7 hown hK.1 hP 0 rfl rfl 0 (by decide) (hts _ mf_X7_116) (fun _ h9 => h9) rfl dX7_plan_18 ?_
    refine lv_if_le (tgt := 26) hx hb dX7_plan_21 (by decide) (fun c3 => absurd c3 (by decide)) (fun c3 => ?_)
    refine lv_iconst (v := -1) hx hb dX7_plan_24 (by decide) ?_
    exact wr_iret hx hb hr hlocks hS hP ⟨1, (f 20), (f 21), (r 10), (r 15), (r 16), (r 17), (r 18), (r 19), (r 22), (r 23), (r 29), rfl⟩ dX7_plan_25
  · have b6 := bT hr1 c2
    obtain ⟨t, ht, rfl, hop⟩ := b6
    obtain ⟨rw, hrw, h2⟩ := hM2 t ht
    obtain ⟨cl, hcl, h3⟩ := hM3 t ht
    obtain ⟨bk, hbk, h12⟩ := hM12 t ht
    refine lv_iconst (v := 0) hx hb dX7_plan_9 (by decide) ?_
    refine lv_goto (tgt := 14) hx hb dX7_plan_10 (by decide) ?_
    refine va_put (D := G.1) (ci := 7) (v := .int 0) (C := RX7) (T := TX7) (N := 43) hx hb hts inX7 tyX7 tyX7_ok nmX7 hown hK.1 hP (hDD _ _) hS 0 rfl rfl 0 (by decide) (hts _ mf_X7_116) (fun _ h9 => h9) rfl (tyX7_ok 0 (by decide)) (rfl) (rfl) (Nat.le_of_ble_eq_true rfl) dX7_plan_14 (fun H locs hP _ hS => ?_)
    have hP : PP G (mM G y b (upd f 0 0) r) H := hP
    refine lv_aload_n hx hb dX7_plan_17 rfl (lv_at hl 0 rfl) ?_
    refine va_get (D := G.1) (ci := 7) (v := .int 0) (C := RX7) (T := TX7) (N := 43) hx hb hts inX7 hown hK.1 hP 0 rfl rfl 0 (by decide) (hts _ mf_X7_116) (fun _ h9 => h9) rfl dX7_plan_18 ?_
    refine lv_if_le (tgt := 26) hx hb dX7_plan_21 (by decide) (fun c4 => ?_) (fun c4 => absurd (by decide) c4)
    refine lv_iconst (v := 0) hx hb dX7_plan_26 (by decide) ?_
    refine lv_istore_n (lv' := [(2, .int 0), (0, .ref y), (1, .int (nI t))]) hx hb dX7_plan_27 rfl hl (by decide) rfl (fun ls hl => ?_)
    have loop28 : ∀ (k5 n1 : Nat) (x6 : Nat → Int32), n1 ≤ 144 → 144 < n1 + k5 → ∀ (H : Heap) (locs : List Loc) (ls : Array Slot), PP G (mM G y b (upd f 0 0) (up2 r 29 x6)) H → va_S A s.heap H locs → lv_has ls 6 [(2, .int (nI n1)), (0, .ref y), (1, .int (nI t))] → W p l e ({ frames := 7, cells := 0, slots := 0, locals := 179 }) s m ([.ref y, .int (nI t)] : List Value).toArray below meth c H locs 0 0 (MQ below (QwI G (fun q w => ∃ (n_f_0 : Int32) (n_f_20 : Int32) (n_f_21 : Int32) (n_r_10 : Nat → Int32) (n_r_15 : Nat → Int32) (n_r_16 : Nat → Int32) (n_r_17 : Nat → Int32) (n_r_18 : Nat → Int32) (n_r_19 : Nat → Int32) (n_r_22 : Nat → Int32) (n_r_23 : Nat → Int32) (n_r_29 : Nat → Int32), w = mM G y b (upd (upd (upd f 0 n_f_0) 20 n_f_20) 21 n_f_21) (up2 (up2 (up2 (up2 (up2 (up2 (up2 (up2 (up2 r 10 n_r_10) 15 n_r_15) 16 n_r_16) 17 n_r_17) 18 n_r_18) 19 n_r_19) 22 n_r_22) 23 n_r_23) 29 n_r_29)) A) ([.ref y, .int (nI t)] : List Value).toArray s 0 0 A) (F0 m 28 ls []) := by
      intro k5
      induction k5 with
      | zero => intro n1 x6 h1 h2; exact absurd h1 (by omega)
      | succ k5 ih28k5 =>
        intro n1 x6 hi_n1 hk_n1  H locs ls hP hS hl
        refine lv_iload_n hx hb dX7_plan_28 rfl (lv_at hl 0 rfl) ?_
        refine lv_sipush (v := 144) hx hb dX7_plan_29 (by decide) ?_
        refine lv_icmp_ge (tgt := 59) hx hb dX7_plan_32 (by decide) (fun c7 => ?_) (fun c7 => ?_)
        · have b32 := qge_t (a := n1) (b := 144) (by omega) (by omega) c7
          refine lv_iconst (v := 0) hx hb dX7_plan_59 (by decide) ?_
          refine lv_istore_n (lv' := [(2, .int 0), (0, .ref y), (1, .int (nI t))]) hx hb dX7_plan_60 rfl hl (by decide) rfl (fun ls hl => ?_)
          refine lv_aload_n hx hb dX7_plan_61 rfl (lv_at hl 1 rfl) ?_
          refine lv_iload_n hx hb dX7_plan_62 rfl (lv_at hl 2 rfl) ?_
          refine lv_iconst (v := 0) hx hb dX7_plan_63 (by decide) ?_
          refine wrVIa (rest := []) (q0 := 0) ⟨hx, hb, hml, hown, hts⟩ (m_X7_unsafeFrom l G y b (upd f 0 0) (up2 r 29 x6) t 0 rw cl bk (by omega) (by omega) (by omega) (by omega) h2 h3 h12 (by omega) hG) mi_yX7_unsafeFrom mv_yX7_unsafeFrom ml_X7_230 ⟨rfl, rfl, Nat.le_of_ble_eq_true rfl, Nat.le_of_ble_eq_true rfl⟩ hK hP (hDD _ _) rfl rfl rfl hl.1 rfl (Nat.le_of_ble_eq_true rfl) dX7_plan_64 ⟨Nat.zero_le _, Nat.zero_le _⟩ hS hA (fun r8 w9 H locs hw9 hP hS => ?_)
          obtain ⟨x10, x11, x12, x13, x14, x15, x16, x17, x18, rfl, hw9r⟩ := hw9
          have hP : PP G (mM G y b (upd (upd (upd f 0 0) 20 x10) 21 x11) (up2 (up2 (up2 (up2 (up2 (up2 (up2 (up2 r 15 x12) 16 x13) 17 x14) 18 x15) 19 x16) 22 x17) 23 x18) 29 x6)) H := hP
          have hw9r : (r8 = -1 ∨ ∃ n, 0 ≤ n ∧ n < 144 ∧ r8 = nI n) := hw9r
          refine lv_istore_n (lv' := [(3, .int r8), (2, .int 0), (0, .ref y), (1, .int (nI t))]) hx hb dX7_plan_67 rfl hl (by decide) rfl (fun ls hl => ?_)
          have loop68 : ∀ (k19 : Nat) (z21 : Int32) (z22 : Int32) (x23 : Int32) (x24 : Int32) (x25 : Int32) (x26 : Nat → Int32) (x27 : Nat → Int32) (x28 : Nat → Int32) (x29 : Nat → Int32) (x30 : Nat → Int32) (x31 : Nat → Int32) (x32 : Nat → Int32) (x33 : Nat → Int32), cZ x26 864 < k19 → ((z21 : Int32) = -1 ∨ ∃ n, n < 144 ∧ (z21 : Int32) = nI n) → ∀ (H : Heap) (locs : List Loc) (ls : Array Slot), PP G (mM G y b (upd (upd (upd f 0 x23) 20 x24) 21 x25) (up2 (up2 (up2 (up2 (up2 (up2 (up2 (up2 (up2 r 10 x26) 15 x27) 16 x28) 17 x29) 18 x30) 19 x31) 22 x32) 23 x33) 29 x6)) H → va_S A s.heap H locs → lv_has ls 6 [(3, .int z21), (2, .int z22), (0, .ref y), (1, .int (nI t))] → W p l e ({ frames := 7, cells := 0, slots := 0, locals := 179 }) s m ([.ref y, .int (nI t)] : List Value).toArray below meth c H locs 0 0 (MQ below (QwI G (fun q w => ∃ (n_f_0 : Int32) (n_f_20 : Int32) (n_f_21 : Int32) (n_r_10 : Nat → Int32) (n_r_15 : Nat → Int32) (n_r_16 : Nat → Int32) (n_r_17 : Nat → Int32) (n_r_18 : Nat → Int32) (n_r_19 : Nat → Int32) (n_r_22 : Nat → Int32) (n_r_23 : Nat → Int32) (n_r_29 : Nat → Int32), w = mM G y b (upd (upd (upd f 0 n_f_0) 20 n_f_20) 21 n_f_21) (up2 (up2 (up2 (up2 (up2 (up2 (up2 (up2 (up2 r 10 n_r_10) 15 n_r_15) 16 n_r_16) 17 n_r_17) 18 n_r_18) 19 n_r_19) 22 n_r_22) 23 n_r_23) 29 n_r_29)) A) ([.ref y, .int (nI t)] : List Value).toArray s 0 0 A) (F0 m 68 ls []) := by
            intro k19
            induction k19 with
            | zero => intro z21 z22 x23 x24 x25 x26 x27 x28 x29 x30 x31 x32 x33 h1; exact absurd h1 (Nat.not_lt_zero _)
            | succ k19 ih68k19 =>
              intro  z21 z22 x23 x24 x25 x26 x27 x28 x29 x30 x31 x32 x33 hm_k19 hk H locs ls hP hS hl
              refine lv_iload_n hx hb dX7_plan_68 rfl (lv_at hl 0 rfl) ?_
              refine lv_iconst (v := -1) hx hb dX7_plan_69 (by decide) ?_
              refine lv_icmp_eq (tgt := 153) hx hb dX7_plan_70 (by decide) (fun c34 => ?_) (fun c34 => ?_)
              · refine lv_iload_n hx hb dX7_plan_153 rfl (lv_at hl 1 rfl) ?_
                exact wr_iret hx hb hr hlocks hS hP ⟨x23, x24, x25, x26, x27, x28, x29, x30, x31, x32, x33, x6, rfl⟩ dX7_plan_154
              · obtain ⟨n9, hn9, rfl⟩ := hk.resolve_left c34
                refine lv_aload_n hx hb dX7_plan_73 rfl (lv_at hl 2 rfl) ?_
                refine lv_iload_n hx hb dX7_plan_74 rfl (lv_at hl 3 rfl) ?_
                refine lv_iload_n hx hb dX7_plan_75 rfl (lv_at hl 0 rfl) ?_
                refine lv_bipush (v := 12) hx hb dX7_plan_76 (by decide) ?_
                refine lv_idiv hx hb dX7_plan_78 (by decide) ?_
                refine lv_topi (fun v35 ev35 => ?_)
                obtain rfl : v35 = nI (n9 / 12) := nI_quo ev35 rfl rfl (by omega) (by omega) (by omega)
                refine lv_iload_n hx hb dX7_plan_79 rfl (lv_at hl 0 rfl) ?_
                refine lv_bipush (v := 12) hx hb dX7_plan_80 (by decide) ?_
                refine lv_irem hx hb dX7_plan_82 (by decide) ?_
                refine lv_topi (fun v36 ev36 => ?_)
                obtain rfl : v36 = nI (n9 % 12) := nI_mod ev36 rfl rfl (by omega) (by omega) (by omega)
                refine wrVIa (rest := []) (q0 := 0) ⟨hx, hb, hml, hown, hts⟩ (m_X7_guard l G y b (upd (upd (upd f 0 x23) 20 x24) 21 x25) (up2 (up2 (up2 (up2 (up2 (up2 (up2 (up2 (up2 r 10 x26) 15 x27) 16 x28) 17 x29) 18 x30) 19 x31) 22 x32) 23 x33) 29 x6) t (n9 / 12) (n9 % 12) rw cl bk (by omega) (by omega) (by omega) (by omega) h2 h3 h12 (by omega) (by omega) hG) mi_yX7_guard mv_yX7_guard ml_X7_239 ⟨rfl, rfl, Nat.le_of_ble_eq_true rfl, Nat.le_of_ble_eq_true rfl⟩ hK hP (hDD _ _) rfl rfl rfl hl.1 rfl (Nat.le_of_ble_eq_true rfl) dX7_plan_83 ⟨Nat.zero_le _, Nat.zero_le _⟩ hS hA (fun r37 w38 H locs hw38 hP hS => ?_)
                obtain ⟨x39, rfl, hw38r⟩ := hw38
                have hP : PP G (mM G y b (upd (upd (upd f 0 x23) 20 x24) 21 x25) (up2 (up2 (up2 (up2 (up2 (up2 (up2 (up2 (up2 r 10 x39) 15 x27) 16 x28) 17 x29) 18 x30) 19 x31) 22 x32) 23 x33) 29 x6)) H := hP
                have hw38r : dnK x26 x39 r37 := hw38r
                refine lv_istore (lv' := [(4, .int r37), (3, .int (nI n9)), (2, .int z22), (0, .ref y), (1, .int (nI t))]) hx hb dX7_plan_86 hl (by decide) rfl (fun ls hl => ?_)
                refine lv_iload hx hb dX7_plan_88 (lv_at hl 0 rfl) ?_
                refine lv_if_ne (tgt := 138) hx hb dX7_plan_90 (by decide) (fun c40 => ?_) (fun c40 => ?_)
                · refine lv_iload_n hx hb dX7_plan_138 rfl (lv_at hl 2 rfl) ?_
                  refine lv_iload hx hb dX7_plan_139 (lv_at hl 0 rfl) ?_
                  refine lv_iadd hx hb dX7_plan_141 ?_
                  refine lv_topi (fun v41 ev41 => ?_)
                  refine lv_istore_n (lv' := [(2, .int v41), (4, .int r37), (3, .int (nI n9)), (0, .ref y), (1, .int (nI t))]) hx hb dX7_plan_142 rfl hl (by decide) rfl (fun ls hl => ?_)
                  refine lv_aload_n hx hb dX7_plan_143 rfl (lv_at hl 3 rfl) ?_
                  refine lv_iload_n hx hb dX7_plan_144 rfl (lv_at hl 4 rfl) ?_
                  refine lv_iconst (v := 0) hx hb dX7_plan_145 (by decide) ?_
                  refine wrVIa (rest := []) (q0 := 0) ⟨hx, hb, hml, hown, hts⟩ (m_X7_unsafeFrom l G y b (upd (upd (upd f 0 x23) 20 x24) 21 x25) (up2 (up2 (up2 (up2 (up2 (up2 (up2 (up2 (up2 r 10 x39) 15 x27) 16 x28) 17 x29) 18 x30) 19 x31) 22 x32) 23 x33) 29 x6) t 0 rw cl bk (by omega) (by omega) (by omega) (by omega) h2 h3 h12 (by omega) hG) mi_yX7_unsafeFrom mv_yX7_unsafeFrom ml_X7_230 ⟨rfl, rfl, Nat.le_of_ble_eq_true rfl, Nat.le_of_ble_eq_true rfl⟩ hK hP (hDD _ _) rfl rfl rfl hl.1 rfl (Nat.le_of_ble_eq_true rfl) dX7_plan_146 ⟨Nat.zero_le _, Nat.zero_le _⟩ hS hA (fun r42 w43 H locs hw43 hP hS => ?_)
                  obtain ⟨x44, x45, x46, x47, x48, x49, x50, x51, x52, rfl, hw43r⟩ := hw43
                  have hP : PP G (mM G y b (upd (upd (upd f 0 x23) 20 x44) 21 x45) (up2 (up2 (up2 (up2 (up2 (up2 (up2 (up2 (up2 r 10 x39) 15 x46) 16 x47) 17 x48) 18 x49) 19 x50) 22 x51) 23 x52) 29 x6)) H := hP
                  have hw43r : (r42 = -1 ∨ ∃ n, 0 ≤ n ∧ n < 144 ∧ r42 = nI n) := hw43r
                  refine lv_istore_n (lv' := [(3, .int r42), (2, .int v41), (4, .int r37), (0, .ref y), (1, .int (nI t))]) hx hb dX7_plan_149 rfl hl (by decide) rfl (fun ls hl => ?_)
                  refine lv_goto (tgt := 68) hx hb dX7_plan_150 (by decide) ?_
                  exact ih68k19 r42 v41 x23 x44 x45 x39 x46 x47 x48 x49 x50 x51 x52 (by have h9 := hw38r.2.resolve_left c40; omega) (hw43r.imp id (fun ⟨n, h1, h2, h3⟩ => ⟨n, h2, h3⟩)) _ _ _ hP hS (lv_sub hl [0, 1, 3, 4] rfl)
                · refine lv_iconst (v := 0) hx hb dX7_plan_93 (by decide) ?_
                  refine lv_istore (lv' := [(5, .int 0), (4, .int r37), (3, .int (nI n9)), (2, .int z22), (0, .ref y), (1, .int (nI t))]) hx hb dX7_plan_94 hl (by decide) rfl (fun ls hl => ?_)
                  have loop96 : ∀ (k53 n2 : Nat) (x54 : Nat → Int32), n2 ≤ 144 → 144 < n2 + k53 → ∀ (H : Heap) (locs : List Loc) (ls : Array Slot), PP G (mM G y b (upd (upd (upd f 0 x23) 20 x24) 21 x25) (up2 (up2 (up2 (up2 (up2 (up2 (up2 (up2 (up2 r 10 x54) 15 x27) 16 x28) 17 x29) 18 x30) 19 x31) 22 x32) 23 x33) 29 x6)) H → va_S A s.heap H locs → lv_has ls 6 [(5, .int (nI n2)), (0, .ref y), (1, .int (nI t))] → W p l e ({ frames := 7, cells := 0, slots := 0, locals := 179 }) s m ([.ref y, .int (nI t)] : List Value).toArray below meth c H locs 0 0 (MQ below (QwI G (fun q w => ∃ (n_f_0 : Int32) (n_f_20 : Int32) (n_f_21 : Int32) (n_r_10 : Nat → Int32) (n_r_15 : Nat → Int32) (n_r_16 : Nat → Int32) (n_r_17 : Nat → Int32) (n_r_18 : Nat → Int32) (n_r_19 : Nat → Int32) (n_r_22 : Nat → Int32) (n_r_23 : Nat → Int32) (n_r_29 : Nat → Int32), w = mM G y b (upd (upd (upd f 0 n_f_0) 20 n_f_20) 21 n_f_21) (up2 (up2 (up2 (up2 (up2 (up2 (up2 (up2 (up2 r 10 n_r_10) 15 n_r_15) 16 n_r_16) 17 n_r_17) 18 n_r_18) 19 n_r_19) 22 n_r_22) 23 n_r_23) 29 n_r_29)) A) ([.ref y, .int (nI t)] : List Value).toArray s 0 0 A) (F0 m 96 ls []) := by
                    intro k53
                    induction k53 with
                    | zero => intro n2 x54 h1 h2; exact absurd h1 (by omega)
                    | succ k53 ih96k53 =>
                      intro n2 x54 hi_n2 hk_n2  H locs ls hP hS hl
                      refine lv_iload hx hb dX7_plan_96 (lv_at hl 0 rfl) ?_
                      refine lv_sipush (v := 144) hx hb dX7_plan_98 (by decide) ?_
                      refine lv_icmp_ge (tgt := 130) hx hb dX7_plan_101 (by decide) (fun c55 => ?_) (fun c55 => ?_)
                      · have b101 := qge_t (a := n2) (b := 144) (by omega) (by omega) c55
                        refine lv_aload_n hx hb dX7_plan_130 rfl (lv_at hl 1 rfl) ?_
                        refine lv_bipush (v := 10) hx hb dX7_plan_131 (by decide) ?_
                        refine va_put (D := G.1) (ci := 7) (v := .int 10) (C := RX7) (T := TX7) (N := 43) hx hb hts inX7 tyX7 tyX7_ok nmX7 hown hK.1 hP (hDD _ _) hS 0 rfl rfl 0 (by decide) (hts _ mf_X7_116) (fun _ h9 => h9) rfl (tyX7_ok 0 (by decide)) (rfl) (rfl) (Nat.le_of_ble_eq_true rfl) dX7_plan_133 (fun H locs hP _ hS => ?_)
                        have hP : PP G (mM G y b (upd (upd (upd f 0 10) 20 x24) 21 x25) (up2 (up2 (up2 (up2 (up2 (up2 (up2 (up2 (up2 r 10 x54) 15 x27) 16 x28) 17 x29) 18 x30) 19 x31) 22 x32) 23 x33) 29 x6)) H := hP
                        refine lv_iconst (v := -1) hx hb dX7_plan_136 (by decide) ?_
                        exact wr_iret hx hb hr hlocks hS hP ⟨10, x24, x25, x54, x27, x28, x29, x30, x31, x32, x33, x6, rfl⟩ dX7_plan_137
                      · have b101 := qge_f (a := n2) (b := 144) (by omega) (by omega) c55
                        refine lv_aload_n hx hb dX7_plan_104 rfl (lv_at hl 1 rfl) ?_
                        refine va_get (D := G.1) (ci := 7) (v := .ref (b 10)) (C := RX7) (T := TX7) (N := 43) hx hb hts inX7 hown hK.1 hP 0 rfl rfl 10 (by decide) (hts _ mf_X7_38) (fun _ h9 => h9) rfl dX7_plan_105 ?_
                        refine lv_sipush (v := 144) hx hb dX7_plan_108 (by decide) ?_
                        refine lv_iload_n hx hb dX7_plan_111 rfl (lv_at hl 2 rfl) ?_
                        refine lv_imul hx hb dX7_plan_112 ?_
                        refine lv_topi (fun v56 ev56 => ?_)
                        obtain rfl : v56 = nI (144 * t) := nI_times ev56 rfl rfl
                        refine lv_iload hx hb dX7_plan_113 (lv_at hl 0 rfl) ?_
                        refine lv_iadd hx hb dX7_plan_115 ?_
                        refine lv_topi (fun v57 ev57 => ?_)
                        obtain rfl : v57 = nI ((144 * t) + n2) := nI_plus ev57 rfl rfl
                        refine lv_aload_n hx hb dX7_plan_116 rfl (lv_at hl 1 rfl) ?_
                        refine va_get (D := G.1) (ci := 7) (v := .ref (b 29)) (C := RX7) (T := TX7) (N := 43) hx hb hts inX7 hown hK.1 hP 0 rfl rfl 29 (by decide) (hts _ mf_X7_83) (fun _ h9 => h9) rfl dX7_plan_117 ?_
                        refine lv_iload hx hb dX7_plan_120 (lv_at hl 0 rfl) ?_
                        refine xzald (f := x6) hx hb hK hP 25 (n2) (rfl) (by omega) (by decide) rfl dX7_plan_122 ?_
                        refine lv_topi (fun v58 ev58 => ?_)
                        refine xzastn (f := x54) (x := v58) hx hb hK hP (hDD _ _) hS 10 (((144 * t) + n2)) (rfl) (by omega) (by decide) rfl dX7_plan_123 (fun H locs hP _ hS => ?_)
                        have hP : PP G (mM G y b (upd (upd (upd f 0 x23) 20 x24) 21 x25) (up2 (up2 (up2 (up2 (up2 (up2 (up2 (up2 (up2 r 10 (upd x54 (((144 * t) + n2)) ((vp_nar .boolean v58)))) 15 x27) 16 x28) 17 x29) 18 x30) 19 x31) 22 x32) 23 x33) 29 x6)) H := hP
                        obtain ⟨v59, ev59⟩ : ∃ y9 : Int32, y9 = (nI n2) + Int32.ofInt (1) := ⟨_, rfl⟩
                        refine lv_iinc (v := v59) (lv' := [(5, .int v59), (0, .ref y), (1, .int (nI t))]) hx hb dX7_plan_124 hl (k := 0) rfl ev59.symm (by decide) rfl (fun ls hl => ?_)
                        obtain rfl : v59 = nI (n2 + 1) := nI_plus (i := n2) (j := 1) ev59 rfl (by decide)
                        refine lv_goto (tgt := 96) hx hb dX7_plan_127 (by decide) ?_
                        exact ih96k53 (n2 + 1) (upd x54 (((144 * t) + n2)) ((vp_nar .boolean v58))) (by omega) (by omega) _ _ _ hP hS (lv_sub hl [0, 1, 2] rfl)
                  exact loop96 (144 + 1) 0 x39 (by omega) (by omega) _ _ _ hP hS (lv_sub hl [0, 4, 5] rfl)
          exact loop68 (cZ (r 10) 864 + 1) r8 0 0 x10 x11 (r 10) x12 x13 x14 x15 x16 x17 x18 (Nat.lt_succ_self _) (hw9r.imp id (fun ⟨n, h1, h2, h3⟩ => ⟨n, h2, h3⟩)) _ _ _ hP hS (lv_sub hl [0, 1, 2, 3] rfl)
        · have b32 := qge_f (a := n1) (b := 144) (by omega) (by omega) c7
          refine lv_aload_n hx hb dX7_plan_35 rfl (lv_at hl 1 rfl) ?_
          refine va_get (D := G.1) (ci := 7) (v := .ref (b 29)) (C := RX7) (T := TX7) (N := 43) hx hb hts inX7 hown hK.1 hP 0 rfl rfl 29 (by decide) (hts _ mf_X7_83) (fun _ h9 => h9) rfl dX7_plan_36 ?_
          refine lv_iload_n hx hb dX7_plan_39 rfl (lv_at hl 0 rfl) ?_
          refine lv_aload_n hx hb dX7_plan_40 rfl (lv_at hl 1 rfl) ?_
          refine va_get (D := G.1) (ci := 7) (v := .ref (b 10)) (C := RX7) (T := TX7) (N := 43) hx hb hts inX7 hown hK.1 hP 0 rfl rfl 10 (by decide) (hts _ mf_X7_38) (fun _ h9 => h9) rfl dX7_plan_41 ?_
          refine lv_sipush (v := 144) hx hb dX7_plan_44 (by decide) ?_
          refine lv_iload_n hx hb dX7_plan_47 rfl (lv_at hl 2 rfl) ?_
          refine lv_imul hx hb dX7_plan_48 ?_
          refine lv_topi (fun v60 ev60 => ?_)
          obtain rfl : v60 = nI (144 * t) := nI_times ev60 rfl rfl
          refine lv_iload_n hx hb dX7_plan_49 rfl (lv_at hl 0 rfl) ?_
          refine lv_iadd hx hb dX7_plan_50 ?_
          refine lv_topi (fun v61 ev61 => ?_)
          obtain rfl : v61 = nI ((144 * t) + n1) := nI_plus ev61 rfl rfl
          refine xzald (f := (r 10)) hx hb hK hP 10 (((144 * t) + n1)) (rfl) (by omega) (by decide) rfl dX7_plan_51 ?_
          refine lv_topi (fun v62 ev62 => ?_)
          refine xzastn (f := x6) (x := v62) hx hb hK hP (hDD _ _) hS 25 (n1) (rfl) (by omega) (by decide) rfl dX7_plan_52 (fun H locs hP _ hS => ?_)
          have hP : PP G (mM G y b (upd f 0 0) (up2 r 29 (upd x6 (n1) ((vp_nar .boolean v62))))) H := hP
          obtain ⟨v63, ev63⟩ : ∃ y9 : Int32, y9 = (nI n1) + Int32.ofInt (1) := ⟨_, rfl⟩
          refine lv_iinc (v := v63) (lv' := [(2, .int v63), (0, .ref y), (1, .int (nI t))]) hx hb dX7_plan_53 hl (k := 0) rfl ev63.symm (by decide) rfl (fun ls hl => ?_)
          obtain rfl : v63 = nI (n1 + 1) := nI_plus (i := n1) (j := 1) ev63 rfl (by decide)
          refine lv_goto (tgt := 28) hx hb dX7_plan_56 (by decide) ?_
          exact ih28k5 (n1 + 1) (upd x6 (n1) ((vp_nar .boolean v62))) (by omega) (by omega) _ _ _ hP hS (lv_sub hl [0, 1, 2] rfl)
    exact loop28 (144 + 1) 0 (r 29) (by omega) (by omega) _ _ _ hP hS (lv_sub hl [0, 1, 2] rfl)
set_option maxHeartbeats 4000000 in
set_option maxRecDepth 100000 in
theorem m_X7_give (l : Launch) (G : GG) (y : Nat) (b : Nat → Nat) (f : Nat → Int32) (r : Nat → Nat → Int32) (tb : Int32) (hM2 : nOK 6 12 (r 2)) (hM3 : nOK 6 12 (r 3)) (hM12 : nOK 6 12 (r 12)) (hG : nOK 864 6 (r 7)) (h42 : nL 16 (f 42)) (hgr : nOK 16 12 (r 40)) (hgc : nOK 16 12 (r 41)) : WrI l yX7_give cX7_give 6 (some .int) ({ frames := 7, cells := 0, slots := 0, locals := 179 }) G (mM G y b f r) [.ref y, .int tb] (fun q w => ∃ (n_f_0 : Int32) (n_f_20 : Int32) (n_f_21 : Int32) (n_f_42 : Int32) (n_r_15 : Nat → Int32) (n_r_16 : Nat → Int32) (n_r_17 : Nat → Int32) (n_r_18 : Nat → Int32) (n_r_19 : Nat → Int32) (n_r_22 : Nat → Int32) (n_r_23 : Nat → Int32) (n_r_39 : Nat → Int32) (n_r_40 : Nat → Int32) (n_r_41 : Nat → Int32), w = mM G y b (upd (upd (upd (upd f 0 n_f_0) 20 n_f_20) 21 n_f_21) 42 n_f_42) (up2 (up2 (up2 (up2 (up2 (up2 (up2 (up2 (up2 (up2 r 15 n_r_15) 16 n_r_16) 17 n_r_17) 18 n_r_18) 19 n_r_19) 22 n_r_22) 23 n_r_23) 39 n_r_39) 40 n_r_40) 41 n_r_41) ∧ (nL 16 n_f_42) ∧ (nOK 16 12 n_r_40) ∧ (nOK 16 12 n_r_41)) := by
  refine wr_entryI (by decide +kernel) (Nat.le_of_ble_eq_true rfl) ?_
  intro p e s m below meth c A C0 hP hK hD hA ls hl
  have hS : va_S A s.heap s.heap [] := va_S.rf
  obtain ⟨hx, hb, hml, hown, hts, hr, hlocks, hin⟩ := C0
  have hown : s.vm.findClass RX7 = some m.cls := hown
  have hDD : ∀ f' r', va_D A (mM G y b f' r') := fun f' r' => D_same hD rfl
  have hl : lv_has ls 6 [(0, .ref y), (1, .int tb)] := hl
  obtain ⟨gm, hgm, eg⟩ := h42
  have h42 : nL 16 (f 42) := ⟨gm, hgm, eg⟩
  refine lv_aload_n hx hb dX7_give_0 rfl (lv_at hl 0 rfl) ?_
  refine lv_aload_n hx hb dX7_give_1 rfl (lv_at hl 0 rfl) ?_
  refine lv_iload_n hx hb dX7_give_2 rfl (lv_at hl 1 rfl) ?_
  refine rdV (rest := [.ref y]) (q0 := 0) ⟨hx, hb, hml, hown, hts⟩ (m_X7_isTable l G y b f r tb  ) mi_yX7_isTable mv_yX7_isTable ml_X7_120 ⟨rfl, rfl, Nat.le_of_ble_eq_true rfl, Nat.le_of_ble_eq_true rfl⟩ hK (hP) rfl rfl rfl hl.1 rfl (Nat.le_of_ble_eq_true rfl) dX7_give_3 ⟨Nat.zero_le _, Nat.zero_le _⟩ hS hA hP (fun r1 H locs hr1 hP hS => ?_)
  have hr1 : ((r1 = 1 ∧ (opn (r 1) tb)) ∨ (r1 = 0 ∧ ¬ (opn (r 1) tb))) := hr1
  refine lv_if_ne (tgt := 13) hx hb dX7_give_6 (by decide) (fun c2 => ?_) (fun c2 => ?_)
  · have b6 := bT hr1 c2
    obtain ⟨t, ht, rfl, hop⟩ := b6
    obtain ⟨rw, hrw, h2⟩ := hM2 t ht
    obtain ⟨cl, hcl, h3⟩ := hM3 t ht
    obtain ⟨bk, hbk, h12⟩ := hM12 t ht
    refine lv_aload_n hx hb dX7_give_13 rfl (lv_at hl 0 rfl) ?_
    refine va_get (D := G.1) (ci := 7) (v := .int (f 42)) (C := RX7) (T := TX7) (N := 43) hx hb hts inX7 hown hK.1 hP 0 rfl rfl 42 (by decide) (hts _ mf_X7_274) (fun _ h9 => h9) rfl dX7_give_14 ?_
    rw [show (f 42) = nI (gm) from eg]
    refine lv_bipush (v := 16) hx hb dX7_give_17 (by decide) ?_
    refine lv_icmp_ne (tgt := 27) hx hb dX7_give_19 (by decide) (fun c3 => ?_) (fun c3 => ?_)
    · have b19 := qeq_f (a := (gm)) (b := 16) (by omega) (by omega) c3
      refine lv_aload_n hx hb dX7_give_27 rfl (lv_at hl 0 rfl) ?_
      refine lv_iload_n hx hb dX7_give_28 rfl (lv_at hl 1 rfl) ?_
      refine lv_iconst (v := 0) hx hb dX7_give_29 (by decide) ?_
      refine wrVIa (rest := [.ref y]) (q0 := 0) ⟨hx, hb, hml, hown, hts⟩ (m_X7_unsafeFrom l G y b f r t 0 rw cl bk (by omega) (by omega) (by omega) (by omega) h2 h3 h12 (by omega) hG) mi_yX7_unsafeFrom mv_yX7_unsafeFrom ml_X7_230 ⟨rfl, rfl, Nat.le_of_ble_eq_true rfl, Nat.le_of_ble_eq_true rfl⟩ hK hP (hDD _ _) rfl rfl rfl hl.1 rfl (Nat.le_of_ble_eq_true rfl) dX7_give_30 ⟨Nat.zero_le _, Nat.zero_le _⟩ hS hA (fun r4 w5 H locs hw5 hP hS => ?_)
      obtain ⟨x6, x7, x8, x9, x10, x11, x12, x13, x14, rfl, hw5r⟩ := hw5
      have hP : PP G (mM G y b (upd (upd f 20 x6) 21 x7) (up2 (up2 (up2 (up2 (up2 (up2 (up2 r 15 x8) 16 x9) 17 x10) 18 x11) 19 x12) 22 x13) 23 x14)) H := hP
      have hw5r : (r4 = -1 ∨ ∃ n, 0 ≤ n ∧ n < 144 ∧ r4 = nI n) := hw5r
      refine lv_iconst (v := -1) hx hb dX7_give_33 (by decide) ?_
      refine lv_icmp_eq (tgt := 42) hx hb dX7_give_34 (by decide) (fun c15 => ?_) (fun c15 => ?_)
      · refine lv_iconst (v := 0) hx hb dX7_give_42 (by decide) ?_
        refine va_put (D := G.1) (ci := 7) (v := .int 0) (C := RX7) (T := TX7) (N := 43) hx hb hts inX7 tyX7 tyX7_ok nmX7 hown hK.1 hP (hDD _ _) hS 0 rfl rfl 0 (by decide) (hts _ mf_X7_116) (fun _ h9 => h9) rfl (tyX7_ok 0 (by decide)) (rfl) (rfl) (Nat.le_of_ble_eq_true rfl) dX7_give_43 (fun H locs hP _ hS => ?_)
        have hP : PP G (mM G y b (upd (upd (upd f 0 0) 20 x6) 21 x7) (up2 (up2 (up2 (up2 (up2 (up2 (up2 r 15 x8) 16 x9) 17 x10) 18 x11) 19 x12) 22 x13) 23 x14)) H := hP
        refine lv_aload_n hx hb dX7_give_46 rfl (lv_at hl 0 rfl) ?_
        refine va_get (D := G.1) (ci := 7) (v := .int 0) (C := RX7) (T := TX7) (N := 43) hx hb hts inX7 hown hK.1 hP 0 rfl rfl 0 (by decide) (hts _ mf_X7_116) (fun _ h9 => h9) rfl dX7_give_47 ?_
        refine lv_if_le (tgt := 55) hx hb dX7_give_50 (by decide) (fun c16 => ?_) (fun c16 => absurd (by decide) c16)
        refine lv_aload_n hx hb dX7_give_55 rfl (lv_at hl 0 rfl) ?_
        refine va_get (D := G.1) (ci := 7) (v := .ref (b 40)) (C := RX7) (T := TX7) (N := 43) hx hb hts inX7 hown hK.1 hP 0 rfl rfl 40 (by decide) (hts _ mf_X7_110) (fun _ h9 => h9) rfl dX7_give_56 ?_
        refine lv_aload_n hx hb dX7_give_59 rfl (lv_at hl 0 rfl) ?_
        refine va_get (D := G.1) (ci := 7) (v := .int (f 42)) (C := RX7) (T := TX7) (N := 43) hx hb hts inX7 hown hK.1 hP 0 rfl rfl 42 (by decide) (hts _ mf_X7_274) (fun _ h9 => h9) rfl dX7_give_60 ?_
        rw [show (f 42) = nI (gm) from eg]
        refine lv_aload_n hx hb dX7_give_63 rfl (lv_at hl 0 rfl) ?_
        refine va_get (D := G.1) (ci := 7) (v := .ref (b 2)) (C := RX7) (T := TX7) (N := 43) hx hb hts inX7 hown hK.1 hP 0 rfl rfl 2 (by decide) (hts _ mf_X7_13) (fun _ h9 => h9) rfl dX7_give_64 ?_
        refine lv_iload_n hx hb dX7_give_67 rfl (lv_at hl 1 rfl) ?_
        refine xiald (f := (r 2)) hx hb hK hP 2 (t) (rfl) (by omega) (by decide) rfl dX7_give_68 ?_
        refine lv_topi (fun v17 ev17 => ?_)
        obtain rfl : v17 = nI (rw) := ev17.trans (h2)
        refine xiast (f := (r 40)) (x := (nI (rw))) hx hb hK hP (hDD _ _) hS 34 ((gm)) (rfl) (by omega) (by decide) rfl dX7_give_69 (fun H locs hP _ hS => ?_)
        have hP : PP G (mM G y b (upd (upd (upd f 0 0) 20 x6) 21 x7) (up2 (up2 (up2 (up2 (up2 (up2 (up2 (up2 r 15 x8) 16 x9) 17 x10) 18 x11) 19 x12) 22 x13) 23 x14) 40 (upd (r 40) ((gm)) ((nI (rw)))))) H := hP
        have hgr : nOK 16 12 (upd (r 40) ((gm)) ((nI (rw)))) := nOK_u hgr hrw
        refine lv_aload_n hx hb dX7_give_70 rfl (lv_at hl 0 rfl) ?_
        refine va_get (D := G.1) (ci := 7) (v := .ref (b 41)) (C := RX7) (T := TX7) (N := 43) hx hb hts inX7 hown hK.1 hP 0 rfl rfl 41 (by decide) (hts _ mf_X7_113) (fun _ h9 => h9) rfl dX7_give_71 ?_
        refine lv_aload_n hx hb dX7_give_74 rfl (lv_at hl 0 rfl) ?_
        refine va_get (D := G.1) (ci := 7) (v := .int (f 42)) (C := RX7) (T := TX7) (N := 43) hx hb hts inX7 hown hK.1 hP 0 rfl rfl 42 (by decide) (hts _ mf_X7_274) (fun _ h9 => h9) rfl dX7_give_75 ?_
        rw [show (f 42) = nI (gm) from eg]
        refine lv_aload_n hx hb dX7_give_78 rfl (lv_at hl 0 rfl) ?_
        refine va_get (D := G.1) (ci := 7) (v := .ref (b 3)) (C := RX7) (T := TX7) (N := 43) hx hb hts inX7 hown hK.1 hP 0 rfl rfl 3 (by decide) (hts _ mf_X7_17) (fun _ h9 => h9) rfl dX7_give_79 ?_
        refine lv_iload_n hx hb dX7_give_82 rfl (lv_at hl 1 rfl) ?_
        refine xiald (f := (r 3)) hx hb hK hP 3 (t) (rfl) (by omega) (by decide) rfl dX7_give_83 ?_
        refine lv_topi (fun v18 ev18 => ?_)
        obtain rfl : v18 = nI (cl) := ev18.trans (h3)
        refine xiast (f := (r 41)) (x := (nI (cl))) hx hb hK hP (hDD _ _) hS 35 ((gm)) (rfl) (by omega) (by decide) rfl dX7_give_84 (fun H locs hP _ hS => ?_)
        have hP : PP G (mM G y b (upd (upd (upd f 0 0) 20 x6) 21 x7) (up2 (up2 (up2 (up2 (up2 (up2 (up2 (up2 (up2 r 15 x8) 16 x9) 17 x10) 18 x11) 19 x12) 22 x13) 23 x14) 40 (upd (r 40) ((gm)) ((nI (rw))))) 41 (upd (r 41) ((gm)) ((nI (cl)))))) H := hP
        have hgc : nOK 16 12 (upd (r 41) ((gm)) ((nI (cl)))) := nOK_u hgc hcl
        refine lv_iconst (v := 0) hx hb dX7_give_85 (by decide) ?_
        refine lv_istore_n (lv' := [(2, .int 0), (0, .ref y), (1, .int (nI t))]) hx hb dX7_give_86 rfl hl (by decide) rfl (fun ls hl => ?_)
        have loop87 : ∀ (k19 i : Nat) (x20 : Nat → Int32), i ≤ rw → rw < i + k19 → ∀ (H : Heap) (locs : List Loc) (ls : Array Slot), PP G (mM G y b (upd (upd (upd f 0 0) 20 x6) 21 x7) (up2 (up2 (up2 (up2 (up2 (up2 (up2 (up2 (up2 (up2 r 15 x8) 16 x9) 17 x10) 18 x11) 19 x12) 22 x13) 23 x14) 39 x20) 40 (upd (r 40) ((gm)) ((nI (rw))))) 41 (upd (r 41) ((gm)) ((nI (cl)))))) H → va_S A s.heap H locs → lv_has ls 6 [(2, .int (nI i)), (0, .ref y), (1, .int (nI t))] → W p l e ({ frames := 7, cells := 0, slots := 0, locals := 179 }) s m ([.ref y, .int (nI t)] : List Value).toArray below meth c H locs 0 0 (MQ below (QwI G (fun q w => ∃ (n_f_0 : Int32) (n_f_20 : Int32) (n_f_21 : Int32) (n_f_42 : Int32) (n_r_15 : Nat → Int32) (n_r_16 : Nat → Int32) (n_r_17 : Nat → Int32) (n_r_18 : Nat → Int32) (n_r_19 : Nat → Int32) (n_r_22 : Nat → Int32) (n_r_23 : Nat → Int32) (n_r_39 : Nat → Int32) (n_r_40 : Nat → Int32) (n_r_41 : Nat → Int32), w = mM G y b (upd (upd (upd (upd f 0 n_f_0) 20 n_f_20) 21 n_f_21) 42 n_f_42) (up2 (up2 (up2 (up2 (up2 (up2 (up2 (up2 (up2 (up2 r 15 n_r_15) 16 n_r_16) 17 n_r_17) 18 n_r_18) 19 n_r_19) 22 n_r_22) 23 n_r_23) 39 n_r_39) 40 n_r_40) 41 n_r_41) ∧ (nL 16 n_f_42) ∧ (nOK 16 12 n_r_40) ∧ (nOK 16 12 n_r_41)) A) ([.ref y, .int (nI t)] : List Value).toArray s 0 0 A) (F0 m 87 ls []) := by
          intro k19
          induction k19 with
          | zero => intro i x20 h1 h2; exact absurd h1 (by omega)
          | succ k19 ih87k19 =>
            intro i x20 hi_i hk_i  H locs ls hP hS hl
            refine lv_iload_n hx hb dX7_give_87 rfl (lv_at hl 0 rfl) ?_
            refine lv_aload_n hx hb dX7_give_88 rfl (lv_at hl 1 rfl) ?_
            refine va_get (D := G.1) (ci := 7) (v := .ref (b 2)) (C := RX7) (T := TX7) (N := 43) hx hb hts inX7 hown hK.1 hP 0 rfl rfl 2 (by decide) (hts _ mf_X7_13) (fun _ h9 => h9) rfl dX7_give_89 ?_
            refine lv_iload_n hx hb dX7_give_92 rfl (lv_at hl 2 rfl) ?_
            refine xiald (f := (r 2)) hx hb hK hP 2 (t) (rfl) (by omega) (by decide) rfl dX7_give_93 ?_
            refine lv_topi (fun v21 ev21 => ?_)
            obtain rfl : v21 = nI (rw) := ev21.trans (h2)
            refine lv_icmp_ge (tgt := 191) hx hb dX7_give_94 (by decide) (fun c22 => ?_) (fun c22 => ?_)
            · have b94 := qge_t (a := i) (b := (rw)) (by omega) (by omega) c22
              refine lv_aload_n hx hb dX7_give_191 rfl (lv_at hl 1 rfl) ?_
              refine lv_dup hx hb dX7_give_192 rfl ?_
              refine va_get (D := G.1) (ci := 7) (v := .int (f 42)) (C := RX7) (T := TX7) (N := 43) hx hb hts inX7 hown hK.1 hP 0 rfl rfl 42 (by decide) (hts _ mf_X7_274) (fun _ h9 => h9) rfl dX7_give_193 ?_
              rw [show (f 42) = nI (gm) from eg]
              refine lv_iconst (v := 1) hx hb dX7_give_196 (by decide) ?_
              refine lv_iadd hx hb dX7_give_197 ?_
              refine lv_topi (fun v23 ev23 => ?_)
              obtain rfl : v23 = nI ((gm) + 1) := nI_plus ev23 rfl rfl
              refine va_put (D := G.1) (ci := 7) (v := .int (nI ((gm) + 1))) (C := RX7) (T := TX7) (N := 43) hx hb hts inX7 tyX7 tyX7_ok nmX7 hown hK.1 hP (hDD _ _) hS 0 rfl rfl 42 (by decide) (hts _ mf_X7_274) (fun _ h9 => h9) rfl (tyX7_ok 42 (by decide)) (rfl) (rfl) (Nat.le_of_ble_eq_true rfl) dX7_give_198 (fun H locs hP _ hS => ?_)
              have hP : PP G (mM G y b (upd (upd (upd (upd f 0 0) 20 x6) 21 x7) 42 (nI ((gm) + 1))) (up2 (up2 (up2 (up2 (up2 (up2 (up2 (up2 (up2 (up2 r 15 x8) 16 x9) 17 x10) 18 x11) 19 x12) 22 x13) 23 x14) 39 x20) 40 (upd (r 40) ((gm)) ((nI (rw))))) 41 (upd (r 41) ((gm)) ((nI (cl)))))) H := hP
              have h42 : nL 16 (nI ((gm) + 1)) := ⟨gm + 1, by omega, rfl⟩
              refine lv_aload_n hx hb dX7_give_201 rfl (lv_at hl 1 rfl) ?_
              refine va_get (D := G.1) (ci := 7) (v := .int (nI ((gm) + 1))) (C := RX7) (T := TX7) (N := 43) hx hb hts inX7 hown hK.1 hP 0 rfl rfl 42 (by decide) (hts _ mf_X7_274) (fun _ h9 => h9) rfl dX7_give_202 ?_
              refine lv_iconst (v := 1) hx hb dX7_give_205 (by decide) ?_
              refine lv_isub hx hb dX7_give_206 ?_
              refine lv_topi (fun v24 ev24 => ?_)
              exact wr_iret hx hb hr hlocks hS hP ⟨0, x6, x7, (nI ((gm) + 1)), x8, x9, x10, x11, x12, x13, x14, x20, (upd (r 40) ((gm)) ((nI (rw)))), (upd (r 41) ((gm)) ((nI (cl)))), rfl, h42, hgr, hgc⟩ dX7_give_207
            · have b94 := qge_f (a := i) (b := (rw)) (by omega) (by omega) c22
              refine lv_aload_n hx hb dX7_give_97 rfl (lv_at hl 1 rfl) ?_
              refine lv_iload_n hx hb dX7_give_98 rfl (lv_at hl 2 rfl) ?_
              refine lv_iload_n hx hb dX7_give_99 rfl (lv_at hl 0 rfl) ?_
              refine rdV (rest := []) (q0 := 0) ⟨hx, hb, hml, hown, hts⟩ (m_X7_isSound l G y b (upd (upd (upd f 0 0) 20 x6) 21 x7) (up2 (up2 (up2 (up2 (up2 (up2 (up2 (up2 (up2 (up2 r 15 x8) 16 x9) 17 x10) 18 x11) 19 x12) 22 x13) 23 x14) 39 x20) 40 (upd (r 40) ((gm)) ((nI (rw))))) 41 (upd (r 41) ((gm)) ((nI (cl))))) t i rw cl bk (by omega) (by omega) (by omega) (by omega) h2 h3 h12 (by omega)) mi_yX7_isSound mv_yX7_isSound ml_X7_161 ⟨rfl, rfl, Nat.le_of_ble_eq_true rfl, Nat.le_of_ble_eq_true rfl⟩ hK (hP) rfl rfl rfl hl.1 rfl (Nat.le_of_ble_eq_true rfl) dX7_give_100 ⟨Nat.zero_le _, Nat.zero_le _⟩ hS hA hP (fun r25 H locs hr25 hP hS => ?_)
              have hr25 : ((r25 = 1 ∧ (sndN ((r 3) t) (r 11) (r 5) t i)) ∨ (r25 = 0 ∧ ¬ (sndN ((r 3) t) (r 11) (r 5) t i))) := hr25
              refine lv_istore_n (lv' := [(3, .int r25), (2, .int (nI i)), (0, .ref y), (1, .int (nI t))]) hx hb dX7_give_103 rfl hl (by decide) rfl (fun ls hl => ?_)
              refine lv_iconst (v := 0) hx hb dX7_give_104 (by decide) ?_
              refine lv_istore (lv' := [(4, .int 0), (3, .int r25), (2, .int (nI i)), (0, .ref y), (1, .int (nI t))]) hx hb dX7_give_105 hl (by decide) rfl (fun ls hl => ?_)
              have loop107 : ∀ (k26 k : Nat) (x27 : Nat → Int32), k ≤ cl → cl < k + k26 → ∀ (H : Heap) (locs : List Loc) (ls : Array Slot), PP G (mM G y b (upd (upd (upd f 0 0) 20 x6) 21 x7) (up2 (up2 (up2 (up2 (up2 (up2 (up2 (up2 (up2 (up2 r 15 x8) 16 x9) 17 x10) 18 x11) 19 x12) 22 x13) 23 x14) 39 x27) 40 (upd (r 40) ((gm)) ((nI (rw))))) 41 (upd (r 41) ((gm)) ((nI (cl)))))) H → va_S A s.heap H locs → lv_has ls 6 [(4, .int (nI k)), (3, .int r25), (2, .int (nI i)), (0, .ref y), (1, .int (nI t))] → W p l e ({ frames := 7, cells := 0, slots := 0, locals := 179 }) s m ([.ref y, .int (nI t)] : List Value).toArray below meth c H locs 0 0 (MQ below (QwI G (fun q w => ∃ (n_f_0 : Int32) (n_f_20 : Int32) (n_f_21 : Int32) (n_f_42 : Int32) (n_r_15 : Nat → Int32) (n_r_16 : Nat → Int32) (n_r_17 : Nat → Int32) (n_r_18 : Nat → Int32) (n_r_19 : Nat → Int32) (n_r_22 : Nat → Int32) (n_r_23 : Nat → Int32) (n_r_39 : Nat → Int32) (n_r_40 : Nat → Int32) (n_r_41 : Nat → Int32), w = mM G y b (upd (upd (upd (upd f 0 n_f_0) 20 n_f_20) 21 n_f_21) 42 n_f_42) (up2 (up2 (up2 (up2 (up2 (up2 (up2 (up2 (up2 (up2 r 15 n_r_15) 16 n_r_16) 17 n_r_17) 18 n_r_18) 19 n_r_19) 22 n_r_22) 23 n_r_23) 39 n_r_39) 40 n_r_40) 41 n_r_41) ∧ (nL 16 n_f_42) ∧ (nOK 16 12 n_r_40) ∧ (nOK 16 12 n_r_41)) A) ([.ref y, .int (nI t)] : List Value).toArray s 0 0 A) (F0 m 107 ls []) := by
                intro k26
                induction k26 with
                | zero => intro k x27 h1 h2; exact absurd h1 (by omega)
                | succ k26 ih107k26 =>
                  intro k x27 hi_k hk_k  H locs ls hP hS hl
                  refine lv_iload hx hb dX7_give_107 (lv_at hl 0 rfl) ?_
                  refine lv_aload_n hx hb dX7_give_109 rfl (lv_at hl 3 rfl) ?_
                  refine va_get (D := G.1) (ci := 7) (v := .ref (b 3)) (C := RX7) (T := TX7) (N := 43) hx hb hts inX7 hown hK.1 hP 0 rfl rfl 3 (by decide) (hts _ mf_X7_17) (fun _ h9 => h9) rfl dX7_give_110 ?_
                  refine lv_iload_n hx hb dX7_give_113 rfl (lv_at hl 4 rfl) ?_
                  refine xiald (f := (r 3)) hx hb hK hP 3 (t) (rfl) (by omega) (by decide) rfl dX7_give_114 ?_
                  refine lv_topi (fun v28 ev28 => ?_)
                  obtain rfl : v28 = nI (cl) := ev28.trans (h3)
                  refine lv_icmp_ge (tgt := 185) hx hb dX7_give_115 (by decide) (fun c29 => ?_) (fun c29 => ?_)
                  · have b115 := qge_t (a := k) (b := (cl)) (by omega) (by omega) c29
                    obtain ⟨v30, ev30⟩ : ∃ y9 : Int32, y9 = (nI i) + Int32.ofInt (1) := ⟨_, rfl⟩
                    refine lv_iinc (v := v30) (lv' := [(2, .int v30), (4, .int (nI k)), (3, .int r25), (0, .ref y), (1, .int (nI t))]) hx hb dX7_give_185 hl (k := 2) rfl ev30.symm (by decide) rfl (fun ls hl => ?_)
                    obtain rfl : v30 = nI (i + 1) := nI_plus (i := i) (j := 1) ev30 rfl (by decide)
                    refine lv_goto (tgt := 87) hx hb dX7_give_188 (by decide) ?_
                    exact ih87k19 (i + 1) x27 (by omega) (by omega) _ _ _ hP hS (lv_sub hl [0, 3, 4] rfl)
                  · have b115 := qge_f (a := k) (b := (cl)) (by omega) (by omega) c29
                    refine lv_iload_n hx hb dX7_give_118 rfl (lv_at hl 4 rfl) ?_
                    refine lv_iload_n hx hb dX7_give_119 rfl (lv_at hl 2 rfl) ?_
                    refine lv_iload hx hb dX7_give_120 (lv_at hl 0 rfl) ?_
                    refine rdS (rest := []) ⟨hx, hb, hml, hown, hts⟩ (m_X7_at l G y b (upd (upd (upd f 0 0) 20 x6) 21 x7) (up2 (up2 (up2 (up2 (up2 (up2 (up2 (up2 (up2 (up2 r 15 x8) 16 x9) 17 x10) 18 x11) 19 x12) 22 x13) 23 x14) 39 x27) 40 (upd (r 40) ((gm)) ((nI (rw))))) 41 (upd (r 41) ((gm)) ((nI (cl))))) t i k  ) mi_yX7_at mst_yX7_at ml_X7_147 ⟨rfl, rfl, Nat.le_of_ble_eq_true rfl, Nat.le_of_ble_eq_true rfl⟩ hK (hP) rfl hl.1 rfl (Nat.le_of_ble_eq_true rfl) dX7_give_122 ⟨Nat.zero_le _, Nat.zero_le _⟩ hS hA hP (fun r31 H locs hr31 hP hS => ?_)
                    obtain rfl := hr31
                    refine lv_istore (lv' := [(5, .int (nI (144 * t + 12 * i + k))), (4, .int (nI k)), (3, .int r25), (2, .int (nI i)), (0, .ref y), (1, .int (nI t))]) hx hb dX7_give_125 hl (by decide) rfl (fun ls hl => ?_)
                    refine lv_aload_n hx hb dX7_give_127 rfl (lv_at hl 4 rfl) ?_
                    refine va_get (D := G.1) (ci := 7) (v := .ref (b 39)) (C := RX7) (T := TX7) (N := 43) hx hb hts inX7 hown hK.1 hP 0 rfl rfl 39 (by decide) (hts _ mf_X7_107) (fun _ h9 => h9) rfl dX7_give_128 ?_
                    refine lv_sipush (v := 144) hx hb dX7_give_131 (by decide) ?_
                    refine lv_aload_n hx hb dX7_give_134 rfl (lv_at hl 4 rfl) ?_
                    refine va_get (D := G.1) (ci := 7) (v := .int (f 42)) (C := RX7) (T := TX7) (N := 43) hx hb hts inX7 hown hK.1 hP 0 rfl rfl 42 (by decide) (hts _ mf_X7_274) (fun _ h9 => h9) rfl dX7_give_135 ?_
                    rw [show (f 42) = nI (gm) from eg]
                    refine lv_imul hx hb dX7_give_138 ?_
                    refine lv_topi (fun v32 ev32 => ?_)
                    obtain rfl : v32 = nI (144 * (gm)) := nI_times ev32 rfl rfl
                    refine lv_bipush (v := 12) hx hb dX7_give_139 (by decide) ?_
                    refine lv_iload_n hx hb dX7_give_141 rfl (lv_at hl 3 rfl) ?_
                    refine lv_imul hx hb dX7_give_142 ?_
                    refine lv_topi (fun v33 ev33 => ?_)
                    obtain rfl : v33 = nI (12 * i) := nI_times ev33 rfl rfl
                    refine lv_iadd hx hb dX7_give_143 ?_
                    refine lv_topi (fun v34 ev34 => ?_)
                    obtain rfl : v34 = nI ((144 * (gm)) + (12 * i)) := nI_plus ev34 rfl rfl
                    refine lv_iload hx hb dX7_give_144 (lv_at hl 1 rfl) ?_
                    refine lv_iadd hx hb dX7_give_146 ?_
                    refine lv_topi (fun v35 ev35 => ?_)
                    obtain rfl : v35 = nI (((144 * (gm)) + (12 * i)) + k) := nI_plus ev35 rfl rfl
                    refine lv_iload_n hx hb dX7_give_147 rfl (lv_at hl 2 rfl) ?_
                    have j178_36 : ∀ (z36 : Int32) (H : Heap) (locs : List Loc) (ls : Array Slot), PP G (mM G y b (upd (upd (upd f 0 0) 20 x6) 21 x7) (up2 (up2 (up2 (up2 (up2 (up2 (up2 (up2 (up2 (up2 r 15 x8) 16 x9) 17 x10) 18 x11) 19 x12) 22 x13) 23 x14) 39 x27) 40 (upd (r 40) ((gm)) ((nI (rw))))) 41 (upd (r 41) ((gm)) ((nI (cl)))))) H → va_S A s.heap H locs → lv_has ls 6 [(4, .int (nI k)), (3, .int r25), (2, .int (nI i)), (0, .ref y), (1, .int (nI t))] → W p l e ({ frames := 7, cells := 0, slots := 0, locals := 179 }) s m ([.ref y, .int (nI t)] : List Value).toArray below meth c H locs 0 0 (MQ below (QwI G (fun q w => ∃ (n_f_0 : Int32) (n_f_20 : Int32) (n_f_21 : Int32) (n_f_42 : Int32) (n_r_15 : Nat → Int32) (n_r_16 : Nat → Int32) (n_r_17 : Nat → Int32) (n_r_18 : Nat → Int32) (n_r_19 : Nat → Int32) (n_r_22 : Nat → Int32) (n_r_23 : Nat → Int32) (n_r_39 : Nat → Int32) (n_r_40 : Nat → Int32) (n_r_41 : Nat → Int32), w = mM G y b (upd (upd (upd (upd f 0 n_f_0) 20 n_f_20) 21 n_f_21) 42 n_f_42) (up2 (up2 (up2 (up2 (up2 (up2 (up2 (up2 (up2 (up2 r 15 n_r_15) 16 n_r_16) 17 n_r_17) 18 n_r_18) 19 n_r_19) 22 n_r_22) 23 n_r_23) 39 n_r_39) 40 n_r_40) 41 n_r_41) ∧ (nL 16 n_f_42) ∧ (nOK 16 12 n_r_40) ∧ (nOK 16 12 n_r_41)) A) ([.ref y, .int (nI t)] : List Value).toArray s 0 0 A) (F0 m 178 ls [.int z36, .int (nI (((144 * (gm)) + (12 * i)) + k)), .ref (b 39)]) := by
                      intro z36  H locs ls hP hS hl
                      refine xiast (f := x27) (x := z36) hx hb hK hP (hDD _ _) hS 33 ((((144 * (gm)) + (12 * i)) + k)) (rfl) (by omega) (by decide) rfl dX7_give_178 (fun H locs hP _ hS => ?_)
                      have hP : PP G (mM G y b (upd (upd (upd f 0 0) 20 x6) 21 x7) (up2 (up2 (up2 (up2 (up2 (up2 (up2 (up2 (up2 (up2 r 15 x8) 16 x9) 17 x10) 18 x11) 19 x12) 22 x13) 23 x14) 39 (upd x27 ((((144 * (gm)) + (12 * i)) + k)) (z36))) 40 (upd (r 40) ((gm)) ((nI (rw))))) 41 (upd (r 41) ((gm)) ((nI (cl)))))) H := hP
                      obtain ⟨v37, ev37⟩ : ∃ y9 : Int32, y9 = (nI k) + Int32.ofInt (1) := ⟨_, rfl⟩
                      refine lv_iinc (v := v37) (lv' := [(4, .int v37), (3, .int r25), (2, .int (nI i)), (0, .ref y), (1, .int (nI t))]) hx hb dX7_give_179 hl (k := 0) rfl ev37.symm (by decide) rfl (fun ls hl => ?_)
                      obtain rfl : v37 = nI (k + 1) := nI_plus (i := k) (j := 1) ev37 rfl (by decide)
                      refine lv_goto (tgt := 107) hx hb dX7_give_182 (by decide) ?_
                      exact ih107k26 (k + 1) (upd x27 ((((144 * (gm)) + (12 * i)) + k)) (z36)) (by omega) (by omega) _ _ _ hP hS (lv_sub hl [0, 1, 2, 3, 4] rfl)
                    refine lv_if_ne (tgt := 156) hx hb dX7_give_148 (by decide) (fun c38 => ?_) (fun c38 => ?_)
                    · refine lv_aload_n hx hb dX7_give_156 rfl (lv_at hl 4 rfl) ?_
                      refine lv_iload_n hx hb dX7_give_157 rfl (lv_at hl 5 rfl) ?_
                      refine lv_iload hx hb dX7_give_158 (lv_at hl 0 rfl) ?_
                      refine rdV (rest := [.int (nI (((144 * (gm)) + (12 * i)) + k)), .ref (b 39)]) (q0 := 0) ⟨hx, hb, hml, hown, hts⟩ (m_X7_isKept l G y b (upd (upd (upd f 0 0) 20 x6) 21 x7) (up2 (up2 (up2 (up2 (up2 (up2 (up2 (up2 (up2 (up2 r 15 x8) 16 x9) 17 x10) 18 x11) 19 x12) 22 x13) 23 x14) 39 x27) 40 (upd (r 40) ((gm)) ((nI (rw))))) 41 (upd (r 41) ((gm)) ((nI (cl))))) t (144 * t + 12 * i + k)  (by omega) (by omega) hG) mi_yX7_isKept mv_yX7_isKept ml_X7_181 ⟨rfl, rfl, Nat.le_of_ble_eq_true rfl, Nat.le_of_ble_eq_true rfl⟩ hK (hP) rfl rfl rfl hl.1 rfl (Nat.le_of_ble_eq_true rfl) dX7_give_160 ⟨Nat.zero_le _, Nat.zero_le _⟩ hS hA hP (fun r39 H locs hr39 hP hS => ?_)
                      have hr39 : ((r39 = 0 ∨ r39 = 1) ∧ (r39 = 0 → (r 5) (144 * t + 12 * i + k) = 4 ∨ (r 10) (144 * t + 12 * i + k) = 0)) := hr39
                      refine lv_if_eq (tgt := 171) hx hb dX7_give_163 (by decide) (fun c40 => ?_) (fun c40 => ?_)
                      · refine lv_aload_n hx hb dX7_give_171 rfl (lv_at hl 4 rfl) ?_
                        refine va_get (D := G.1) (ci := 7) (v := .ref (b 6)) (C := RX7) (T := TX7) (N := 43) hx hb hts inX7 hown hK.1 hP 0 rfl rfl 6 (by decide) (hts _ mf_X7_26) (fun _ h9 => h9) rfl dX7_give_172 ?_
                        refine lv_iload hx hb dX7_give_175 (lv_at hl 0 rfl) ?_
                        refine xiald (f := (r 6)) hx hb hK hP 6 ((144 * t + 12 * i + k)) (rfl) (by omega) (by decide) rfl dX7_give_177 ?_
                        refine lv_topi (fun v41 ev41 => ?_)
                        exact j178_36 v41 _ _ _ hP hS (lv_sub hl [1, 2, 3, 4, 5] rfl)
                      · refine lv_bipush (v := -2) hx hb dX7_give_166 (by decide) ?_
                        refine lv_goto (tgt := 178) hx hb dX7_give_168 (by decide) ?_
                        exact j178_36 (-2) _ _ _ hP hS (lv_sub hl [1, 2, 3, 4, 5] rfl)
                    · refine lv_bipush (v := -3) hx hb dX7_give_151 (by decide) ?_
                      refine lv_goto (tgt := 178) hx hb dX7_give_153 (by decide) ?_
                      exact j178_36 (-3) _ _ _ hP hS (lv_sub hl [1, 2, 3, 4, 5] rfl)
              exact loop107 (cl + 1) 0 x20 (by omega) (by omega) _ _ _ hP hS (lv_sub hl [0, 1, 2, 3, 4] rfl)
        exact loop87 (rw + 1) 0 (r 39) (by omega) (by omega) _ _ _ hP hS (lv_sub hl [0, 1, 2] rfl)
      · refine lv_bipush (v := 10) hx hb dX7_give_37 (by decide) ?_
        refine lv_goto (tgt := 43) hx hb dX7_give_39 (by decide) ?_
        refine va_put (D := G.1) (ci := 7) (v := .int 10) (C := RX7) (T := TX7) (N := 43) hx hb hts inX7 tyX7 tyX7_ok nmX7 hown hK.1 hP (hDD _ _) hS 0 rfl rfl 0 (by decide) (hts _ mf_X7_116) (fun _ h9 => h9) rfl (tyX7_ok 0 (by decide)) (rfl) (rfl) (Nat.le_of_ble_eq_true rfl) dX7_give_43 (fun H locs hP _ hS => ?_)
        have hP : PP G (mM G y b (upd (upd (upd f 0 10) 20 x6) 21 x7) (up2 (up2 (up2 (up2 (up2 (up2 (up2 r 15 x8) 16 x9) 17 x10) 18 x11) 19 x12) 22 x13) 23 x14)) H := hP
        refine lv_aload_n hx hb dX7_give_46 rfl (lv_at hl 0 rfl) ?_
        refine va_get (D := G.1) (ci := 7) (v := .int 10) (C := RX7) (T := TX7) (N := 43) hx hb hts inX7 hown hK.1 hP 0 rfl rfl 0 (by decide) (hts _ mf_X7_116) (fun _ h9 => h9) rfl dX7_give_47 ?_
        refine lv_if_le (tgt := 55) hx hb dX7_give_50 (by decide) (fun c42 => absurd c42 (by decide)) (fun c42 => ?_)
        refine lv_iconst (v := -1) hx hb dX7_give_53 (by decide) ?_
        exact wr_iret hx hb hr hlocks hS hP ⟨10, x6, x7, (f 42), x8, x9, x10, x11, x12, x13, x14, (r 39), (r 40), (r 41), rfl, h42, hgr, hgc⟩ dX7_give_54
    · have b19 := qeq_t (a := (gm)) (b := 16) (by omega) (by omega) c3
      refine lv_bipush (v := 8) hx hb dX7_give_22 (by decide) ?_
      refine lv_goto (tgt := 43) hx hb dX7_give_24 (by decide) ?_
      refine va_put (D := G.1) (ci := 7) (v := .int 8) (C := RX7) (T := TX7) (N := 43) hx hb hts inX7 tyX7 tyX7_ok nmX7 hown hK.1 hP (hDD _ _) hS 0 rfl rfl 0 (by decide) (hts _ mf_X7_116) (fun _ h9 => h9) rfl (tyX7_ok 0 (by decide)) (rfl) (rfl) (Nat.le_of_ble_eq_true rfl) dX7_give_43 (fun H locs hP _ hS => ?_)
      have hP : PP G (mM G y b (upd f 0 8) r) H := hP
      refine lv_aload_n hx hb dX7_give_46 rfl (lv_at hl 0 rfl) ?_
      refine va_get (D := G.1) (ci := 7) (v := .int 8) (C := RX7) (T := TX7) (N := 43) hx hb hts inX7 hown hK.1 hP 0 rfl rfl 0 (by decide) (hts _ mf_X7_116) (fun _ h9 => h9) rfl dX7_give_47 ?_
      refine lv_if_le (tgt := 55) hx hb dX7_give_50 (by decide) (fun c43 => absurd c43 (by decide)) (fun c43 => ?_)
      refine lv_iconst (v := -1) hx hb dX7_give_53 (by decide) ?_
      exact wr_iret hx hb hr hlocks hS hP ⟨8, (f 20), (f 21), (f 42), (r 15), (r 16), (r 17), (r 18), (r 19), (r 22), (r 23), (r 39), (r 40), (r 41), rfl, h42, hgr, hgc⟩ dX7_give_54
  · have b6 := bF hr1 c2
    refine lv_iconst (v := 1) hx hb dX7_give_9 (by decide) ?_
    refine lv_goto (tgt := 43) hx hb dX7_give_10 (by decide) ?_
    refine va_put (D := G.1) (ci := 7) (v := .int 1) (C := RX7) (T := TX7) (N := 43) hx hb hts inX7 tyX7 tyX7_ok nmX7 hown hK.1 hP (hDD _ _) hS 0 rfl rfl 0 (by decide) (hts _ mf_X7_116) (fun _ h9 => h9) rfl (tyX7_ok 0 (by decide)) (rfl) (rfl) (Nat.le_of_ble_eq_true rfl) dX7_give_43 (fun H locs hP _ hS => ?_)
    have hP : PP G (mM G y b (upd f 0 1) r) H := hP
    refine lv_aload_n hx hb dX7_give_46 rfl (lv_at hl 0 rfl) ?_
    refine va_get (D := G.1) (ci := 7) (v := .int 1) (C := RX7) (T := TX7) (N := 43) hx hb hts inX7 hown hK.1 hP 0 rfl rfl 0 (by decide) (hts _ mf_X7_116) (fun _ h9 => h9) rfl dX7_give_47 ?_
    refine lv_if_le (tgt := 55) hx hb dX7_give_50 (by decide) (fun c44 => absurd c44 (by decide)) (fun c44 => ?_)
    refine lv_iconst (v := -1) hx hb dX7_give_53 (by decide) ?_
    exact wr_iret hx hb hr hlocks hS hP ⟨1, (f 20), (f 21), (f 42), (r 15), (r 16), (r 17), (r 18), (r 19), (r 22), (r 23), (r 39), (r 40), (r 41), rfl, h42, hgr, hgc⟩ dX7_give_54
def giP (gm : Int32) (gr gc : Nat → Int32) (x row col : Int32) : Prop := ∃ k, k < gm.toNatClampNeg ∧ x = nI k ∧ inR (gr k) row ∧ inR (gc k) col
set_option maxHeartbeats 4000000 in
set_option maxRecDepth 100000 in
theorem m_X7_isIn (l : Launch) (G : GG) (y : Nat) (b : Nat → Nat) (f : Nat → Int32) (r : Nat → Nat → Int32) (x : Int32) (row : Int32) (col : Int32) (h42 : nL 16 (f 42)) (hgr : nOK 16 12 (r 40)) (hgc : nOK 16 12 (r 41)) : RdI l yX7_isIn cX7_isIn 4 (some .boolean) ({ frames := 0, cells := 0, slots := 0, locals := 0 }) G (mM G y b f r) [.ref y, .int x, .int row, .int col] (fun q => ((q = 1 ∧ (giP (f 42) (r 40) (r 41) x row col)) ∨ (q = 0 ∧ ¬ (giP (f 42) (r 40) (r 41) x row col)))) := by
  refine rd_entry (by decide +kernel) (Nat.le_of_ble_eq_true rfl) ?_
  intro p e s m below meth c C0 hP hK ls hl
  have hS : va_S (fun q => s.heap.size ≤ q) s.heap s.heap [] := va_S.rf
  have hA : ∀ q, s.heap.size ≤ q → (fun q => s.heap.size ≤ q) q := fun _ h => h
  obtain ⟨hx, hb, hml, hown, hts, hr, hlocks, hin⟩ := C0
  have hown : s.vm.findClass RX7 = some m.cls := hown
  have hl : lv_has ls 4 [(0, .ref y), (1, .int x), (2, .int row), (3, .int col)] := hl
  obtain ⟨gm, hgm, eg⟩ := h42
  refine lv_iload_n hx hb dX7_isIn_0 rfl (lv_at hl 1 rfl) ?_
  refine lv_if_lt (tgt := 44) hx hb dX7_isIn_1 (by decide) (fun c1 => ?_) (fun c1 => ?_)
  · refine lv_iconst (v := 0) hx hb dX7_isIn_44 (by decide) ?_
    exact rd_zret hx hb hr hlocks (Or.inl rfl) hS (Or.inr ⟨rfl, fun h => by (try rw [eg] at h); obtain ⟨k2, hk2, e2, h3, h4⟩ := h; rw [nI_clamp (by omega)] at hk2; exact absurd (e2 ▸ c1) (nI_pos (by omega))⟩) dX7_isIn_45
  · refine lv_iload_n hx hb dX7_isIn_4 rfl (lv_at hl 1 rfl) ?_
    refine lv_aload_n hx hb dX7_isIn_5 rfl (lv_at hl 0 rfl) ?_
    refine va_get (D := G.1) (ci := 7) (v := .int (f 42)) (C := RX7) (T := TX7) (N := 43) hx hb hts inX7 hown hK.1 hP 0 rfl rfl 42 (by decide) (hts _ mf_X7_274) (fun _ h9 => h9) rfl dX7_isIn_6 ?_
    rw [show (f 42) = nI (gm) from eg]
    refine lv_icmp_ge (tgt := 44) hx hb dX7_isIn_9 (by decide) (fun c2 => ?_) (fun c2 => ?_)
    · refine lv_iconst (v := 0) hx hb dX7_isIn_44 (by decide) ?_
      exact rd_zret hx hb hr hlocks (Or.inl rfl) hS (Or.inr ⟨rfl, fun h => by (try rw [eg] at h); obtain ⟨k2, hk2, e2, h3, h4⟩ := h; rw [nI_clamp (by omega)] at hk2; exact absurd (e2 ▸ c2) (nI_ge hk2 (by omega))⟩) dX7_isIn_45
    · refine lv_iload_n hx hb dX7_isIn_12 rfl (lv_at hl 2 rfl) ?_
      refine lv_if_lt (tgt := 44) hx hb dX7_isIn_13 (by decide) (fun c3 => ?_) (fun c3 => ?_)
      · refine lv_iconst (v := 0) hx hb dX7_isIn_44 (by decide) ?_
        exact rd_zret hx hb hr hlocks (Or.inl rfl) hS (Or.inr ⟨rfl, fun h => by (try rw [eg] at h); obtain ⟨k2, hk2, e2, h3, h4⟩ := h; rw [nI_clamp (by omega)] at hk2; exact h3.1 c3⟩) dX7_isIn_45
      · refine lv_iload_n hx hb dX7_isIn_16 rfl (lv_at hl 3 rfl) ?_
        refine lv_if_lt (tgt := 44) hx hb dX7_isIn_17 (by decide) (fun c4 => ?_) (fun c4 => ?_)
        · refine lv_iconst (v := 0) hx hb dX7_isIn_44 (by decide) ?_
          exact rd_zret hx hb hr hlocks (Or.inl rfl) hS (Or.inr ⟨rfl, fun h => by (try rw [eg] at h); obtain ⟨k2, hk2, e2, h3, h4⟩ := h; rw [nI_clamp (by omega)] at hk2; exact h4.1 c4⟩) dX7_isIn_45
        · obtain ⟨k, hk, rfl⟩ := lt_ix (x := x) (n := gm) (by omega) c1 c2
          refine lv_iload_n hx hb dX7_isIn_20 rfl (lv_at hl 2 rfl) ?_
          refine lv_aload_n hx hb dX7_isIn_21 rfl (lv_at hl 0 rfl) ?_
          refine va_get (D := G.1) (ci := 7) (v := .ref (b 40)) (C := RX7) (T := TX7) (N := 43) hx hb hts inX7 hown hK.1 hP 0 rfl rfl 40 (by decide) (hts _ mf_X7_110) (fun _ h9 => h9) rfl dX7_isIn_22 ?_
          refine lv_iload_n hx hb dX7_isIn_25 rfl (lv_at hl 1 rfl) ?_
          refine xiald (f := (r 40)) hx hb hK hP 34 (k) (rfl) (by omega) (by decide) rfl dX7_isIn_26 ?_
          refine lv_topi (fun v5 ev5 => ?_)
          refine lv_icmp_ge (tgt := 44) hx hb dX7_isIn_27 (by decide) (fun c6 => ?_) (fun c6 => ?_)
          · refine lv_iconst (v := 0) hx hb dX7_isIn_44 (by decide) ?_
            exact rd_zret hx hb hr hlocks (Or.inl rfl) hS (Or.inr ⟨rfl, fun h => by (try rw [eg] at h); obtain ⟨k2, hk2, e2, h3, h4⟩ := h; rw [nI_clamp (by omega)] at hk2; have e := (nI_eq (by omega) (by omega)).mp e2; subst e; exact h3.2 (by rw [← ev5]; exact c6)⟩) dX7_isIn_45
          · refine lv_iload_n hx hb dX7_isIn_30 rfl (lv_at hl 3 rfl) ?_
            refine lv_aload_n hx hb dX7_isIn_31 rfl (lv_at hl 0 rfl) ?_
            refine va_get (D := G.1) (ci := 7) (v := .ref (b 41)) (C := RX7) (T := TX7) (N := 43) hx hb hts inX7 hown hK.1 hP 0 rfl rfl 41 (by decide) (hts _ mf_X7_113) (fun _ h9 => h9) rfl dX7_isIn_32 ?_
            refine lv_iload_n hx hb dX7_isIn_35 rfl (lv_at hl 1 rfl) ?_
            refine xiald (f := (r 41)) hx hb hK hP 35 (k) (rfl) (by omega) (by decide) rfl dX7_isIn_36 ?_
            refine lv_topi (fun v7 ev7 => ?_)
            refine lv_icmp_ge (tgt := 44) hx hb dX7_isIn_37 (by decide) (fun c8 => ?_) (fun c8 => ?_)
            · refine lv_iconst (v := 0) hx hb dX7_isIn_44 (by decide) ?_
              exact rd_zret hx hb hr hlocks (Or.inl rfl) hS (Or.inr ⟨rfl, fun h => by (try rw [eg] at h); obtain ⟨k2, hk2, e2, h3, h4⟩ := h; rw [nI_clamp (by omega)] at hk2; have e := (nI_eq (by omega) (by omega)).mp e2; subst e; exact h4.2 (by rw [← ev7]; exact c8)⟩) dX7_isIn_45
            · refine lv_iconst (v := 1) hx hb dX7_isIn_40 (by decide) ?_
              refine lv_goto (tgt := 45) hx hb dX7_isIn_41 (by decide) ?_
              exact rd_zret hx hb hr hlocks (Or.inr rfl) hS (Or.inl ⟨rfl, by (try rw [eg]); exact ⟨k, by rw [nI_clamp (by omega)]; exact hk, rfl, ⟨c3, by rw [← ev5]; exact c6⟩, ⟨c4, by rw [← ev7]; exact c8⟩⟩⟩) dX7_isIn_45
theorem giP_n {gm : Int32} {gr gc : Nat → Int32} {x row col : Int32} (h42 : nL 16 gm) (h40 : nOK 16 12 gr) (h41 : nOK 16 12 gc) (h : giP gm gr gc x row col) : ∃ k i j, k < 16 ∧ i < 12 ∧ j < 12 ∧ x = nI k ∧ row = nI i ∧ col = nI j := by
  obtain ⟨n, hn, rfl⟩ := h42
  obtain ⟨k, hk, rfl, h1, h2⟩ := h
  rw [nI_clamp (by omega)] at hk
  obtain ⟨a, ha, ea⟩ := h40 k (by omega)
  obtain ⟨b, hb, eb⟩ := h41 k (by omega)
  rw [ea] at h1
  rw [eb] at h2
  obtain ⟨i, hi, rfl⟩ := inR_n (by omega) h1
  obtain ⟨j, hj, rfl⟩ := inR_n (by omega) h2
  exact ⟨k, i, j, by omega, by omega, by omega, rfl, rfl, rfl⟩
set_option maxHeartbeats 4000000 in
set_option maxRecDepth 100000 in
theorem m_X7_gift (l : Launch) (G : GG) (y : Nat) (b : Nat → Nat) (f : Nat → Int32) (r : Nat → Nat → Int32) (x : Int32) (row : Int32) (col : Int32) (h42 : nL 16 (f 42)) (hgr : nOK 16 12 (r 40)) (hgc : nOK 16 12 (r 41)) : RdI l yX7_gift cX7_gift 4 (some .int) ({ frames := 1, cells := 0, slots := 0, locals := 23 }) G (mM G y b f r) [.ref y, .int x, .int row, .int col] (fun q => True) := by
  refine rd_entry (by decide +kernel) (Nat.le_of_ble_eq_true rfl) ?_
  intro p e s m below meth c C0 hP hK ls hl
  have hS : va_S (fun q => s.heap.size ≤ q) s.heap s.heap [] := va_S.rf
  have hA : ∀ q, s.heap.size ≤ q → (fun q => s.heap.size ≤ q) q := fun _ h => h
  obtain ⟨hx, hb, hml, hown, hts, hr, hlocks, hin⟩ := C0
  have hown : s.vm.findClass RX7 = some m.cls := hown
  have hl : lv_has ls 4 [(0, .ref y), (1, .int x), (2, .int row), (3, .int col)] := hl
  refine lv_aload_n hx hb dX7_gift_0 rfl (lv_at hl 0 rfl) ?_
  refine lv_iload_n hx hb dX7_gift_1 rfl (lv_at hl 1 rfl) ?_
  refine lv_iload_n hx hb dX7_gift_2 rfl (lv_at hl 2 rfl) ?_
  refine lv_iload_n hx hb dX7_gift_3 rfl (lv_at hl 3 rfl) ?_
  refine rdV (rest := []) (q0 := 0) ⟨hx, hb, hml, hown, hts⟩ (m_X7_isIn l G y b f r x row col  h42 hgr hgc) mi_yX7_isIn mv_yX7_isIn ml_X7_277 ⟨rfl, rfl, Nat.le_of_ble_eq_true rfl, Nat.le_of_ble_eq_true rfl⟩ hK (hP) rfl rfl rfl hl.1 rfl (Nat.le_of_ble_eq_true rfl) dX7_gift_4 ⟨Nat.zero_le _, Nat.zero_le _⟩ hS hA hP (fun r1 H locs hr1 hP hS => ?_)
  have hr1 : ((r1 = 1 ∧ (giP (f 42) (r 40) (r 41) x row col)) ∨ (r1 = 0 ∧ ¬ (giP (f 42) (r 40) (r 41) x row col))) := hr1
  refine lv_if_eq (tgt := 30) hx hb dX7_gift_7 (by decide) (fun c2 => ?_) (fun c2 => ?_)
  · have b7 := bF hr1 c2
    refine lv_iconst (v := -1) hx hb dX7_gift_30 (by decide) ?_
    exact rd_iret hx hb hr hlocks hS (trivial) dX7_gift_31
  · have b7 := bT hr1 c2
    obtain ⟨n, i, j, hn, hi, hj, rfl, rfl, rfl⟩ := giP_n h42 hgr hgc b7
    refine lv_aload_n hx hb dX7_gift_10 rfl (lv_at hl 0 rfl) ?_
    refine va_get (D := G.1) (ci := 7) (v := .ref (b 39)) (C := RX7) (T := TX7) (N := 43) hx hb hts inX7 hown hK.1 hP 0 rfl rfl 39 (by decide) (hts _ mf_X7_107) (fun _ h9 => h9) rfl dX7_gift_11 ?_
    refine lv_sipush (v := 144) hx hb dX7_gift_14 (by decide) ?_
    refine lv_iload_n hx hb dX7_gift_17 rfl (lv_at hl 1 rfl) ?_
    refine lv_imul hx hb dX7_gift_18 ?_
    refine lv_topi (fun v3 ev3 => ?_)
    obtain rfl : v3 = nI (144 * n) := nI_times ev3 rfl rfl
    refine lv_bipush (v := 12) hx hb dX7_gift_19 (by decide) ?_
    refine lv_iload_n hx hb dX7_gift_21 rfl (lv_at hl 2 rfl) ?_
    refine lv_imul hx hb dX7_gift_22 ?_
    refine lv_topi (fun v4 ev4 => ?_)
    obtain rfl : v4 = nI (12 * i) := nI_times ev4 rfl rfl
    refine lv_iadd hx hb dX7_gift_23 ?_
    refine lv_topi (fun v5 ev5 => ?_)
    obtain rfl : v5 = nI ((144 * n) + (12 * i)) := nI_plus ev5 rfl rfl
    refine lv_iload_n hx hb dX7_gift_24 rfl (lv_at hl 3 rfl) ?_
    refine lv_iadd hx hb dX7_gift_25 ?_
    refine lv_topi (fun v6 ev6 => ?_)
    obtain rfl : v6 = nI (((144 * n) + (12 * i)) + j) := nI_plus ev6 rfl rfl
    refine xiald (f := (r 39)) hx hb hK hP 33 ((((144 * n) + (12 * i)) + j)) (rfl) (by omega) (by decide) rfl dX7_gift_26 ?_
    refine lv_topi (fun v7 ev7 => ?_)
    refine lv_goto (tgt := 31) hx hb dX7_gift_27 (by decide) ?_
    exact rd_iret hx hb hr hlocks hS (trivial) dX7_gift_31
set_option maxHeartbeats 4000000 in
set_option maxRecDepth 100000 in
theorem m_X7_agree (l : Launch) (G : GG) (y : Nat) (b : Nat → Nat) (f : Nat → Int32) (r : Nat → Nat → Int32) (xa : Int32) (xb : Int32) (h42 : nL 16 (f 42)) (hgr : nOK 16 12 (r 40)) (hgc : nOK 16 12 (r 41)) : RdI l yX7_agree cX7_agree 7 (some .int) ({ frames := 1, cells := 0, slots := 0, locals := 23 }) G (mM G y b f r) [.ref y, .int xa, .int xb] (fun q => True) := by
  refine rd_entry (by decide +kernel) (Nat.le_of_ble_eq_true rfl) ?_
  intro p e s m below meth c C0 hP hK ls hl
  have hS : va_S (fun q => s.heap.size ≤ q) s.heap s.heap [] := va_S.rf
  have hA : ∀ q, s.heap.size ≤ q → (fun q => s.heap.size ≤ q) q := fun _ h => h
  obtain ⟨hx, hb, hml, hown, hts, hr, hlocks, hin⟩ := C0
  have hown : s.vm.findClass RX7 = some m.cls := hown
  have hl : lv_has ls 7 [(0, .ref y), (1, .int xa), (2, .int xb)] := hl
  obtain ⟨gm, hgm, eg⟩ := h42
  have h42 : nL 16 (f 42) := ⟨gm, hgm, eg⟩
  refine lv_iload_n hx hb dX7_agree_0 rfl (lv_at hl 1 rfl) ?_
  refine lv_if_lt (tgt := 24) hx hb dX7_agree_1 (by decide) (fun c1 => ?_) (fun c1 => ?_)
  · refine lv_iconst (v := -1) hx hb dX7_agree_24 (by decide) ?_
    exact rd_iret hx hb hr hlocks hS (trivial) dX7_agree_25
  · refine lv_iload_n hx hb dX7_agree_4 rfl (lv_at hl 2 rfl) ?_
    refine lv_if_lt (tgt := 24) hx hb dX7_agree_5 (by decide) (fun c2 => ?_) (fun c2 => ?_)
    · refine lv_iconst (v := -1) hx hb dX7_agree_24 (by decide) ?_
      exact rd_iret hx hb hr hlocks hS (trivial) dX7_agree_25
    · refine lv_iload_n hx hb dX7_agree_8 rfl (lv_at hl 1 rfl) ?_
      refine lv_aload_n hx hb dX7_agree_9 rfl (lv_at hl 0 rfl) ?_
      refine va_get (D := G.1) (ci := 7) (v := .int (f 42)) (C := RX7) (T := TX7) (N := 43) hx hb hts inX7 hown hK.1 hP 0 rfl rfl 42 (by decide) (hts _ mf_X7_274) (fun _ h9 => h9) rfl dX7_agree_10 ?_
      rw [show (f 42) = nI (gm) from eg]
      refine lv_icmp_ge (tgt := 24) hx hb dX7_agree_13 (by decide) (fun c3 => ?_) (fun c3 => ?_)
      · refine lv_iconst (v := -1) hx hb dX7_agree_24 (by decide) ?_
        exact rd_iret hx hb hr hlocks hS (trivial) dX7_agree_25
      · refine lv_iload_n hx hb dX7_agree_16 rfl (lv_at hl 2 rfl) ?_
        refine lv_aload_n hx hb dX7_agree_17 rfl (lv_at hl 0 rfl) ?_
        refine va_get (D := G.1) (ci := 7) (v := .int (f 42)) (C := RX7) (T := TX7) (N := 43) hx hb hts inX7 hown hK.1 hP 0 rfl rfl 42 (by decide) (hts _ mf_X7_274) (fun _ h9 => h9) rfl dX7_agree_18 ?_
        rw [show (f 42) = nI (gm) from eg]
        refine lv_icmp_lt (tgt := 26) hx hb dX7_agree_21 (by decide) (fun c4 => ?_) (fun c4 => ?_)
        · obtain ⟨na, hna, rfl⟩ := lt_ix (x := xa) (n := gm) (by omega) c1 c3
          obtain ⟨nb, hnb, rfl⟩ := lt_ix (x := xb) (n := gm) (by omega) c2 (Int32.not_le.mpr c4)
          refine lv_iconst (v := 0) hx hb dX7_agree_26 (by decide) ?_
          refine lv_istore_n (lv' := [(3, .int 0), (0, .ref y), (1, .int (nI na)), (2, .int (nI nb))]) hx hb dX7_agree_27 rfl hl (by decide) rfl (fun ls hl => ?_)
          have loop28 : ∀ (k5 i : Nat) , i ≤ 12 → 12 < i + k5 → ∀ (H : Heap) (locs : List Loc) (ls : Array Slot), PP G (mM G y b f r) H → va_S (fun q => s.heap.size ≤ q) s.heap H locs → lv_has ls 7 [(3, .int (nI i)), (0, .ref y), (1, .int (nI na)), (2, .int (nI nb))] → W p l e ({ frames := 1, cells := 0, slots := 0, locals := 23 }) s m ([.ref y, .int (nI na), .int (nI nb)] : List Value).toArray below meth c H locs 0 0 (MQ below (QrI (fun q => True) (fun q => s.heap.size ≤ q)) ([.ref y, .int (nI na), .int (nI nb)] : List Value).toArray s 0 0 (fun q => s.heap.size ≤ q)) (F0 m 28 ls []) := by
            intro k5
            induction k5 with
            | zero => intro i  h1 h2; exact absurd h1 (by omega)
            | succ k5 ih28k5 =>
              intro i  hi_i hk_i  H locs ls hP hS hl
              refine lv_iload_n hx hb dX7_agree_28 rfl (lv_at hl 0 rfl) ?_
              refine lv_bipush (v := 12) hx hb dX7_agree_29 (by decide) ?_
              refine lv_icmp_ge (tgt := 146) hx hb dX7_agree_31 (by decide) (fun c6 => ?_) (fun c6 => ?_)
              · have b31 := qge_t (a := i) (b := 12) (by omega) (by omega) c6
                refine lv_bipush (v := -2) hx hb dX7_agree_146 (by decide) ?_
                exact rd_iret hx hb hr hlocks hS (trivial) dX7_agree_148
              · have b31 := qge_f (a := i) (b := 12) (by omega) (by omega) c6
                refine lv_iconst (v := 0) hx hb dX7_agree_34 (by decide) ?_
                refine lv_istore (lv' := [(4, .int 0), (3, .int (nI i)), (0, .ref y), (1, .int (nI na)), (2, .int (nI nb))]) hx hb dX7_agree_35 hl (by decide) rfl (fun ls hl => ?_)
                have loop37 : ∀ (k7 k : Nat) , k ≤ 12 → 12 < k + k7 → ∀ (H : Heap) (locs : List Loc) (ls : Array Slot), PP G (mM G y b f r) H → va_S (fun q => s.heap.size ≤ q) s.heap H locs → lv_has ls 7 [(4, .int (nI k)), (3, .int (nI i)), (0, .ref y), (1, .int (nI na)), (2, .int (nI nb))] → W p l e ({ frames := 1, cells := 0, slots := 0, locals := 23 }) s m ([.ref y, .int (nI na), .int (nI nb)] : List Value).toArray below meth c H locs 0 0 (MQ below (QrI (fun q => True) (fun q => s.heap.size ≤ q)) ([.ref y, .int (nI na), .int (nI nb)] : List Value).toArray s 0 0 (fun q => s.heap.size ≤ q)) (F0 m 37 ls []) := by
                  intro k7
                  induction k7 with
                  | zero => intro k  h1 h2; exact absurd h1 (by omega)
                  | succ k7 ih37k7 =>
                    intro k  hi_k hk_k  H locs ls hP hS hl
                    refine lv_iload hx hb dX7_agree_37 (lv_at hl 0 rfl) ?_
                    refine lv_bipush (v := 12) hx hb dX7_agree_39 (by decide) ?_
                    refine lv_icmp_ge (tgt := 140) hx hb dX7_agree_41 (by decide) (fun c8 => ?_) (fun c8 => ?_)
                    · have b41 := qge_t (a := k) (b := 12) (by omega) (by omega) c8
                      obtain ⟨v9, ev9⟩ : ∃ y9 : Int32, y9 = (nI i) + Int32.ofInt (1) := ⟨_, rfl⟩
                      refine lv_iinc (v := v9) (lv' := [(3, .int v9), (4, .int (nI k)), (0, .ref y), (1, .int (nI na)), (2, .int (nI nb))]) hx hb dX7_agree_140 hl (k := 1) rfl ev9.symm (by decide) rfl (fun ls hl => ?_)
                      obtain rfl : v9 = nI (i + 1) := nI_plus (i := i) (j := 1) ev9 rfl (by decide)
                      refine lv_goto (tgt := 28) hx hb dX7_agree_143 (by decide) ?_
                      exact ih28k5 (i + 1) (by omega) (by omega) _ _ _ hP hS (lv_sub hl [0, 2, 3, 4] rfl)
                    · have b41 := qge_f (a := k) (b := 12) (by omega) (by omega) c8
                      refine lv_aload_n hx hb dX7_agree_44 rfl (lv_at hl 2 rfl) ?_
                      refine lv_iload_n hx hb dX7_agree_45 rfl (lv_at hl 3 rfl) ?_
                      refine lv_iload_n hx hb dX7_agree_46 rfl (lv_at hl 1 rfl) ?_
                      refine lv_iload hx hb dX7_agree_47 (lv_at hl 0 rfl) ?_
                      refine rdV (rest := []) (q0 := 0) ⟨hx, hb, hml, hown, hts⟩ (m_X7_isIn l G y b f r (nI na) (nI i) (nI k)  h42 hgr hgc) mi_yX7_isIn mv_yX7_isIn ml_X7_277 ⟨rfl, rfl, Nat.le_of_ble_eq_true rfl, Nat.le_of_ble_eq_true rfl⟩ hK (hP) rfl rfl rfl hl.1 rfl (Nat.le_of_ble_eq_true rfl) dX7_agree_49 ⟨Nat.zero_le _, Nat.zero_le _⟩ hS hA hP (fun r10 H locs hr10 hP hS => ?_)
                      have hr10 : ((r10 = 1 ∧ (giP (f 42) (r 40) (r 41) (nI na) (nI i) (nI k))) ∨ (r10 = 0 ∧ ¬ (giP (f 42) (r 40) (r 41) (nI na) (nI i) (nI k)))) := hr10
                      refine lv_if_eq (tgt := 134) hx hb dX7_agree_52 (by decide) (fun c11 => ?_) (fun c11 => ?_)
                      · have b52 := bF hr10 c11
                        obtain ⟨v12, ev12⟩ : ∃ y9 : Int32, y9 = (nI k) + Int32.ofInt (1) := ⟨_, rfl⟩
                        refine lv_iinc (v := v12) (lv' := [(4, .int v12), (3, .int (nI i)), (0, .ref y), (1, .int (nI na)), (2, .int (nI nb))]) hx hb dX7_agree_134 hl (k := 0) rfl ev12.symm (by decide) rfl (fun ls hl => ?_)
                        obtain rfl : v12 = nI (k + 1) := nI_plus (i := k) (j := 1) ev12 rfl (by decide)
                        refine lv_goto (tgt := 37) hx hb dX7_agree_137 (by decide) ?_
                        exact ih37k7 (k + 1) (by omega) (by omega) _ _ _ hP hS (lv_sub hl [0, 1, 2, 3, 4] rfl)
                      · have b52 := bT hr10 c11
                        refine lv_aload_n hx hb dX7_agree_55 rfl (lv_at hl 2 rfl) ?_
                        refine lv_iload_n hx hb dX7_agree_56 rfl (lv_at hl 4 rfl) ?_
                        refine lv_iload_n hx hb dX7_agree_57 rfl (lv_at hl 1 rfl) ?_
                        refine lv_iload hx hb dX7_agree_58 (lv_at hl 0 rfl) ?_
                        refine rdV (rest := []) (q0 := 0) ⟨hx, hb, hml, hown, hts⟩ (m_X7_isIn l G y b f r (nI nb) (nI i) (nI k)  h42 hgr hgc) mi_yX7_isIn mv_yX7_isIn ml_X7_277 ⟨rfl, rfl, Nat.le_of_ble_eq_true rfl, Nat.le_of_ble_eq_true rfl⟩ hK (hP) rfl rfl rfl hl.1 rfl (Nat.le_of_ble_eq_true rfl) dX7_agree_60 ⟨Nat.zero_le _, Nat.zero_le _⟩ hS hA hP (fun r13 H locs hr13 hP hS => ?_)
                        have hr13 : ((r13 = 1 ∧ (giP (f 42) (r 40) (r 41) (nI nb) (nI i) (nI k))) ∨ (r13 = 0 ∧ ¬ (giP (f 42) (r 40) (r 41) (nI nb) (nI i) (nI k)))) := hr13
                        refine lv_if_ne (tgt := 69) hx hb dX7_agree_63 (by decide) (fun c14 => ?_) (fun c14 => ?_)
                        · have b63 := bT hr13 c14
                          refine lv_aload_n hx hb dX7_agree_69 rfl (lv_at hl 2 rfl) ?_
                          refine va_get (D := G.1) (ci := 7) (v := .ref (b 39)) (C := RX7) (T := TX7) (N := 43) hx hb hts inX7 hown hK.1 hP 0 rfl rfl 39 (by decide) (hts _ mf_X7_107) (fun _ h9 => h9) rfl dX7_agree_70 ?_
                          refine lv_sipush (v := 144) hx hb dX7_agree_73 (by decide) ?_
                          refine lv_iload_n hx hb dX7_agree_76 rfl (lv_at hl 3 rfl) ?_
                          refine lv_imul hx hb dX7_agree_77 ?_
                          refine lv_topi (fun v15 ev15 => ?_)
                          obtain rfl : v15 = nI (144 * na) := nI_times ev15 rfl rfl
                          refine lv_bipush (v := 12) hx hb dX7_agree_78 (by decide) ?_
                          refine lv_iload_n hx hb dX7_agree_80 rfl (lv_at hl 1 rfl) ?_
                          refine lv_imul hx hb dX7_agree_81 ?_
                          refine lv_topi (fun v16 ev16 => ?_)
                          obtain rfl : v16 = nI (12 * i) := nI_times ev16 rfl rfl
                          refine lv_iadd hx hb dX7_agree_82 ?_
                          refine lv_topi (fun v17 ev17 => ?_)
                          obtain rfl : v17 = nI ((144 * na) + (12 * i)) := nI_plus ev17 rfl rfl
                          refine lv_iload hx hb dX7_agree_83 (lv_at hl 0 rfl) ?_
                          refine lv_iadd hx hb dX7_agree_85 ?_
                          refine lv_topi (fun v18 ev18 => ?_)
                          obtain rfl : v18 = nI (((144 * na) + (12 * i)) + k) := nI_plus ev18 rfl rfl
                          refine xiald (f := (r 39)) hx hb hK hP 33 ((((144 * na) + (12 * i)) + k)) (rfl) (by omega) (by decide) rfl dX7_agree_86 ?_
                          refine lv_topi (fun v19 ev19 => ?_)
                          refine lv_istore (lv' := [(5, .int v19), (4, .int (nI k)), (3, .int (nI i)), (0, .ref y), (1, .int (nI na)), (2, .int (nI nb))]) hx hb dX7_agree_87 hl (by decide) rfl (fun ls hl => ?_)
                          refine lv_aload_n hx hb dX7_agree_89 rfl (lv_at hl 3 rfl) ?_
                          refine va_get (D := G.1) (ci := 7) (v := .ref (b 39)) (C := RX7) (T := TX7) (N := 43) hx hb hts inX7 hown hK.1 hP 0 rfl rfl 39 (by decide) (hts _ mf_X7_107) (fun _ h9 => h9) rfl dX7_agree_90 ?_
                          refine lv_sipush (v := 144) hx hb dX7_agree_93 (by decide) ?_
                          refine lv_iload_n hx hb dX7_agree_96 rfl (lv_at hl 5 rfl) ?_
                          refine lv_imul hx hb dX7_agree_97 ?_
                          refine lv_topi (fun v20 ev20 => ?_)
                          obtain rfl : v20 = nI (144 * nb) := nI_times ev20 rfl rfl
                          refine lv_bipush (v := 12) hx hb dX7_agree_98 (by decide) ?_
                          refine lv_iload_n hx hb dX7_agree_100 rfl (lv_at hl 2 rfl) ?_
                          refine lv_imul hx hb dX7_agree_101 ?_
                          refine lv_topi (fun v21 ev21 => ?_)
                          obtain rfl : v21 = nI (12 * i) := nI_times ev21 rfl rfl
                          refine lv_iadd hx hb dX7_agree_102 ?_
                          refine lv_topi (fun v22 ev22 => ?_)
                          obtain rfl : v22 = nI ((144 * nb) + (12 * i)) := nI_plus ev22 rfl rfl
                          refine lv_iload hx hb dX7_agree_103 (lv_at hl 1 rfl) ?_
                          refine lv_iadd hx hb dX7_agree_105 ?_
                          refine lv_topi (fun v23 ev23 => ?_)
                          obtain rfl : v23 = nI (((144 * nb) + (12 * i)) + k) := nI_plus ev23 rfl rfl
                          refine xiald (f := (r 39)) hx hb hK hP 33 ((((144 * nb) + (12 * i)) + k)) (rfl) (by omega) (by decide) rfl dX7_agree_106 ?_
                          refine lv_topi (fun v24 ev24 => ?_)
                          refine lv_istore (lv' := [(6, .int v24), (5, .int v19), (4, .int (nI k)), (3, .int (nI i)), (0, .ref y), (1, .int (nI na)), (2, .int (nI nb))]) hx hb dX7_agree_107 hl (by decide) rfl (fun ls hl => ?_)
                          refine lv_iload hx hb dX7_agree_109 (lv_at hl 1 rfl) ?_
                          refine lv_if_lt (tgt := 134) hx hb dX7_agree_111 (by decide) (fun c25 => ?_) (fun c25 => ?_)
                          · obtain ⟨v26, ev26⟩ : ∃ y9 : Int32, y9 = (nI k) + Int32.ofInt (1) := ⟨_, rfl⟩
                            refine lv_iinc (v := v26) (lv' := [(4, .int v26), (6, .int v24), (5, .int v19), (3, .int (nI i)), (0, .ref y), (1, .int (nI na)), (2, .int (nI nb))]) hx hb dX7_agree_134 hl (k := 2) rfl ev26.symm (by decide) rfl (fun ls hl => ?_)
                            obtain rfl : v26 = nI (k + 1) := nI_plus (i := k) (j := 1) ev26 rfl (by decide)
                            refine lv_goto (tgt := 37) hx hb dX7_agree_137 (by decide) ?_
                            exact ih37k7 (k + 1) (by omega) (by omega) _ _ _ hP hS (lv_sub hl [0, 3, 4, 5, 6] rfl)
                          · refine lv_iload hx hb dX7_agree_114 (lv_at hl 0 rfl) ?_
                            refine lv_if_lt (tgt := 134) hx hb dX7_agree_116 (by decide) (fun c27 => ?_) (fun c27 => ?_)
                            · obtain ⟨v28, ev28⟩ : ∃ y9 : Int32, y9 = (nI k) + Int32.ofInt (1) := ⟨_, rfl⟩
                              refine lv_iinc (v := v28) (lv' := [(4, .int v28), (6, .int v24), (5, .int v19), (3, .int (nI i)), (0, .ref y), (1, .int (nI na)), (2, .int (nI nb))]) hx hb dX7_agree_134 hl (k := 2) rfl ev28.symm (by decide) rfl (fun ls hl => ?_)
                              obtain rfl : v28 = nI (k + 1) := nI_plus (i := k) (j := 1) ev28 rfl (by decide)
                              refine lv_goto (tgt := 37) hx hb dX7_agree_137 (by decide) ?_
                              exact ih37k7 (k + 1) (by omega) (by omega) _ _ _ hP hS (lv_sub hl [0, 3, 4, 5, 6] rfl)
                            · refine lv_iload hx hb dX7_agree_119 (lv_at hl 1 rfl) ?_
                              refine lv_iload hx hb dX7_agree_121 (lv_at hl 0 rfl) ?_
                              refine lv_icmp_eq (tgt := 134) hx hb dX7_agree_123 (by decide) (fun c29 => ?_) (fun c29 => ?_)
                              · obtain ⟨v30, ev30⟩ : ∃ y9 : Int32, y9 = (nI k) + Int32.ofInt (1) := ⟨_, rfl⟩
                                refine lv_iinc (v := v30) (lv' := [(4, .int v30), (6, .int v24), (5, .int v19), (3, .int (nI i)), (0, .ref y), (1, .int (nI na)), (2, .int (nI nb))]) hx hb dX7_agree_134 hl (k := 2) rfl ev30.symm (by decide) rfl (fun ls hl => ?_)
                                obtain rfl : v30 = nI (k + 1) := nI_plus (i := k) (j := 1) ev30 rfl (by decide)
                                refine lv_goto (tgt := 37) hx hb dX7_agree_137 (by decide) ?_
                                exact ih37k7 (k + 1) (by omega) (by omega) _ _ _ hP hS (lv_sub hl [0, 3, 4, 5, 6] rfl)
                              · refine lv_bipush (v := 100) hx hb dX7_agree_126 (by decide) ?_
                                refine lv_iload_n hx hb dX7_agree_128 rfl (lv_at hl 3 rfl) ?_
                                refine lv_imul hx hb dX7_agree_129 ?_
                                refine lv_topi (fun v31 ev31 => ?_)
                                obtain rfl : v31 = nI (100 * i) := nI_times ev31 rfl rfl
                                refine lv_iload hx hb dX7_agree_130 (lv_at hl 2 rfl) ?_
                                refine lv_iadd hx hb dX7_agree_132 ?_
                                refine lv_topi (fun v32 ev32 => ?_)
                                obtain rfl : v32 = nI ((100 * i) + k) := nI_plus ev32 rfl rfl
                                exact rd_iret hx hb hr hlocks hS (trivial) dX7_agree_133
                        · have b63 := bF hr13 c14
                          refine lv_goto (tgt := 134) hx hb dX7_agree_66 (by decide) ?_
                          obtain ⟨v33, ev33⟩ : ∃ y9 : Int32, y9 = (nI k) + Int32.ofInt (1) := ⟨_, rfl⟩
                          refine lv_iinc (v := v33) (lv' := [(4, .int v33), (3, .int (nI i)), (0, .ref y), (1, .int (nI na)), (2, .int (nI nb))]) hx hb dX7_agree_134 hl (k := 0) rfl ev33.symm (by decide) rfl (fun ls hl => ?_)
                          obtain rfl : v33 = nI (k + 1) := nI_plus (i := k) (j := 1) ev33 rfl (by decide)
                          refine lv_goto (tgt := 37) hx hb dX7_agree_137 (by decide) ?_
                          exact ih37k7 (k + 1) (by omega) (by omega) _ _ _ hP hS (lv_sub hl [0, 1, 2, 3, 4] rfl)
                exact loop37 (12 + 1) 0 (by omega) (by omega) _ _ _ hP hS (lv_sub hl [0, 1, 2, 3, 4] rfl)
          exact loop28 (12 + 1) 0 (by omega) (by omega) _ _ _ hP hS (lv_sub hl [0, 1, 2, 3] rfl)
        · refine lv_iconst (v := -1) hx hb dX7_agree_24 (by decide) ?_
          exact rd_iret hx hb hr hlocks hS (trivial) dX7_agree_25
