theorem mf_X7_233 : Cond.fieldLink RX7 233 "CellKeeperModel" "witnessRows" "I" ∈ TB := TB_t4 127 rfl rfl
theorem mf_X7_236 : Cond.fieldLink RX7 236 "CellKeeperModel" "witnessColumns" "I" ∈ TB := TB_t4 128 rfl rfl
theorem mf_X7_74 : Cond.fieldLink RX7 74 "CellKeeperModel" "witnessed" "[I" ∈ TB := TB_t4 124 rfl rfl
theorem mf_X7_77 : Cond.fieldLink RX7 77 "CellKeeperModel" "witnessGroup" "[I" ∈ TB := TB_t4 125 rfl rfl
theorem mf_X7_80 : Cond.fieldLink RX7 80 "CellKeeperModel" "cutNode" "[Z" ∈ TB := TB_t4 126 rfl rfl
theorem mf_X7_265 : Cond.fieldLink RX7 265 "CellKeeperModel" "roundedRows" "I" ∈ TB := TB_t4 134 rfl rfl
theorem mf_X7_268 : Cond.fieldLink RX7 268 "CellKeeperModel" "roundedColumns" "I" ∈ TB := TB_t4 135 rfl rfl
theorem mf_X7_95 : Cond.fieldLink RX7 95 "CellKeeperModel" "roundedGroup" "[I" ∈ TB := TB_t4 133 rfl rfl
theorem mf_X7_92 : Cond.fieldLink RX7 92 "CellKeeperModel" "roundedTo" "[I" ∈ TB := TB_t4 132 rfl rfl
theorem ml_X7_245 : Cond.methodLink RX7 245 yX7_tells ∈ TB := TB_t5 231 rfl rfl
theorem mcode_yX7_tells : Cond.code yX7_tells cX7_tells 4 (some .int) ∈ TB := TB_t5 234 rfl rfl
theorem mi_yX7_tells : MI yX7_tells cX7_tells 4 (some .int) 2 := ⟨mz_RX7, mcode_yX7_tells, by decide +kernel, by decide +kernel, by decide +kernel⟩
theorem mim_yX7_tells : Cond.instanceMethod yX7_tells ∈ TB := TB_t5 233 rfl rfl
theorem msel_yX7_tells : Cond.selects yX7_tells.cls yX7_tells yX7_tells ∈ TB := TB_s (n := 43) 70 (by decide +kernel)
theorem mv_yX7_tells : Cond.instanceMethod yX7_tells ∈ TB ∧ Cond.selects yX7_tells.cls yX7_tells yX7_tells ∈ TB := ⟨mim_yX7_tells, msel_yX7_tells⟩
theorem mf_X7_83 : Cond.fieldLink RX7 83 "CellKeeperModel" "was" "[Z" ∈ TB := TB_t4 129 rfl rfl
theorem ml_X7_239 : Cond.methodLink RX7 239 yX7_guard ∈ TB := TB_t5 223 rfl rfl
theorem mcode_yX7_guard : Cond.code yX7_guard cX7_guard 13 (some .int) ∈ TB := TB_t5 226 rfl rfl
theorem mi_yX7_guard : MI yX7_guard cX7_guard 13 (some .int) 3 := ⟨mz_RX7, mcode_yX7_guard, by decide +kernel, by decide +kernel, by decide +kernel⟩
theorem mim_yX7_guard : Cond.instanceMethod yX7_guard ∈ TB := TB_t5 225 rfl rfl
theorem msel_yX7_guard : Cond.selects yX7_guard.cls yX7_guard yX7_guard ∈ TB := TB_s (n := 43) 68 (by decide +kernel)
theorem mv_yX7_guard : Cond.instanceMethod yX7_guard ∈ TB ∧ Cond.selects yX7_guard.cls yX7_guard yX7_guard ∈ TB := ⟨mim_yX7_guard, msel_yX7_guard⟩
theorem mf_X7_274 : Cond.fieldLink RX7 274 "CellKeeperModel" "giftMany" "I" ∈ TB := TB_t4 142 rfl rfl
theorem mf_X7_110 : Cond.fieldLink RX7 110 "CellKeeperModel" "giftRows" "[I" ∈ TB := TB_t4 140 rfl rfl
theorem mf_X7_113 : Cond.fieldLink RX7 113 "CellKeeperModel" "giftColumns" "[I" ∈ TB := TB_t4 141 rfl rfl
theorem mf_X7_107 : Cond.fieldLink RX7 107 "CellKeeperModel" "gifts" "[I" ∈ TB := TB_t4 139 rfl rfl
theorem ml_X7_277 : Cond.methodLink RX7 277 yX7_isIn ∈ TB := TB_t6 40 rfl rfl
theorem mcode_yX7_isIn : Cond.code yX7_isIn cX7_isIn 4 (some .boolean) ∈ TB := TB_t6 43 rfl rfl
theorem mi_yX7_isIn : MI yX7_isIn cX7_isIn 4 (some .boolean) 3 := ⟨mz_RX7, mcode_yX7_isIn, by decide +kernel, by decide +kernel, by decide +kernel⟩
theorem mim_yX7_isIn : Cond.instanceMethod yX7_isIn ∈ TB := TB_t6 42 rfl rfl
theorem msel_yX7_isIn : Cond.selects yX7_isIn.cls yX7_isIn yX7_isIn ∈ TB := TB_s (n := 43) 76 (by decide +kernel)
theorem mv_yX7_isIn : Cond.instanceMethod yX7_isIn ∈ TB ∧ Cond.selects yX7_isIn.cls yX7_isIn yX7_isIn ∈ TB := ⟨mim_yX7_isIn, msel_yX7_isIn⟩
theorem kcX7_witness_0 : CHb cX7_witness 0 [42, 42, 27, 28, 29, 182, 0, 178, 181, 0, 116, 42, 180, 0, 116, 158, 0, 5, 2, 172, 42, 27, 182, 0, 216, 42, 180, 0, 65, 16, 12, 28, 104, 29, 96, 51, 54, 5, 42, 28, 29, 21, 4, 182, 0, 219, 3, 54, 6, 21, 6, 42, 180, 0, 189, 162, 0, 36, 3, 54, 7, 21, 7, 42] := CHb_of (by decide +kernel)
theorem dX7_witness_0 : decode cX7_witness 0 = .ok (.aload_n 0, 1) := dw_42 (kcX7_witness_0 0 42 rfl)
theorem dX7_witness_1 : decode cX7_witness 1 = .ok (.aload_n 0, 1) := dw_42 (kcX7_witness_0 1 42 rfl)
theorem dX7_witness_2 : decode cX7_witness 2 = .ok (.iload_n 1, 1) := dw_27 (kcX7_witness_0 2 27 rfl)
theorem dX7_witness_3 : decode cX7_witness 3 = .ok (.iload_n 2, 1) := dw_28 (kcX7_witness_0 3 28 rfl)
theorem dX7_witness_4 : decode cX7_witness 4 = .ok (.iload_n 3, 1) := dw_29 (kcX7_witness_0 4 29 rfl)
theorem dX7_witness_5 : decode cX7_witness 5 = .ok (.invokevirtual 178, 3) := dw_182 (kcX7_witness_0 5 182 rfl) (kcX7_witness_0 6 0 rfl) (kcX7_witness_0 7 178 rfl) rfl
theorem dX7_witness_8 : decode cX7_witness 8 = .ok (.putfield 116, 3) := dw_181 (kcX7_witness_0 8 181 rfl) (kcX7_witness_0 9 0 rfl) (kcX7_witness_0 10 116 rfl) rfl
theorem dX7_witness_11 : decode cX7_witness 11 = .ok (.aload_n 0, 1) := dw_42 (kcX7_witness_0 11 42 rfl)
theorem dX7_witness_12 : decode cX7_witness 12 = .ok (.getfield 116, 3) := dw_180 (kcX7_witness_0 12 180 rfl) (kcX7_witness_0 13 0 rfl) (kcX7_witness_0 14 116 rfl) rfl
theorem dX7_witness_15 : decode cX7_witness 15 = .ok (.ifCond .le 5, 3) := dw_158 (kcX7_witness_0 15 158 rfl) (kcX7_witness_0 16 0 rfl) (kcX7_witness_0 17 5 rfl) rfl
theorem dX7_witness_20 : decode cX7_witness 20 = .ok (.aload_n 0, 1) := dw_42 (kcX7_witness_0 20 42 rfl)
theorem dX7_witness_21 : decode cX7_witness 21 = .ok (.iload_n 1, 1) := dw_27 (kcX7_witness_0 21 27 rfl)
theorem dX7_witness_22 : decode cX7_witness 22 = .ok (.invokevirtual 216, 3) := dw_182 (kcX7_witness_0 22 182 rfl) (kcX7_witness_0 23 0 rfl) (kcX7_witness_0 24 216 rfl) rfl
theorem dX7_witness_25 : decode cX7_witness 25 = .ok (.aload_n 0, 1) := dw_42 (kcX7_witness_0 25 42 rfl)
theorem dX7_witness_26 : decode cX7_witness 26 = .ok (.getfield 65, 3) := dw_180 (kcX7_witness_0 26 180 rfl) (kcX7_witness_0 27 0 rfl) (kcX7_witness_0 28 65 rfl) rfl
theorem dX7_witness_29 : decode cX7_witness 29 = .ok (.bipush 12, 2) := dw_16 (kcX7_witness_0 29 16 rfl) (kcX7_witness_0 30 12 rfl) rfl
theorem dX7_witness_31 : decode cX7_witness 31 = .ok (.iload_n 2, 1) := dw_28 (kcX7_witness_0 31 28 rfl)
theorem dX7_witness_32 : decode cX7_witness 32 = .ok (.imul, 1) := dw_104 (kcX7_witness_0 32 104 rfl)
theorem dX7_witness_33 : decode cX7_witness 33 = .ok (.iload_n 3, 1) := dw_29 (kcX7_witness_0 33 29 rfl)
theorem dX7_witness_34 : decode cX7_witness 34 = .ok (.iadd, 1) := dw_96 (kcX7_witness_0 34 96 rfl)
theorem dX7_witness_35 : decode cX7_witness 35 = .ok (.baload, 1) := dw_51 (kcX7_witness_0 35 51 rfl)
theorem dX7_witness_36 : decode cX7_witness 36 = .ok (.istore 5, 2) := dw_54 (kcX7_witness_0 36 54 rfl) (kcX7_witness_0 37 5 rfl)
theorem dX7_witness_38 : decode cX7_witness 38 = .ok (.aload_n 0, 1) := dw_42 (kcX7_witness_0 38 42 rfl)
theorem dX7_witness_39 : decode cX7_witness 39 = .ok (.iload_n 2, 1) := dw_28 (kcX7_witness_0 39 28 rfl)
theorem dX7_witness_40 : decode cX7_witness 40 = .ok (.iload_n 3, 1) := dw_29 (kcX7_witness_0 40 29 rfl)
theorem dX7_witness_41 : decode cX7_witness 41 = .ok (.iload 4, 2) := dw_21 (kcX7_witness_0 41 21 rfl) (kcX7_witness_0 42 4 rfl)
theorem dX7_witness_43 : decode cX7_witness 43 = .ok (.invokevirtual 219, 3) := dw_182 (kcX7_witness_0 43 182 rfl) (kcX7_witness_0 44 0 rfl) (kcX7_witness_0 45 219 rfl) rfl
theorem dX7_witness_46 : decode cX7_witness 46 = .ok (.iconst 0, 1) := dw_3 (kcX7_witness_0 46 3 rfl)
theorem dX7_witness_47 : decode cX7_witness 47 = .ok (.istore 6, 2) := dw_54 (kcX7_witness_0 47 54 rfl) (kcX7_witness_0 48 6 rfl)
theorem dX7_witness_49 : decode cX7_witness 49 = .ok (.iload 6, 2) := dw_21 (kcX7_witness_0 49 21 rfl) (kcX7_witness_0 50 6 rfl)
theorem dX7_witness_51 : decode cX7_witness 51 = .ok (.aload_n 0, 1) := dw_42 (kcX7_witness_0 51 42 rfl)
theorem dX7_witness_52 : decode cX7_witness 52 = .ok (.getfield 189, 3) := dw_180 (kcX7_witness_0 52 180 rfl) (kcX7_witness_0 53 0 rfl) (kcX7_witness_0 54 189 rfl) rfl
theorem dX7_witness_55 : decode cX7_witness 55 = .ok (.if_icmp .ge 36, 3) := dw_162 (kcX7_witness_0 55 162 rfl) (kcX7_witness_0 56 0 rfl) (kcX7_witness_0 57 36 rfl) rfl
theorem dX7_witness_58 : decode cX7_witness 58 = .ok (.iconst 0, 1) := dw_3 (kcX7_witness_0 58 3 rfl)
theorem dX7_witness_59 : decode cX7_witness 59 = .ok (.istore 7, 2) := dw_54 (kcX7_witness_0 59 54 rfl) (kcX7_witness_0 60 7 rfl)
theorem dX7_witness_61 : decode cX7_witness 61 = .ok (.iload 7, 2) := dw_21 (kcX7_witness_0 61 21 rfl) (kcX7_witness_0 62 7 rfl)
theorem dX7_witness_63 : decode cX7_witness 63 = .ok (.aload_n 0, 1) := dw_42 (kcX7_witness_0 63 42 rfl)
theorem kcX7_witness_1 : CHb cX7_witness 64 [180, 0, 192, 162, 0, 18, 42, 21, 6, 21, 7, 3, 182, 0, 219, 132, 7, 1, 167, 255, 235, 132, 6, 1, 167, 255, 217, 42, 42, 180, 0, 189, 181, 0, 233, 42, 42, 180, 0, 192, 181, 0, 236, 3, 54, 6, 21, 6, 17, 0, 144, 162, 0, 23, 42, 180, 0, 74, 21, 6, 42, 180, 0, 53] := CHb_of (by decide +kernel)
theorem dX7_witness_64 : decode cX7_witness 64 = .ok (.getfield 192, 3) := dw_180 (kcX7_witness_1 0 180 rfl) (kcX7_witness_1 1 0 rfl) (kcX7_witness_1 2 192 rfl) rfl
theorem dX7_witness_67 : decode cX7_witness 67 = .ok (.if_icmp .ge 18, 3) := dw_162 (kcX7_witness_1 3 162 rfl) (kcX7_witness_1 4 0 rfl) (kcX7_witness_1 5 18 rfl) rfl
theorem dX7_witness_70 : decode cX7_witness 70 = .ok (.aload_n 0, 1) := dw_42 (kcX7_witness_1 6 42 rfl)
theorem dX7_witness_71 : decode cX7_witness 71 = .ok (.iload 6, 2) := dw_21 (kcX7_witness_1 7 21 rfl) (kcX7_witness_1 8 6 rfl)
theorem dX7_witness_73 : decode cX7_witness 73 = .ok (.iload 7, 2) := dw_21 (kcX7_witness_1 9 21 rfl) (kcX7_witness_1 10 7 rfl)
theorem dX7_witness_75 : decode cX7_witness 75 = .ok (.iconst 0, 1) := dw_3 (kcX7_witness_1 11 3 rfl)
theorem dX7_witness_76 : decode cX7_witness 76 = .ok (.invokevirtual 219, 3) := dw_182 (kcX7_witness_1 12 182 rfl) (kcX7_witness_1 13 0 rfl) (kcX7_witness_1 14 219 rfl) rfl
theorem dX7_witness_79 : decode cX7_witness 79 = .ok (.iinc 7 1, 3) := dw_132 (kcX7_witness_1 15 132 rfl) (kcX7_witness_1 16 7 rfl) (kcX7_witness_1 17 1 rfl) rfl
theorem dX7_witness_82 : decode cX7_witness 82 = .ok (.goto (-21), 3) := dw_167 (kcX7_witness_1 18 167 rfl) (kcX7_witness_1 19 255 rfl) (kcX7_witness_1 20 235 rfl) rfl
theorem dX7_witness_85 : decode cX7_witness 85 = .ok (.iinc 6 1, 3) := dw_132 (kcX7_witness_1 21 132 rfl) (kcX7_witness_1 22 6 rfl) (kcX7_witness_1 23 1 rfl) rfl
theorem dX7_witness_88 : decode cX7_witness 88 = .ok (.goto (-39), 3) := dw_167 (kcX7_witness_1 24 167 rfl) (kcX7_witness_1 25 255 rfl) (kcX7_witness_1 26 217 rfl) rfl
theorem dX7_witness_91 : decode cX7_witness 91 = .ok (.aload_n 0, 1) := dw_42 (kcX7_witness_1 27 42 rfl)
theorem dX7_witness_92 : decode cX7_witness 92 = .ok (.aload_n 0, 1) := dw_42 (kcX7_witness_1 28 42 rfl)
theorem dX7_witness_93 : decode cX7_witness 93 = .ok (.getfield 189, 3) := dw_180 (kcX7_witness_1 29 180 rfl) (kcX7_witness_1 30 0 rfl) (kcX7_witness_1 31 189 rfl) rfl
theorem dX7_witness_96 : decode cX7_witness 96 = .ok (.putfield 233, 3) := dw_181 (kcX7_witness_1 32 181 rfl) (kcX7_witness_1 33 0 rfl) (kcX7_witness_1 34 233 rfl) rfl
theorem dX7_witness_99 : decode cX7_witness 99 = .ok (.aload_n 0, 1) := dw_42 (kcX7_witness_1 35 42 rfl)
theorem dX7_witness_100 : decode cX7_witness 100 = .ok (.aload_n 0, 1) := dw_42 (kcX7_witness_1 36 42 rfl)
theorem dX7_witness_101 : decode cX7_witness 101 = .ok (.getfield 192, 3) := dw_180 (kcX7_witness_1 37 180 rfl) (kcX7_witness_1 38 0 rfl) (kcX7_witness_1 39 192 rfl) rfl
theorem dX7_witness_104 : decode cX7_witness 104 = .ok (.putfield 236, 3) := dw_181 (kcX7_witness_1 40 181 rfl) (kcX7_witness_1 41 0 rfl) (kcX7_witness_1 42 236 rfl) rfl
theorem dX7_witness_107 : decode cX7_witness 107 = .ok (.iconst 0, 1) := dw_3 (kcX7_witness_1 43 3 rfl)
theorem dX7_witness_108 : decode cX7_witness 108 = .ok (.istore 6, 2) := dw_54 (kcX7_witness_1 44 54 rfl) (kcX7_witness_1 45 6 rfl)
theorem dX7_witness_110 : decode cX7_witness 110 = .ok (.iload 6, 2) := dw_21 (kcX7_witness_1 46 21 rfl) (kcX7_witness_1 47 6 rfl)
theorem dX7_witness_112 : decode cX7_witness 112 = .ok (.sipush 144, 3) := dw_17 (kcX7_witness_1 48 17 rfl) (kcX7_witness_1 49 0 rfl) (kcX7_witness_1 50 144 rfl) rfl
theorem dX7_witness_115 : decode cX7_witness 115 = .ok (.if_icmp .ge 23, 3) := dw_162 (kcX7_witness_1 51 162 rfl) (kcX7_witness_1 52 0 rfl) (kcX7_witness_1 53 23 rfl) rfl
theorem dX7_witness_118 : decode cX7_witness 118 = .ok (.aload_n 0, 1) := dw_42 (kcX7_witness_1 54 42 rfl)
theorem dX7_witness_119 : decode cX7_witness 119 = .ok (.getfield 74, 3) := dw_180 (kcX7_witness_1 55 180 rfl) (kcX7_witness_1 56 0 rfl) (kcX7_witness_1 57 74 rfl) rfl
theorem dX7_witness_122 : decode cX7_witness 122 = .ok (.iload 6, 2) := dw_21 (kcX7_witness_1 58 21 rfl) (kcX7_witness_1 59 6 rfl)
theorem dX7_witness_124 : decode cX7_witness 124 = .ok (.aload_n 0, 1) := dw_42 (kcX7_witness_1 60 42 rfl)
theorem dX7_witness_125 : decode cX7_witness 125 = .ok (.getfield 53, 3) := dw_180 (kcX7_witness_1 61 180 rfl) (kcX7_witness_1 62 0 rfl) (kcX7_witness_1 63 53 rfl) rfl
theorem kcX7_witness_2 : CHb cX7_witness 128 [21, 6, 46, 79, 132, 6, 1, 167, 255, 231, 3, 54, 6, 21, 6, 42, 180, 0, 189, 162, 0, 23, 42, 180, 0, 77, 21, 6, 42, 180, 0, 62, 21, 6, 46, 79, 132, 6, 1, 167, 255, 230, 3, 54, 6, 21, 6, 16, 24, 162, 0, 17, 42, 180, 0, 80, 21, 6, 3, 84, 132, 6, 1, 167] := CHb_of (by decide +kernel)
theorem dX7_witness_128 : decode cX7_witness 128 = .ok (.iload 6, 2) := dw_21 (kcX7_witness_2 0 21 rfl) (kcX7_witness_2 1 6 rfl)
theorem dX7_witness_130 : decode cX7_witness 130 = .ok (.iaload, 1) := dw_46 (kcX7_witness_2 2 46 rfl)
theorem dX7_witness_131 : decode cX7_witness 131 = .ok (.iastore, 1) := dw_79 (kcX7_witness_2 3 79 rfl)
theorem dX7_witness_132 : decode cX7_witness 132 = .ok (.iinc 6 1, 3) := dw_132 (kcX7_witness_2 4 132 rfl) (kcX7_witness_2 5 6 rfl) (kcX7_witness_2 6 1 rfl) rfl
theorem dX7_witness_135 : decode cX7_witness 135 = .ok (.goto (-25), 3) := dw_167 (kcX7_witness_2 7 167 rfl) (kcX7_witness_2 8 255 rfl) (kcX7_witness_2 9 231 rfl) rfl
theorem dX7_witness_138 : decode cX7_witness 138 = .ok (.iconst 0, 1) := dw_3 (kcX7_witness_2 10 3 rfl)
theorem dX7_witness_139 : decode cX7_witness 139 = .ok (.istore 6, 2) := dw_54 (kcX7_witness_2 11 54 rfl) (kcX7_witness_2 12 6 rfl)
theorem dX7_witness_141 : decode cX7_witness 141 = .ok (.iload 6, 2) := dw_21 (kcX7_witness_2 13 21 rfl) (kcX7_witness_2 14 6 rfl)
theorem dX7_witness_143 : decode cX7_witness 143 = .ok (.aload_n 0, 1) := dw_42 (kcX7_witness_2 15 42 rfl)
theorem dX7_witness_144 : decode cX7_witness 144 = .ok (.getfield 189, 3) := dw_180 (kcX7_witness_2 16 180 rfl) (kcX7_witness_2 17 0 rfl) (kcX7_witness_2 18 189 rfl) rfl
theorem dX7_witness_147 : decode cX7_witness 147 = .ok (.if_icmp .ge 23, 3) := dw_162 (kcX7_witness_2 19 162 rfl) (kcX7_witness_2 20 0 rfl) (kcX7_witness_2 21 23 rfl) rfl
theorem dX7_witness_150 : decode cX7_witness 150 = .ok (.aload_n 0, 1) := dw_42 (kcX7_witness_2 22 42 rfl)
theorem dX7_witness_151 : decode cX7_witness 151 = .ok (.getfield 77, 3) := dw_180 (kcX7_witness_2 23 180 rfl) (kcX7_witness_2 24 0 rfl) (kcX7_witness_2 25 77 rfl) rfl
theorem dX7_witness_154 : decode cX7_witness 154 = .ok (.iload 6, 2) := dw_21 (kcX7_witness_2 26 21 rfl) (kcX7_witness_2 27 6 rfl)
theorem dX7_witness_156 : decode cX7_witness 156 = .ok (.aload_n 0, 1) := dw_42 (kcX7_witness_2 28 42 rfl)
theorem dX7_witness_157 : decode cX7_witness 157 = .ok (.getfield 62, 3) := dw_180 (kcX7_witness_2 29 180 rfl) (kcX7_witness_2 30 0 rfl) (kcX7_witness_2 31 62 rfl) rfl
theorem dX7_witness_160 : decode cX7_witness 160 = .ok (.iload 6, 2) := dw_21 (kcX7_witness_2 32 21 rfl) (kcX7_witness_2 33 6 rfl)
theorem dX7_witness_162 : decode cX7_witness 162 = .ok (.iaload, 1) := dw_46 (kcX7_witness_2 34 46 rfl)
theorem dX7_witness_163 : decode cX7_witness 163 = .ok (.iastore, 1) := dw_79 (kcX7_witness_2 35 79 rfl)
theorem dX7_witness_164 : decode cX7_witness 164 = .ok (.iinc 6 1, 3) := dw_132 (kcX7_witness_2 36 132 rfl) (kcX7_witness_2 37 6 rfl) (kcX7_witness_2 38 1 rfl) rfl
theorem dX7_witness_167 : decode cX7_witness 167 = .ok (.goto (-26), 3) := dw_167 (kcX7_witness_2 39 167 rfl) (kcX7_witness_2 40 255 rfl) (kcX7_witness_2 41 230 rfl) rfl
theorem dX7_witness_170 : decode cX7_witness 170 = .ok (.iconst 0, 1) := dw_3 (kcX7_witness_2 42 3 rfl)
theorem dX7_witness_171 : decode cX7_witness 171 = .ok (.istore 6, 2) := dw_54 (kcX7_witness_2 43 54 rfl) (kcX7_witness_2 44 6 rfl)
theorem dX7_witness_173 : decode cX7_witness 173 = .ok (.iload 6, 2) := dw_21 (kcX7_witness_2 45 21 rfl) (kcX7_witness_2 46 6 rfl)
theorem dX7_witness_175 : decode cX7_witness 175 = .ok (.bipush 24, 2) := dw_16 (kcX7_witness_2 47 16 rfl) (kcX7_witness_2 48 24 rfl) rfl
theorem dX7_witness_177 : decode cX7_witness 177 = .ok (.if_icmp .ge 17, 3) := dw_162 (kcX7_witness_2 49 162 rfl) (kcX7_witness_2 50 0 rfl) (kcX7_witness_2 51 17 rfl) rfl
theorem dX7_witness_180 : decode cX7_witness 180 = .ok (.aload_n 0, 1) := dw_42 (kcX7_witness_2 52 42 rfl)
theorem dX7_witness_181 : decode cX7_witness 181 = .ok (.getfield 80, 3) := dw_180 (kcX7_witness_2 53 180 rfl) (kcX7_witness_2 54 0 rfl) (kcX7_witness_2 55 80 rfl) rfl
theorem dX7_witness_184 : decode cX7_witness 184 = .ok (.iload 6, 2) := dw_21 (kcX7_witness_2 56 21 rfl) (kcX7_witness_2 57 6 rfl)
theorem dX7_witness_186 : decode cX7_witness 186 = .ok (.iconst 0, 1) := dw_3 (kcX7_witness_2 58 3 rfl)
theorem dX7_witness_187 : decode cX7_witness 187 = .ok (.bastore, 1) := dw_84 (kcX7_witness_2 59 84 rfl)
theorem dX7_witness_188 : decode cX7_witness 188 = .ok (.iinc 6 1, 3) := dw_132 (kcX7_witness_2 60 132 rfl) (kcX7_witness_2 61 6 rfl) (kcX7_witness_2 62 1 rfl) rfl
theorem kcX7_witness_3 : CHb cX7_witness 192 [255, 238, 21, 4, 153, 0, 10, 16, 12, 29, 96, 167, 0, 4, 28, 54, 6, 42, 180, 0, 80, 21, 6, 4, 84, 21, 5, 154, 0, 15, 42, 180, 0, 53, 16, 12, 28, 104, 29, 96, 46, 172, 3, 54, 7, 21, 7, 42, 180, 0, 189, 162, 0, 73, 3, 54, 8, 21, 8, 42, 180, 0, 192, 162] := CHb_of (by decide +kernel)
theorem dX7_witness_191 : decode cX7_witness 191 = .ok (.goto (-18), 3) := dw_167 (kcX7_witness_2 63 167 rfl) (kcX7_witness_3 0 255 rfl) (kcX7_witness_3 1 238 rfl) rfl
theorem dX7_witness_194 : decode cX7_witness 194 = .ok (.iload 4, 2) := dw_21 (kcX7_witness_3 2 21 rfl) (kcX7_witness_3 3 4 rfl)
theorem dX7_witness_196 : decode cX7_witness 196 = .ok (.ifCond .eq 10, 3) := dw_153 (kcX7_witness_3 4 153 rfl) (kcX7_witness_3 5 0 rfl) (kcX7_witness_3 6 10 rfl) rfl
theorem dX7_witness_206 : decode cX7_witness 206 = .ok (.iload_n 2, 1) := dw_28 (kcX7_witness_3 14 28 rfl)
theorem dX7_witness_199 : decode cX7_witness 199 = .ok (.bipush 12, 2) := dw_16 (kcX7_witness_3 7 16 rfl) (kcX7_witness_3 8 12 rfl) rfl
theorem dX7_witness_201 : decode cX7_witness 201 = .ok (.iload_n 3, 1) := dw_29 (kcX7_witness_3 9 29 rfl)
theorem dX7_witness_202 : decode cX7_witness 202 = .ok (.iadd, 1) := dw_96 (kcX7_witness_3 10 96 rfl)
theorem dX7_witness_203 : decode cX7_witness 203 = .ok (.goto 4, 3) := dw_167 (kcX7_witness_3 11 167 rfl) (kcX7_witness_3 12 0 rfl) (kcX7_witness_3 13 4 rfl) rfl
theorem dX7_witness_207 : decode cX7_witness 207 = .ok (.istore 6, 2) := dw_54 (kcX7_witness_3 15 54 rfl) (kcX7_witness_3 16 6 rfl)
theorem dX7_witness_209 : decode cX7_witness 209 = .ok (.aload_n 0, 1) := dw_42 (kcX7_witness_3 17 42 rfl)
theorem dX7_witness_210 : decode cX7_witness 210 = .ok (.getfield 80, 3) := dw_180 (kcX7_witness_3 18 180 rfl) (kcX7_witness_3 19 0 rfl) (kcX7_witness_3 20 80 rfl) rfl
theorem dX7_witness_213 : decode cX7_witness 213 = .ok (.iload 6, 2) := dw_21 (kcX7_witness_3 21 21 rfl) (kcX7_witness_3 22 6 rfl)
theorem dX7_witness_215 : decode cX7_witness 215 = .ok (.iconst 1, 1) := dw_4 (kcX7_witness_3 23 4 rfl)
theorem dX7_witness_216 : decode cX7_witness 216 = .ok (.bastore, 1) := dw_84 (kcX7_witness_3 24 84 rfl)
theorem dX7_witness_217 : decode cX7_witness 217 = .ok (.iload 5, 2) := dw_21 (kcX7_witness_3 25 21 rfl) (kcX7_witness_3 26 5 rfl)
theorem dX7_witness_219 : decode cX7_witness 219 = .ok (.ifCond .ne 15, 3) := dw_154 (kcX7_witness_3 27 154 rfl) (kcX7_witness_3 28 0 rfl) (kcX7_witness_3 29 15 rfl) rfl
theorem dX7_witness_234 : decode cX7_witness 234 = .ok (.iconst 0, 1) := dw_3 (kcX7_witness_3 42 3 rfl)
theorem dX7_witness_235 : decode cX7_witness 235 = .ok (.istore 7, 2) := dw_54 (kcX7_witness_3 43 54 rfl) (kcX7_witness_3 44 7 rfl)
theorem dX7_witness_237 : decode cX7_witness 237 = .ok (.iload 7, 2) := dw_21 (kcX7_witness_3 45 21 rfl) (kcX7_witness_3 46 7 rfl)
theorem dX7_witness_239 : decode cX7_witness 239 = .ok (.aload_n 0, 1) := dw_42 (kcX7_witness_3 47 42 rfl)
theorem dX7_witness_240 : decode cX7_witness 240 = .ok (.getfield 189, 3) := dw_180 (kcX7_witness_3 48 180 rfl) (kcX7_witness_3 49 0 rfl) (kcX7_witness_3 50 189 rfl) rfl
theorem dX7_witness_243 : decode cX7_witness 243 = .ok (.if_icmp .ge 73, 3) := dw_162 (kcX7_witness_3 51 162 rfl) (kcX7_witness_3 52 0 rfl) (kcX7_witness_3 53 73 rfl) rfl
theorem dX7_witness_246 : decode cX7_witness 246 = .ok (.iconst 0, 1) := dw_3 (kcX7_witness_3 54 3 rfl)
theorem dX7_witness_247 : decode cX7_witness 247 = .ok (.istore 8, 2) := dw_54 (kcX7_witness_3 55 54 rfl) (kcX7_witness_3 56 8 rfl)
theorem dX7_witness_249 : decode cX7_witness 249 = .ok (.iload 8, 2) := dw_21 (kcX7_witness_3 57 21 rfl) (kcX7_witness_3 58 8 rfl)
theorem dX7_witness_251 : decode cX7_witness 251 = .ok (.aload_n 0, 1) := dw_42 (kcX7_witness_3 59 42 rfl)
theorem dX7_witness_252 : decode cX7_witness 252 = .ok (.getfield 192, 3) := dw_180 (kcX7_witness_3 60 180 rfl) (kcX7_witness_3 61 0 rfl) (kcX7_witness_3 62 192 rfl) rfl
theorem kcX7_witness_4 : CHb cX7_witness 256 [0, 55, 42, 180, 0, 65, 16, 12, 21, 7, 104, 21, 8, 96, 42, 180, 0, 62, 21, 7, 46, 16, 254, 159, 0, 23, 42, 27, 27, 21, 7, 21, 8, 184, 0, 147, 182, 0, 181, 153, 0, 7, 4, 167, 0, 4, 3, 84, 132, 8, 1, 167, 255, 198, 132, 7, 1, 167, 255, 180, 42, 180, 0, 65] := CHb_of (by decide +kernel)
theorem dX7_witness_255 : decode cX7_witness 255 = .ok (.if_icmp .ge 55, 3) := dw_162 (kcX7_witness_3 63 162 rfl) (kcX7_witness_4 0 0 rfl) (kcX7_witness_4 1 55 rfl) rfl
theorem dX7_witness_258 : decode cX7_witness 258 = .ok (.aload_n 0, 1) := dw_42 (kcX7_witness_4 2 42 rfl)
theorem dX7_witness_259 : decode cX7_witness 259 = .ok (.getfield 65, 3) := dw_180 (kcX7_witness_4 3 180 rfl) (kcX7_witness_4 4 0 rfl) (kcX7_witness_4 5 65 rfl) rfl
theorem dX7_witness_262 : decode cX7_witness 262 = .ok (.bipush 12, 2) := dw_16 (kcX7_witness_4 6 16 rfl) (kcX7_witness_4 7 12 rfl) rfl
theorem dX7_witness_264 : decode cX7_witness 264 = .ok (.iload 7, 2) := dw_21 (kcX7_witness_4 8 21 rfl) (kcX7_witness_4 9 7 rfl)
theorem dX7_witness_266 : decode cX7_witness 266 = .ok (.imul, 1) := dw_104 (kcX7_witness_4 10 104 rfl)
theorem dX7_witness_267 : decode cX7_witness 267 = .ok (.iload 8, 2) := dw_21 (kcX7_witness_4 11 21 rfl) (kcX7_witness_4 12 8 rfl)
theorem dX7_witness_269 : decode cX7_witness 269 = .ok (.iadd, 1) := dw_96 (kcX7_witness_4 13 96 rfl)
theorem dX7_witness_270 : decode cX7_witness 270 = .ok (.aload_n 0, 1) := dw_42 (kcX7_witness_4 14 42 rfl)
theorem dX7_witness_271 : decode cX7_witness 271 = .ok (.getfield 62, 3) := dw_180 (kcX7_witness_4 15 180 rfl) (kcX7_witness_4 16 0 rfl) (kcX7_witness_4 17 62 rfl) rfl
theorem dX7_witness_274 : decode cX7_witness 274 = .ok (.iload 7, 2) := dw_21 (kcX7_witness_4 18 21 rfl) (kcX7_witness_4 19 7 rfl)
theorem dX7_witness_276 : decode cX7_witness 276 = .ok (.iaload, 1) := dw_46 (kcX7_witness_4 20 46 rfl)
theorem dX7_witness_277 : decode cX7_witness 277 = .ok (.bipush (-2), 2) := dw_16 (kcX7_witness_4 21 16 rfl) (kcX7_witness_4 22 254 rfl) rfl
theorem dX7_witness_279 : decode cX7_witness 279 = .ok (.if_icmp .eq 23, 3) := dw_159 (kcX7_witness_4 23 159 rfl) (kcX7_witness_4 24 0 rfl) (kcX7_witness_4 25 23 rfl) rfl
theorem dX7_witness_302 : decode cX7_witness 302 = .ok (.iconst 0, 1) := dw_3 (kcX7_witness_4 46 3 rfl)
theorem dX7_witness_282 : decode cX7_witness 282 = .ok (.aload_n 0, 1) := dw_42 (kcX7_witness_4 26 42 rfl)
theorem dX7_witness_283 : decode cX7_witness 283 = .ok (.iload_n 1, 1) := dw_27 (kcX7_witness_4 27 27 rfl)
theorem dX7_witness_284 : decode cX7_witness 284 = .ok (.iload_n 1, 1) := dw_27 (kcX7_witness_4 28 27 rfl)
theorem dX7_witness_285 : decode cX7_witness 285 = .ok (.iload 7, 2) := dw_21 (kcX7_witness_4 29 21 rfl) (kcX7_witness_4 30 7 rfl)
theorem dX7_witness_287 : decode cX7_witness 287 = .ok (.iload 8, 2) := dw_21 (kcX7_witness_4 31 21 rfl) (kcX7_witness_4 32 8 rfl)
theorem dX7_witness_289 : decode cX7_witness 289 = .ok (.invokestatic 147, 3) := dw_184 (kcX7_witness_4 33 184 rfl) (kcX7_witness_4 34 0 rfl) (kcX7_witness_4 35 147 rfl) rfl
theorem dX7_witness_292 : decode cX7_witness 292 = .ok (.invokevirtual 181, 3) := dw_182 (kcX7_witness_4 36 182 rfl) (kcX7_witness_4 37 0 rfl) (kcX7_witness_4 38 181 rfl) rfl
theorem dX7_witness_295 : decode cX7_witness 295 = .ok (.ifCond .eq 7, 3) := dw_153 (kcX7_witness_4 39 153 rfl) (kcX7_witness_4 40 0 rfl) (kcX7_witness_4 41 7 rfl) rfl
theorem dX7_witness_298 : decode cX7_witness 298 = .ok (.iconst 1, 1) := dw_4 (kcX7_witness_4 42 4 rfl)
theorem dX7_witness_299 : decode cX7_witness 299 = .ok (.goto 4, 3) := dw_167 (kcX7_witness_4 43 167 rfl) (kcX7_witness_4 44 0 rfl) (kcX7_witness_4 45 4 rfl) rfl
theorem dX7_witness_303 : decode cX7_witness 303 = .ok (.bastore, 1) := dw_84 (kcX7_witness_4 47 84 rfl)
theorem dX7_witness_304 : decode cX7_witness 304 = .ok (.iinc 8 1, 3) := dw_132 (kcX7_witness_4 48 132 rfl) (kcX7_witness_4 49 8 rfl) (kcX7_witness_4 50 1 rfl) rfl
theorem dX7_witness_307 : decode cX7_witness 307 = .ok (.goto (-58), 3) := dw_167 (kcX7_witness_4 51 167 rfl) (kcX7_witness_4 52 255 rfl) (kcX7_witness_4 53 198 rfl) rfl
theorem dX7_witness_310 : decode cX7_witness 310 = .ok (.iinc 7 1, 3) := dw_132 (kcX7_witness_4 54 132 rfl) (kcX7_witness_4 55 7 rfl) (kcX7_witness_4 56 1 rfl) rfl
theorem dX7_witness_313 : decode cX7_witness 313 = .ok (.goto (-76), 3) := dw_167 (kcX7_witness_4 57 167 rfl) (kcX7_witness_4 58 255 rfl) (kcX7_witness_4 59 180 rfl) rfl
theorem dX7_witness_316 : decode cX7_witness 316 = .ok (.aload_n 0, 1) := dw_42 (kcX7_witness_4 60 42 rfl)
theorem dX7_witness_317 : decode cX7_witness 317 = .ok (.getfield 65, 3) := dw_180 (kcX7_witness_4 61 180 rfl) (kcX7_witness_4 62 0 rfl) (kcX7_witness_4 63 65 rfl) rfl
theorem kcX7_witness_5 : CHb cX7_witness 320 [16, 12, 28, 104, 29, 96, 3, 84, 4, 54, 7, 21, 7, 153, 0, 123, 3, 54, 7, 3, 54, 8, 21, 8, 16, 24, 162, 0, 107, 42, 180, 0, 80, 21, 8, 51, 154, 0, 6, 167, 0, 88, 21, 8, 16, 12, 162, 0, 8, 16, 12, 167, 0, 4, 3, 54, 9, 21, 9, 54, 10, 21, 10, 21] := CHb_of (by decide +kernel)
theorem dX7_witness_320 : decode cX7_witness 320 = .ok (.bipush 12, 2) := dw_16 (kcX7_witness_5 0 16 rfl) (kcX7_witness_5 1 12 rfl) rfl
theorem dX7_witness_322 : decode cX7_witness 322 = .ok (.iload_n 2, 1) := dw_28 (kcX7_witness_5 2 28 rfl)
theorem dX7_witness_323 : decode cX7_witness 323 = .ok (.imul, 1) := dw_104 (kcX7_witness_5 3 104 rfl)
theorem dX7_witness_324 : decode cX7_witness 324 = .ok (.iload_n 3, 1) := dw_29 (kcX7_witness_5 4 29 rfl)
theorem dX7_witness_325 : decode cX7_witness 325 = .ok (.iadd, 1) := dw_96 (kcX7_witness_5 5 96 rfl)
theorem dX7_witness_326 : decode cX7_witness 326 = .ok (.iconst 0, 1) := dw_3 (kcX7_witness_5 6 3 rfl)
theorem dX7_witness_327 : decode cX7_witness 327 = .ok (.bastore, 1) := dw_84 (kcX7_witness_5 7 84 rfl)
theorem dX7_witness_328 : decode cX7_witness 328 = .ok (.iconst 1, 1) := dw_4 (kcX7_witness_5 8 4 rfl)
theorem dX7_witness_329 : decode cX7_witness 329 = .ok (.istore 7, 2) := dw_54 (kcX7_witness_5 9 54 rfl) (kcX7_witness_5 10 7 rfl)
theorem dX7_witness_331 : decode cX7_witness 331 = .ok (.iload 7, 2) := dw_21 (kcX7_witness_5 11 21 rfl) (kcX7_witness_5 12 7 rfl)
theorem dX7_witness_333 : decode cX7_witness 333 = .ok (.ifCond .eq 123, 3) := dw_153 (kcX7_witness_5 13 153 rfl) (kcX7_witness_5 14 0 rfl) (kcX7_witness_5 15 123 rfl) rfl
theorem kcX7_witness_7 : CHb cX7_witness 448 [8, 1, 167, 255, 148, 167, 255, 134, 42, 180, 0, 74, 16, 12, 28, 104, 29, 96, 46, 172] := CHb_of (by decide +kernel)
theorem dX7_witness_456 : decode cX7_witness 456 = .ok (.aload_n 0, 1) := dw_42 (kcX7_witness_7 8 42 rfl)
theorem dX7_witness_457 : decode cX7_witness 457 = .ok (.getfield 74, 3) := dw_180 (kcX7_witness_7 9 180 rfl) (kcX7_witness_7 10 0 rfl) (kcX7_witness_7 11 74 rfl) rfl
theorem dX7_witness_460 : decode cX7_witness 460 = .ok (.bipush 12, 2) := dw_16 (kcX7_witness_7 12 16 rfl) (kcX7_witness_7 13 12 rfl) rfl
theorem dX7_witness_462 : decode cX7_witness 462 = .ok (.iload_n 2, 1) := dw_28 (kcX7_witness_7 14 28 rfl)
theorem dX7_witness_463 : decode cX7_witness 463 = .ok (.imul, 1) := dw_104 (kcX7_witness_7 15 104 rfl)
theorem dX7_witness_464 : decode cX7_witness 464 = .ok (.iload_n 3, 1) := dw_29 (kcX7_witness_7 16 29 rfl)
theorem dX7_witness_465 : decode cX7_witness 465 = .ok (.iadd, 1) := dw_96 (kcX7_witness_7 17 96 rfl)
theorem dX7_witness_466 : decode cX7_witness 466 = .ok (.iaload, 1) := dw_46 (kcX7_witness_7 18 46 rfl)
theorem dX7_witness_467 : decode cX7_witness 467 = .ok (.ireturn, 1) := dw_172 (kcX7_witness_7 19 172 rfl)
theorem dX7_witness_336 : decode cX7_witness 336 = .ok (.iconst 0, 1) := dw_3 (kcX7_witness_5 16 3 rfl)
theorem dX7_witness_337 : decode cX7_witness 337 = .ok (.istore 7, 2) := dw_54 (kcX7_witness_5 17 54 rfl) (kcX7_witness_5 18 7 rfl)
theorem dX7_witness_339 : decode cX7_witness 339 = .ok (.iconst 0, 1) := dw_3 (kcX7_witness_5 19 3 rfl)
theorem dX7_witness_340 : decode cX7_witness 340 = .ok (.istore 8, 2) := dw_54 (kcX7_witness_5 20 54 rfl) (kcX7_witness_5 21 8 rfl)
theorem dX7_witness_342 : decode cX7_witness 342 = .ok (.iload 8, 2) := dw_21 (kcX7_witness_5 22 21 rfl) (kcX7_witness_5 23 8 rfl)
theorem dX7_witness_344 : decode cX7_witness 344 = .ok (.bipush 24, 2) := dw_16 (kcX7_witness_5 24 16 rfl) (kcX7_witness_5 25 24 rfl) rfl
theorem dX7_witness_346 : decode cX7_witness 346 = .ok (.if_icmp .ge 107, 3) := dw_162 (kcX7_witness_5 26 162 rfl) (kcX7_witness_5 27 0 rfl) (kcX7_witness_5 28 107 rfl) rfl
theorem dX7_witness_349 : decode cX7_witness 349 = .ok (.aload_n 0, 1) := dw_42 (kcX7_witness_5 29 42 rfl)
theorem dX7_witness_350 : decode cX7_witness 350 = .ok (.getfield 80, 3) := dw_180 (kcX7_witness_5 30 180 rfl) (kcX7_witness_5 31 0 rfl) (kcX7_witness_5 32 80 rfl) rfl
theorem dX7_witness_353 : decode cX7_witness 353 = .ok (.iload 8, 2) := dw_21 (kcX7_witness_5 33 21 rfl) (kcX7_witness_5 34 8 rfl)
theorem dX7_witness_355 : decode cX7_witness 355 = .ok (.baload, 1) := dw_51 (kcX7_witness_5 35 51 rfl)
theorem dX7_witness_356 : decode cX7_witness 356 = .ok (.ifCond .ne 6, 3) := dw_154 (kcX7_witness_5 36 154 rfl) (kcX7_witness_5 37 0 rfl) (kcX7_witness_5 38 6 rfl) rfl
theorem dX7_witness_362 : decode cX7_witness 362 = .ok (.iload 8, 2) := dw_21 (kcX7_witness_5 42 21 rfl) (kcX7_witness_5 43 8 rfl)
theorem dX7_witness_364 : decode cX7_witness 364 = .ok (.bipush 12, 2) := dw_16 (kcX7_witness_5 44 16 rfl) (kcX7_witness_5 45 12 rfl) rfl
theorem dX7_witness_366 : decode cX7_witness 366 = .ok (.if_icmp .ge 8, 3) := dw_162 (kcX7_witness_5 46 162 rfl) (kcX7_witness_5 47 0 rfl) (kcX7_witness_5 48 8 rfl) rfl
theorem dX7_witness_374 : decode cX7_witness 374 = .ok (.iconst 0, 1) := dw_3 (kcX7_witness_5 54 3 rfl)
theorem dX7_witness_375 : decode cX7_witness 375 = .ok (.istore 9, 2) := dw_54 (kcX7_witness_5 55 54 rfl) (kcX7_witness_5 56 9 rfl)
theorem dX7_witness_377 : decode cX7_witness 377 = .ok (.iload 9, 2) := dw_21 (kcX7_witness_5 57 21 rfl) (kcX7_witness_5 58 9 rfl)
theorem dX7_witness_379 : decode cX7_witness 379 = .ok (.istore 10, 2) := dw_54 (kcX7_witness_5 59 54 rfl) (kcX7_witness_5 60 10 rfl)
theorem dX7_witness_381 : decode cX7_witness 381 = .ok (.iload 10, 2) := dw_21 (kcX7_witness_5 61 21 rfl) (kcX7_witness_5 62 10 rfl)
theorem kcX7_witness_6 : CHb cX7_witness 384 [9, 16, 12, 96, 162, 0, 59, 42, 180, 0, 80, 21, 10, 51, 154, 0, 43, 42, 21, 10, 42, 180, 0, 62, 28, 46, 182, 0, 198, 153, 0, 28, 42, 21, 8, 21, 10, 182, 0, 201, 157, 0, 6, 167, 0, 14, 42, 180, 0, 80, 21, 10, 4, 84, 4, 54, 7, 132, 10, 1, 167, 255, 193, 132] := CHb_of (by decide +kernel)
theorem dX7_witness_383 : decode cX7_witness 383 = .ok (.iload 9, 2) := dw_21 (kcX7_witness_5 63 21 rfl) (kcX7_witness_6 0 9 rfl)
theorem dX7_witness_385 : decode cX7_witness 385 = .ok (.bipush 12, 2) := dw_16 (kcX7_witness_6 1 16 rfl) (kcX7_witness_6 2 12 rfl) rfl
theorem dX7_witness_387 : decode cX7_witness 387 = .ok (.iadd, 1) := dw_96 (kcX7_witness_6 3 96 rfl)
theorem dX7_witness_388 : decode cX7_witness 388 = .ok (.if_icmp .ge 59, 3) := dw_162 (kcX7_witness_6 4 162 rfl) (kcX7_witness_6 5 0 rfl) (kcX7_witness_6 6 59 rfl) rfl
theorem dX7_witness_447 : decode cX7_witness 447 = .ok (.iinc 8 1, 3) := dw_132 (kcX7_witness_6 63 132 rfl) (kcX7_witness_7 0 8 rfl) (kcX7_witness_7 1 1 rfl) rfl
theorem dX7_witness_450 : decode cX7_witness 450 = .ok (.goto (-108), 3) := dw_167 (kcX7_witness_7 2 167 rfl) (kcX7_witness_7 3 255 rfl) (kcX7_witness_7 4 148 rfl) rfl
theorem dX7_witness_391 : decode cX7_witness 391 = .ok (.aload_n 0, 1) := dw_42 (kcX7_witness_6 7 42 rfl)
theorem dX7_witness_392 : decode cX7_witness 392 = .ok (.getfield 80, 3) := dw_180 (kcX7_witness_6 8 180 rfl) (kcX7_witness_6 9 0 rfl) (kcX7_witness_6 10 80 rfl) rfl
theorem dX7_witness_395 : decode cX7_witness 395 = .ok (.iload 10, 2) := dw_21 (kcX7_witness_6 11 21 rfl) (kcX7_witness_6 12 10 rfl)
theorem dX7_witness_397 : decode cX7_witness 397 = .ok (.baload, 1) := dw_51 (kcX7_witness_6 13 51 rfl)
theorem dX7_witness_398 : decode cX7_witness 398 = .ok (.ifCond .ne 43, 3) := dw_154 (kcX7_witness_6 14 154 rfl) (kcX7_witness_6 15 0 rfl) (kcX7_witness_6 16 43 rfl) rfl
theorem dX7_witness_441 : decode cX7_witness 441 = .ok (.iinc 10 1, 3) := dw_132 (kcX7_witness_6 57 132 rfl) (kcX7_witness_6 58 10 rfl) (kcX7_witness_6 59 1 rfl) rfl
theorem dX7_witness_444 : decode cX7_witness 444 = .ok (.goto (-63), 3) := dw_167 (kcX7_witness_6 60 167 rfl) (kcX7_witness_6 61 255 rfl) (kcX7_witness_6 62 193 rfl) rfl
theorem dX7_witness_401 : decode cX7_witness 401 = .ok (.aload_n 0, 1) := dw_42 (kcX7_witness_6 17 42 rfl)
theorem dX7_witness_402 : decode cX7_witness 402 = .ok (.iload 10, 2) := dw_21 (kcX7_witness_6 18 21 rfl) (kcX7_witness_6 19 10 rfl)
theorem dX7_witness_404 : decode cX7_witness 404 = .ok (.aload_n 0, 1) := dw_42 (kcX7_witness_6 20 42 rfl)
theorem dX7_witness_405 : decode cX7_witness 405 = .ok (.getfield 62, 3) := dw_180 (kcX7_witness_6 21 180 rfl) (kcX7_witness_6 22 0 rfl) (kcX7_witness_6 23 62 rfl) rfl
theorem dX7_witness_408 : decode cX7_witness 408 = .ok (.iload_n 2, 1) := dw_28 (kcX7_witness_6 24 28 rfl)
theorem dX7_witness_409 : decode cX7_witness 409 = .ok (.iaload, 1) := dw_46 (kcX7_witness_6 25 46 rfl)
theorem dX7_witness_410 : decode cX7_witness 410 = .ok (.invokevirtual 198, 3) := dw_182 (kcX7_witness_6 26 182 rfl) (kcX7_witness_6 27 0 rfl) (kcX7_witness_6 28 198 rfl) rfl
theorem dX7_witness_413 : decode cX7_witness 413 = .ok (.ifCond .eq 28, 3) := dw_153 (kcX7_witness_6 29 153 rfl) (kcX7_witness_6 30 0 rfl) (kcX7_witness_6 31 28 rfl) rfl
theorem dX7_witness_416 : decode cX7_witness 416 = .ok (.aload_n 0, 1) := dw_42 (kcX7_witness_6 32 42 rfl)
theorem dX7_witness_417 : decode cX7_witness 417 = .ok (.iload 8, 2) := dw_21 (kcX7_witness_6 33 21 rfl) (kcX7_witness_6 34 8 rfl)
theorem dX7_witness_419 : decode cX7_witness 419 = .ok (.iload 10, 2) := dw_21 (kcX7_witness_6 35 21 rfl) (kcX7_witness_6 36 10 rfl)
theorem dX7_witness_421 : decode cX7_witness 421 = .ok (.invokevirtual 201, 3) := dw_182 (kcX7_witness_6 37 182 rfl) (kcX7_witness_6 38 0 rfl) (kcX7_witness_6 39 201 rfl) rfl
theorem dX7_witness_424 : decode cX7_witness 424 = .ok (.ifCond .gt 6, 3) := dw_157 (kcX7_witness_6 40 157 rfl) (kcX7_witness_6 41 0 rfl) (kcX7_witness_6 42 6 rfl) rfl
theorem dX7_witness_430 : decode cX7_witness 430 = .ok (.aload_n 0, 1) := dw_42 (kcX7_witness_6 46 42 rfl)
theorem dX7_witness_431 : decode cX7_witness 431 = .ok (.getfield 80, 3) := dw_180 (kcX7_witness_6 47 180 rfl) (kcX7_witness_6 48 0 rfl) (kcX7_witness_6 49 80 rfl) rfl
theorem dX7_witness_434 : decode cX7_witness 434 = .ok (.iload 10, 2) := dw_21 (kcX7_witness_6 50 21 rfl) (kcX7_witness_6 51 10 rfl)
theorem dX7_witness_436 : decode cX7_witness 436 = .ok (.iconst 1, 1) := dw_4 (kcX7_witness_6 52 4 rfl)
theorem dX7_witness_437 : decode cX7_witness 437 = .ok (.bastore, 1) := dw_84 (kcX7_witness_6 53 84 rfl)
theorem dX7_witness_438 : decode cX7_witness 438 = .ok (.iconst 1, 1) := dw_4 (kcX7_witness_6 54 4 rfl)
theorem dX7_witness_439 : decode cX7_witness 439 = .ok (.istore 7, 2) := dw_54 (kcX7_witness_6 55 54 rfl) (kcX7_witness_6 56 7 rfl)
theorem dX7_witness_427 : decode cX7_witness 427 = .ok (.goto 14, 3) := dw_167 (kcX7_witness_6 43 167 rfl) (kcX7_witness_6 44 0 rfl) (kcX7_witness_6 45 14 rfl) rfl
theorem dX7_witness_369 : decode cX7_witness 369 = .ok (.bipush 12, 2) := dw_16 (kcX7_witness_5 49 16 rfl) (kcX7_witness_5 50 12 rfl) rfl
theorem dX7_witness_371 : decode cX7_witness 371 = .ok (.goto 4, 3) := dw_167 (kcX7_witness_5 51 167 rfl) (kcX7_witness_5 52 0 rfl) (kcX7_witness_5 53 4 rfl) rfl
theorem dX7_witness_359 : decode cX7_witness 359 = .ok (.goto 88, 3) := dw_167 (kcX7_witness_5 39 167 rfl) (kcX7_witness_5 40 0 rfl) (kcX7_witness_5 41 88 rfl) rfl
theorem dX7_witness_453 : decode cX7_witness 453 = .ok (.goto (-122), 3) := dw_167 (kcX7_witness_7 5 167 rfl) (kcX7_witness_7 6 255 rfl) (kcX7_witness_7 7 134 rfl) rfl
theorem dX7_witness_222 : decode cX7_witness 222 = .ok (.aload_n 0, 1) := dw_42 (kcX7_witness_3 30 42 rfl)
theorem dX7_witness_223 : decode cX7_witness 223 = .ok (.getfield 53, 3) := dw_180 (kcX7_witness_3 31 180 rfl) (kcX7_witness_3 32 0 rfl) (kcX7_witness_3 33 53 rfl) rfl
theorem dX7_witness_226 : decode cX7_witness 226 = .ok (.bipush 12, 2) := dw_16 (kcX7_witness_3 34 16 rfl) (kcX7_witness_3 35 12 rfl) rfl
theorem dX7_witness_228 : decode cX7_witness 228 = .ok (.iload_n 2, 1) := dw_28 (kcX7_witness_3 36 28 rfl)
theorem dX7_witness_229 : decode cX7_witness 229 = .ok (.imul, 1) := dw_104 (kcX7_witness_3 37 104 rfl)
theorem dX7_witness_230 : decode cX7_witness 230 = .ok (.iload_n 3, 1) := dw_29 (kcX7_witness_3 38 29 rfl)
theorem dX7_witness_231 : decode cX7_witness 231 = .ok (.iadd, 1) := dw_96 (kcX7_witness_3 39 96 rfl)
theorem dX7_witness_232 : decode cX7_witness 232 = .ok (.iaload, 1) := dw_46 (kcX7_witness_3 40 46 rfl)
theorem dX7_witness_233 : decode cX7_witness 233 = .ok (.ireturn, 1) := dw_172 (kcX7_witness_3 41 172 rfl)
theorem dX7_witness_18 : decode cX7_witness 18 = .ok (.iconst (-1), 1) := dw_2 (kcX7_witness_0 18 2 rfl)
theorem dX7_witness_19 : decode cX7_witness 19 = .ok (.ireturn, 1) := dw_172 (kcX7_witness_0 19 172 rfl)
theorem kcX7_seen_0 : CHb cX7_seen 0 [27, 155, 0, 34, 27, 42, 180, 0, 233, 162, 0, 26, 28, 155, 0, 22, 28, 42, 180, 0, 236, 162, 0, 14, 42, 180, 0, 77, 27, 46, 16, 254, 160, 0, 5, 2, 172, 42, 180, 0, 74, 16, 12, 27, 104, 28, 96, 46, 172] := CHb_of (by decide +kernel)
theorem dX7_seen_0 : decode cX7_seen 0 = .ok (.iload_n 1, 1) := dw_27 (kcX7_seen_0 0 27 rfl)
theorem dX7_seen_1 : decode cX7_seen 1 = .ok (.ifCond .lt 34, 3) := dw_155 (kcX7_seen_0 1 155 rfl) (kcX7_seen_0 2 0 rfl) (kcX7_seen_0 3 34 rfl) rfl
theorem dX7_seen_35 : decode cX7_seen 35 = .ok (.iconst (-1), 1) := dw_2 (kcX7_seen_0 35 2 rfl)
theorem dX7_seen_36 : decode cX7_seen 36 = .ok (.ireturn, 1) := dw_172 (kcX7_seen_0 36 172 rfl)
theorem dX7_seen_4 : decode cX7_seen 4 = .ok (.iload_n 1, 1) := dw_27 (kcX7_seen_0 4 27 rfl)
theorem dX7_seen_5 : decode cX7_seen 5 = .ok (.aload_n 0, 1) := dw_42 (kcX7_seen_0 5 42 rfl)
theorem dX7_seen_6 : decode cX7_seen 6 = .ok (.getfield 233, 3) := dw_180 (kcX7_seen_0 6 180 rfl) (kcX7_seen_0 7 0 rfl) (kcX7_seen_0 8 233 rfl) rfl
theorem dX7_seen_9 : decode cX7_seen 9 = .ok (.if_icmp .ge 26, 3) := dw_162 (kcX7_seen_0 9 162 rfl) (kcX7_seen_0 10 0 rfl) (kcX7_seen_0 11 26 rfl) rfl
theorem dX7_seen_12 : decode cX7_seen 12 = .ok (.iload_n 2, 1) := dw_28 (kcX7_seen_0 12 28 rfl)
theorem dX7_seen_13 : decode cX7_seen 13 = .ok (.ifCond .lt 22, 3) := dw_155 (kcX7_seen_0 13 155 rfl) (kcX7_seen_0 14 0 rfl) (kcX7_seen_0 15 22 rfl) rfl
theorem dX7_seen_16 : decode cX7_seen 16 = .ok (.iload_n 2, 1) := dw_28 (kcX7_seen_0 16 28 rfl)
theorem dX7_seen_17 : decode cX7_seen 17 = .ok (.aload_n 0, 1) := dw_42 (kcX7_seen_0 17 42 rfl)
theorem dX7_seen_18 : decode cX7_seen 18 = .ok (.getfield 236, 3) := dw_180 (kcX7_seen_0 18 180 rfl) (kcX7_seen_0 19 0 rfl) (kcX7_seen_0 20 236 rfl) rfl
theorem dX7_seen_21 : decode cX7_seen 21 = .ok (.if_icmp .ge 14, 3) := dw_162 (kcX7_seen_0 21 162 rfl) (kcX7_seen_0 22 0 rfl) (kcX7_seen_0 23 14 rfl) rfl
theorem dX7_seen_24 : decode cX7_seen 24 = .ok (.aload_n 0, 1) := dw_42 (kcX7_seen_0 24 42 rfl)
theorem dX7_seen_25 : decode cX7_seen 25 = .ok (.getfield 77, 3) := dw_180 (kcX7_seen_0 25 180 rfl) (kcX7_seen_0 26 0 rfl) (kcX7_seen_0 27 77 rfl) rfl
theorem dX7_seen_28 : decode cX7_seen 28 = .ok (.iload_n 1, 1) := dw_27 (kcX7_seen_0 28 27 rfl)
theorem dX7_seen_29 : decode cX7_seen 29 = .ok (.iaload, 1) := dw_46 (kcX7_seen_0 29 46 rfl)
theorem dX7_seen_30 : decode cX7_seen 30 = .ok (.bipush (-2), 2) := dw_16 (kcX7_seen_0 30 16 rfl) (kcX7_seen_0 31 254 rfl) rfl
theorem dX7_seen_32 : decode cX7_seen 32 = .ok (.if_icmp .ne 5, 3) := dw_160 (kcX7_seen_0 32 160 rfl) (kcX7_seen_0 33 0 rfl) (kcX7_seen_0 34 5 rfl) rfl
theorem dX7_seen_37 : decode cX7_seen 37 = .ok (.aload_n 0, 1) := dw_42 (kcX7_seen_0 37 42 rfl)
theorem dX7_seen_38 : decode cX7_seen 38 = .ok (.getfield 74, 3) := dw_180 (kcX7_seen_0 38 180 rfl) (kcX7_seen_0 39 0 rfl) (kcX7_seen_0 40 74 rfl) rfl
theorem dX7_seen_41 : decode cX7_seen 41 = .ok (.bipush 12, 2) := dw_16 (kcX7_seen_0 41 16 rfl) (kcX7_seen_0 42 12 rfl) rfl
theorem dX7_seen_43 : decode cX7_seen 43 = .ok (.iload_n 1, 1) := dw_27 (kcX7_seen_0 43 27 rfl)
theorem dX7_seen_44 : decode cX7_seen 44 = .ok (.imul, 1) := dw_104 (kcX7_seen_0 44 104 rfl)
theorem dX7_seen_45 : decode cX7_seen 45 = .ok (.iload_n 2, 1) := dw_28 (kcX7_seen_0 45 28 rfl)
theorem dX7_seen_46 : decode cX7_seen 46 = .ok (.iadd, 1) := dw_96 (kcX7_seen_0 46 96 rfl)
theorem dX7_seen_47 : decode cX7_seen 47 = .ok (.iaload, 1) := dw_46 (kcX7_seen_0 47 46 rfl)
theorem dX7_seen_48 : decode cX7_seen 48 = .ok (.ireturn, 1) := dw_172 (kcX7_seen_0 48 172 rfl)
theorem kcX7_rounded_0 : CHb cX7_rounded 0 [27, 155, 0, 34, 27, 42, 180, 1, 9, 162, 0, 26, 28, 155, 0, 22, 28, 42, 180, 1, 12, 162, 0, 14, 42, 180, 0, 95, 27, 46, 16, 254, 160, 0, 5, 2, 172, 42, 180, 0, 92, 16, 12, 27, 104, 28, 96, 46, 172] := CHb_of (by decide +kernel)
theorem dX7_rounded_0 : decode cX7_rounded 0 = .ok (.iload_n 1, 1) := dw_27 (kcX7_rounded_0 0 27 rfl)
theorem dX7_rounded_1 : decode cX7_rounded 1 = .ok (.ifCond .lt 34, 3) := dw_155 (kcX7_rounded_0 1 155 rfl) (kcX7_rounded_0 2 0 rfl) (kcX7_rounded_0 3 34 rfl) rfl
theorem dX7_rounded_35 : decode cX7_rounded 35 = .ok (.iconst (-1), 1) := dw_2 (kcX7_rounded_0 35 2 rfl)
theorem dX7_rounded_36 : decode cX7_rounded 36 = .ok (.ireturn, 1) := dw_172 (kcX7_rounded_0 36 172 rfl)
theorem dX7_rounded_4 : decode cX7_rounded 4 = .ok (.iload_n 1, 1) := dw_27 (kcX7_rounded_0 4 27 rfl)
theorem dX7_rounded_5 : decode cX7_rounded 5 = .ok (.aload_n 0, 1) := dw_42 (kcX7_rounded_0 5 42 rfl)
theorem dX7_rounded_6 : decode cX7_rounded 6 = .ok (.getfield 265, 3) := dw_180 (kcX7_rounded_0 6 180 rfl) (kcX7_rounded_0 7 1 rfl) (kcX7_rounded_0 8 9 rfl) rfl
theorem dX7_rounded_9 : decode cX7_rounded 9 = .ok (.if_icmp .ge 26, 3) := dw_162 (kcX7_rounded_0 9 162 rfl) (kcX7_rounded_0 10 0 rfl) (kcX7_rounded_0 11 26 rfl) rfl
theorem dX7_rounded_12 : decode cX7_rounded 12 = .ok (.iload_n 2, 1) := dw_28 (kcX7_rounded_0 12 28 rfl)
theorem dX7_rounded_13 : decode cX7_rounded 13 = .ok (.ifCond .lt 22, 3) := dw_155 (kcX7_rounded_0 13 155 rfl) (kcX7_rounded_0 14 0 rfl) (kcX7_rounded_0 15 22 rfl) rfl
theorem dX7_rounded_16 : decode cX7_rounded 16 = .ok (.iload_n 2, 1) := dw_28 (kcX7_rounded_0 16 28 rfl)
theorem dX7_rounded_17 : decode cX7_rounded 17 = .ok (.aload_n 0, 1) := dw_42 (kcX7_rounded_0 17 42 rfl)
theorem dX7_rounded_18 : decode cX7_rounded 18 = .ok (.getfield 268, 3) := dw_180 (kcX7_rounded_0 18 180 rfl) (kcX7_rounded_0 19 1 rfl) (kcX7_rounded_0 20 12 rfl) rfl
theorem dX7_rounded_21 : decode cX7_rounded 21 = .ok (.if_icmp .ge 14, 3) := dw_162 (kcX7_rounded_0 21 162 rfl) (kcX7_rounded_0 22 0 rfl) (kcX7_rounded_0 23 14 rfl) rfl
theorem dX7_rounded_24 : decode cX7_rounded 24 = .ok (.aload_n 0, 1) := dw_42 (kcX7_rounded_0 24 42 rfl)
theorem dX7_rounded_25 : decode cX7_rounded 25 = .ok (.getfield 95, 3) := dw_180 (kcX7_rounded_0 25 180 rfl) (kcX7_rounded_0 26 0 rfl) (kcX7_rounded_0 27 95 rfl) rfl
theorem dX7_rounded_28 : decode cX7_rounded 28 = .ok (.iload_n 1, 1) := dw_27 (kcX7_rounded_0 28 27 rfl)
theorem dX7_rounded_29 : decode cX7_rounded 29 = .ok (.iaload, 1) := dw_46 (kcX7_rounded_0 29 46 rfl)
theorem dX7_rounded_30 : decode cX7_rounded 30 = .ok (.bipush (-2), 2) := dw_16 (kcX7_rounded_0 30 16 rfl) (kcX7_rounded_0 31 254 rfl) rfl
theorem dX7_rounded_32 : decode cX7_rounded 32 = .ok (.if_icmp .ne 5, 3) := dw_160 (kcX7_rounded_0 32 160 rfl) (kcX7_rounded_0 33 0 rfl) (kcX7_rounded_0 34 5 rfl) rfl
theorem dX7_rounded_37 : decode cX7_rounded 37 = .ok (.aload_n 0, 1) := dw_42 (kcX7_rounded_0 37 42 rfl)
theorem dX7_rounded_38 : decode cX7_rounded 38 = .ok (.getfield 92, 3) := dw_180 (kcX7_rounded_0 38 180 rfl) (kcX7_rounded_0 39 0 rfl) (kcX7_rounded_0 40 92 rfl) rfl
theorem dX7_rounded_41 : decode cX7_rounded 41 = .ok (.bipush 12, 2) := dw_16 (kcX7_rounded_0 41 16 rfl) (kcX7_rounded_0 42 12 rfl) rfl
theorem dX7_rounded_43 : decode cX7_rounded 43 = .ok (.iload_n 1, 1) := dw_27 (kcX7_rounded_0 43 27 rfl)
theorem dX7_rounded_44 : decode cX7_rounded 44 = .ok (.imul, 1) := dw_104 (kcX7_rounded_0 44 104 rfl)
theorem dX7_rounded_45 : decode cX7_rounded 45 = .ok (.iload_n 2, 1) := dw_28 (kcX7_rounded_0 45 28 rfl)
theorem dX7_rounded_46 : decode cX7_rounded 46 = .ok (.iadd, 1) := dw_96 (kcX7_rounded_0 46 96 rfl)
theorem dX7_rounded_47 : decode cX7_rounded 47 = .ok (.iaload, 1) := dw_46 (kcX7_rounded_0 47 46 rfl)
theorem dX7_rounded_48 : decode cX7_rounded 48 = .ok (.ireturn, 1) := dw_172 (kcX7_rounded_0 48 172 rfl)
theorem kcX7_cut_0 : CHb cX7_cut 0 [28, 155, 0, 22, 28, 27, 153, 0, 10, 42, 180, 0, 233, 167, 0, 7, 42, 180, 0, 236, 161, 0, 5, 2, 172, 42, 180, 0, 80, 27, 153, 0, 7, 28, 167, 0, 7, 16, 12, 28, 96, 51, 153, 0, 7, 4, 167, 0, 4, 3, 172] := CHb_of (by decide +kernel)
theorem dX7_cut_0 : decode cX7_cut 0 = .ok (.iload_n 2, 1) := dw_28 (kcX7_cut_0 0 28 rfl)
theorem dX7_cut_1 : decode cX7_cut 1 = .ok (.ifCond .lt 22, 3) := dw_155 (kcX7_cut_0 1 155 rfl) (kcX7_cut_0 2 0 rfl) (kcX7_cut_0 3 22 rfl) rfl
theorem dX7_cut_23 : decode cX7_cut 23 = .ok (.iconst (-1), 1) := dw_2 (kcX7_cut_0 23 2 rfl)
theorem dX7_cut_24 : decode cX7_cut 24 = .ok (.ireturn, 1) := dw_172 (kcX7_cut_0 24 172 rfl)
theorem dX7_cut_4 : decode cX7_cut 4 = .ok (.iload_n 2, 1) := dw_28 (kcX7_cut_0 4 28 rfl)
theorem dX7_cut_5 : decode cX7_cut 5 = .ok (.iload_n 1, 1) := dw_27 (kcX7_cut_0 5 27 rfl)
theorem dX7_cut_6 : decode cX7_cut 6 = .ok (.ifCond .eq 10, 3) := dw_153 (kcX7_cut_0 6 153 rfl) (kcX7_cut_0 7 0 rfl) (kcX7_cut_0 8 10 rfl) rfl
theorem dX7_cut_16 : decode cX7_cut 16 = .ok (.aload_n 0, 1) := dw_42 (kcX7_cut_0 16 42 rfl)
theorem dX7_cut_17 : decode cX7_cut 17 = .ok (.getfield 236, 3) := dw_180 (kcX7_cut_0 17 180 rfl) (kcX7_cut_0 18 0 rfl) (kcX7_cut_0 19 236 rfl) rfl
theorem dX7_cut_9 : decode cX7_cut 9 = .ok (.aload_n 0, 1) := dw_42 (kcX7_cut_0 9 42 rfl)
theorem dX7_cut_10 : decode cX7_cut 10 = .ok (.getfield 233, 3) := dw_180 (kcX7_cut_0 10 180 rfl) (kcX7_cut_0 11 0 rfl) (kcX7_cut_0 12 233 rfl) rfl
theorem dX7_cut_13 : decode cX7_cut 13 = .ok (.goto 7, 3) := dw_167 (kcX7_cut_0 13 167 rfl) (kcX7_cut_0 14 0 rfl) (kcX7_cut_0 15 7 rfl) rfl
theorem dX7_cut_20 : decode cX7_cut 20 = .ok (.if_icmp .lt 5, 3) := dw_161 (kcX7_cut_0 20 161 rfl) (kcX7_cut_0 21 0 rfl) (kcX7_cut_0 22 5 rfl) rfl
theorem dX7_cut_25 : decode cX7_cut 25 = .ok (.aload_n 0, 1) := dw_42 (kcX7_cut_0 25 42 rfl)
theorem dX7_cut_26 : decode cX7_cut 26 = .ok (.getfield 80, 3) := dw_180 (kcX7_cut_0 26 180 rfl) (kcX7_cut_0 27 0 rfl) (kcX7_cut_0 28 80 rfl) rfl
theorem dX7_cut_29 : decode cX7_cut 29 = .ok (.iload_n 1, 1) := dw_27 (kcX7_cut_0 29 27 rfl)
theorem dX7_cut_30 : decode cX7_cut 30 = .ok (.ifCond .eq 7, 3) := dw_153 (kcX7_cut_0 30 153 rfl) (kcX7_cut_0 31 0 rfl) (kcX7_cut_0 32 7 rfl) rfl
theorem dX7_cut_37 : decode cX7_cut 37 = .ok (.bipush 12, 2) := dw_16 (kcX7_cut_0 37 16 rfl) (kcX7_cut_0 38 12 rfl) rfl
theorem dX7_cut_39 : decode cX7_cut 39 = .ok (.iload_n 2, 1) := dw_28 (kcX7_cut_0 39 28 rfl)
theorem dX7_cut_40 : decode cX7_cut 40 = .ok (.iadd, 1) := dw_96 (kcX7_cut_0 40 96 rfl)
theorem dX7_cut_33 : decode cX7_cut 33 = .ok (.iload_n 2, 1) := dw_28 (kcX7_cut_0 33 28 rfl)
theorem dX7_cut_34 : decode cX7_cut 34 = .ok (.goto 7, 3) := dw_167 (kcX7_cut_0 34 167 rfl) (kcX7_cut_0 35 0 rfl) (kcX7_cut_0 36 7 rfl) rfl
theorem dX7_cut_41 : decode cX7_cut 41 = .ok (.baload, 1) := dw_51 (kcX7_cut_0 41 51 rfl)
theorem dX7_cut_42 : decode cX7_cut 42 = .ok (.ifCond .eq 7, 3) := dw_153 (kcX7_cut_0 42 153 rfl) (kcX7_cut_0 43 0 rfl) (kcX7_cut_0 44 7 rfl) rfl
theorem dX7_cut_49 : decode cX7_cut 49 = .ok (.iconst 0, 1) := dw_3 (kcX7_cut_0 49 3 rfl)
theorem dX7_cut_50 : decode cX7_cut 50 = .ok (.ireturn, 1) := dw_172 (kcX7_cut_0 50 172 rfl)
theorem dX7_cut_45 : decode cX7_cut 45 = .ok (.iconst 1, 1) := dw_4 (kcX7_cut_0 45 4 rfl)
theorem dX7_cut_46 : decode cX7_cut 46 = .ok (.goto 4, 3) := dw_167 (kcX7_cut_0 46 167 rfl) (kcX7_cut_0 47 0 rfl) (kcX7_cut_0 48 4 rfl) rfl
theorem kcX7_tells_0 : CHb cX7_tells 0 [42, 27, 28, 182, 0, 181, 153, 0, 7, 3, 167, 0, 4, 4, 62, 42, 180, 0, 38, 28, 4, 84, 29, 172] := CHb_of (by decide +kernel)
theorem dX7_tells_0 : decode cX7_tells 0 = .ok (.aload_n 0, 1) := dw_42 (kcX7_tells_0 0 42 rfl)
theorem dX7_tells_1 : decode cX7_tells 1 = .ok (.iload_n 1, 1) := dw_27 (kcX7_tells_0 1 27 rfl)
theorem dX7_tells_2 : decode cX7_tells 2 = .ok (.iload_n 2, 1) := dw_28 (kcX7_tells_0 2 28 rfl)
theorem dX7_tells_3 : decode cX7_tells 3 = .ok (.invokevirtual 181, 3) := dw_182 (kcX7_tells_0 3 182 rfl) (kcX7_tells_0 4 0 rfl) (kcX7_tells_0 5 181 rfl) rfl
theorem dX7_tells_6 : decode cX7_tells 6 = .ok (.ifCond .eq 7, 3) := dw_153 (kcX7_tells_0 6 153 rfl) (kcX7_tells_0 7 0 rfl) (kcX7_tells_0 8 7 rfl) rfl
theorem dX7_tells_13 : decode cX7_tells 13 = .ok (.iconst 1, 1) := dw_4 (kcX7_tells_0 13 4 rfl)
theorem dX7_tells_14 : decode cX7_tells 14 = .ok (.istore_n 3, 1) := dw_62 (kcX7_tells_0 14 62 rfl)
theorem dX7_tells_15 : decode cX7_tells 15 = .ok (.aload_n 0, 1) := dw_42 (kcX7_tells_0 15 42 rfl)
theorem dX7_tells_16 : decode cX7_tells 16 = .ok (.getfield 38, 3) := dw_180 (kcX7_tells_0 16 180 rfl) (kcX7_tells_0 17 0 rfl) (kcX7_tells_0 18 38 rfl) rfl
theorem dX7_tells_19 : decode cX7_tells 19 = .ok (.iload_n 2, 1) := dw_28 (kcX7_tells_0 19 28 rfl)
theorem dX7_tells_20 : decode cX7_tells 20 = .ok (.iconst 1, 1) := dw_4 (kcX7_tells_0 20 4 rfl)
theorem dX7_tells_21 : decode cX7_tells 21 = .ok (.bastore, 1) := dw_84 (kcX7_tells_0 21 84 rfl)
theorem dX7_tells_22 : decode cX7_tells 22 = .ok (.iload_n 3, 1) := dw_29 (kcX7_tells_0 22 29 rfl)
theorem dX7_tells_23 : decode cX7_tells 23 = .ok (.ireturn, 1) := dw_172 (kcX7_tells_0 23 172 rfl)
theorem dX7_tells_9 : decode cX7_tells 9 = .ok (.iconst 0, 1) := dw_3 (kcX7_tells_0 9 3 rfl)
theorem dX7_tells_10 : decode cX7_tells 10 = .ok (.goto 4, 3) := dw_167 (kcX7_tells_0 10 167 rfl) (kcX7_tells_0 11 0 rfl) (kcX7_tells_0 12 4 rfl) rfl
theorem kcX7_guard_0 : CHb cX7_guard 0 [2, 54, 4, 3, 54, 5, 3, 54, 6, 3, 54, 7, 21, 7, 42, 180, 0, 13, 27, 46, 162, 1, 5, 21, 7, 28, 159, 0, 249, 42, 27, 21, 7, 182, 0, 161, 153, 0, 239, 42, 27, 21, 7, 182, 0, 168, 42, 27, 28, 182, 0, 168, 159, 0, 6, 167, 0, 220, 3, 54, 8, 21, 8, 42] := CHb_of (by decide +kernel)
theorem dX7_guard_0 : decode cX7_guard 0 = .ok (.iconst (-1), 1) := dw_2 (kcX7_guard_0 0 2 rfl)
theorem dX7_guard_1 : decode cX7_guard 1 = .ok (.istore 4, 2) := dw_54 (kcX7_guard_0 1 54 rfl) (kcX7_guard_0 2 4 rfl)
theorem dX7_guard_3 : decode cX7_guard 3 = .ok (.iconst 0, 1) := dw_3 (kcX7_guard_0 3 3 rfl)
theorem dX7_guard_4 : decode cX7_guard 4 = .ok (.istore 5, 2) := dw_54 (kcX7_guard_0 4 54 rfl) (kcX7_guard_0 5 5 rfl)
theorem dX7_guard_6 : decode cX7_guard 6 = .ok (.iconst 0, 1) := dw_3 (kcX7_guard_0 6 3 rfl)
theorem dX7_guard_7 : decode cX7_guard 7 = .ok (.istore 6, 2) := dw_54 (kcX7_guard_0 7 54 rfl) (kcX7_guard_0 8 6 rfl)
theorem dX7_guard_9 : decode cX7_guard 9 = .ok (.iconst 0, 1) := dw_3 (kcX7_guard_0 9 3 rfl)
theorem dX7_guard_10 : decode cX7_guard 10 = .ok (.istore 7, 2) := dw_54 (kcX7_guard_0 10 54 rfl) (kcX7_guard_0 11 7 rfl)
theorem dX7_guard_12 : decode cX7_guard 12 = .ok (.iload 7, 2) := dw_21 (kcX7_guard_0 12 21 rfl) (kcX7_guard_0 13 7 rfl)
theorem dX7_guard_14 : decode cX7_guard 14 = .ok (.aload_n 0, 1) := dw_42 (kcX7_guard_0 14 42 rfl)
theorem dX7_guard_15 : decode cX7_guard 15 = .ok (.getfield 13, 3) := dw_180 (kcX7_guard_0 15 180 rfl) (kcX7_guard_0 16 0 rfl) (kcX7_guard_0 17 13 rfl) rfl
theorem dX7_guard_18 : decode cX7_guard 18 = .ok (.iload_n 1, 1) := dw_27 (kcX7_guard_0 18 27 rfl)
theorem dX7_guard_19 : decode cX7_guard 19 = .ok (.iaload, 1) := dw_46 (kcX7_guard_0 19 46 rfl)
theorem dX7_guard_20 : decode cX7_guard 20 = .ok (.if_icmp .ge 261, 3) := dw_162 (kcX7_guard_0 20 162 rfl) (kcX7_guard_0 21 1 rfl) (kcX7_guard_0 22 5 rfl) rfl
theorem dX7_guard_23 : decode cX7_guard 23 = .ok (.iload 7, 2) := dw_21 (kcX7_guard_0 23 21 rfl) (kcX7_guard_0 24 7 rfl)
theorem dX7_guard_25 : decode cX7_guard 25 = .ok (.iload_n 2, 1) := dw_28 (kcX7_guard_0 25 28 rfl)
theorem dX7_guard_26 : decode cX7_guard 26 = .ok (.if_icmp .eq 249, 3) := dw_159 (kcX7_guard_0 26 159 rfl) (kcX7_guard_0 27 0 rfl) (kcX7_guard_0 28 249 rfl) rfl
theorem kcX7_guard_4 : CHb cX7_guard 256 [15, 21, 12, 54, 4, 21, 7, 54, 5, 21, 8, 54, 6, 132, 8, 1, 167, 255, 45, 132, 7, 1, 167, 254, 246, 21, 4, 156, 0, 7, 3, 167, 0, 42, 42, 27, 27, 28, 21, 6, 184, 0, 147, 182, 0, 245, 42, 27, 27, 21, 5, 29, 184, 0, 147, 182, 0, 245, 96, 42, 27, 27, 21, 5] := CHb_of (by decide +kernel)
theorem dX7_guard_275 : decode cX7_guard 275 = .ok (.iinc 7 1, 3) := dw_132 (kcX7_guard_4 19 132 rfl) (kcX7_guard_4 20 7 rfl) (kcX7_guard_4 21 1 rfl) rfl
theorem dX7_guard_278 : decode cX7_guard 278 = .ok (.goto (-266), 3) := dw_167 (kcX7_guard_4 22 167 rfl) (kcX7_guard_4 23 254 rfl) (kcX7_guard_4 24 246 rfl) rfl
theorem dX7_guard_29 : decode cX7_guard 29 = .ok (.aload_n 0, 1) := dw_42 (kcX7_guard_0 29 42 rfl)
theorem dX7_guard_30 : decode cX7_guard 30 = .ok (.iload_n 1, 1) := dw_27 (kcX7_guard_0 30 27 rfl)
theorem dX7_guard_31 : decode cX7_guard 31 = .ok (.iload 7, 2) := dw_21 (kcX7_guard_0 31 21 rfl) (kcX7_guard_0 32 7 rfl)
theorem dX7_guard_33 : decode cX7_guard 33 = .ok (.invokevirtual 161, 3) := dw_182 (kcX7_guard_0 33 182 rfl) (kcX7_guard_0 34 0 rfl) (kcX7_guard_0 35 161 rfl) rfl
theorem dX7_guard_36 : decode cX7_guard 36 = .ok (.ifCond .eq 239, 3) := dw_153 (kcX7_guard_0 36 153 rfl) (kcX7_guard_0 37 0 rfl) (kcX7_guard_0 38 239 rfl) rfl
theorem dX7_guard_39 : decode cX7_guard 39 = .ok (.aload_n 0, 1) := dw_42 (kcX7_guard_0 39 42 rfl)
theorem dX7_guard_40 : decode cX7_guard 40 = .ok (.iload_n 1, 1) := dw_27 (kcX7_guard_0 40 27 rfl)
theorem dX7_guard_41 : decode cX7_guard 41 = .ok (.iload 7, 2) := dw_21 (kcX7_guard_0 41 21 rfl) (kcX7_guard_0 42 7 rfl)
theorem dX7_guard_43 : decode cX7_guard 43 = .ok (.invokevirtual 168, 3) := dw_182 (kcX7_guard_0 43 182 rfl) (kcX7_guard_0 44 0 rfl) (kcX7_guard_0 45 168 rfl) rfl
theorem dX7_guard_46 : decode cX7_guard 46 = .ok (.aload_n 0, 1) := dw_42 (kcX7_guard_0 46 42 rfl)
theorem dX7_guard_47 : decode cX7_guard 47 = .ok (.iload_n 1, 1) := dw_27 (kcX7_guard_0 47 27 rfl)
theorem dX7_guard_48 : decode cX7_guard 48 = .ok (.iload_n 2, 1) := dw_28 (kcX7_guard_0 48 28 rfl)
theorem dX7_guard_49 : decode cX7_guard 49 = .ok (.invokevirtual 168, 3) := dw_182 (kcX7_guard_0 49 182 rfl) (kcX7_guard_0 50 0 rfl) (kcX7_guard_0 51 168 rfl) rfl
theorem dX7_guard_52 : decode cX7_guard 52 = .ok (.if_icmp .eq 6, 3) := dw_159 (kcX7_guard_0 52 159 rfl) (kcX7_guard_0 53 0 rfl) (kcX7_guard_0 54 6 rfl) rfl
theorem dX7_guard_58 : decode cX7_guard 58 = .ok (.iconst 0, 1) := dw_3 (kcX7_guard_0 58 3 rfl)
theorem dX7_guard_59 : decode cX7_guard 59 = .ok (.istore 8, 2) := dw_54 (kcX7_guard_0 59 54 rfl) (kcX7_guard_0 60 8 rfl)
theorem dX7_guard_61 : decode cX7_guard 61 = .ok (.iload 8, 2) := dw_21 (kcX7_guard_0 61 21 rfl) (kcX7_guard_0 62 8 rfl)
theorem dX7_guard_63 : decode cX7_guard 63 = .ok (.aload_n 0, 1) := dw_42 (kcX7_guard_0 63 42 rfl)
theorem kcX7_guard_1 : CHb cX7_guard 64 [180, 0, 17, 27, 46, 162, 0, 206, 21, 8, 29, 160, 0, 6, 167, 0, 191, 27, 28, 21, 8, 184, 0, 147, 54, 9, 27, 21, 7, 29, 184, 0, 147, 54, 10, 27, 21, 7, 21, 8, 184, 0, 147, 54, 11, 42, 180, 0, 23, 21, 9, 46, 7, 159, 0, 152, 42, 180, 0, 23, 21, 10, 46, 7] := CHb_of (by decide +kernel)
theorem dX7_guard_64 : decode cX7_guard 64 = .ok (.getfield 17, 3) := dw_180 (kcX7_guard_1 0 180 rfl) (kcX7_guard_1 1 0 rfl) (kcX7_guard_1 2 17 rfl) rfl
theorem dX7_guard_67 : decode cX7_guard 67 = .ok (.iload_n 1, 1) := dw_27 (kcX7_guard_1 3 27 rfl)
theorem dX7_guard_68 : decode cX7_guard 68 = .ok (.iaload, 1) := dw_46 (kcX7_guard_1 4 46 rfl)
theorem dX7_guard_69 : decode cX7_guard 69 = .ok (.if_icmp .ge 206, 3) := dw_162 (kcX7_guard_1 5 162 rfl) (kcX7_guard_1 6 0 rfl) (kcX7_guard_1 7 206 rfl) rfl
theorem dX7_guard_72 : decode cX7_guard 72 = .ok (.iload 8, 2) := dw_21 (kcX7_guard_1 8 21 rfl) (kcX7_guard_1 9 8 rfl)
theorem dX7_guard_74 : decode cX7_guard 74 = .ok (.iload_n 3, 1) := dw_29 (kcX7_guard_1 10 29 rfl)
theorem dX7_guard_75 : decode cX7_guard 75 = .ok (.if_icmp .ne 6, 3) := dw_160 (kcX7_guard_1 11 160 rfl) (kcX7_guard_1 12 0 rfl) (kcX7_guard_1 13 6 rfl) rfl
theorem dX7_guard_81 : decode cX7_guard 81 = .ok (.iload_n 1, 1) := dw_27 (kcX7_guard_1 17 27 rfl)
theorem dX7_guard_82 : decode cX7_guard 82 = .ok (.iload_n 2, 1) := dw_28 (kcX7_guard_1 18 28 rfl)
theorem dX7_guard_83 : decode cX7_guard 83 = .ok (.iload 8, 2) := dw_21 (kcX7_guard_1 19 21 rfl) (kcX7_guard_1 20 8 rfl)
theorem dX7_guard_85 : decode cX7_guard 85 = .ok (.invokestatic 147, 3) := dw_184 (kcX7_guard_1 21 184 rfl) (kcX7_guard_1 22 0 rfl) (kcX7_guard_1 23 147 rfl) rfl
theorem dX7_guard_88 : decode cX7_guard 88 = .ok (.istore 9, 2) := dw_54 (kcX7_guard_1 24 54 rfl) (kcX7_guard_1 25 9 rfl)
theorem dX7_guard_90 : decode cX7_guard 90 = .ok (.iload_n 1, 1) := dw_27 (kcX7_guard_1 26 27 rfl)
theorem dX7_guard_91 : decode cX7_guard 91 = .ok (.iload 7, 2) := dw_21 (kcX7_guard_1 27 21 rfl) (kcX7_guard_1 28 7 rfl)
theorem dX7_guard_93 : decode cX7_guard 93 = .ok (.iload_n 3, 1) := dw_29 (kcX7_guard_1 29 29 rfl)
theorem dX7_guard_94 : decode cX7_guard 94 = .ok (.invokestatic 147, 3) := dw_184 (kcX7_guard_1 30 184 rfl) (kcX7_guard_1 31 0 rfl) (kcX7_guard_1 32 147 rfl) rfl
theorem dX7_guard_97 : decode cX7_guard 97 = .ok (.istore 10, 2) := dw_54 (kcX7_guard_1 33 54 rfl) (kcX7_guard_1 34 10 rfl)
theorem dX7_guard_99 : decode cX7_guard 99 = .ok (.iload_n 1, 1) := dw_27 (kcX7_guard_1 35 27 rfl)
theorem dX7_guard_100 : decode cX7_guard 100 = .ok (.iload 7, 2) := dw_21 (kcX7_guard_1 36 21 rfl) (kcX7_guard_1 37 7 rfl)
theorem dX7_guard_102 : decode cX7_guard 102 = .ok (.iload 8, 2) := dw_21 (kcX7_guard_1 38 21 rfl) (kcX7_guard_1 39 8 rfl)
theorem dX7_guard_104 : decode cX7_guard 104 = .ok (.invokestatic 147, 3) := dw_184 (kcX7_guard_1 40 184 rfl) (kcX7_guard_1 41 0 rfl) (kcX7_guard_1 42 147 rfl) rfl
theorem dX7_guard_107 : decode cX7_guard 107 = .ok (.istore 11, 2) := dw_54 (kcX7_guard_1 43 54 rfl) (kcX7_guard_1 44 11 rfl)
theorem dX7_guard_109 : decode cX7_guard 109 = .ok (.aload_n 0, 1) := dw_42 (kcX7_guard_1 45 42 rfl)
theorem dX7_guard_110 : decode cX7_guard 110 = .ok (.getfield 23, 3) := dw_180 (kcX7_guard_1 46 180 rfl) (kcX7_guard_1 47 0 rfl) (kcX7_guard_1 48 23 rfl) rfl
theorem dX7_guard_113 : decode cX7_guard 113 = .ok (.iload 9, 2) := dw_21 (kcX7_guard_1 49 21 rfl) (kcX7_guard_1 50 9 rfl)
theorem dX7_guard_115 : decode cX7_guard 115 = .ok (.iaload, 1) := dw_46 (kcX7_guard_1 51 46 rfl)
theorem dX7_guard_116 : decode cX7_guard 116 = .ok (.iconst 4, 1) := dw_7 (kcX7_guard_1 52 7 rfl)
theorem dX7_guard_117 : decode cX7_guard 117 = .ok (.if_icmp .eq 152, 3) := dw_159 (kcX7_guard_1 53 159 rfl) (kcX7_guard_1 54 0 rfl) (kcX7_guard_1 55 152 rfl) rfl
theorem dX7_guard_269 : decode cX7_guard 269 = .ok (.iinc 8 1, 3) := dw_132 (kcX7_guard_4 13 132 rfl) (kcX7_guard_4 14 8 rfl) (kcX7_guard_4 15 1 rfl) rfl
theorem dX7_guard_272 : decode cX7_guard 272 = .ok (.goto (-211), 3) := dw_167 (kcX7_guard_4 16 167 rfl) (kcX7_guard_4 17 255 rfl) (kcX7_guard_4 18 45 rfl) rfl
theorem dX7_guard_120 : decode cX7_guard 120 = .ok (.aload_n 0, 1) := dw_42 (kcX7_guard_1 56 42 rfl)
theorem dX7_guard_121 : decode cX7_guard 121 = .ok (.getfield 23, 3) := dw_180 (kcX7_guard_1 57 180 rfl) (kcX7_guard_1 58 0 rfl) (kcX7_guard_1 59 23 rfl) rfl
theorem dX7_guard_124 : decode cX7_guard 124 = .ok (.iload 10, 2) := dw_21 (kcX7_guard_1 60 21 rfl) (kcX7_guard_1 61 10 rfl)
theorem dX7_guard_126 : decode cX7_guard 126 = .ok (.iaload, 1) := dw_46 (kcX7_guard_1 62 46 rfl)
theorem dX7_guard_127 : decode cX7_guard 127 = .ok (.iconst 4, 1) := dw_7 (kcX7_guard_1 63 7 rfl)
theorem kcX7_guard_2 : CHb cX7_guard 128 [159, 0, 141, 42, 180, 0, 23, 21, 11, 46, 7, 159, 0, 130, 42, 27, 21, 9, 182, 0, 181, 153, 0, 26, 42, 27, 21, 10, 182, 0, 181, 153, 0, 16, 42, 27, 21, 11, 182, 0, 181, 153, 0, 6, 167, 0, 97, 42, 27, 21, 9, 182, 0, 181, 153, 0, 7, 3, 167, 0, 10, 42, 27, 21] := CHb_of (by decide +kernel)
theorem dX7_guard_128 : decode cX7_guard 128 = .ok (.if_icmp .eq 141, 3) := dw_159 (kcX7_guard_2 0 159 rfl) (kcX7_guard_2 1 0 rfl) (kcX7_guard_2 2 141 rfl) rfl
theorem dX7_guard_131 : decode cX7_guard 131 = .ok (.aload_n 0, 1) := dw_42 (kcX7_guard_2 3 42 rfl)
theorem dX7_guard_132 : decode cX7_guard 132 = .ok (.getfield 23, 3) := dw_180 (kcX7_guard_2 4 180 rfl) (kcX7_guard_2 5 0 rfl) (kcX7_guard_2 6 23 rfl) rfl
theorem dX7_guard_135 : decode cX7_guard 135 = .ok (.iload 11, 2) := dw_21 (kcX7_guard_2 7 21 rfl) (kcX7_guard_2 8 11 rfl)
theorem dX7_guard_137 : decode cX7_guard 137 = .ok (.iaload, 1) := dw_46 (kcX7_guard_2 9 46 rfl)
theorem dX7_guard_138 : decode cX7_guard 138 = .ok (.iconst 4, 1) := dw_7 (kcX7_guard_2 10 7 rfl)
theorem dX7_guard_139 : decode cX7_guard 139 = .ok (.if_icmp .eq 130, 3) := dw_159 (kcX7_guard_2 11 159 rfl) (kcX7_guard_2 12 0 rfl) (kcX7_guard_2 13 130 rfl) rfl
theorem dX7_guard_142 : decode cX7_guard 142 = .ok (.aload_n 0, 1) := dw_42 (kcX7_guard_2 14 42 rfl)
theorem dX7_guard_143 : decode cX7_guard 143 = .ok (.iload_n 1, 1) := dw_27 (kcX7_guard_2 15 27 rfl)
theorem dX7_guard_144 : decode cX7_guard 144 = .ok (.iload 9, 2) := dw_21 (kcX7_guard_2 16 21 rfl) (kcX7_guard_2 17 9 rfl)
theorem dX7_guard_146 : decode cX7_guard 146 = .ok (.invokevirtual 181, 3) := dw_182 (kcX7_guard_2 18 182 rfl) (kcX7_guard_2 19 0 rfl) (kcX7_guard_2 20 181 rfl) rfl
theorem dX7_guard_149 : decode cX7_guard 149 = .ok (.ifCond .eq 26, 3) := dw_153 (kcX7_guard_2 21 153 rfl) (kcX7_guard_2 22 0 rfl) (kcX7_guard_2 23 26 rfl) rfl
theorem dX7_guard_152 : decode cX7_guard 152 = .ok (.aload_n 0, 1) := dw_42 (kcX7_guard_2 24 42 rfl)
theorem dX7_guard_153 : decode cX7_guard 153 = .ok (.iload_n 1, 1) := dw_27 (kcX7_guard_2 25 27 rfl)
theorem dX7_guard_154 : decode cX7_guard 154 = .ok (.iload 10, 2) := dw_21 (kcX7_guard_2 26 21 rfl) (kcX7_guard_2 27 10 rfl)
theorem dX7_guard_156 : decode cX7_guard 156 = .ok (.invokevirtual 181, 3) := dw_182 (kcX7_guard_2 28 182 rfl) (kcX7_guard_2 29 0 rfl) (kcX7_guard_2 30 181 rfl) rfl
theorem dX7_guard_159 : decode cX7_guard 159 = .ok (.ifCond .eq 16, 3) := dw_153 (kcX7_guard_2 31 153 rfl) (kcX7_guard_2 32 0 rfl) (kcX7_guard_2 33 16 rfl) rfl
theorem dX7_guard_162 : decode cX7_guard 162 = .ok (.aload_n 0, 1) := dw_42 (kcX7_guard_2 34 42 rfl)
theorem dX7_guard_163 : decode cX7_guard 163 = .ok (.iload_n 1, 1) := dw_27 (kcX7_guard_2 35 27 rfl)
theorem dX7_guard_164 : decode cX7_guard 164 = .ok (.iload 11, 2) := dw_21 (kcX7_guard_2 36 21 rfl) (kcX7_guard_2 37 11 rfl)
theorem dX7_guard_166 : decode cX7_guard 166 = .ok (.invokevirtual 181, 3) := dw_182 (kcX7_guard_2 38 182 rfl) (kcX7_guard_2 39 0 rfl) (kcX7_guard_2 40 181 rfl) rfl
theorem dX7_guard_169 : decode cX7_guard 169 = .ok (.ifCond .eq 6, 3) := dw_153 (kcX7_guard_2 41 153 rfl) (kcX7_guard_2 42 0 rfl) (kcX7_guard_2 43 6 rfl) rfl
theorem dX7_guard_172 : decode cX7_guard 172 = .ok (.goto 97, 3) := dw_167 (kcX7_guard_2 44 167 rfl) (kcX7_guard_2 45 0 rfl) (kcX7_guard_2 46 97 rfl) rfl
theorem dX7_guard_175 : decode cX7_guard 175 = .ok (.aload_n 0, 1) := dw_42 (kcX7_guard_2 47 42 rfl)
theorem dX7_guard_176 : decode cX7_guard 176 = .ok (.iload_n 1, 1) := dw_27 (kcX7_guard_2 48 27 rfl)
theorem dX7_guard_177 : decode cX7_guard 177 = .ok (.iload 9, 2) := dw_21 (kcX7_guard_2 49 21 rfl) (kcX7_guard_2 50 9 rfl)
theorem dX7_guard_179 : decode cX7_guard 179 = .ok (.invokevirtual 181, 3) := dw_182 (kcX7_guard_2 51 182 rfl) (kcX7_guard_2 52 0 rfl) (kcX7_guard_2 53 181 rfl) rfl
theorem dX7_guard_182 : decode cX7_guard 182 = .ok (.ifCond .eq 7, 3) := dw_153 (kcX7_guard_2 54 153 rfl) (kcX7_guard_2 55 0 rfl) (kcX7_guard_2 56 7 rfl) rfl
theorem dX7_guard_189 : decode cX7_guard 189 = .ok (.aload_n 0, 1) := dw_42 (kcX7_guard_2 61 42 rfl)
theorem dX7_guard_190 : decode cX7_guard 190 = .ok (.iload_n 1, 1) := dw_27 (kcX7_guard_2 62 27 rfl)
theorem kcX7_guard_3 : CHb cX7_guard 192 [9, 182, 0, 242, 42, 27, 21, 10, 182, 0, 181, 153, 0, 7, 3, 167, 0, 10, 42, 27, 21, 10, 182, 0, 242, 96, 42, 27, 21, 11, 182, 0, 181, 153, 0, 7, 3, 167, 0, 10, 42, 27, 21, 11, 182, 0, 242, 96, 54, 12, 21, 4, 155, 0, 13, 21, 12, 21, 4, 161, 0, 6, 167, 0] := CHb_of (by decide +kernel)
theorem dX7_guard_191 : decode cX7_guard 191 = .ok (.iload 9, 2) := dw_21 (kcX7_guard_2 63 21 rfl) (kcX7_guard_3 0 9 rfl)
theorem dX7_guard_193 : decode cX7_guard 193 = .ok (.invokevirtual 242, 3) := dw_182 (kcX7_guard_3 1 182 rfl) (kcX7_guard_3 2 0 rfl) (kcX7_guard_3 3 242 rfl) rfl
theorem dX7_guard_185 : decode cX7_guard 185 = .ok (.iconst 0, 1) := dw_3 (kcX7_guard_2 57 3 rfl)
theorem dX7_guard_186 : decode cX7_guard 186 = .ok (.goto 10, 3) := dw_167 (kcX7_guard_2 58 167 rfl) (kcX7_guard_2 59 0 rfl) (kcX7_guard_2 60 10 rfl) rfl
theorem dX7_guard_196 : decode cX7_guard 196 = .ok (.aload_n 0, 1) := dw_42 (kcX7_guard_3 4 42 rfl)
theorem dX7_guard_197 : decode cX7_guard 197 = .ok (.iload_n 1, 1) := dw_27 (kcX7_guard_3 5 27 rfl)
theorem dX7_guard_198 : decode cX7_guard 198 = .ok (.iload 10, 2) := dw_21 (kcX7_guard_3 6 21 rfl) (kcX7_guard_3 7 10 rfl)
theorem dX7_guard_200 : decode cX7_guard 200 = .ok (.invokevirtual 181, 3) := dw_182 (kcX7_guard_3 8 182 rfl) (kcX7_guard_3 9 0 rfl) (kcX7_guard_3 10 181 rfl) rfl
theorem dX7_guard_203 : decode cX7_guard 203 = .ok (.ifCond .eq 7, 3) := dw_153 (kcX7_guard_3 11 153 rfl) (kcX7_guard_3 12 0 rfl) (kcX7_guard_3 13 7 rfl) rfl
theorem dX7_guard_210 : decode cX7_guard 210 = .ok (.aload_n 0, 1) := dw_42 (kcX7_guard_3 18 42 rfl)
theorem dX7_guard_211 : decode cX7_guard 211 = .ok (.iload_n 1, 1) := dw_27 (kcX7_guard_3 19 27 rfl)
theorem dX7_guard_212 : decode cX7_guard 212 = .ok (.iload 10, 2) := dw_21 (kcX7_guard_3 20 21 rfl) (kcX7_guard_3 21 10 rfl)
theorem dX7_guard_214 : decode cX7_guard 214 = .ok (.invokevirtual 242, 3) := dw_182 (kcX7_guard_3 22 182 rfl) (kcX7_guard_3 23 0 rfl) (kcX7_guard_3 24 242 rfl) rfl
theorem dX7_guard_206 : decode cX7_guard 206 = .ok (.iconst 0, 1) := dw_3 (kcX7_guard_3 14 3 rfl)
theorem dX7_guard_207 : decode cX7_guard 207 = .ok (.goto 10, 3) := dw_167 (kcX7_guard_3 15 167 rfl) (kcX7_guard_3 16 0 rfl) (kcX7_guard_3 17 10 rfl) rfl
theorem dX7_guard_217 : decode cX7_guard 217 = .ok (.iadd, 1) := dw_96 (kcX7_guard_3 25 96 rfl)
theorem dX7_guard_218 : decode cX7_guard 218 = .ok (.aload_n 0, 1) := dw_42 (kcX7_guard_3 26 42 rfl)
theorem dX7_guard_219 : decode cX7_guard 219 = .ok (.iload_n 1, 1) := dw_27 (kcX7_guard_3 27 27 rfl)
theorem dX7_guard_220 : decode cX7_guard 220 = .ok (.iload 11, 2) := dw_21 (kcX7_guard_3 28 21 rfl) (kcX7_guard_3 29 11 rfl)
theorem dX7_guard_222 : decode cX7_guard 222 = .ok (.invokevirtual 181, 3) := dw_182 (kcX7_guard_3 30 182 rfl) (kcX7_guard_3 31 0 rfl) (kcX7_guard_3 32 181 rfl) rfl
theorem dX7_guard_225 : decode cX7_guard 225 = .ok (.ifCond .eq 7, 3) := dw_153 (kcX7_guard_3 33 153 rfl) (kcX7_guard_3 34 0 rfl) (kcX7_guard_3 35 7 rfl) rfl
theorem dX7_guard_232 : decode cX7_guard 232 = .ok (.aload_n 0, 1) := dw_42 (kcX7_guard_3 40 42 rfl)
theorem dX7_guard_233 : decode cX7_guard 233 = .ok (.iload_n 1, 1) := dw_27 (kcX7_guard_3 41 27 rfl)
theorem dX7_guard_234 : decode cX7_guard 234 = .ok (.iload 11, 2) := dw_21 (kcX7_guard_3 42 21 rfl) (kcX7_guard_3 43 11 rfl)
theorem dX7_guard_236 : decode cX7_guard 236 = .ok (.invokevirtual 242, 3) := dw_182 (kcX7_guard_3 44 182 rfl) (kcX7_guard_3 45 0 rfl) (kcX7_guard_3 46 242 rfl) rfl
theorem dX7_guard_228 : decode cX7_guard 228 = .ok (.iconst 0, 1) := dw_3 (kcX7_guard_3 36 3 rfl)
theorem dX7_guard_229 : decode cX7_guard 229 = .ok (.goto 10, 3) := dw_167 (kcX7_guard_3 37 167 rfl) (kcX7_guard_3 38 0 rfl) (kcX7_guard_3 39 10 rfl) rfl
theorem dX7_guard_239 : decode cX7_guard 239 = .ok (.iadd, 1) := dw_96 (kcX7_guard_3 47 96 rfl)
theorem dX7_guard_240 : decode cX7_guard 240 = .ok (.istore 12, 2) := dw_54 (kcX7_guard_3 48 54 rfl) (kcX7_guard_3 49 12 rfl)
theorem dX7_guard_242 : decode cX7_guard 242 = .ok (.iload 4, 2) := dw_21 (kcX7_guard_3 50 21 rfl) (kcX7_guard_3 51 4 rfl)
theorem dX7_guard_244 : decode cX7_guard 244 = .ok (.ifCond .lt 13, 3) := dw_155 (kcX7_guard_3 52 155 rfl) (kcX7_guard_3 53 0 rfl) (kcX7_guard_3 54 13 rfl) rfl
theorem dX7_guard_257 : decode cX7_guard 257 = .ok (.iload 12, 2) := dw_21 (kcX7_guard_4 1 21 rfl) (kcX7_guard_4 2 12 rfl)
theorem dX7_guard_259 : decode cX7_guard 259 = .ok (.istore 4, 2) := dw_54 (kcX7_guard_4 3 54 rfl) (kcX7_guard_4 4 4 rfl)
theorem dX7_guard_261 : decode cX7_guard 261 = .ok (.iload 7, 2) := dw_21 (kcX7_guard_4 5 21 rfl) (kcX7_guard_4 6 7 rfl)
theorem dX7_guard_263 : decode cX7_guard 263 = .ok (.istore 5, 2) := dw_54 (kcX7_guard_4 7 54 rfl) (kcX7_guard_4 8 5 rfl)
theorem dX7_guard_265 : decode cX7_guard 265 = .ok (.iload 8, 2) := dw_21 (kcX7_guard_4 9 21 rfl) (kcX7_guard_4 10 8 rfl)
theorem dX7_guard_267 : decode cX7_guard 267 = .ok (.istore 6, 2) := dw_54 (kcX7_guard_4 11 54 rfl) (kcX7_guard_4 12 6 rfl)
theorem dX7_guard_247 : decode cX7_guard 247 = .ok (.iload 12, 2) := dw_21 (kcX7_guard_3 55 21 rfl) (kcX7_guard_3 56 12 rfl)
theorem dX7_guard_249 : decode cX7_guard 249 = .ok (.iload 4, 2) := dw_21 (kcX7_guard_3 57 21 rfl) (kcX7_guard_3 58 4 rfl)
theorem dX7_guard_251 : decode cX7_guard 251 = .ok (.if_icmp .lt 6, 3) := dw_161 (kcX7_guard_3 59 161 rfl) (kcX7_guard_3 60 0 rfl) (kcX7_guard_3 61 6 rfl) rfl
theorem dX7_guard_254 : decode cX7_guard 254 = .ok (.goto 15, 3) := dw_167 (kcX7_guard_3 62 167 rfl) (kcX7_guard_3 63 0 rfl) (kcX7_guard_4 0 15 rfl) rfl
theorem dX7_guard_78 : decode cX7_guard 78 = .ok (.goto 191, 3) := dw_167 (kcX7_guard_1 14 167 rfl) (kcX7_guard_1 15 0 rfl) (kcX7_guard_1 16 191 rfl) rfl
theorem dX7_guard_55 : decode cX7_guard 55 = .ok (.goto 220, 3) := dw_167 (kcX7_guard_0 55 167 rfl) (kcX7_guard_0 56 0 rfl) (kcX7_guard_0 57 220 rfl) rfl
theorem dX7_guard_281 : decode cX7_guard 281 = .ok (.iload 4, 2) := dw_21 (kcX7_guard_4 25 21 rfl) (kcX7_guard_4 26 4 rfl)
theorem dX7_guard_283 : decode cX7_guard 283 = .ok (.ifCond .ge 7, 3) := dw_156 (kcX7_guard_4 27 156 rfl) (kcX7_guard_4 28 0 rfl) (kcX7_guard_4 29 7 rfl) rfl
theorem dX7_guard_290 : decode cX7_guard 290 = .ok (.aload_n 0, 1) := dw_42 (kcX7_guard_4 34 42 rfl)
theorem dX7_guard_291 : decode cX7_guard 291 = .ok (.iload_n 1, 1) := dw_27 (kcX7_guard_4 35 27 rfl)
theorem dX7_guard_292 : decode cX7_guard 292 = .ok (.iload_n 1, 1) := dw_27 (kcX7_guard_4 36 27 rfl)
theorem dX7_guard_293 : decode cX7_guard 293 = .ok (.iload_n 2, 1) := dw_28 (kcX7_guard_4 37 28 rfl)
theorem dX7_guard_294 : decode cX7_guard 294 = .ok (.iload 6, 2) := dw_21 (kcX7_guard_4 38 21 rfl) (kcX7_guard_4 39 6 rfl)
theorem dX7_guard_296 : decode cX7_guard 296 = .ok (.invokestatic 147, 3) := dw_184 (kcX7_guard_4 40 184 rfl) (kcX7_guard_4 41 0 rfl) (kcX7_guard_4 42 147 rfl) rfl
theorem dX7_guard_299 : decode cX7_guard 299 = .ok (.invokevirtual 245, 3) := dw_182 (kcX7_guard_4 43 182 rfl) (kcX7_guard_4 44 0 rfl) (kcX7_guard_4 45 245 rfl) rfl
theorem dX7_guard_302 : decode cX7_guard 302 = .ok (.aload_n 0, 1) := dw_42 (kcX7_guard_4 46 42 rfl)
theorem dX7_guard_303 : decode cX7_guard 303 = .ok (.iload_n 1, 1) := dw_27 (kcX7_guard_4 47 27 rfl)
theorem dX7_guard_304 : decode cX7_guard 304 = .ok (.iload_n 1, 1) := dw_27 (kcX7_guard_4 48 27 rfl)
theorem dX7_guard_305 : decode cX7_guard 305 = .ok (.iload 5, 2) := dw_21 (kcX7_guard_4 49 21 rfl) (kcX7_guard_4 50 5 rfl)
theorem dX7_guard_307 : decode cX7_guard 307 = .ok (.iload_n 3, 1) := dw_29 (kcX7_guard_4 51 29 rfl)
theorem dX7_guard_308 : decode cX7_guard 308 = .ok (.invokestatic 147, 3) := dw_184 (kcX7_guard_4 52 184 rfl) (kcX7_guard_4 53 0 rfl) (kcX7_guard_4 54 147 rfl) rfl
theorem dX7_guard_311 : decode cX7_guard 311 = .ok (.invokevirtual 245, 3) := dw_182 (kcX7_guard_4 55 182 rfl) (kcX7_guard_4 56 0 rfl) (kcX7_guard_4 57 245 rfl) rfl
theorem dX7_guard_314 : decode cX7_guard 314 = .ok (.iadd, 1) := dw_96 (kcX7_guard_4 58 96 rfl)
theorem dX7_guard_315 : decode cX7_guard 315 = .ok (.aload_n 0, 1) := dw_42 (kcX7_guard_4 59 42 rfl)
theorem dX7_guard_316 : decode cX7_guard 316 = .ok (.iload_n 1, 1) := dw_27 (kcX7_guard_4 60 27 rfl)
theorem dX7_guard_317 : decode cX7_guard 317 = .ok (.iload_n 1, 1) := dw_27 (kcX7_guard_4 61 27 rfl)
theorem dX7_guard_318 : decode cX7_guard 318 = .ok (.iload 5, 2) := dw_21 (kcX7_guard_4 62 21 rfl) (kcX7_guard_4 63 5 rfl)
theorem kcX7_guard_5 : CHb cX7_guard 320 [21, 6, 184, 0, 147, 182, 0, 245, 96, 172] := CHb_of (by decide +kernel)
theorem dX7_guard_320 : decode cX7_guard 320 = .ok (.iload 6, 2) := dw_21 (kcX7_guard_5 0 21 rfl) (kcX7_guard_5 1 6 rfl)
theorem dX7_guard_322 : decode cX7_guard 322 = .ok (.invokestatic 147, 3) := dw_184 (kcX7_guard_5 2 184 rfl) (kcX7_guard_5 3 0 rfl) (kcX7_guard_5 4 147 rfl) rfl
theorem dX7_guard_325 : decode cX7_guard 325 = .ok (.invokevirtual 245, 3) := dw_182 (kcX7_guard_5 5 182 rfl) (kcX7_guard_5 6 0 rfl) (kcX7_guard_5 7 245 rfl) rfl
theorem dX7_guard_328 : decode cX7_guard 328 = .ok (.iadd, 1) := dw_96 (kcX7_guard_5 8 96 rfl)
theorem dX7_guard_329 : decode cX7_guard 329 = .ok (.ireturn, 1) := dw_172 (kcX7_guard_5 9 172 rfl)
theorem dX7_guard_286 : decode cX7_guard 286 = .ok (.iconst 0, 1) := dw_3 (kcX7_guard_4 30 3 rfl)
theorem dX7_guard_287 : decode cX7_guard 287 = .ok (.goto 42, 3) := dw_167 (kcX7_guard_4 31 167 rfl) (kcX7_guard_4 32 0 rfl) (kcX7_guard_4 33 42 rfl) rfl
theorem kcX7_plan_0 : CHb cX7_plan 0 [42, 42, 27, 182, 0, 120, 153, 0, 7, 3, 167, 0, 4, 4, 181, 0, 116, 42, 180, 0, 116, 158, 0, 5, 2, 172, 3, 61, 28, 17, 0, 144, 162, 0, 27, 42, 180, 0, 83, 28, 42, 180, 0, 38, 17, 0, 144, 27, 104, 28, 96, 51, 84, 132, 2, 1, 167, 255, 228, 3, 61, 42, 27, 3] := CHb_of (by decide +kernel)
theorem dX7_plan_0 : decode cX7_plan 0 = .ok (.aload_n 0, 1) := dw_42 (kcX7_plan_0 0 42 rfl)
theorem dX7_plan_1 : decode cX7_plan 1 = .ok (.aload_n 0, 1) := dw_42 (kcX7_plan_0 1 42 rfl)
theorem dX7_plan_2 : decode cX7_plan 2 = .ok (.iload_n 1, 1) := dw_27 (kcX7_plan_0 2 27 rfl)
theorem dX7_plan_3 : decode cX7_plan 3 = .ok (.invokevirtual 120, 3) := dw_182 (kcX7_plan_0 3 182 rfl) (kcX7_plan_0 4 0 rfl) (kcX7_plan_0 5 120 rfl) rfl
theorem dX7_plan_6 : decode cX7_plan 6 = .ok (.ifCond .eq 7, 3) := dw_153 (kcX7_plan_0 6 153 rfl) (kcX7_plan_0 7 0 rfl) (kcX7_plan_0 8 7 rfl) rfl
theorem dX7_plan_13 : decode cX7_plan 13 = .ok (.iconst 1, 1) := dw_4 (kcX7_plan_0 13 4 rfl)
theorem dX7_plan_14 : decode cX7_plan 14 = .ok (.putfield 116, 3) := dw_181 (kcX7_plan_0 14 181 rfl) (kcX7_plan_0 15 0 rfl) (kcX7_plan_0 16 116 rfl) rfl
theorem dX7_plan_17 : decode cX7_plan 17 = .ok (.aload_n 0, 1) := dw_42 (kcX7_plan_0 17 42 rfl)
theorem dX7_plan_18 : decode cX7_plan 18 = .ok (.getfield 116, 3) := dw_180 (kcX7_plan_0 18 180 rfl) (kcX7_plan_0 19 0 rfl) (kcX7_plan_0 20 116 rfl) rfl
theorem dX7_plan_21 : decode cX7_plan 21 = .ok (.ifCond .le 5, 3) := dw_158 (kcX7_plan_0 21 158 rfl) (kcX7_plan_0 22 0 rfl) (kcX7_plan_0 23 5 rfl) rfl
theorem dX7_plan_24 : decode cX7_plan 24 = .ok (.iconst (-1), 1) := dw_2 (kcX7_plan_0 24 2 rfl)
theorem dX7_plan_25 : decode cX7_plan 25 = .ok (.ireturn, 1) := dw_172 (kcX7_plan_0 25 172 rfl)
theorem dX7_plan_9 : decode cX7_plan 9 = .ok (.iconst 0, 1) := dw_3 (kcX7_plan_0 9 3 rfl)
theorem dX7_plan_10 : decode cX7_plan 10 = .ok (.goto 4, 3) := dw_167 (kcX7_plan_0 10 167 rfl) (kcX7_plan_0 11 0 rfl) (kcX7_plan_0 12 4 rfl) rfl
theorem dX7_plan_26 : decode cX7_plan 26 = .ok (.iconst 0, 1) := dw_3 (kcX7_plan_0 26 3 rfl)
theorem dX7_plan_27 : decode cX7_plan 27 = .ok (.istore_n 2, 1) := dw_61 (kcX7_plan_0 27 61 rfl)
theorem dX7_plan_28 : decode cX7_plan 28 = .ok (.iload_n 2, 1) := dw_28 (kcX7_plan_0 28 28 rfl)
theorem dX7_plan_29 : decode cX7_plan 29 = .ok (.sipush 144, 3) := dw_17 (kcX7_plan_0 29 17 rfl) (kcX7_plan_0 30 0 rfl) (kcX7_plan_0 31 144 rfl) rfl
theorem dX7_plan_32 : decode cX7_plan 32 = .ok (.if_icmp .ge 27, 3) := dw_162 (kcX7_plan_0 32 162 rfl) (kcX7_plan_0 33 0 rfl) (kcX7_plan_0 34 27 rfl) rfl
theorem dX7_plan_35 : decode cX7_plan 35 = .ok (.aload_n 0, 1) := dw_42 (kcX7_plan_0 35 42 rfl)
theorem dX7_plan_36 : decode cX7_plan 36 = .ok (.getfield 83, 3) := dw_180 (kcX7_plan_0 36 180 rfl) (kcX7_plan_0 37 0 rfl) (kcX7_plan_0 38 83 rfl) rfl
theorem dX7_plan_39 : decode cX7_plan 39 = .ok (.iload_n 2, 1) := dw_28 (kcX7_plan_0 39 28 rfl)
theorem dX7_plan_40 : decode cX7_plan 40 = .ok (.aload_n 0, 1) := dw_42 (kcX7_plan_0 40 42 rfl)
theorem dX7_plan_41 : decode cX7_plan 41 = .ok (.getfield 38, 3) := dw_180 (kcX7_plan_0 41 180 rfl) (kcX7_plan_0 42 0 rfl) (kcX7_plan_0 43 38 rfl) rfl
theorem dX7_plan_44 : decode cX7_plan 44 = .ok (.sipush 144, 3) := dw_17 (kcX7_plan_0 44 17 rfl) (kcX7_plan_0 45 0 rfl) (kcX7_plan_0 46 144 rfl) rfl
theorem dX7_plan_47 : decode cX7_plan 47 = .ok (.iload_n 1, 1) := dw_27 (kcX7_plan_0 47 27 rfl)
theorem dX7_plan_48 : decode cX7_plan 48 = .ok (.imul, 1) := dw_104 (kcX7_plan_0 48 104 rfl)
theorem dX7_plan_49 : decode cX7_plan 49 = .ok (.iload_n 2, 1) := dw_28 (kcX7_plan_0 49 28 rfl)
theorem dX7_plan_50 : decode cX7_plan 50 = .ok (.iadd, 1) := dw_96 (kcX7_plan_0 50 96 rfl)
theorem dX7_plan_51 : decode cX7_plan 51 = .ok (.baload, 1) := dw_51 (kcX7_plan_0 51 51 rfl)
theorem dX7_plan_52 : decode cX7_plan 52 = .ok (.bastore, 1) := dw_84 (kcX7_plan_0 52 84 rfl)
theorem dX7_plan_53 : decode cX7_plan 53 = .ok (.iinc 2 1, 3) := dw_132 (kcX7_plan_0 53 132 rfl) (kcX7_plan_0 54 2 rfl) (kcX7_plan_0 55 1 rfl) rfl
theorem dX7_plan_56 : decode cX7_plan 56 = .ok (.goto (-28), 3) := dw_167 (kcX7_plan_0 56 167 rfl) (kcX7_plan_0 57 255 rfl) (kcX7_plan_0 58 228 rfl) rfl
theorem dX7_plan_59 : decode cX7_plan 59 = .ok (.iconst 0, 1) := dw_3 (kcX7_plan_0 59 3 rfl)
theorem dX7_plan_60 : decode cX7_plan 60 = .ok (.istore_n 2, 1) := dw_61 (kcX7_plan_0 60 61 rfl)
theorem dX7_plan_61 : decode cX7_plan 61 = .ok (.aload_n 0, 1) := dw_42 (kcX7_plan_0 61 42 rfl)
theorem dX7_plan_62 : decode cX7_plan 62 = .ok (.iload_n 1, 1) := dw_27 (kcX7_plan_0 62 27 rfl)
theorem dX7_plan_63 : decode cX7_plan 63 = .ok (.iconst 0, 1) := dw_3 (kcX7_plan_0 63 3 rfl)
theorem kcX7_plan_1 : CHb cX7_plan 64 [182, 0, 230, 62, 29, 2, 159, 0, 83, 42, 27, 29, 16, 12, 108, 29, 16, 12, 112, 182, 0, 239, 54, 4, 21, 4, 154, 0, 48, 3, 54, 5, 21, 5, 17, 0, 144, 162, 0, 29, 42, 180, 0, 38, 17, 0, 144, 27, 104, 21, 5, 96, 42, 180, 0, 83, 21, 5, 51, 84, 132, 5, 1, 167] := CHb_of (by decide +kernel)
theorem dX7_plan_64 : decode cX7_plan 64 = .ok (.invokevirtual 230, 3) := dw_182 (kcX7_plan_1 0 182 rfl) (kcX7_plan_1 1 0 rfl) (kcX7_plan_1 2 230 rfl) rfl
theorem dX7_plan_67 : decode cX7_plan 67 = .ok (.istore_n 3, 1) := dw_62 (kcX7_plan_1 3 62 rfl)
theorem dX7_plan_68 : decode cX7_plan 68 = .ok (.iload_n 3, 1) := dw_29 (kcX7_plan_1 4 29 rfl)
theorem dX7_plan_69 : decode cX7_plan 69 = .ok (.iconst (-1), 1) := dw_2 (kcX7_plan_1 5 2 rfl)
theorem dX7_plan_70 : decode cX7_plan 70 = .ok (.if_icmp .eq 83, 3) := dw_159 (kcX7_plan_1 6 159 rfl) (kcX7_plan_1 7 0 rfl) (kcX7_plan_1 8 83 rfl) rfl
theorem kcX7_plan_2 : CHb cX7_plan 128 [255, 225, 42, 16, 10, 181, 0, 116, 2, 172, 28, 21, 4, 96, 61, 42, 27, 3, 182, 0, 230, 62, 167, 255, 174, 28, 172] := CHb_of (by decide +kernel)
theorem dX7_plan_153 : decode cX7_plan 153 = .ok (.iload_n 2, 1) := dw_28 (kcX7_plan_2 25 28 rfl)
theorem dX7_plan_154 : decode cX7_plan 154 = .ok (.ireturn, 1) := dw_172 (kcX7_plan_2 26 172 rfl)
theorem dX7_plan_73 : decode cX7_plan 73 = .ok (.aload_n 0, 1) := dw_42 (kcX7_plan_1 9 42 rfl)
theorem dX7_plan_74 : decode cX7_plan 74 = .ok (.iload_n 1, 1) := dw_27 (kcX7_plan_1 10 27 rfl)
theorem dX7_plan_75 : decode cX7_plan 75 = .ok (.iload_n 3, 1) := dw_29 (kcX7_plan_1 11 29 rfl)
theorem dX7_plan_76 : decode cX7_plan 76 = .ok (.bipush 12, 2) := dw_16 (kcX7_plan_1 12 16 rfl) (kcX7_plan_1 13 12 rfl) rfl
theorem dX7_plan_78 : decode cX7_plan 78 = .ok (.idiv, 1) := dw_108 (kcX7_plan_1 14 108 rfl)
theorem dX7_plan_79 : decode cX7_plan 79 = .ok (.iload_n 3, 1) := dw_29 (kcX7_plan_1 15 29 rfl)
theorem dX7_plan_80 : decode cX7_plan 80 = .ok (.bipush 12, 2) := dw_16 (kcX7_plan_1 16 16 rfl) (kcX7_plan_1 17 12 rfl) rfl
theorem dX7_plan_82 : decode cX7_plan 82 = .ok (.irem, 1) := dw_112 (kcX7_plan_1 18 112 rfl)
theorem dX7_plan_83 : decode cX7_plan 83 = .ok (.invokevirtual 239, 3) := dw_182 (kcX7_plan_1 19 182 rfl) (kcX7_plan_1 20 0 rfl) (kcX7_plan_1 21 239 rfl) rfl
theorem dX7_plan_86 : decode cX7_plan 86 = .ok (.istore 4, 2) := dw_54 (kcX7_plan_1 22 54 rfl) (kcX7_plan_1 23 4 rfl)
theorem dX7_plan_88 : decode cX7_plan 88 = .ok (.iload 4, 2) := dw_21 (kcX7_plan_1 24 21 rfl) (kcX7_plan_1 25 4 rfl)
theorem dX7_plan_90 : decode cX7_plan 90 = .ok (.ifCond .ne 48, 3) := dw_154 (kcX7_plan_1 26 154 rfl) (kcX7_plan_1 27 0 rfl) (kcX7_plan_1 28 48 rfl) rfl
theorem dX7_plan_138 : decode cX7_plan 138 = .ok (.iload_n 2, 1) := dw_28 (kcX7_plan_2 10 28 rfl)
theorem dX7_plan_139 : decode cX7_plan 139 = .ok (.iload 4, 2) := dw_21 (kcX7_plan_2 11 21 rfl) (kcX7_plan_2 12 4 rfl)
theorem dX7_plan_141 : decode cX7_plan 141 = .ok (.iadd, 1) := dw_96 (kcX7_plan_2 13 96 rfl)
theorem dX7_plan_142 : decode cX7_plan 142 = .ok (.istore_n 2, 1) := dw_61 (kcX7_plan_2 14 61 rfl)
theorem dX7_plan_143 : decode cX7_plan 143 = .ok (.aload_n 0, 1) := dw_42 (kcX7_plan_2 15 42 rfl)
theorem dX7_plan_144 : decode cX7_plan 144 = .ok (.iload_n 1, 1) := dw_27 (kcX7_plan_2 16 27 rfl)
theorem dX7_plan_145 : decode cX7_plan 145 = .ok (.iconst 0, 1) := dw_3 (kcX7_plan_2 17 3 rfl)
theorem dX7_plan_146 : decode cX7_plan 146 = .ok (.invokevirtual 230, 3) := dw_182 (kcX7_plan_2 18 182 rfl) (kcX7_plan_2 19 0 rfl) (kcX7_plan_2 20 230 rfl) rfl
theorem dX7_plan_149 : decode cX7_plan 149 = .ok (.istore_n 3, 1) := dw_62 (kcX7_plan_2 21 62 rfl)
theorem dX7_plan_150 : decode cX7_plan 150 = .ok (.goto (-82), 3) := dw_167 (kcX7_plan_2 22 167 rfl) (kcX7_plan_2 23 255 rfl) (kcX7_plan_2 24 174 rfl) rfl
theorem dX7_plan_93 : decode cX7_plan 93 = .ok (.iconst 0, 1) := dw_3 (kcX7_plan_1 29 3 rfl)
theorem dX7_plan_94 : decode cX7_plan 94 = .ok (.istore 5, 2) := dw_54 (kcX7_plan_1 30 54 rfl) (kcX7_plan_1 31 5 rfl)
theorem dX7_plan_96 : decode cX7_plan 96 = .ok (.iload 5, 2) := dw_21 (kcX7_plan_1 32 21 rfl) (kcX7_plan_1 33 5 rfl)
theorem dX7_plan_98 : decode cX7_plan 98 = .ok (.sipush 144, 3) := dw_17 (kcX7_plan_1 34 17 rfl) (kcX7_plan_1 35 0 rfl) (kcX7_plan_1 36 144 rfl) rfl
theorem dX7_plan_101 : decode cX7_plan 101 = .ok (.if_icmp .ge 29, 3) := dw_162 (kcX7_plan_1 37 162 rfl) (kcX7_plan_1 38 0 rfl) (kcX7_plan_1 39 29 rfl) rfl
theorem dX7_plan_104 : decode cX7_plan 104 = .ok (.aload_n 0, 1) := dw_42 (kcX7_plan_1 40 42 rfl)
theorem dX7_plan_105 : decode cX7_plan 105 = .ok (.getfield 38, 3) := dw_180 (kcX7_plan_1 41 180 rfl) (kcX7_plan_1 42 0 rfl) (kcX7_plan_1 43 38 rfl) rfl
theorem dX7_plan_108 : decode cX7_plan 108 = .ok (.sipush 144, 3) := dw_17 (kcX7_plan_1 44 17 rfl) (kcX7_plan_1 45 0 rfl) (kcX7_plan_1 46 144 rfl) rfl
theorem dX7_plan_111 : decode cX7_plan 111 = .ok (.iload_n 1, 1) := dw_27 (kcX7_plan_1 47 27 rfl)
theorem dX7_plan_112 : decode cX7_plan 112 = .ok (.imul, 1) := dw_104 (kcX7_plan_1 48 104 rfl)
theorem dX7_plan_113 : decode cX7_plan 113 = .ok (.iload 5, 2) := dw_21 (kcX7_plan_1 49 21 rfl) (kcX7_plan_1 50 5 rfl)
theorem dX7_plan_115 : decode cX7_plan 115 = .ok (.iadd, 1) := dw_96 (kcX7_plan_1 51 96 rfl)
theorem dX7_plan_116 : decode cX7_plan 116 = .ok (.aload_n 0, 1) := dw_42 (kcX7_plan_1 52 42 rfl)
theorem dX7_plan_117 : decode cX7_plan 117 = .ok (.getfield 83, 3) := dw_180 (kcX7_plan_1 53 180 rfl) (kcX7_plan_1 54 0 rfl) (kcX7_plan_1 55 83 rfl) rfl
theorem dX7_plan_120 : decode cX7_plan 120 = .ok (.iload 5, 2) := dw_21 (kcX7_plan_1 56 21 rfl) (kcX7_plan_1 57 5 rfl)
theorem dX7_plan_122 : decode cX7_plan 122 = .ok (.baload, 1) := dw_51 (kcX7_plan_1 58 51 rfl)
theorem dX7_plan_123 : decode cX7_plan 123 = .ok (.bastore, 1) := dw_84 (kcX7_plan_1 59 84 rfl)
theorem dX7_plan_124 : decode cX7_plan 124 = .ok (.iinc 5 1, 3) := dw_132 (kcX7_plan_1 60 132 rfl) (kcX7_plan_1 61 5 rfl) (kcX7_plan_1 62 1 rfl) rfl
theorem dX7_plan_127 : decode cX7_plan 127 = .ok (.goto (-31), 3) := dw_167 (kcX7_plan_1 63 167 rfl) (kcX7_plan_2 0 255 rfl) (kcX7_plan_2 1 225 rfl) rfl
theorem dX7_plan_130 : decode cX7_plan 130 = .ok (.aload_n 0, 1) := dw_42 (kcX7_plan_2 2 42 rfl)
theorem dX7_plan_131 : decode cX7_plan 131 = .ok (.bipush 10, 2) := dw_16 (kcX7_plan_2 3 16 rfl) (kcX7_plan_2 4 10 rfl) rfl
theorem dX7_plan_133 : decode cX7_plan 133 = .ok (.putfield 116, 3) := dw_181 (kcX7_plan_2 5 181 rfl) (kcX7_plan_2 6 0 rfl) (kcX7_plan_2 7 116 rfl) rfl
theorem dX7_plan_136 : decode cX7_plan 136 = .ok (.iconst (-1), 1) := dw_2 (kcX7_plan_2 8 2 rfl)
theorem dX7_plan_137 : decode cX7_plan 137 = .ok (.ireturn, 1) := dw_172 (kcX7_plan_2 9 172 rfl)
theorem kcX7_give_0 : CHb cX7_give 0 [42, 42, 27, 182, 0, 120, 154, 0, 7, 4, 167, 0, 33, 42, 180, 1, 18, 16, 16, 160, 0, 8, 16, 8, 167, 0, 19, 42, 27, 3, 182, 0, 230, 2, 159, 0, 8, 16, 10, 167, 0, 4, 3, 181, 0, 116, 42, 180, 0, 116, 158, 0, 5, 2, 172, 42, 180, 0, 110, 42, 180, 1, 18, 42] := CHb_of (by decide +kernel)
theorem dX7_give_0 : decode cX7_give 0 = .ok (.aload_n 0, 1) := dw_42 (kcX7_give_0 0 42 rfl)
theorem dX7_give_1 : decode cX7_give 1 = .ok (.aload_n 0, 1) := dw_42 (kcX7_give_0 1 42 rfl)
theorem dX7_give_2 : decode cX7_give 2 = .ok (.iload_n 1, 1) := dw_27 (kcX7_give_0 2 27 rfl)
theorem dX7_give_3 : decode cX7_give 3 = .ok (.invokevirtual 120, 3) := dw_182 (kcX7_give_0 3 182 rfl) (kcX7_give_0 4 0 rfl) (kcX7_give_0 5 120 rfl) rfl
theorem dX7_give_6 : decode cX7_give 6 = .ok (.ifCond .ne 7, 3) := dw_154 (kcX7_give_0 6 154 rfl) (kcX7_give_0 7 0 rfl) (kcX7_give_0 8 7 rfl) rfl
theorem dX7_give_13 : decode cX7_give 13 = .ok (.aload_n 0, 1) := dw_42 (kcX7_give_0 13 42 rfl)
theorem dX7_give_14 : decode cX7_give 14 = .ok (.getfield 274, 3) := dw_180 (kcX7_give_0 14 180 rfl) (kcX7_give_0 15 1 rfl) (kcX7_give_0 16 18 rfl) rfl
theorem dX7_give_17 : decode cX7_give 17 = .ok (.bipush 16, 2) := dw_16 (kcX7_give_0 17 16 rfl) (kcX7_give_0 18 16 rfl) rfl
theorem dX7_give_19 : decode cX7_give 19 = .ok (.if_icmp .ne 8, 3) := dw_160 (kcX7_give_0 19 160 rfl) (kcX7_give_0 20 0 rfl) (kcX7_give_0 21 8 rfl) rfl
theorem dX7_give_27 : decode cX7_give 27 = .ok (.aload_n 0, 1) := dw_42 (kcX7_give_0 27 42 rfl)
theorem dX7_give_28 : decode cX7_give 28 = .ok (.iload_n 1, 1) := dw_27 (kcX7_give_0 28 27 rfl)
theorem dX7_give_29 : decode cX7_give 29 = .ok (.iconst 0, 1) := dw_3 (kcX7_give_0 29 3 rfl)
theorem dX7_give_30 : decode cX7_give 30 = .ok (.invokevirtual 230, 3) := dw_182 (kcX7_give_0 30 182 rfl) (kcX7_give_0 31 0 rfl) (kcX7_give_0 32 230 rfl) rfl
theorem dX7_give_33 : decode cX7_give 33 = .ok (.iconst (-1), 1) := dw_2 (kcX7_give_0 33 2 rfl)
theorem dX7_give_34 : decode cX7_give 34 = .ok (.if_icmp .eq 8, 3) := dw_159 (kcX7_give_0 34 159 rfl) (kcX7_give_0 35 0 rfl) (kcX7_give_0 36 8 rfl) rfl
theorem dX7_give_42 : decode cX7_give 42 = .ok (.iconst 0, 1) := dw_3 (kcX7_give_0 42 3 rfl)
theorem dX7_give_43 : decode cX7_give 43 = .ok (.putfield 116, 3) := dw_181 (kcX7_give_0 43 181 rfl) (kcX7_give_0 44 0 rfl) (kcX7_give_0 45 116 rfl) rfl
theorem dX7_give_46 : decode cX7_give 46 = .ok (.aload_n 0, 1) := dw_42 (kcX7_give_0 46 42 rfl)
theorem dX7_give_47 : decode cX7_give 47 = .ok (.getfield 116, 3) := dw_180 (kcX7_give_0 47 180 rfl) (kcX7_give_0 48 0 rfl) (kcX7_give_0 49 116 rfl) rfl
theorem dX7_give_50 : decode cX7_give 50 = .ok (.ifCond .le 5, 3) := dw_158 (kcX7_give_0 50 158 rfl) (kcX7_give_0 51 0 rfl) (kcX7_give_0 52 5 rfl) rfl
theorem dX7_give_55 : decode cX7_give 55 = .ok (.aload_n 0, 1) := dw_42 (kcX7_give_0 55 42 rfl)
theorem dX7_give_56 : decode cX7_give 56 = .ok (.getfield 110, 3) := dw_180 (kcX7_give_0 56 180 rfl) (kcX7_give_0 57 0 rfl) (kcX7_give_0 58 110 rfl) rfl
theorem dX7_give_59 : decode cX7_give 59 = .ok (.aload_n 0, 1) := dw_42 (kcX7_give_0 59 42 rfl)
theorem dX7_give_60 : decode cX7_give 60 = .ok (.getfield 274, 3) := dw_180 (kcX7_give_0 60 180 rfl) (kcX7_give_0 61 1 rfl) (kcX7_give_0 62 18 rfl) rfl
theorem dX7_give_63 : decode cX7_give 63 = .ok (.aload_n 0, 1) := dw_42 (kcX7_give_0 63 42 rfl)
theorem kcX7_give_1 : CHb cX7_give 64 [180, 0, 13, 27, 46, 79, 42, 180, 0, 113, 42, 180, 1, 18, 42, 180, 0, 17, 27, 46, 79, 3, 61, 28, 42, 180, 0, 13, 27, 46, 162, 0, 97, 42, 27, 28, 182, 0, 161, 62, 3, 54, 4, 21, 4, 42, 180, 0, 17, 27, 46, 162, 0, 70, 27, 28, 21, 4, 184, 0, 147, 54, 5, 42] := CHb_of (by decide +kernel)
theorem dX7_give_64 : decode cX7_give 64 = .ok (.getfield 13, 3) := dw_180 (kcX7_give_1 0 180 rfl) (kcX7_give_1 1 0 rfl) (kcX7_give_1 2 13 rfl) rfl
theorem dX7_give_67 : decode cX7_give 67 = .ok (.iload_n 1, 1) := dw_27 (kcX7_give_1 3 27 rfl)
theorem dX7_give_68 : decode cX7_give 68 = .ok (.iaload, 1) := dw_46 (kcX7_give_1 4 46 rfl)
theorem dX7_give_69 : decode cX7_give 69 = .ok (.iastore, 1) := dw_79 (kcX7_give_1 5 79 rfl)
theorem dX7_give_70 : decode cX7_give 70 = .ok (.aload_n 0, 1) := dw_42 (kcX7_give_1 6 42 rfl)
theorem dX7_give_71 : decode cX7_give 71 = .ok (.getfield 113, 3) := dw_180 (kcX7_give_1 7 180 rfl) (kcX7_give_1 8 0 rfl) (kcX7_give_1 9 113 rfl) rfl
theorem dX7_give_74 : decode cX7_give 74 = .ok (.aload_n 0, 1) := dw_42 (kcX7_give_1 10 42 rfl)
theorem dX7_give_75 : decode cX7_give 75 = .ok (.getfield 274, 3) := dw_180 (kcX7_give_1 11 180 rfl) (kcX7_give_1 12 1 rfl) (kcX7_give_1 13 18 rfl) rfl
theorem dX7_give_78 : decode cX7_give 78 = .ok (.aload_n 0, 1) := dw_42 (kcX7_give_1 14 42 rfl)
theorem dX7_give_79 : decode cX7_give 79 = .ok (.getfield 17, 3) := dw_180 (kcX7_give_1 15 180 rfl) (kcX7_give_1 16 0 rfl) (kcX7_give_1 17 17 rfl) rfl
theorem dX7_give_82 : decode cX7_give 82 = .ok (.iload_n 1, 1) := dw_27 (kcX7_give_1 18 27 rfl)
theorem dX7_give_83 : decode cX7_give 83 = .ok (.iaload, 1) := dw_46 (kcX7_give_1 19 46 rfl)
theorem dX7_give_84 : decode cX7_give 84 = .ok (.iastore, 1) := dw_79 (kcX7_give_1 20 79 rfl)
theorem dX7_give_85 : decode cX7_give 85 = .ok (.iconst 0, 1) := dw_3 (kcX7_give_1 21 3 rfl)
theorem dX7_give_86 : decode cX7_give 86 = .ok (.istore_n 2, 1) := dw_61 (kcX7_give_1 22 61 rfl)
theorem dX7_give_87 : decode cX7_give 87 = .ok (.iload_n 2, 1) := dw_28 (kcX7_give_1 23 28 rfl)
theorem dX7_give_88 : decode cX7_give 88 = .ok (.aload_n 0, 1) := dw_42 (kcX7_give_1 24 42 rfl)
theorem dX7_give_89 : decode cX7_give 89 = .ok (.getfield 13, 3) := dw_180 (kcX7_give_1 25 180 rfl) (kcX7_give_1 26 0 rfl) (kcX7_give_1 27 13 rfl) rfl
theorem dX7_give_92 : decode cX7_give 92 = .ok (.iload_n 1, 1) := dw_27 (kcX7_give_1 28 27 rfl)
theorem dX7_give_93 : decode cX7_give 93 = .ok (.iaload, 1) := dw_46 (kcX7_give_1 29 46 rfl)
theorem dX7_give_94 : decode cX7_give 94 = .ok (.if_icmp .ge 97, 3) := dw_162 (kcX7_give_1 30 162 rfl) (kcX7_give_1 31 0 rfl) (kcX7_give_1 32 97 rfl) rfl
theorem dX7_give_97 : decode cX7_give 97 = .ok (.aload_n 0, 1) := dw_42 (kcX7_give_1 33 42 rfl)
theorem dX7_give_98 : decode cX7_give 98 = .ok (.iload_n 1, 1) := dw_27 (kcX7_give_1 34 27 rfl)
theorem dX7_give_99 : decode cX7_give 99 = .ok (.iload_n 2, 1) := dw_28 (kcX7_give_1 35 28 rfl)
theorem dX7_give_100 : decode cX7_give 100 = .ok (.invokevirtual 161, 3) := dw_182 (kcX7_give_1 36 182 rfl) (kcX7_give_1 37 0 rfl) (kcX7_give_1 38 161 rfl) rfl
theorem dX7_give_103 : decode cX7_give 103 = .ok (.istore_n 3, 1) := dw_62 (kcX7_give_1 39 62 rfl)
theorem dX7_give_104 : decode cX7_give 104 = .ok (.iconst 0, 1) := dw_3 (kcX7_give_1 40 3 rfl)
theorem dX7_give_105 : decode cX7_give 105 = .ok (.istore 4, 2) := dw_54 (kcX7_give_1 41 54 rfl) (kcX7_give_1 42 4 rfl)
theorem dX7_give_107 : decode cX7_give 107 = .ok (.iload 4, 2) := dw_21 (kcX7_give_1 43 21 rfl) (kcX7_give_1 44 4 rfl)
theorem dX7_give_109 : decode cX7_give 109 = .ok (.aload_n 0, 1) := dw_42 (kcX7_give_1 45 42 rfl)
theorem dX7_give_110 : decode cX7_give 110 = .ok (.getfield 17, 3) := dw_180 (kcX7_give_1 46 180 rfl) (kcX7_give_1 47 0 rfl) (kcX7_give_1 48 17 rfl) rfl
theorem dX7_give_113 : decode cX7_give 113 = .ok (.iload_n 1, 1) := dw_27 (kcX7_give_1 49 27 rfl)
theorem dX7_give_114 : decode cX7_give 114 = .ok (.iaload, 1) := dw_46 (kcX7_give_1 50 46 rfl)
theorem dX7_give_115 : decode cX7_give 115 = .ok (.if_icmp .ge 70, 3) := dw_162 (kcX7_give_1 51 162 rfl) (kcX7_give_1 52 0 rfl) (kcX7_give_1 53 70 rfl) rfl
theorem dX7_give_118 : decode cX7_give 118 = .ok (.iload_n 1, 1) := dw_27 (kcX7_give_1 54 27 rfl)
theorem dX7_give_119 : decode cX7_give 119 = .ok (.iload_n 2, 1) := dw_28 (kcX7_give_1 55 28 rfl)
theorem dX7_give_120 : decode cX7_give 120 = .ok (.iload 4, 2) := dw_21 (kcX7_give_1 56 21 rfl) (kcX7_give_1 57 4 rfl)
theorem dX7_give_122 : decode cX7_give 122 = .ok (.invokestatic 147, 3) := dw_184 (kcX7_give_1 58 184 rfl) (kcX7_give_1 59 0 rfl) (kcX7_give_1 60 147 rfl) rfl
theorem dX7_give_125 : decode cX7_give 125 = .ok (.istore 5, 2) := dw_54 (kcX7_give_1 61 54 rfl) (kcX7_give_1 62 5 rfl)
theorem dX7_give_127 : decode cX7_give 127 = .ok (.aload_n 0, 1) := dw_42 (kcX7_give_1 63 42 rfl)
theorem kcX7_give_2 : CHb cX7_give 128 [180, 0, 107, 17, 0, 144, 42, 180, 1, 18, 104, 16, 12, 28, 104, 96, 21, 4, 96, 29, 154, 0, 8, 16, 253, 167, 0, 25, 42, 27, 21, 5, 182, 0, 181, 153, 0, 8, 16, 254, 167, 0, 10, 42, 180, 0, 26, 21, 5, 46, 79, 132, 4, 1, 167, 255, 181, 132, 2, 1, 167, 255, 155, 42] := CHb_of (by decide +kernel)
theorem dX7_give_128 : decode cX7_give 128 = .ok (.getfield 107, 3) := dw_180 (kcX7_give_2 0 180 rfl) (kcX7_give_2 1 0 rfl) (kcX7_give_2 2 107 rfl) rfl
theorem dX7_give_131 : decode cX7_give 131 = .ok (.sipush 144, 3) := dw_17 (kcX7_give_2 3 17 rfl) (kcX7_give_2 4 0 rfl) (kcX7_give_2 5 144 rfl) rfl
theorem dX7_give_134 : decode cX7_give 134 = .ok (.aload_n 0, 1) := dw_42 (kcX7_give_2 6 42 rfl)
theorem dX7_give_135 : decode cX7_give 135 = .ok (.getfield 274, 3) := dw_180 (kcX7_give_2 7 180 rfl) (kcX7_give_2 8 1 rfl) (kcX7_give_2 9 18 rfl) rfl
theorem dX7_give_138 : decode cX7_give 138 = .ok (.imul, 1) := dw_104 (kcX7_give_2 10 104 rfl)
theorem dX7_give_139 : decode cX7_give 139 = .ok (.bipush 12, 2) := dw_16 (kcX7_give_2 11 16 rfl) (kcX7_give_2 12 12 rfl) rfl
theorem dX7_give_141 : decode cX7_give 141 = .ok (.iload_n 2, 1) := dw_28 (kcX7_give_2 13 28 rfl)
theorem dX7_give_142 : decode cX7_give 142 = .ok (.imul, 1) := dw_104 (kcX7_give_2 14 104 rfl)
theorem dX7_give_143 : decode cX7_give 143 = .ok (.iadd, 1) := dw_96 (kcX7_give_2 15 96 rfl)
theorem dX7_give_144 : decode cX7_give 144 = .ok (.iload 4, 2) := dw_21 (kcX7_give_2 16 21 rfl) (kcX7_give_2 17 4 rfl)
theorem dX7_give_146 : decode cX7_give 146 = .ok (.iadd, 1) := dw_96 (kcX7_give_2 18 96 rfl)
theorem dX7_give_147 : decode cX7_give 147 = .ok (.iload_n 3, 1) := dw_29 (kcX7_give_2 19 29 rfl)
theorem dX7_give_148 : decode cX7_give 148 = .ok (.ifCond .ne 8, 3) := dw_154 (kcX7_give_2 20 154 rfl) (kcX7_give_2 21 0 rfl) (kcX7_give_2 22 8 rfl) rfl
theorem dX7_give_156 : decode cX7_give 156 = .ok (.aload_n 0, 1) := dw_42 (kcX7_give_2 28 42 rfl)
theorem dX7_give_157 : decode cX7_give 157 = .ok (.iload_n 1, 1) := dw_27 (kcX7_give_2 29 27 rfl)
theorem dX7_give_158 : decode cX7_give 158 = .ok (.iload 5, 2) := dw_21 (kcX7_give_2 30 21 rfl) (kcX7_give_2 31 5 rfl)
theorem dX7_give_160 : decode cX7_give 160 = .ok (.invokevirtual 181, 3) := dw_182 (kcX7_give_2 32 182 rfl) (kcX7_give_2 33 0 rfl) (kcX7_give_2 34 181 rfl) rfl
theorem dX7_give_163 : decode cX7_give 163 = .ok (.ifCond .eq 8, 3) := dw_153 (kcX7_give_2 35 153 rfl) (kcX7_give_2 36 0 rfl) (kcX7_give_2 37 8 rfl) rfl
theorem dX7_give_171 : decode cX7_give 171 = .ok (.aload_n 0, 1) := dw_42 (kcX7_give_2 43 42 rfl)
theorem dX7_give_172 : decode cX7_give 172 = .ok (.getfield 26, 3) := dw_180 (kcX7_give_2 44 180 rfl) (kcX7_give_2 45 0 rfl) (kcX7_give_2 46 26 rfl) rfl
theorem dX7_give_175 : decode cX7_give 175 = .ok (.iload 5, 2) := dw_21 (kcX7_give_2 47 21 rfl) (kcX7_give_2 48 5 rfl)
theorem dX7_give_177 : decode cX7_give 177 = .ok (.iaload, 1) := dw_46 (kcX7_give_2 49 46 rfl)
theorem dX7_give_166 : decode cX7_give 166 = .ok (.bipush (-2), 2) := dw_16 (kcX7_give_2 38 16 rfl) (kcX7_give_2 39 254 rfl) rfl
theorem dX7_give_168 : decode cX7_give 168 = .ok (.goto 10, 3) := dw_167 (kcX7_give_2 40 167 rfl) (kcX7_give_2 41 0 rfl) (kcX7_give_2 42 10 rfl) rfl
theorem dX7_give_151 : decode cX7_give 151 = .ok (.bipush (-3), 2) := dw_16 (kcX7_give_2 23 16 rfl) (kcX7_give_2 24 253 rfl) rfl
theorem dX7_give_153 : decode cX7_give 153 = .ok (.goto 25, 3) := dw_167 (kcX7_give_2 25 167 rfl) (kcX7_give_2 26 0 rfl) (kcX7_give_2 27 25 rfl) rfl
theorem dX7_give_178 : decode cX7_give 178 = .ok (.iastore, 1) := dw_79 (kcX7_give_2 50 79 rfl)
theorem dX7_give_179 : decode cX7_give 179 = .ok (.iinc 4 1, 3) := dw_132 (kcX7_give_2 51 132 rfl) (kcX7_give_2 52 4 rfl) (kcX7_give_2 53 1 rfl) rfl
theorem dX7_give_182 : decode cX7_give 182 = .ok (.goto (-75), 3) := dw_167 (kcX7_give_2 54 167 rfl) (kcX7_give_2 55 255 rfl) (kcX7_give_2 56 181 rfl) rfl
theorem dX7_give_185 : decode cX7_give 185 = .ok (.iinc 2 1, 3) := dw_132 (kcX7_give_2 57 132 rfl) (kcX7_give_2 58 2 rfl) (kcX7_give_2 59 1 rfl) rfl
theorem dX7_give_188 : decode cX7_give 188 = .ok (.goto (-101), 3) := dw_167 (kcX7_give_2 60 167 rfl) (kcX7_give_2 61 255 rfl) (kcX7_give_2 62 155 rfl) rfl
theorem dX7_give_191 : decode cX7_give 191 = .ok (.aload_n 0, 1) := dw_42 (kcX7_give_2 63 42 rfl)
theorem kcX7_give_3 : CHb cX7_give 192 [89, 180, 1, 18, 4, 96, 181, 1, 18, 42, 180, 1, 18, 4, 100, 172] := CHb_of (by decide +kernel)
theorem dX7_give_192 : decode cX7_give 192 = .ok (.dup, 1) := dw_89 (kcX7_give_3 0 89 rfl)
theorem dX7_give_193 : decode cX7_give 193 = .ok (.getfield 274, 3) := dw_180 (kcX7_give_3 1 180 rfl) (kcX7_give_3 2 1 rfl) (kcX7_give_3 3 18 rfl) rfl
theorem dX7_give_196 : decode cX7_give 196 = .ok (.iconst 1, 1) := dw_4 (kcX7_give_3 4 4 rfl)
theorem dX7_give_197 : decode cX7_give 197 = .ok (.iadd, 1) := dw_96 (kcX7_give_3 5 96 rfl)
theorem dX7_give_198 : decode cX7_give 198 = .ok (.putfield 274, 3) := dw_181 (kcX7_give_3 6 181 rfl) (kcX7_give_3 7 1 rfl) (kcX7_give_3 8 18 rfl) rfl
theorem dX7_give_201 : decode cX7_give 201 = .ok (.aload_n 0, 1) := dw_42 (kcX7_give_3 9 42 rfl)
theorem dX7_give_202 : decode cX7_give 202 = .ok (.getfield 274, 3) := dw_180 (kcX7_give_3 10 180 rfl) (kcX7_give_3 11 1 rfl) (kcX7_give_3 12 18 rfl) rfl
theorem dX7_give_205 : decode cX7_give 205 = .ok (.iconst 1, 1) := dw_4 (kcX7_give_3 13 4 rfl)
theorem dX7_give_206 : decode cX7_give 206 = .ok (.isub, 1) := dw_100 (kcX7_give_3 14 100 rfl)
theorem dX7_give_207 : decode cX7_give 207 = .ok (.ireturn, 1) := dw_172 (kcX7_give_3 15 172 rfl)
theorem dX7_give_37 : decode cX7_give 37 = .ok (.bipush 10, 2) := dw_16 (kcX7_give_0 37 16 rfl) (kcX7_give_0 38 10 rfl) rfl
theorem dX7_give_39 : decode cX7_give 39 = .ok (.goto 4, 3) := dw_167 (kcX7_give_0 39 167 rfl) (kcX7_give_0 40 0 rfl) (kcX7_give_0 41 4 rfl) rfl
theorem dX7_give_53 : decode cX7_give 53 = .ok (.iconst (-1), 1) := dw_2 (kcX7_give_0 53 2 rfl)
theorem dX7_give_54 : decode cX7_give 54 = .ok (.ireturn, 1) := dw_172 (kcX7_give_0 54 172 rfl)
theorem dX7_give_22 : decode cX7_give 22 = .ok (.bipush 8, 2) := dw_16 (kcX7_give_0 22 16 rfl) (kcX7_give_0 23 8 rfl) rfl
theorem dX7_give_24 : decode cX7_give 24 = .ok (.goto 19, 3) := dw_167 (kcX7_give_0 24 167 rfl) (kcX7_give_0 25 0 rfl) (kcX7_give_0 26 19 rfl) rfl
theorem dX7_give_9 : decode cX7_give 9 = .ok (.iconst 1, 1) := dw_4 (kcX7_give_0 9 4 rfl)
theorem dX7_give_10 : decode cX7_give 10 = .ok (.goto 33, 3) := dw_167 (kcX7_give_0 10 167 rfl) (kcX7_give_0 11 0 rfl) (kcX7_give_0 12 33 rfl) rfl
theorem kcX7_isIn_0 : CHb cX7_isIn 0 [27, 155, 0, 43, 27, 42, 180, 1, 18, 162, 0, 35, 28, 155, 0, 31, 29, 155, 0, 27, 28, 42, 180, 0, 110, 27, 46, 162, 0, 17, 29, 42, 180, 0, 113, 27, 46, 162, 0, 7, 4, 167, 0, 4, 3, 172] := CHb_of (by decide +kernel)
theorem dX7_isIn_0 : decode cX7_isIn 0 = .ok (.iload_n 1, 1) := dw_27 (kcX7_isIn_0 0 27 rfl)
theorem dX7_isIn_1 : decode cX7_isIn 1 = .ok (.ifCond .lt 43, 3) := dw_155 (kcX7_isIn_0 1 155 rfl) (kcX7_isIn_0 2 0 rfl) (kcX7_isIn_0 3 43 rfl) rfl
theorem dX7_isIn_44 : decode cX7_isIn 44 = .ok (.iconst 0, 1) := dw_3 (kcX7_isIn_0 44 3 rfl)
theorem dX7_isIn_45 : decode cX7_isIn 45 = .ok (.ireturn, 1) := dw_172 (kcX7_isIn_0 45 172 rfl)
theorem dX7_isIn_4 : decode cX7_isIn 4 = .ok (.iload_n 1, 1) := dw_27 (kcX7_isIn_0 4 27 rfl)
theorem dX7_isIn_5 : decode cX7_isIn 5 = .ok (.aload_n 0, 1) := dw_42 (kcX7_isIn_0 5 42 rfl)
theorem dX7_isIn_6 : decode cX7_isIn 6 = .ok (.getfield 274, 3) := dw_180 (kcX7_isIn_0 6 180 rfl) (kcX7_isIn_0 7 1 rfl) (kcX7_isIn_0 8 18 rfl) rfl
theorem dX7_isIn_9 : decode cX7_isIn 9 = .ok (.if_icmp .ge 35, 3) := dw_162 (kcX7_isIn_0 9 162 rfl) (kcX7_isIn_0 10 0 rfl) (kcX7_isIn_0 11 35 rfl) rfl
theorem dX7_isIn_12 : decode cX7_isIn 12 = .ok (.iload_n 2, 1) := dw_28 (kcX7_isIn_0 12 28 rfl)
theorem dX7_isIn_13 : decode cX7_isIn 13 = .ok (.ifCond .lt 31, 3) := dw_155 (kcX7_isIn_0 13 155 rfl) (kcX7_isIn_0 14 0 rfl) (kcX7_isIn_0 15 31 rfl) rfl
theorem dX7_isIn_16 : decode cX7_isIn 16 = .ok (.iload_n 3, 1) := dw_29 (kcX7_isIn_0 16 29 rfl)
theorem dX7_isIn_17 : decode cX7_isIn 17 = .ok (.ifCond .lt 27, 3) := dw_155 (kcX7_isIn_0 17 155 rfl) (kcX7_isIn_0 18 0 rfl) (kcX7_isIn_0 19 27 rfl) rfl
theorem dX7_isIn_20 : decode cX7_isIn 20 = .ok (.iload_n 2, 1) := dw_28 (kcX7_isIn_0 20 28 rfl)
theorem dX7_isIn_21 : decode cX7_isIn 21 = .ok (.aload_n 0, 1) := dw_42 (kcX7_isIn_0 21 42 rfl)
theorem dX7_isIn_22 : decode cX7_isIn 22 = .ok (.getfield 110, 3) := dw_180 (kcX7_isIn_0 22 180 rfl) (kcX7_isIn_0 23 0 rfl) (kcX7_isIn_0 24 110 rfl) rfl
theorem dX7_isIn_25 : decode cX7_isIn 25 = .ok (.iload_n 1, 1) := dw_27 (kcX7_isIn_0 25 27 rfl)
theorem dX7_isIn_26 : decode cX7_isIn 26 = .ok (.iaload, 1) := dw_46 (kcX7_isIn_0 26 46 rfl)
theorem dX7_isIn_27 : decode cX7_isIn 27 = .ok (.if_icmp .ge 17, 3) := dw_162 (kcX7_isIn_0 27 162 rfl) (kcX7_isIn_0 28 0 rfl) (kcX7_isIn_0 29 17 rfl) rfl
theorem dX7_isIn_30 : decode cX7_isIn 30 = .ok (.iload_n 3, 1) := dw_29 (kcX7_isIn_0 30 29 rfl)
theorem dX7_isIn_31 : decode cX7_isIn 31 = .ok (.aload_n 0, 1) := dw_42 (kcX7_isIn_0 31 42 rfl)
theorem dX7_isIn_32 : decode cX7_isIn 32 = .ok (.getfield 113, 3) := dw_180 (kcX7_isIn_0 32 180 rfl) (kcX7_isIn_0 33 0 rfl) (kcX7_isIn_0 34 113 rfl) rfl
theorem dX7_isIn_35 : decode cX7_isIn 35 = .ok (.iload_n 1, 1) := dw_27 (kcX7_isIn_0 35 27 rfl)
theorem dX7_isIn_36 : decode cX7_isIn 36 = .ok (.iaload, 1) := dw_46 (kcX7_isIn_0 36 46 rfl)
theorem dX7_isIn_37 : decode cX7_isIn 37 = .ok (.if_icmp .ge 7, 3) := dw_162 (kcX7_isIn_0 37 162 rfl) (kcX7_isIn_0 38 0 rfl) (kcX7_isIn_0 39 7 rfl) rfl
theorem dX7_isIn_40 : decode cX7_isIn 40 = .ok (.iconst 1, 1) := dw_4 (kcX7_isIn_0 40 4 rfl)
theorem dX7_isIn_41 : decode cX7_isIn 41 = .ok (.goto 4, 3) := dw_167 (kcX7_isIn_0 41 167 rfl) (kcX7_isIn_0 42 0 rfl) (kcX7_isIn_0 43 4 rfl) rfl
theorem kcX7_gift_0 : CHb cX7_gift 0 [42, 27, 28, 29, 182, 1, 21, 153, 0, 23, 42, 180, 0, 107, 17, 0, 144, 27, 104, 16, 12, 28, 104, 96, 29, 96, 46, 167, 0, 4, 2, 172] := CHb_of (by decide +kernel)
theorem dX7_gift_0 : decode cX7_gift 0 = .ok (.aload_n 0, 1) := dw_42 (kcX7_gift_0 0 42 rfl)
theorem dX7_gift_1 : decode cX7_gift 1 = .ok (.iload_n 1, 1) := dw_27 (kcX7_gift_0 1 27 rfl)
theorem dX7_gift_2 : decode cX7_gift 2 = .ok (.iload_n 2, 1) := dw_28 (kcX7_gift_0 2 28 rfl)
theorem dX7_gift_3 : decode cX7_gift 3 = .ok (.iload_n 3, 1) := dw_29 (kcX7_gift_0 3 29 rfl)
theorem dX7_gift_4 : decode cX7_gift 4 = .ok (.invokevirtual 277, 3) := dw_182 (kcX7_gift_0 4 182 rfl) (kcX7_gift_0 5 1 rfl) (kcX7_gift_0 6 21 rfl) rfl
theorem dX7_gift_7 : decode cX7_gift 7 = .ok (.ifCond .eq 23, 3) := dw_153 (kcX7_gift_0 7 153 rfl) (kcX7_gift_0 8 0 rfl) (kcX7_gift_0 9 23 rfl) rfl
theorem dX7_gift_30 : decode cX7_gift 30 = .ok (.iconst (-1), 1) := dw_2 (kcX7_gift_0 30 2 rfl)
theorem dX7_gift_31 : decode cX7_gift 31 = .ok (.ireturn, 1) := dw_172 (kcX7_gift_0 31 172 rfl)
theorem dX7_gift_10 : decode cX7_gift 10 = .ok (.aload_n 0, 1) := dw_42 (kcX7_gift_0 10 42 rfl)
theorem dX7_gift_11 : decode cX7_gift 11 = .ok (.getfield 107, 3) := dw_180 (kcX7_gift_0 11 180 rfl) (kcX7_gift_0 12 0 rfl) (kcX7_gift_0 13 107 rfl) rfl
theorem dX7_gift_14 : decode cX7_gift 14 = .ok (.sipush 144, 3) := dw_17 (kcX7_gift_0 14 17 rfl) (kcX7_gift_0 15 0 rfl) (kcX7_gift_0 16 144 rfl) rfl
theorem dX7_gift_17 : decode cX7_gift 17 = .ok (.iload_n 1, 1) := dw_27 (kcX7_gift_0 17 27 rfl)
theorem dX7_gift_18 : decode cX7_gift 18 = .ok (.imul, 1) := dw_104 (kcX7_gift_0 18 104 rfl)
theorem dX7_gift_19 : decode cX7_gift 19 = .ok (.bipush 12, 2) := dw_16 (kcX7_gift_0 19 16 rfl) (kcX7_gift_0 20 12 rfl) rfl
theorem dX7_gift_21 : decode cX7_gift 21 = .ok (.iload_n 2, 1) := dw_28 (kcX7_gift_0 21 28 rfl)
theorem dX7_gift_22 : decode cX7_gift 22 = .ok (.imul, 1) := dw_104 (kcX7_gift_0 22 104 rfl)
theorem dX7_gift_23 : decode cX7_gift 23 = .ok (.iadd, 1) := dw_96 (kcX7_gift_0 23 96 rfl)
theorem dX7_gift_24 : decode cX7_gift 24 = .ok (.iload_n 3, 1) := dw_29 (kcX7_gift_0 24 29 rfl)
theorem dX7_gift_25 : decode cX7_gift 25 = .ok (.iadd, 1) := dw_96 (kcX7_gift_0 25 96 rfl)
theorem dX7_gift_26 : decode cX7_gift 26 = .ok (.iaload, 1) := dw_46 (kcX7_gift_0 26 46 rfl)
theorem dX7_gift_27 : decode cX7_gift 27 = .ok (.goto 4, 3) := dw_167 (kcX7_gift_0 27 167 rfl) (kcX7_gift_0 28 0 rfl) (kcX7_gift_0 29 4 rfl) rfl
theorem kcX7_agree_0 : CHb cX7_agree 0 [27, 155, 0, 23, 28, 155, 0, 19, 27, 42, 180, 1, 18, 162, 0, 11, 28, 42, 180, 1, 18, 161, 0, 5, 2, 172, 3, 62, 29, 16, 12, 162, 0, 115, 3, 54, 4, 21, 4, 16, 12, 162, 0, 99, 42, 27, 29, 21, 4, 182, 1, 21, 153, 0, 82, 42, 28, 29, 21, 4, 182, 1, 21, 154] := CHb_of (by decide +kernel)
theorem dX7_agree_0 : decode cX7_agree 0 = .ok (.iload_n 1, 1) := dw_27 (kcX7_agree_0 0 27 rfl)
theorem dX7_agree_1 : decode cX7_agree 1 = .ok (.ifCond .lt 23, 3) := dw_155 (kcX7_agree_0 1 155 rfl) (kcX7_agree_0 2 0 rfl) (kcX7_agree_0 3 23 rfl) rfl
theorem dX7_agree_24 : decode cX7_agree 24 = .ok (.iconst (-1), 1) := dw_2 (kcX7_agree_0 24 2 rfl)
theorem dX7_agree_25 : decode cX7_agree 25 = .ok (.ireturn, 1) := dw_172 (kcX7_agree_0 25 172 rfl)
theorem dX7_agree_4 : decode cX7_agree 4 = .ok (.iload_n 2, 1) := dw_28 (kcX7_agree_0 4 28 rfl)
theorem dX7_agree_5 : decode cX7_agree 5 = .ok (.ifCond .lt 19, 3) := dw_155 (kcX7_agree_0 5 155 rfl) (kcX7_agree_0 6 0 rfl) (kcX7_agree_0 7 19 rfl) rfl
theorem dX7_agree_8 : decode cX7_agree 8 = .ok (.iload_n 1, 1) := dw_27 (kcX7_agree_0 8 27 rfl)
theorem dX7_agree_9 : decode cX7_agree 9 = .ok (.aload_n 0, 1) := dw_42 (kcX7_agree_0 9 42 rfl)
theorem dX7_agree_10 : decode cX7_agree 10 = .ok (.getfield 274, 3) := dw_180 (kcX7_agree_0 10 180 rfl) (kcX7_agree_0 11 1 rfl) (kcX7_agree_0 12 18 rfl) rfl
theorem dX7_agree_13 : decode cX7_agree 13 = .ok (.if_icmp .ge 11, 3) := dw_162 (kcX7_agree_0 13 162 rfl) (kcX7_agree_0 14 0 rfl) (kcX7_agree_0 15 11 rfl) rfl
theorem dX7_agree_16 : decode cX7_agree 16 = .ok (.iload_n 2, 1) := dw_28 (kcX7_agree_0 16 28 rfl)
theorem dX7_agree_17 : decode cX7_agree 17 = .ok (.aload_n 0, 1) := dw_42 (kcX7_agree_0 17 42 rfl)
theorem dX7_agree_18 : decode cX7_agree 18 = .ok (.getfield 274, 3) := dw_180 (kcX7_agree_0 18 180 rfl) (kcX7_agree_0 19 1 rfl) (kcX7_agree_0 20 18 rfl) rfl
theorem dX7_agree_21 : decode cX7_agree 21 = .ok (.if_icmp .lt 5, 3) := dw_161 (kcX7_agree_0 21 161 rfl) (kcX7_agree_0 22 0 rfl) (kcX7_agree_0 23 5 rfl) rfl
theorem dX7_agree_26 : decode cX7_agree 26 = .ok (.iconst 0, 1) := dw_3 (kcX7_agree_0 26 3 rfl)
theorem dX7_agree_27 : decode cX7_agree 27 = .ok (.istore_n 3, 1) := dw_62 (kcX7_agree_0 27 62 rfl)
theorem dX7_agree_28 : decode cX7_agree 28 = .ok (.iload_n 3, 1) := dw_29 (kcX7_agree_0 28 29 rfl)
theorem dX7_agree_29 : decode cX7_agree 29 = .ok (.bipush 12, 2) := dw_16 (kcX7_agree_0 29 16 rfl) (kcX7_agree_0 30 12 rfl) rfl
theorem dX7_agree_31 : decode cX7_agree 31 = .ok (.if_icmp .ge 115, 3) := dw_162 (kcX7_agree_0 31 162 rfl) (kcX7_agree_0 32 0 rfl) (kcX7_agree_0 33 115 rfl) rfl
theorem kcX7_agree_2 : CHb cX7_agree 128 [29, 104, 21, 4, 96, 172, 132, 4, 1, 167, 255, 156, 132, 3, 1, 167, 255, 141, 16, 254, 172] := CHb_of (by decide +kernel)
theorem dX7_agree_146 : decode cX7_agree 146 = .ok (.bipush (-2), 2) := dw_16 (kcX7_agree_2 18 16 rfl) (kcX7_agree_2 19 254 rfl) rfl
theorem dX7_agree_148 : decode cX7_agree 148 = .ok (.ireturn, 1) := dw_172 (kcX7_agree_2 20 172 rfl)
theorem dX7_agree_34 : decode cX7_agree 34 = .ok (.iconst 0, 1) := dw_3 (kcX7_agree_0 34 3 rfl)
theorem dX7_agree_35 : decode cX7_agree 35 = .ok (.istore 4, 2) := dw_54 (kcX7_agree_0 35 54 rfl) (kcX7_agree_0 36 4 rfl)
theorem dX7_agree_37 : decode cX7_agree 37 = .ok (.iload 4, 2) := dw_21 (kcX7_agree_0 37 21 rfl) (kcX7_agree_0 38 4 rfl)
theorem dX7_agree_39 : decode cX7_agree 39 = .ok (.bipush 12, 2) := dw_16 (kcX7_agree_0 39 16 rfl) (kcX7_agree_0 40 12 rfl) rfl
theorem dX7_agree_41 : decode cX7_agree 41 = .ok (.if_icmp .ge 99, 3) := dw_162 (kcX7_agree_0 41 162 rfl) (kcX7_agree_0 42 0 rfl) (kcX7_agree_0 43 99 rfl) rfl
theorem dX7_agree_140 : decode cX7_agree 140 = .ok (.iinc 3 1, 3) := dw_132 (kcX7_agree_2 12 132 rfl) (kcX7_agree_2 13 3 rfl) (kcX7_agree_2 14 1 rfl) rfl
theorem dX7_agree_143 : decode cX7_agree 143 = .ok (.goto (-115), 3) := dw_167 (kcX7_agree_2 15 167 rfl) (kcX7_agree_2 16 255 rfl) (kcX7_agree_2 17 141 rfl) rfl
theorem dX7_agree_44 : decode cX7_agree 44 = .ok (.aload_n 0, 1) := dw_42 (kcX7_agree_0 44 42 rfl)
theorem dX7_agree_45 : decode cX7_agree 45 = .ok (.iload_n 1, 1) := dw_27 (kcX7_agree_0 45 27 rfl)
theorem dX7_agree_46 : decode cX7_agree 46 = .ok (.iload_n 3, 1) := dw_29 (kcX7_agree_0 46 29 rfl)
theorem dX7_agree_47 : decode cX7_agree 47 = .ok (.iload 4, 2) := dw_21 (kcX7_agree_0 47 21 rfl) (kcX7_agree_0 48 4 rfl)
theorem dX7_agree_49 : decode cX7_agree 49 = .ok (.invokevirtual 277, 3) := dw_182 (kcX7_agree_0 49 182 rfl) (kcX7_agree_0 50 1 rfl) (kcX7_agree_0 51 21 rfl) rfl
theorem dX7_agree_52 : decode cX7_agree 52 = .ok (.ifCond .eq 82, 3) := dw_153 (kcX7_agree_0 52 153 rfl) (kcX7_agree_0 53 0 rfl) (kcX7_agree_0 54 82 rfl) rfl
theorem dX7_agree_134 : decode cX7_agree 134 = .ok (.iinc 4 1, 3) := dw_132 (kcX7_agree_2 6 132 rfl) (kcX7_agree_2 7 4 rfl) (kcX7_agree_2 8 1 rfl) rfl
theorem dX7_agree_137 : decode cX7_agree 137 = .ok (.goto (-100), 3) := dw_167 (kcX7_agree_2 9 167 rfl) (kcX7_agree_2 10 255 rfl) (kcX7_agree_2 11 156 rfl) rfl
theorem dX7_agree_55 : decode cX7_agree 55 = .ok (.aload_n 0, 1) := dw_42 (kcX7_agree_0 55 42 rfl)
theorem dX7_agree_56 : decode cX7_agree 56 = .ok (.iload_n 2, 1) := dw_28 (kcX7_agree_0 56 28 rfl)
theorem dX7_agree_57 : decode cX7_agree 57 = .ok (.iload_n 3, 1) := dw_29 (kcX7_agree_0 57 29 rfl)
theorem dX7_agree_58 : decode cX7_agree 58 = .ok (.iload 4, 2) := dw_21 (kcX7_agree_0 58 21 rfl) (kcX7_agree_0 59 4 rfl)
theorem dX7_agree_60 : decode cX7_agree 60 = .ok (.invokevirtual 277, 3) := dw_182 (kcX7_agree_0 60 182 rfl) (kcX7_agree_0 61 1 rfl) (kcX7_agree_0 62 21 rfl) rfl
theorem kcX7_agree_1 : CHb cX7_agree 64 [0, 6, 167, 0, 68, 42, 180, 0, 107, 17, 0, 144, 27, 104, 16, 12, 29, 104, 96, 21, 4, 96, 46, 54, 5, 42, 180, 0, 107, 17, 0, 144, 28, 104, 16, 12, 29, 104, 96, 21, 4, 96, 46, 54, 6, 21, 5, 155, 0, 23, 21, 6, 155, 0, 18, 21, 5, 21, 6, 159, 0, 11, 16, 100] := CHb_of (by decide +kernel)
theorem dX7_agree_63 : decode cX7_agree 63 = .ok (.ifCond .ne 6, 3) := dw_154 (kcX7_agree_0 63 154 rfl) (kcX7_agree_1 0 0 rfl) (kcX7_agree_1 1 6 rfl) rfl
theorem dX7_agree_69 : decode cX7_agree 69 = .ok (.aload_n 0, 1) := dw_42 (kcX7_agree_1 5 42 rfl)
theorem dX7_agree_70 : decode cX7_agree 70 = .ok (.getfield 107, 3) := dw_180 (kcX7_agree_1 6 180 rfl) (kcX7_agree_1 7 0 rfl) (kcX7_agree_1 8 107 rfl) rfl
theorem dX7_agree_73 : decode cX7_agree 73 = .ok (.sipush 144, 3) := dw_17 (kcX7_agree_1 9 17 rfl) (kcX7_agree_1 10 0 rfl) (kcX7_agree_1 11 144 rfl) rfl
theorem dX7_agree_76 : decode cX7_agree 76 = .ok (.iload_n 1, 1) := dw_27 (kcX7_agree_1 12 27 rfl)
theorem dX7_agree_77 : decode cX7_agree 77 = .ok (.imul, 1) := dw_104 (kcX7_agree_1 13 104 rfl)
theorem dX7_agree_78 : decode cX7_agree 78 = .ok (.bipush 12, 2) := dw_16 (kcX7_agree_1 14 16 rfl) (kcX7_agree_1 15 12 rfl) rfl
theorem dX7_agree_80 : decode cX7_agree 80 = .ok (.iload_n 3, 1) := dw_29 (kcX7_agree_1 16 29 rfl)
theorem dX7_agree_81 : decode cX7_agree 81 = .ok (.imul, 1) := dw_104 (kcX7_agree_1 17 104 rfl)
theorem dX7_agree_82 : decode cX7_agree 82 = .ok (.iadd, 1) := dw_96 (kcX7_agree_1 18 96 rfl)
theorem dX7_agree_83 : decode cX7_agree 83 = .ok (.iload 4, 2) := dw_21 (kcX7_agree_1 19 21 rfl) (kcX7_agree_1 20 4 rfl)
theorem dX7_agree_85 : decode cX7_agree 85 = .ok (.iadd, 1) := dw_96 (kcX7_agree_1 21 96 rfl)
theorem dX7_agree_86 : decode cX7_agree 86 = .ok (.iaload, 1) := dw_46 (kcX7_agree_1 22 46 rfl)
theorem dX7_agree_87 : decode cX7_agree 87 = .ok (.istore 5, 2) := dw_54 (kcX7_agree_1 23 54 rfl) (kcX7_agree_1 24 5 rfl)
theorem dX7_agree_89 : decode cX7_agree 89 = .ok (.aload_n 0, 1) := dw_42 (kcX7_agree_1 25 42 rfl)
theorem dX7_agree_90 : decode cX7_agree 90 = .ok (.getfield 107, 3) := dw_180 (kcX7_agree_1 26 180 rfl) (kcX7_agree_1 27 0 rfl) (kcX7_agree_1 28 107 rfl) rfl
theorem dX7_agree_93 : decode cX7_agree 93 = .ok (.sipush 144, 3) := dw_17 (kcX7_agree_1 29 17 rfl) (kcX7_agree_1 30 0 rfl) (kcX7_agree_1 31 144 rfl) rfl
theorem dX7_agree_96 : decode cX7_agree 96 = .ok (.iload_n 2, 1) := dw_28 (kcX7_agree_1 32 28 rfl)
theorem dX7_agree_97 : decode cX7_agree 97 = .ok (.imul, 1) := dw_104 (kcX7_agree_1 33 104 rfl)
theorem dX7_agree_98 : decode cX7_agree 98 = .ok (.bipush 12, 2) := dw_16 (kcX7_agree_1 34 16 rfl) (kcX7_agree_1 35 12 rfl) rfl
theorem dX7_agree_100 : decode cX7_agree 100 = .ok (.iload_n 3, 1) := dw_29 (kcX7_agree_1 36 29 rfl)
theorem dX7_agree_101 : decode cX7_agree 101 = .ok (.imul, 1) := dw_104 (kcX7_agree_1 37 104 rfl)
theorem dX7_agree_102 : decode cX7_agree 102 = .ok (.iadd, 1) := dw_96 (kcX7_agree_1 38 96 rfl)
theorem dX7_agree_103 : decode cX7_agree 103 = .ok (.iload 4, 2) := dw_21 (kcX7_agree_1 39 21 rfl) (kcX7_agree_1 40 4 rfl)
theorem dX7_agree_105 : decode cX7_agree 105 = .ok (.iadd, 1) := dw_96 (kcX7_agree_1 41 96 rfl)
theorem dX7_agree_106 : decode cX7_agree 106 = .ok (.iaload, 1) := dw_46 (kcX7_agree_1 42 46 rfl)
theorem dX7_agree_107 : decode cX7_agree 107 = .ok (.istore 6, 2) := dw_54 (kcX7_agree_1 43 54 rfl) (kcX7_agree_1 44 6 rfl)
theorem dX7_agree_109 : decode cX7_agree 109 = .ok (.iload 5, 2) := dw_21 (kcX7_agree_1 45 21 rfl) (kcX7_agree_1 46 5 rfl)
theorem dX7_agree_111 : decode cX7_agree 111 = .ok (.ifCond .lt 23, 3) := dw_155 (kcX7_agree_1 47 155 rfl) (kcX7_agree_1 48 0 rfl) (kcX7_agree_1 49 23 rfl) rfl
theorem dX7_agree_114 : decode cX7_agree 114 = .ok (.iload 6, 2) := dw_21 (kcX7_agree_1 50 21 rfl) (kcX7_agree_1 51 6 rfl)
theorem dX7_agree_116 : decode cX7_agree 116 = .ok (.ifCond .lt 18, 3) := dw_155 (kcX7_agree_1 52 155 rfl) (kcX7_agree_1 53 0 rfl) (kcX7_agree_1 54 18 rfl) rfl
theorem dX7_agree_119 : decode cX7_agree 119 = .ok (.iload 5, 2) := dw_21 (kcX7_agree_1 55 21 rfl) (kcX7_agree_1 56 5 rfl)
theorem dX7_agree_121 : decode cX7_agree 121 = .ok (.iload 6, 2) := dw_21 (kcX7_agree_1 57 21 rfl) (kcX7_agree_1 58 6 rfl)
theorem dX7_agree_123 : decode cX7_agree 123 = .ok (.if_icmp .eq 11, 3) := dw_159 (kcX7_agree_1 59 159 rfl) (kcX7_agree_1 60 0 rfl) (kcX7_agree_1 61 11 rfl) rfl
theorem dX7_agree_126 : decode cX7_agree 126 = .ok (.bipush 100, 2) := dw_16 (kcX7_agree_1 62 16 rfl) (kcX7_agree_1 63 100 rfl) rfl
theorem dX7_agree_128 : decode cX7_agree 128 = .ok (.iload_n 3, 1) := dw_29 (kcX7_agree_2 0 29 rfl)
theorem dX7_agree_129 : decode cX7_agree 129 = .ok (.imul, 1) := dw_104 (kcX7_agree_2 1 104 rfl)
theorem dX7_agree_130 : decode cX7_agree 130 = .ok (.iload 4, 2) := dw_21 (kcX7_agree_2 2 21 rfl) (kcX7_agree_2 3 4 rfl)
theorem dX7_agree_132 : decode cX7_agree 132 = .ok (.iadd, 1) := dw_96 (kcX7_agree_2 4 96 rfl)
theorem dX7_agree_133 : decode cX7_agree 133 = .ok (.ireturn, 1) := dw_172 (kcX7_agree_2 5 172 rfl)
theorem dX7_agree_66 : decode cX7_agree 66 = .ok (.goto 68, 3) := dw_167 (kcX7_agree_1 2 167 rfl) (kcX7_agree_1 3 0 rfl) (kcX7_agree_1 4 68 rfl) rfl
/-- how many of the first are 0 -/
def cZ (x : Nat → Int32) : Nat → Nat
  | 0 => 0
  | k + 1 => cZ x k + (if x k = 0 then 1 else 0)
theorem cZ_le (x : Nat → Int32) : ∀ N, cZ x N ≤ N
  | 0 => Nat.le_refl 0
  | k + 1 => by have h := cZ_le x k; simp only [cZ]; split <;> omega
theorem cZ_out {x : Nat → Int32} {y : Nat} {v : Int32} : ∀ N, N ≤ y → cZ (upd x y v) N = cZ x N
  | 0, _ => rfl
  | k + 1, h => by simp only [cZ]; rw [cZ_out k (by omega), pk_un (by omega)]
theorem cZ_lt {x : Nat → Int32} {y : Nat} (hx : x y = 0) : ∀ N, y < N → cZ (upd x y 1) N < cZ x N
  | 0, h => absurd h (Nat.not_lt_zero _)
  | k + 1, h => by
    simp only [cZ]
    by_cases e : k = y
    · subst e; rw [pk_us, if_neg (by decide), if_pos hx, cZ_out k (Nat.le_refl _)]; omega
    · have h2 := cZ_lt hx k (by omega); rw [pk_un e]; omega
def nL (m : Nat) (x : Int32) : Prop := ∃ n, n ≤ m ∧ x = nI n
set_option maxHeartbeats 4000000 in
set_option maxRecDepth 100000 in
theorem m_X7_rounded (l : Launch) (G : GG) (y : Nat) (b : Nat → Nat) (f : Nat → Int32) (r : Nat → Nat → Int32) (row : Int32) (col : Int32) (h34 : nL 12 (f 34)) (h35 : nL 12 (f 35)) : RdI l yX7_rounded cX7_rounded 3 (some .int) ({ frames := 0, cells := 0, slots := 0, locals := 0 }) G (mM G y b f r) [.ref y, .int row, .int col] (fun q => True) := by
  refine rd_entry (by decide +kernel) (Nat.le_of_ble_eq_true rfl) ?_
  intro p e s m below meth c C0 hP hK ls hl
  have hS : va_S (fun q => s.heap.size ≤ q) s.heap s.heap [] := va_S.rf
  have hA : ∀ q, s.heap.size ≤ q → (fun q => s.heap.size ≤ q) q := fun _ h => h
  obtain ⟨hx, hb, hml, hown, hts, hr, hlocks, hin⟩ := C0
  have hown : s.vm.findClass RX7 = some m.cls := hown
  have hl : lv_has ls 3 [(0, .ref y), (1, .int row), (2, .int col)] := hl
  obtain ⟨n1, hn1, e1⟩ := h34
  obtain ⟨n2, hn2, e2⟩ := h35
  refine lv_iload_n hx hb dX7_rounded_0 rfl (lv_at hl 1 rfl) ?_
  refine lv_if_lt (tgt := 35) hx hb dX7_rounded_1 (by decide) (fun c1 => ?_) (fun c1 => ?_)
  · refine lv_iconst (v := -1) hx hb dX7_rounded_35 (by decide) ?_
    exact rd_iret hx hb hr hlocks hS (trivial) dX7_rounded_36
  · refine lv_iload_n hx hb dX7_rounded_4 rfl (lv_at hl 1 rfl) ?_
    refine lv_aload_n hx hb dX7_rounded_5 rfl (lv_at hl 0 rfl) ?_
    refine va_get (D := G.1) (ci := 7) (v := .int (f 34)) (C := RX7) (T := TX7) (N := 43) hx hb hts inX7 hown hK.1 hP 0 rfl rfl 34 (by decide) (hts _ mf_X7_265) (fun _ h9 => h9) rfl dX7_rounded_6 ?_
    rw [show (f 34) = nI (n1) from e1]
    refine lv_icmp_ge (tgt := 35) hx hb dX7_rounded_9 (by decide) (fun c2 => ?_) (fun c2 => ?_)
    · refine lv_iconst (v := -1) hx hb dX7_rounded_35 (by decide) ?_
      exact rd_iret hx hb hr hlocks hS (trivial) dX7_rounded_36
    · refine lv_iload_n hx hb dX7_rounded_12 rfl (lv_at hl 2 rfl) ?_
      refine lv_if_lt (tgt := 35) hx hb dX7_rounded_13 (by decide) (fun c3 => ?_) (fun c3 => ?_)
      · refine lv_iconst (v := -1) hx hb dX7_rounded_35 (by decide) ?_
        exact rd_iret hx hb hr hlocks hS (trivial) dX7_rounded_36
      · refine lv_iload_n hx hb dX7_rounded_16 rfl (lv_at hl 2 rfl) ?_
        refine lv_aload_n hx hb dX7_rounded_17 rfl (lv_at hl 0 rfl) ?_
        refine va_get (D := G.1) (ci := 7) (v := .int (f 35)) (C := RX7) (T := TX7) (N := 43) hx hb hts inX7 hown hK.1 hP 0 rfl rfl 35 (by decide) (hts _ mf_X7_268) (fun _ h9 => h9) rfl dX7_rounded_18 ?_
        rw [show (f 35) = nI (n2) from e2]
        refine lv_icmp_ge (tgt := 35) hx hb dX7_rounded_21 (by decide) (fun c4 => ?_) (fun c4 => ?_)
        · refine lv_iconst (v := -1) hx hb dX7_rounded_35 (by decide) ?_
          exact rd_iret hx hb hr hlocks hS (trivial) dX7_rounded_36
        · obtain ⟨i, hi, rfl⟩ := lt_ix (x := row) (n := n1) (by omega) c1 c2
          obtain ⟨k, hk, rfl⟩ := lt_ix (x := col) (n := n2) (by omega) c3 c4
          refine lv_aload_n hx hb dX7_rounded_24 rfl (lv_at hl 0 rfl) ?_
          refine va_get (D := G.1) (ci := 7) (v := .ref (b 33)) (C := RX7) (T := TX7) (N := 43) hx hb hts inX7 hown hK.1 hP 0 rfl rfl 33 (by decide) (hts _ mf_X7_95) (fun _ h9 => h9) rfl dX7_rounded_25 ?_
          refine lv_iload_n hx hb dX7_rounded_28 rfl (lv_at hl 1 rfl) ?_
          refine xiald (f := (r 33)) hx hb hK hP 29 (i) (rfl) (by omega) (by decide) rfl dX7_rounded_29 ?_
          refine lv_topi (fun v5 ev5 => ?_)
          refine lv_bipush (v := -2) hx hb dX7_rounded_30 (by decide) ?_
          refine lv_icmp_ne (tgt := 37) hx hb dX7_rounded_32 (by decide) (fun c6 => ?_) (fun c6 => ?_)
          · refine lv_aload_n hx hb dX7_rounded_37 rfl (lv_at hl 0 rfl) ?_
            refine va_get (D := G.1) (ci := 7) (v := .ref (b 32)) (C := RX7) (T := TX7) (N := 43) hx hb hts inX7 hown hK.1 hP 0 rfl rfl 32 (by decide) (hts _ mf_X7_92) (fun _ h9 => h9) rfl dX7_rounded_38 ?_
            refine lv_bipush (v := 12) hx hb dX7_rounded_41 (by decide) ?_
            refine lv_iload_n hx hb dX7_rounded_43 rfl (lv_at hl 1 rfl) ?_
            refine lv_imul hx hb dX7_rounded_44 ?_
            refine lv_topi (fun v7 ev7 => ?_)
            obtain rfl : v7 = nI (12 * i) := nI_times ev7 rfl rfl
            refine lv_iload_n hx hb dX7_rounded_45 rfl (lv_at hl 2 rfl) ?_
            refine lv_iadd hx hb dX7_rounded_46 ?_
            refine lv_topi (fun v8 ev8 => ?_)
            obtain rfl : v8 = nI ((12 * i) + k) := nI_plus ev8 rfl rfl
            refine xiald (f := (r 32)) hx hb hK hP 28 (((12 * i) + k)) (rfl) (by omega) (by decide) rfl dX7_rounded_47 ?_
            refine lv_topi (fun v9 ev9 => ?_)
            exact rd_iret hx hb hr hlocks hS (trivial) dX7_rounded_48
          · refine lv_iconst (v := -1) hx hb dX7_rounded_35 (by decide) ?_
            exact rd_iret hx hb hr hlocks hS (trivial) dX7_rounded_36
set_option maxHeartbeats 4000000 in
set_option maxRecDepth 100000 in
theorem m_X7_cut (l : Launch) (G : GG) (y : Nat) (b : Nat → Nat) (f : Nat → Int32) (r : Nat → Nat → Int32) (rs : Int32) (x : Int32) (h27 : nL 12 (f 27)) (h28 : nL 12 (f 28)) : RdI l yX7_cut cX7_cut 3 (some .int) ({ frames := 0, cells := 0, slots := 0, locals := 0 }) G (mM G y b f r) [.ref y, .int rs, .int x] (fun q => True) := by
  refine rd_entry (by decide +kernel) (Nat.le_of_ble_eq_true rfl) ?_
  intro p e s m below meth c C0 hP hK ls hl
  have hS : va_S (fun q => s.heap.size ≤ q) s.heap s.heap [] := va_S.rf
  have hA : ∀ q, s.heap.size ≤ q → (fun q => s.heap.size ≤ q) q := fun _ h => h
  obtain ⟨hx, hb, hml, hown, hts, hr, hlocks, hin⟩ := C0
  have hown : s.vm.findClass RX7 = some m.cls := hown
  have hl : lv_has ls 3 [(0, .ref y), (1, .int rs), (2, .int x)] := hl
  obtain ⟨n1, hn1, e1⟩ := h27
  obtain ⟨n2, hn2, e2⟩ := h28
  refine lv_iload_n hx hb dX7_cut_0 rfl (lv_at hl 2 rfl) ?_
  refine lv_if_lt (tgt := 23) hx hb dX7_cut_1 (by decide) (fun c1 => ?_) (fun c1 => ?_)
  · refine lv_iconst (v := -1) hx hb dX7_cut_23 (by decide) ?_
    exact rd_iret hx hb hr hlocks hS (trivial) dX7_cut_24
  · refine lv_iload_n hx hb dX7_cut_4 rfl (lv_at hl 2 rfl) ?_
    refine lv_iload_n hx hb dX7_cut_5 rfl (lv_at hl 1 rfl) ?_
    have j20_2 : ∀ (z2 : Nat) (gz2 : z2 ≤ 12) (H : Heap) (locs : List Loc) (ls : Array Slot), PP G (mM G y b f r) H → va_S (fun q => s.heap.size ≤ q) s.heap H locs → lv_has ls 3 [(0, .ref y), (1, .int rs), (2, .int x)] → W p l e ({ frames := 0, cells := 0, slots := 0, locals := 0 }) s m ([.ref y, .int rs, .int x] : List Value).toArray below meth c H locs 0 0 (MQ below (QrI (fun q => True) (fun q => s.heap.size ≤ q)) ([.ref y, .int rs, .int x] : List Value).toArray s 0 0 (fun q => s.heap.size ≤ q)) (F0 m 20 ls [.int (nI z2), .int x]) := by
      intro z2 gz2 H locs ls hP hS hl
      refine lv_icmp_lt (tgt := 25) hx hb dX7_cut_20 (by decide) (fun c3 => ?_) (fun c3 => ?_)
      · obtain ⟨i, hi, rfl⟩ := lt_ix (x := x) (n := z2) (by omega) c1 (Int32.not_le.mpr c3)
        refine lv_aload_n hx hb dX7_cut_25 rfl (lv_at hl 0 rfl) ?_
        refine va_get (D := G.1) (ci := 7) (v := .ref (b 26)) (C := RX7) (T := TX7) (N := 43) hx hb hts inX7 hown hK.1 hP 0 rfl rfl 26 (by decide) (hts _ mf_X7_80) (fun _ h9 => h9) rfl dX7_cut_26 ?_
        refine lv_iload_n hx hb dX7_cut_29 rfl (lv_at hl 1 rfl) ?_
        have j41_4 : ∀ (z4 : Nat) (gz4 : z4 < 24) (H : Heap) (locs : List Loc) (ls : Array Slot), PP G (mM G y b f r) H → va_S (fun q => s.heap.size ≤ q) s.heap H locs → lv_has ls 3 [] → W p l e ({ frames := 0, cells := 0, slots := 0, locals := 0 }) s m ([.ref y, .int rs, .int (nI i)] : List Value).toArray below meth c H locs 0 0 (MQ below (QrI (fun q => True) (fun q => s.heap.size ≤ q)) ([.ref y, .int rs, .int (nI i)] : List Value).toArray s 0 0 (fun q => s.heap.size ≤ q)) (F0 m 41 ls [.int (nI z4), .ref (b 26)]) := by
          intro z4 gz4 H locs ls hP hS hl
          refine xzald (f := (r 26)) hx hb hK hP 24 (z4) (rfl) (by omega) (by decide) rfl dX7_cut_41 ?_
          refine lv_topi (fun v5 ev5 => ?_)
          refine lv_if_eq (tgt := 49) hx hb dX7_cut_42 (by decide) (fun c6 => ?_) (fun c6 => ?_)
          · refine lv_iconst (v := 0) hx hb dX7_cut_49 (by decide) ?_
            exact rd_iret hx hb hr hlocks hS (trivial) dX7_cut_50
          · refine lv_iconst (v := 1) hx hb dX7_cut_45 (by decide) ?_
            refine lv_goto (tgt := 50) hx hb dX7_cut_46 (by decide) ?_
            exact rd_iret hx hb hr hlocks hS (trivial) dX7_cut_50
        refine lv_if_eq (tgt := 37) hx hb dX7_cut_30 (by decide) (fun c7 => ?_) (fun c7 => ?_)
        · refine lv_bipush (v := 12) hx hb dX7_cut_37 (by decide) ?_
          refine lv_iload_n hx hb dX7_cut_39 rfl (lv_at hl 2 rfl) ?_
          refine lv_iadd hx hb dX7_cut_40 ?_
          refine lv_topi (fun v8 ev8 => ?_)
          obtain rfl : v8 = nI (12 + i) := nI_plus ev8 rfl rfl
          exact j41_4 (12 + i) (by omega) _ _ _ hP hS (lv_sub hl [] rfl)
        · refine lv_iload_n hx hb dX7_cut_33 rfl (lv_at hl 2 rfl) ?_
          refine lv_goto (tgt := 41) hx hb dX7_cut_34 (by decide) ?_
          exact j41_4 i (by omega) _ _ _ hP hS (lv_sub hl [] rfl)
      · refine lv_iconst (v := -1) hx hb dX7_cut_23 (by decide) ?_
        exact rd_iret hx hb hr hlocks hS (trivial) dX7_cut_24
    refine lv_if_eq (tgt := 16) hx hb dX7_cut_6 (by decide) (fun c9 => ?_) (fun c9 => ?_)
    · refine lv_aload_n hx hb dX7_cut_16 rfl (lv_at hl 0 rfl) ?_
      refine va_get (D := G.1) (ci := 7) (v := .int (f 28)) (C := RX7) (T := TX7) (N := 43) hx hb hts inX7 hown hK.1 hP 0 rfl rfl 28 (by decide) (hts _ mf_X7_236) (fun _ h9 => h9) rfl dX7_cut_17 ?_
      rw [show (f 28) = nI (n2) from e2]
      exact j20_2 (n2) (by omega) _ _ _ hP hS (lv_sub hl [0, 1, 2] rfl)
    · refine lv_aload_n hx hb dX7_cut_9 rfl (lv_at hl 0 rfl) ?_
      refine va_get (D := G.1) (ci := 7) (v := .int (f 27)) (C := RX7) (T := TX7) (N := 43) hx hb hts inX7 hown hK.1 hP 0 rfl rfl 27 (by decide) (hts _ mf_X7_233) (fun _ h9 => h9) rfl dX7_cut_10 ?_
      rw [show (f 27) = nI (n1) from e1]
      refine lv_goto (tgt := 20) hx hb dX7_cut_13 (by decide) ?_
      exact j20_2 (n1) (by omega) _ _ _ hP hS (lv_sub hl [0, 1, 2] rfl)
def giP (gm : Int32) (gr gc : Nat → Int32) (x row col : Int32) : Prop := ∃ k, k < gm.toNatClampNeg ∧ x = nI k ∧ inR (gr k) row ∧ inR (gc k) col
set_option maxHeartbeats 4000000 in
set_option maxRecDepth 100000 in
theorem m_X7_isIn (l : Launch) (G : GG) (y : Nat) (b : Nat → Nat) (f : Nat → Int32) (r : Nat → Nat → Int32) (x : Int32) (row : Int32) (col : Int32) (h42 : nL 16 (f 42)) (hgr : nOK 16 12 (r 40)) (hgc : nOK 16 12 (r 41)) : RdI l yX7_isIn cX7_isIn 4 (some .boolean) ({ frames := 0, cells := 0, slots := 0, locals := 0 }) G (mM G y b f r) [.ref y, .int x, .int row, .int col] (fun q => ((q = 1 ∧ (giP (f 42) (r 40) (r 41) x row col)) ∨ (q = 0 ∧ ¬ (giP (f 42) (r 40) (r 41) x row col)))) := by
  refine rd_entry (by decide +kernel) (Nat.le_of_ble_eq_true rfl) ?_
  intro p e s m below meth c C0 hP hK ls hl
  have hS : va_S (fun q => s.heap.size ≤ q) s.heap s.heap [] := va_S.rf
  have hA : ∀ q, s.heap.size ≤ q → (fun q => s.heap.size ≤ q) q := fun _ h => h
  obtain ⟨hx, hb, hml, hown, hts, hr, hlocks, hin⟩ := C0
  have hown : s.vm.findClass RX7 = some m.cls := hown
  have hl : lv_has ls 4 [(0, .ref y), (1, .int x), (2, .int row), (3, .int col)] := hl
  obtain ⟨gm, hgm, eg⟩ := h42
  refine lv_iload_n hx hb dX7_isIn_0 rfl (lv_at hl 1 rfl) ?_
  refine lv_if_lt (tgt := 44) hx hb dX7_isIn_1 (by decide) (fun c1 => ?_) (fun c1 => ?_)
  · refine lv_iconst (v := 0) hx hb dX7_isIn_44 (by decide) ?_
    exact rd_zret hx hb hr hlocks (Or.inl rfl) hS (Or.inr ⟨rfl, fun h => by (try rw [eg] at h); obtain ⟨k2, hk2, e2, h3, h4⟩ := h; rw [nI_clamp (by omega)] at hk2; exact absurd (e2 ▸ c1) (nI_pos (by omega))⟩) dX7_isIn_45
  · refine lv_iload_n hx hb dX7_isIn_4 rfl (lv_at hl 1 rfl) ?_
    refine lv_aload_n hx hb dX7_isIn_5 rfl (lv_at hl 0 rfl) ?_
    refine va_get (D := G.1) (ci := 7) (v := .int (f 42)) (C := RX7) (T := TX7) (N := 43) hx hb hts inX7 hown hK.1 hP 0 rfl rfl 42 (by decide) (hts _ mf_X7_274) (fun _ h9 => h9) rfl dX7_isIn_6 ?_
    rw [show (f 42) = nI (gm) from eg]
    refine lv_icmp_ge (tgt := 44) hx hb dX7_isIn_9 (by decide) (fun c2 => ?_) (fun c2 => ?_)
    · refine lv_iconst (v := 0) hx hb dX7_isIn_44 (by decide) ?_
      exact rd_zret hx hb hr hlocks (Or.inl rfl) hS (Or.inr ⟨rfl, fun h => by (try rw [eg] at h); obtain ⟨k2, hk2, e2, h3, h4⟩ := h; rw [nI_clamp (by omega)] at hk2; exact absurd (e2 ▸ c2) (nI_ge hk2 (by omega))⟩) dX7_isIn_45
    · refine lv_iload_n hx hb dX7_isIn_12 rfl (lv_at hl 2 rfl) ?_
      refine lv_if_lt (tgt := 44) hx hb dX7_isIn_13 (by decide) (fun c3 => ?_) (fun c3 => ?_)
      · refine lv_iconst (v := 0) hx hb dX7_isIn_44 (by decide) ?_
        exact rd_zret hx hb hr hlocks (Or.inl rfl) hS (Or.inr ⟨rfl, fun h => by (try rw [eg] at h); obtain ⟨k2, hk2, e2, h3, h4⟩ := h; rw [nI_clamp (by omega)] at hk2; exact h3.1 c3⟩) dX7_isIn_45
      · refine lv_iload_n hx hb dX7_isIn_16 rfl (lv_at hl 3 rfl) ?_
        refine lv_if_lt (tgt := 44) hx hb dX7_isIn_17 (by decide) (fun c4 => ?_) (fun c4 => ?_)
        · refine lv_iconst (v := 0) hx hb dX7_isIn_44 (by decide) ?_
          exact rd_zret hx hb hr hlocks (Or.inl rfl) hS (Or.inr ⟨rfl, fun h => by (try rw [eg] at h); obtain ⟨k2, hk2, e2, h3, h4⟩ := h; rw [nI_clamp (by omega)] at hk2; exact h4.1 c4⟩) dX7_isIn_45
        · obtain ⟨k, hk, rfl⟩ := lt_ix (x := x) (n := gm) (by omega) c1 c2
          refine lv_iload_n hx hb dX7_isIn_20 rfl (lv_at hl 2 rfl) ?_
          refine lv_aload_n hx hb dX7_isIn_21 rfl (lv_at hl 0 rfl) ?_
          refine va_get (D := G.1) (ci := 7) (v := .ref (b 40)) (C := RX7) (T := TX7) (N := 43) hx hb hts inX7 hown hK.1 hP 0 rfl rfl 40 (by decide) (hts _ mf_X7_110) (fun _ h9 => h9) rfl dX7_isIn_22 ?_
          refine lv_iload_n hx hb dX7_isIn_25 rfl (lv_at hl 1 rfl) ?_
          refine xiald (f := (r 40)) hx hb hK hP 34 (k) (rfl) (by omega) (by decide) rfl dX7_isIn_26 ?_
          refine lv_topi (fun v5 ev5 => ?_)
          refine lv_icmp_ge (tgt := 44) hx hb dX7_isIn_27 (by decide) (fun c6 => ?_) (fun c6 => ?_)
          · refine lv_iconst (v := 0) hx hb dX7_isIn_44 (by decide) ?_
            exact rd_zret hx hb hr hlocks (Or.inl rfl) hS (Or.inr ⟨rfl, fun h => by (try rw [eg] at h); obtain ⟨k2, hk2, e2, h3, h4⟩ := h; rw [nI_clamp (by omega)] at hk2; have e := (nI_eq (by omega) (by omega)).mp e2; subst e; exact h3.2 (by rw [← ev5]; exact c6)⟩) dX7_isIn_45
          · refine lv_iload_n hx hb dX7_isIn_30 rfl (lv_at hl 3 rfl) ?_
            refine lv_aload_n hx hb dX7_isIn_31 rfl (lv_at hl 0 rfl) ?_
            refine va_get (D := G.1) (ci := 7) (v := .ref (b 41)) (C := RX7) (T := TX7) (N := 43) hx hb hts inX7 hown hK.1 hP 0 rfl rfl 41 (by decide) (hts _ mf_X7_113) (fun _ h9 => h9) rfl dX7_isIn_32 ?_
            refine lv_iload_n hx hb dX7_isIn_35 rfl (lv_at hl 1 rfl) ?_
            refine xiald (f := (r 41)) hx hb hK hP 35 (k) (rfl) (by omega) (by decide) rfl dX7_isIn_36 ?_
            refine lv_topi (fun v7 ev7 => ?_)
            refine lv_icmp_ge (tgt := 44) hx hb dX7_isIn_37 (by decide) (fun c8 => ?_) (fun c8 => ?_)
            · refine lv_iconst (v := 0) hx hb dX7_isIn_44 (by decide) ?_
              exact rd_zret hx hb hr hlocks (Or.inl rfl) hS (Or.inr ⟨rfl, fun h => by (try rw [eg] at h); obtain ⟨k2, hk2, e2, h3, h4⟩ := h; rw [nI_clamp (by omega)] at hk2; have e := (nI_eq (by omega) (by omega)).mp e2; subst e; exact h4.2 (by rw [← ev7]; exact c8)⟩) dX7_isIn_45
            · refine lv_iconst (v := 1) hx hb dX7_isIn_40 (by decide) ?_
              refine lv_goto (tgt := 45) hx hb dX7_isIn_41 (by decide) ?_
              exact rd_zret hx hb hr hlocks (Or.inr rfl) hS (Or.inl ⟨rfl, by (try rw [eg]); exact ⟨k, by rw [nI_clamp (by omega)]; exact hk, rfl, ⟨c3, by rw [← ev5]; exact c6⟩, ⟨c4, by rw [← ev7]; exact c8⟩⟩⟩) dX7_isIn_45
theorem giP_n {gm : Int32} {gr gc : Nat → Int32} {x row col : Int32} (h42 : nL 16 gm) (h40 : nOK 16 12 gr) (h41 : nOK 16 12 gc) (h : giP gm gr gc x row col) : ∃ k i j, k < 16 ∧ i < 12 ∧ j < 12 ∧ x = nI k ∧ row = nI i ∧ col = nI j := by
  obtain ⟨n, hn, rfl⟩ := h42
  obtain ⟨k, hk, rfl, h1, h2⟩ := h
  rw [nI_clamp (by omega)] at hk
  obtain ⟨a, ha, ea⟩ := h40 k (by omega)
  obtain ⟨b, hb, eb⟩ := h41 k (by omega)
  rw [ea] at h1
  rw [eb] at h2
  obtain ⟨i, hi, rfl⟩ := inR_n (by omega) h1
  obtain ⟨j, hj, rfl⟩ := inR_n (by omega) h2
  exact ⟨k, i, j, by omega, by omega, by omega, rfl, rfl, rfl⟩