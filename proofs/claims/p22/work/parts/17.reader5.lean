theorem ml_X2_158 : Cond.methodLink RX2 158 yX2_moveToEnd ∈ TB := TB_t3 136 rfl rfl
theorem mcode_yX2_moveToEnd : Cond.code yX2_moveToEnd cX2_moveToEnd 5 none ∈ TB := TB_t3 63 rfl rfl
theorem mi_yX2_moveToEnd : MI yX2_moveToEnd cX2_moveToEnd 5 none 3 := ⟨mz_RX2, mcode_yX2_moveToEnd, by decide +kernel, by decide +kernel, by decide +kernel⟩
theorem mim_yX2_moveToEnd : Cond.instanceMethod yX2_moveToEnd ∈ TB := TB_t3 61 rfl rfl
theorem msel_yX2_moveToEnd : Cond.selects yX2_moveToEnd.cls yX2_moveToEnd yX2_moveToEnd ∈ TB := TB_t3 62 rfl rfl
theorem mv_yX2_moveToEnd : Cond.instanceMethod yX2_moveToEnd ∈ TB ∧ Cond.selects yX2_moveToEnd.cls yX2_moveToEnd yX2_moveToEnd ∈ TB := ⟨mim_yX2_moveToEnd, msel_yX2_moveToEnd⟩
theorem ml_X2_162 : Cond.methodLink RX2 162 yX5_allFrom ∈ TB := TB_t3 145 rfl rfl
theorem mcode_yX5_allFrom : Cond.code yX5_allFrom cX5_allFrom 2 (some .int) ∈ TB := TB_t3 148 rfl rfl
theorem mi_yX5_allFrom : MI yX5_allFrom cX5_allFrom 2 (some .int) 1 := ⟨mz_RX5, mcode_yX5_allFrom, by decide +kernel, by decide +kernel, by decide +kernel⟩
theorem mim_yX5_allFrom : Cond.instanceMethod yX5_allFrom ∈ TB := TB_t3 146 rfl rfl
theorem msel_yX5_allFrom : Cond.selects yX5_allFrom.cls yX5_allFrom yX5_allFrom ∈ TB := TB_t3 147 rfl rfl
theorem mv_yX5_allFrom : Cond.instanceMethod yX5_allFrom ∈ TB ∧ Cond.selects yX5_allFrom.cls yX5_allFrom yX5_allFrom ∈ TB := ⟨mim_yX5_allFrom, msel_yX5_allFrom⟩
theorem mf_X2_165 : Cond.fieldLink RX2 165 "CellKeeper$Leaf" "rows" "I" ∈ TB := TB_t1 187 rfl rfl
theorem mf_X2_168 : Cond.fieldLink RX2 168 "CellKeeper$Leaf" "columns" "I" ∈ TB := TB_t1 191 rfl rfl
theorem mf_X2_169 : Cond.fieldLink RX2 169 "CellKeeper$Leaf" "shown" "[I" ∈ TB := TB_t1 195 rfl rfl
theorem kcX2_findFirst_0 : CHb cX2_findFirst 0 [42, 27, 28, 29, 182, 0, 158, 3, 54, 4, 21, 4, 42, 180, 0, 9, 162, 0, 126, 42, 180, 0, 34, 21, 4, 51, 154, 0, 6, 167, 0, 107, 42, 42, 180, 0, 38, 21, 4, 46, 21, 4, 182, 0, 146, 42, 180, 0, 30, 27, 16, 12, 28, 96, 3, 3, 182, 0, 120, 3, 54, 5, 21, 5] := CHb_of (by decide +kernel)
theorem dX2_findFirst_0 : decode cX2_findFirst 0 = .ok (.aload_n 0, 1) := dw_42 (kcX2_findFirst_0 0 42 rfl)
theorem dX2_findFirst_1 : decode cX2_findFirst 1 = .ok (.iload_n 1, 1) := dw_27 (kcX2_findFirst_0 1 27 rfl)
theorem dX2_findFirst_2 : decode cX2_findFirst 2 = .ok (.iload_n 2, 1) := dw_28 (kcX2_findFirst_0 2 28 rfl)
theorem dX2_findFirst_3 : decode cX2_findFirst 3 = .ok (.iload_n 3, 1) := dw_29 (kcX2_findFirst_0 3 29 rfl)
theorem dX2_findFirst_4 : decode cX2_findFirst 4 = .ok (.invokevirtual 158, 3) := dw_182 (kcX2_findFirst_0 4 182 rfl) (kcX2_findFirst_0 5 0 rfl) (kcX2_findFirst_0 6 158 rfl) rfl
theorem dX2_findFirst_7 : decode cX2_findFirst 7 = .ok (.iconst 0, 1) := dw_3 (kcX2_findFirst_0 7 3 rfl)
theorem dX2_findFirst_8 : decode cX2_findFirst 8 = .ok (.istore 4, 2) := dw_54 (kcX2_findFirst_0 8 54 rfl) (kcX2_findFirst_0 9 4 rfl)
theorem dX2_findFirst_10 : decode cX2_findFirst 10 = .ok (.iload 4, 2) := dw_21 (kcX2_findFirst_0 10 21 rfl) (kcX2_findFirst_0 11 4 rfl)
theorem dX2_findFirst_12 : decode cX2_findFirst 12 = .ok (.aload_n 0, 1) := dw_42 (kcX2_findFirst_0 12 42 rfl)
theorem dX2_findFirst_13 : decode cX2_findFirst 13 = .ok (.getfield 9, 3) := dw_180 (kcX2_findFirst_0 13 180 rfl) (kcX2_findFirst_0 14 0 rfl) (kcX2_findFirst_0 15 9 rfl) rfl
theorem dX2_findFirst_16 : decode cX2_findFirst 16 = .ok (.if_icmp .ge 126, 3) := dw_162 (kcX2_findFirst_0 16 162 rfl) (kcX2_findFirst_0 17 0 rfl) (kcX2_findFirst_0 18 126 rfl) rfl
theorem kcX2_findFirst_2 : CHb cX2_findFirst 128 [0, 149, 132, 5, 1, 167, 255, 185, 132, 4, 1, 167, 255, 127, 42, 16, 254, 181, 0, 24, 177] := CHb_of (by decide +kernel)
theorem dX2_findFirst_142 : decode cX2_findFirst 142 = .ok (.aload_n 0, 1) := dw_42 (kcX2_findFirst_2 14 42 rfl)
theorem dX2_findFirst_143 : decode cX2_findFirst 143 = .ok (.bipush (-2), 2) := dw_16 (kcX2_findFirst_2 15 16 rfl) (kcX2_findFirst_2 16 254 rfl) rfl
theorem dX2_findFirst_145 : decode cX2_findFirst 145 = .ok (.putfield 24, 3) := dw_181 (kcX2_findFirst_2 17 181 rfl) (kcX2_findFirst_2 18 0 rfl) (kcX2_findFirst_2 19 24 rfl) rfl
theorem dX2_findFirst_148 : decode cX2_findFirst 148 = .ok (.return_, 1) := dw_177 (kcX2_findFirst_2 20 177 rfl)
theorem dX2_findFirst_19 : decode cX2_findFirst 19 = .ok (.aload_n 0, 1) := dw_42 (kcX2_findFirst_0 19 42 rfl)
theorem dX2_findFirst_20 : decode cX2_findFirst 20 = .ok (.getfield 34, 3) := dw_180 (kcX2_findFirst_0 20 180 rfl) (kcX2_findFirst_0 21 0 rfl) (kcX2_findFirst_0 22 34 rfl) rfl
theorem dX2_findFirst_23 : decode cX2_findFirst 23 = .ok (.iload 4, 2) := dw_21 (kcX2_findFirst_0 23 21 rfl) (kcX2_findFirst_0 24 4 rfl)
theorem dX2_findFirst_25 : decode cX2_findFirst 25 = .ok (.baload, 1) := dw_51 (kcX2_findFirst_0 25 51 rfl)
theorem dX2_findFirst_26 : decode cX2_findFirst 26 = .ok (.ifCond .ne 6, 3) := dw_154 (kcX2_findFirst_0 26 154 rfl) (kcX2_findFirst_0 27 0 rfl) (kcX2_findFirst_0 28 6 rfl) rfl
theorem dX2_findFirst_32 : decode cX2_findFirst 32 = .ok (.aload_n 0, 1) := dw_42 (kcX2_findFirst_0 32 42 rfl)
theorem dX2_findFirst_33 : decode cX2_findFirst 33 = .ok (.aload_n 0, 1) := dw_42 (kcX2_findFirst_0 33 42 rfl)
theorem dX2_findFirst_34 : decode cX2_findFirst 34 = .ok (.getfield 38, 3) := dw_180 (kcX2_findFirst_0 34 180 rfl) (kcX2_findFirst_0 35 0 rfl) (kcX2_findFirst_0 36 38 rfl) rfl
theorem dX2_findFirst_37 : decode cX2_findFirst 37 = .ok (.iload 4, 2) := dw_21 (kcX2_findFirst_0 37 21 rfl) (kcX2_findFirst_0 38 4 rfl)
theorem dX2_findFirst_39 : decode cX2_findFirst 39 = .ok (.iaload, 1) := dw_46 (kcX2_findFirst_0 39 46 rfl)
theorem dX2_findFirst_40 : decode cX2_findFirst 40 = .ok (.iload 4, 2) := dw_21 (kcX2_findFirst_0 40 21 rfl) (kcX2_findFirst_0 41 4 rfl)
theorem dX2_findFirst_42 : decode cX2_findFirst 42 = .ok (.invokevirtual 146, 3) := dw_182 (kcX2_findFirst_0 42 182 rfl) (kcX2_findFirst_0 43 0 rfl) (kcX2_findFirst_0 44 146 rfl) rfl
theorem dX2_findFirst_45 : decode cX2_findFirst 45 = .ok (.aload_n 0, 1) := dw_42 (kcX2_findFirst_0 45 42 rfl)
theorem dX2_findFirst_46 : decode cX2_findFirst 46 = .ok (.getfield 30, 3) := dw_180 (kcX2_findFirst_0 46 180 rfl) (kcX2_findFirst_0 47 0 rfl) (kcX2_findFirst_0 48 30 rfl) rfl
theorem dX2_findFirst_49 : decode cX2_findFirst 49 = .ok (.iload_n 1, 1) := dw_27 (kcX2_findFirst_0 49 27 rfl)
theorem dX2_findFirst_50 : decode cX2_findFirst 50 = .ok (.bipush 12, 2) := dw_16 (kcX2_findFirst_0 50 16 rfl) (kcX2_findFirst_0 51 12 rfl) rfl
theorem dX2_findFirst_52 : decode cX2_findFirst 52 = .ok (.iload_n 2, 1) := dw_28 (kcX2_findFirst_0 52 28 rfl)
theorem dX2_findFirst_53 : decode cX2_findFirst 53 = .ok (.iadd, 1) := dw_96 (kcX2_findFirst_0 53 96 rfl)
theorem dX2_findFirst_54 : decode cX2_findFirst 54 = .ok (.iconst 0, 1) := dw_3 (kcX2_findFirst_0 54 3 rfl)
theorem dX2_findFirst_55 : decode cX2_findFirst 55 = .ok (.iconst 0, 1) := dw_3 (kcX2_findFirst_0 55 3 rfl)
theorem dX2_findFirst_56 : decode cX2_findFirst 56 = .ok (.invokevirtual 120, 3) := dw_182 (kcX2_findFirst_0 56 182 rfl) (kcX2_findFirst_0 57 0 rfl) (kcX2_findFirst_0 58 120 rfl) rfl
theorem dX2_findFirst_59 : decode cX2_findFirst 59 = .ok (.iconst 0, 1) := dw_3 (kcX2_findFirst_0 59 3 rfl)
theorem dX2_findFirst_60 : decode cX2_findFirst 60 = .ok (.istore 5, 2) := dw_54 (kcX2_findFirst_0 60 54 rfl) (kcX2_findFirst_0 61 5 rfl)
theorem dX2_findFirst_62 : decode cX2_findFirst 62 = .ok (.iload 5, 2) := dw_21 (kcX2_findFirst_0 62 21 rfl) (kcX2_findFirst_0 63 5 rfl)
theorem kcX2_findFirst_1 : CHb cX2_findFirst 64 [42, 180, 0, 15, 162, 0, 68, 21, 4, 27, 160, 0, 13, 21, 5, 28, 160, 0, 7, 4, 167, 0, 4, 3, 54, 6, 42, 180, 0, 51, 21, 4, 21, 5, 184, 0, 89, 51, 153, 0, 28, 21, 6, 154, 0, 23, 42, 21, 4, 21, 5, 42, 180, 0, 57, 21, 4, 21, 5, 184, 0, 89, 46, 182] := CHb_of (by decide +kernel)
theorem dX2_findFirst_64 : decode cX2_findFirst 64 = .ok (.aload_n 0, 1) := dw_42 (kcX2_findFirst_1 0 42 rfl)
theorem dX2_findFirst_65 : decode cX2_findFirst 65 = .ok (.getfield 15, 3) := dw_180 (kcX2_findFirst_1 1 180 rfl) (kcX2_findFirst_1 2 0 rfl) (kcX2_findFirst_1 3 15 rfl) rfl
theorem dX2_findFirst_68 : decode cX2_findFirst 68 = .ok (.if_icmp .ge 68, 3) := dw_162 (kcX2_findFirst_1 4 162 rfl) (kcX2_findFirst_1 5 0 rfl) (kcX2_findFirst_1 6 68 rfl) rfl
theorem dX2_findFirst_136 : decode cX2_findFirst 136 = .ok (.iinc 4 1, 3) := dw_132 (kcX2_findFirst_2 8 132 rfl) (kcX2_findFirst_2 9 4 rfl) (kcX2_findFirst_2 10 1 rfl) rfl
theorem dX2_findFirst_139 : decode cX2_findFirst 139 = .ok (.goto (-129), 3) := dw_167 (kcX2_findFirst_2 11 167 rfl) (kcX2_findFirst_2 12 255 rfl) (kcX2_findFirst_2 13 127 rfl) rfl
theorem dX2_findFirst_71 : decode cX2_findFirst 71 = .ok (.iload 4, 2) := dw_21 (kcX2_findFirst_1 7 21 rfl) (kcX2_findFirst_1 8 4 rfl)
theorem dX2_findFirst_73 : decode cX2_findFirst 73 = .ok (.iload_n 1, 1) := dw_27 (kcX2_findFirst_1 9 27 rfl)
theorem dX2_findFirst_74 : decode cX2_findFirst 74 = .ok (.if_icmp .ne 13, 3) := dw_160 (kcX2_findFirst_1 10 160 rfl) (kcX2_findFirst_1 11 0 rfl) (kcX2_findFirst_1 12 13 rfl) rfl
theorem dX2_findFirst_87 : decode cX2_findFirst 87 = .ok (.iconst 0, 1) := dw_3 (kcX2_findFirst_1 23 3 rfl)
theorem dX2_findFirst_88 : decode cX2_findFirst 88 = .ok (.istore 6, 2) := dw_54 (kcX2_findFirst_1 24 54 rfl) (kcX2_findFirst_1 25 6 rfl)
theorem dX2_findFirst_90 : decode cX2_findFirst 90 = .ok (.aload_n 0, 1) := dw_42 (kcX2_findFirst_1 26 42 rfl)
theorem dX2_findFirst_91 : decode cX2_findFirst 91 = .ok (.getfield 51, 3) := dw_180 (kcX2_findFirst_1 27 180 rfl) (kcX2_findFirst_1 28 0 rfl) (kcX2_findFirst_1 29 51 rfl) rfl
theorem dX2_findFirst_94 : decode cX2_findFirst 94 = .ok (.iload 4, 2) := dw_21 (kcX2_findFirst_1 30 21 rfl) (kcX2_findFirst_1 31 4 rfl)
theorem dX2_findFirst_96 : decode cX2_findFirst 96 = .ok (.iload 5, 2) := dw_21 (kcX2_findFirst_1 32 21 rfl) (kcX2_findFirst_1 33 5 rfl)
theorem dX2_findFirst_98 : decode cX2_findFirst 98 = .ok (.invokestatic 89, 3) := dw_184 (kcX2_findFirst_1 34 184 rfl) (kcX2_findFirst_1 35 0 rfl) (kcX2_findFirst_1 36 89 rfl) rfl
theorem dX2_findFirst_101 : decode cX2_findFirst 101 = .ok (.baload, 1) := dw_51 (kcX2_findFirst_1 37 51 rfl)
theorem dX2_findFirst_102 : decode cX2_findFirst 102 = .ok (.ifCond .eq 28, 3) := dw_153 (kcX2_findFirst_1 38 153 rfl) (kcX2_findFirst_1 39 0 rfl) (kcX2_findFirst_1 40 28 rfl) rfl
theorem dX2_findFirst_130 : decode cX2_findFirst 130 = .ok (.iinc 5 1, 3) := dw_132 (kcX2_findFirst_2 2 132 rfl) (kcX2_findFirst_2 3 5 rfl) (kcX2_findFirst_2 4 1 rfl) rfl
theorem dX2_findFirst_133 : decode cX2_findFirst 133 = .ok (.goto (-71), 3) := dw_167 (kcX2_findFirst_2 5 167 rfl) (kcX2_findFirst_2 6 255 rfl) (kcX2_findFirst_2 7 185 rfl) rfl
theorem dX2_findFirst_105 : decode cX2_findFirst 105 = .ok (.iload 6, 2) := dw_21 (kcX2_findFirst_1 41 21 rfl) (kcX2_findFirst_1 42 6 rfl)
theorem dX2_findFirst_107 : decode cX2_findFirst 107 = .ok (.ifCond .ne 23, 3) := dw_154 (kcX2_findFirst_1 43 154 rfl) (kcX2_findFirst_1 44 0 rfl) (kcX2_findFirst_1 45 23 rfl) rfl
theorem dX2_findFirst_110 : decode cX2_findFirst 110 = .ok (.aload_n 0, 1) := dw_42 (kcX2_findFirst_1 46 42 rfl)
theorem dX2_findFirst_111 : decode cX2_findFirst 111 = .ok (.iload 4, 2) := dw_21 (kcX2_findFirst_1 47 21 rfl) (kcX2_findFirst_1 48 4 rfl)
theorem dX2_findFirst_113 : decode cX2_findFirst 113 = .ok (.iload 5, 2) := dw_21 (kcX2_findFirst_1 49 21 rfl) (kcX2_findFirst_1 50 5 rfl)
theorem dX2_findFirst_115 : decode cX2_findFirst 115 = .ok (.aload_n 0, 1) := dw_42 (kcX2_findFirst_1 51 42 rfl)
theorem dX2_findFirst_116 : decode cX2_findFirst 116 = .ok (.getfield 57, 3) := dw_180 (kcX2_findFirst_1 52 180 rfl) (kcX2_findFirst_1 53 0 rfl) (kcX2_findFirst_1 54 57 rfl) rfl
theorem dX2_findFirst_119 : decode cX2_findFirst 119 = .ok (.iload 4, 2) := dw_21 (kcX2_findFirst_1 55 21 rfl) (kcX2_findFirst_1 56 4 rfl)
theorem dX2_findFirst_121 : decode cX2_findFirst 121 = .ok (.iload 5, 2) := dw_21 (kcX2_findFirst_1 57 21 rfl) (kcX2_findFirst_1 58 5 rfl)
theorem dX2_findFirst_123 : decode cX2_findFirst 123 = .ok (.invokestatic 89, 3) := dw_184 (kcX2_findFirst_1 59 184 rfl) (kcX2_findFirst_1 60 0 rfl) (kcX2_findFirst_1 61 89 rfl) rfl
theorem dX2_findFirst_126 : decode cX2_findFirst 126 = .ok (.iaload, 1) := dw_46 (kcX2_findFirst_1 62 46 rfl)
theorem dX2_findFirst_127 : decode cX2_findFirst 127 = .ok (.invokevirtual 149, 3) := dw_182 (kcX2_findFirst_1 63 182 rfl) (kcX2_findFirst_2 0 0 rfl) (kcX2_findFirst_2 1 149 rfl) rfl
theorem dX2_findFirst_77 : decode cX2_findFirst 77 = .ok (.iload 5, 2) := dw_21 (kcX2_findFirst_1 13 21 rfl) (kcX2_findFirst_1 14 5 rfl)
theorem dX2_findFirst_79 : decode cX2_findFirst 79 = .ok (.iload_n 2, 1) := dw_28 (kcX2_findFirst_1 15 28 rfl)
theorem dX2_findFirst_80 : decode cX2_findFirst 80 = .ok (.if_icmp .ne 7, 3) := dw_160 (kcX2_findFirst_1 16 160 rfl) (kcX2_findFirst_1 17 0 rfl) (kcX2_findFirst_1 18 7 rfl) rfl
theorem dX2_findFirst_83 : decode cX2_findFirst 83 = .ok (.iconst 1, 1) := dw_4 (kcX2_findFirst_1 19 4 rfl)
theorem dX2_findFirst_84 : decode cX2_findFirst 84 = .ok (.goto 4, 3) := dw_167 (kcX2_findFirst_1 20 167 rfl) (kcX2_findFirst_1 21 0 rfl) (kcX2_findFirst_1 22 4 rfl) rfl
theorem dX2_findFirst_29 : decode cX2_findFirst 29 = .ok (.goto 107, 3) := dw_167 (kcX2_findFirst_0 29 167 rfl) (kcX2_findFirst_0 30 0 rfl) (kcX2_findFirst_0 31 107 rfl) rfl
theorem kcX2_cutOf_0 : CHb cX2_cutOf 0 [29, 153, 0, 10, 16, 12, 28, 96, 167, 0, 4, 27, 54, 4, 42, 180, 0, 51, 27, 28, 184, 0, 89, 51, 154, 0, 8, 4, 21, 4, 120, 172, 42, 42, 180, 0, 38, 27, 46, 3, 182, 0, 146, 42, 180, 0, 30, 27, 16, 12, 28, 96, 3, 3, 182, 0, 120, 42, 16, 254, 181, 0, 24, 42] := CHb_of (by decide +kernel)
theorem dX2_cutOf_0 : decode cX2_cutOf 0 = .ok (.iload_n 3, 1) := dw_29 (kcX2_cutOf_0 0 29 rfl)
theorem dX2_cutOf_1 : decode cX2_cutOf 1 = .ok (.ifCond .eq 10, 3) := dw_153 (kcX2_cutOf_0 1 153 rfl) (kcX2_cutOf_0 2 0 rfl) (kcX2_cutOf_0 3 10 rfl) rfl
theorem dX2_cutOf_11 : decode cX2_cutOf 11 = .ok (.iload_n 1, 1) := dw_27 (kcX2_cutOf_0 11 27 rfl)
theorem dX2_cutOf_12 : decode cX2_cutOf 12 = .ok (.istore 4, 2) := dw_54 (kcX2_cutOf_0 12 54 rfl) (kcX2_cutOf_0 13 4 rfl)
theorem dX2_cutOf_14 : decode cX2_cutOf 14 = .ok (.aload_n 0, 1) := dw_42 (kcX2_cutOf_0 14 42 rfl)
theorem dX2_cutOf_15 : decode cX2_cutOf 15 = .ok (.getfield 51, 3) := dw_180 (kcX2_cutOf_0 15 180 rfl) (kcX2_cutOf_0 16 0 rfl) (kcX2_cutOf_0 17 51 rfl) rfl
theorem dX2_cutOf_18 : decode cX2_cutOf 18 = .ok (.iload_n 1, 1) := dw_27 (kcX2_cutOf_0 18 27 rfl)
theorem dX2_cutOf_19 : decode cX2_cutOf 19 = .ok (.iload_n 2, 1) := dw_28 (kcX2_cutOf_0 19 28 rfl)
theorem dX2_cutOf_20 : decode cX2_cutOf 20 = .ok (.invokestatic 89, 3) := dw_184 (kcX2_cutOf_0 20 184 rfl) (kcX2_cutOf_0 21 0 rfl) (kcX2_cutOf_0 22 89 rfl) rfl
theorem dX2_cutOf_23 : decode cX2_cutOf 23 = .ok (.baload, 1) := dw_51 (kcX2_cutOf_0 23 51 rfl)
theorem dX2_cutOf_24 : decode cX2_cutOf 24 = .ok (.ifCond .ne 8, 3) := dw_154 (kcX2_cutOf_0 24 154 rfl) (kcX2_cutOf_0 25 0 rfl) (kcX2_cutOf_0 26 8 rfl) rfl
theorem dX2_cutOf_32 : decode cX2_cutOf 32 = .ok (.aload_n 0, 1) := dw_42 (kcX2_cutOf_0 32 42 rfl)
theorem dX2_cutOf_33 : decode cX2_cutOf 33 = .ok (.aload_n 0, 1) := dw_42 (kcX2_cutOf_0 33 42 rfl)
theorem dX2_cutOf_34 : decode cX2_cutOf 34 = .ok (.getfield 38, 3) := dw_180 (kcX2_cutOf_0 34 180 rfl) (kcX2_cutOf_0 35 0 rfl) (kcX2_cutOf_0 36 38 rfl) rfl
theorem dX2_cutOf_37 : decode cX2_cutOf 37 = .ok (.iload_n 1, 1) := dw_27 (kcX2_cutOf_0 37 27 rfl)
theorem dX2_cutOf_38 : decode cX2_cutOf 38 = .ok (.iaload, 1) := dw_46 (kcX2_cutOf_0 38 46 rfl)
theorem dX2_cutOf_39 : decode cX2_cutOf 39 = .ok (.iconst 0, 1) := dw_3 (kcX2_cutOf_0 39 3 rfl)
theorem dX2_cutOf_40 : decode cX2_cutOf 40 = .ok (.invokevirtual 146, 3) := dw_182 (kcX2_cutOf_0 40 182 rfl) (kcX2_cutOf_0 41 0 rfl) (kcX2_cutOf_0 42 146 rfl) rfl
theorem dX2_cutOf_43 : decode cX2_cutOf 43 = .ok (.aload_n 0, 1) := dw_42 (kcX2_cutOf_0 43 42 rfl)
theorem dX2_cutOf_44 : decode cX2_cutOf 44 = .ok (.getfield 30, 3) := dw_180 (kcX2_cutOf_0 44 180 rfl) (kcX2_cutOf_0 45 0 rfl) (kcX2_cutOf_0 46 30 rfl) rfl
theorem dX2_cutOf_47 : decode cX2_cutOf 47 = .ok (.iload_n 1, 1) := dw_27 (kcX2_cutOf_0 47 27 rfl)
theorem dX2_cutOf_48 : decode cX2_cutOf 48 = .ok (.bipush 12, 2) := dw_16 (kcX2_cutOf_0 48 16 rfl) (kcX2_cutOf_0 49 12 rfl) rfl
theorem dX2_cutOf_50 : decode cX2_cutOf 50 = .ok (.iload_n 2, 1) := dw_28 (kcX2_cutOf_0 50 28 rfl)
theorem dX2_cutOf_51 : decode cX2_cutOf 51 = .ok (.iadd, 1) := dw_96 (kcX2_cutOf_0 51 96 rfl)
theorem dX2_cutOf_52 : decode cX2_cutOf 52 = .ok (.iconst 0, 1) := dw_3 (kcX2_cutOf_0 52 3 rfl)
theorem dX2_cutOf_53 : decode cX2_cutOf 53 = .ok (.iconst 0, 1) := dw_3 (kcX2_cutOf_0 53 3 rfl)
theorem dX2_cutOf_54 : decode cX2_cutOf 54 = .ok (.invokevirtual 120, 3) := dw_182 (kcX2_cutOf_0 54 182 rfl) (kcX2_cutOf_0 55 0 rfl) (kcX2_cutOf_0 56 120 rfl) rfl
theorem dX2_cutOf_57 : decode cX2_cutOf 57 = .ok (.aload_n 0, 1) := dw_42 (kcX2_cutOf_0 57 42 rfl)
theorem dX2_cutOf_58 : decode cX2_cutOf 58 = .ok (.bipush (-2), 2) := dw_16 (kcX2_cutOf_0 58 16 rfl) (kcX2_cutOf_0 59 254 rfl) rfl
theorem dX2_cutOf_60 : decode cX2_cutOf 60 = .ok (.putfield 24, 3) := dw_181 (kcX2_cutOf_0 60 181 rfl) (kcX2_cutOf_0 61 0 rfl) (kcX2_cutOf_0 62 24 rfl) rfl
theorem dX2_cutOf_63 : decode cX2_cutOf 63 = .ok (.aload_n 0, 1) := dw_42 (kcX2_cutOf_0 63 42 rfl)
theorem kcX2_cutOf_1 : CHb cX2_cutOf 64 [180, 0, 30, 21, 4, 182, 0, 162, 172] := CHb_of (by decide +kernel)
theorem dX2_cutOf_64 : decode cX2_cutOf 64 = .ok (.getfield 30, 3) := dw_180 (kcX2_cutOf_1 0 180 rfl) (kcX2_cutOf_1 1 0 rfl) (kcX2_cutOf_1 2 30 rfl) rfl
theorem dX2_cutOf_67 : decode cX2_cutOf 67 = .ok (.iload 4, 2) := dw_21 (kcX2_cutOf_1 3 21 rfl) (kcX2_cutOf_1 4 4 rfl)
theorem dX2_cutOf_69 : decode cX2_cutOf 69 = .ok (.invokevirtual 162, 3) := dw_182 (kcX2_cutOf_1 5 182 rfl) (kcX2_cutOf_1 6 0 rfl) (kcX2_cutOf_1 7 162 rfl) rfl
theorem dX2_cutOf_72 : decode cX2_cutOf 72 = .ok (.ireturn, 1) := dw_172 (kcX2_cutOf_1 8 172 rfl)
theorem dX2_cutOf_27 : decode cX2_cutOf 27 = .ok (.iconst 1, 1) := dw_4 (kcX2_cutOf_0 27 4 rfl)
theorem dX2_cutOf_28 : decode cX2_cutOf 28 = .ok (.iload 4, 2) := dw_21 (kcX2_cutOf_0 28 21 rfl) (kcX2_cutOf_0 29 4 rfl)
theorem dX2_cutOf_30 : decode cX2_cutOf 30 = .ok (.ishl, 1) := dw_120 (kcX2_cutOf_0 30 120 rfl)
theorem dX2_cutOf_31 : decode cX2_cutOf 31 = .ok (.ireturn, 1) := dw_172 (kcX2_cutOf_0 31 172 rfl)
theorem dX2_cutOf_4 : decode cX2_cutOf 4 = .ok (.bipush 12, 2) := dw_16 (kcX2_cutOf_0 4 16 rfl) (kcX2_cutOf_0 5 12 rfl) rfl
theorem dX2_cutOf_6 : decode cX2_cutOf 6 = .ok (.iload_n 2, 1) := dw_28 (kcX2_cutOf_0 6 28 rfl)
theorem dX2_cutOf_7 : decode cX2_cutOf 7 = .ok (.iadd, 1) := dw_96 (kcX2_cutOf_0 7 96 rfl)
theorem dX2_cutOf_8 : decode cX2_cutOf 8 = .ok (.goto 4, 3) := dw_167 (kcX2_cutOf_0 8 167 rfl) (kcX2_cutOf_0 9 0 rfl) (kcX2_cutOf_0 10 4 rfl) rfl
theorem kcX2_showValues_0 : CHb cX2_showValues 0 [43, 42, 180, 0, 9, 181, 0, 165, 43, 42, 180, 0, 15, 181, 0, 168, 3, 61, 28, 42, 180, 0, 9, 162, 0, 59, 3, 62, 29, 42, 180, 0, 15, 162, 0, 43, 28, 29, 184, 0, 89, 54, 4, 43, 180, 0, 169, 21, 4, 42, 180, 0, 34, 28, 51, 153, 0, 13, 42, 180, 0, 54, 21, 4] := CHb_of (by decide +kernel)
theorem dX2_showValues_0 : decode cX2_showValues 0 = .ok (.aload_n 1, 1) := dw_43 (kcX2_showValues_0 0 43 rfl)
theorem dX2_showValues_1 : decode cX2_showValues 1 = .ok (.aload_n 0, 1) := dw_42 (kcX2_showValues_0 1 42 rfl)
theorem dX2_showValues_2 : decode cX2_showValues 2 = .ok (.getfield 9, 3) := dw_180 (kcX2_showValues_0 2 180 rfl) (kcX2_showValues_0 3 0 rfl) (kcX2_showValues_0 4 9 rfl) rfl
theorem dX2_showValues_5 : decode cX2_showValues 5 = .ok (.putfield 165, 3) := dw_181 (kcX2_showValues_0 5 181 rfl) (kcX2_showValues_0 6 0 rfl) (kcX2_showValues_0 7 165 rfl) rfl
theorem dX2_showValues_8 : decode cX2_showValues 8 = .ok (.aload_n 1, 1) := dw_43 (kcX2_showValues_0 8 43 rfl)
theorem dX2_showValues_9 : decode cX2_showValues 9 = .ok (.aload_n 0, 1) := dw_42 (kcX2_showValues_0 9 42 rfl)
theorem dX2_showValues_10 : decode cX2_showValues 10 = .ok (.getfield 15, 3) := dw_180 (kcX2_showValues_0 10 180 rfl) (kcX2_showValues_0 11 0 rfl) (kcX2_showValues_0 12 15 rfl) rfl
theorem dX2_showValues_13 : decode cX2_showValues 13 = .ok (.putfield 168, 3) := dw_181 (kcX2_showValues_0 13 181 rfl) (kcX2_showValues_0 14 0 rfl) (kcX2_showValues_0 15 168 rfl) rfl
theorem dX2_showValues_16 : decode cX2_showValues 16 = .ok (.iconst 0, 1) := dw_3 (kcX2_showValues_0 16 3 rfl)
theorem dX2_showValues_17 : decode cX2_showValues 17 = .ok (.istore_n 2, 1) := dw_61 (kcX2_showValues_0 17 61 rfl)
theorem dX2_showValues_18 : decode cX2_showValues 18 = .ok (.iload_n 2, 1) := dw_28 (kcX2_showValues_0 18 28 rfl)
theorem dX2_showValues_19 : decode cX2_showValues 19 = .ok (.aload_n 0, 1) := dw_42 (kcX2_showValues_0 19 42 rfl)
theorem dX2_showValues_20 : decode cX2_showValues 20 = .ok (.getfield 9, 3) := dw_180 (kcX2_showValues_0 20 180 rfl) (kcX2_showValues_0 21 0 rfl) (kcX2_showValues_0 22 9 rfl) rfl
theorem dX2_showValues_23 : decode cX2_showValues 23 = .ok (.if_icmp .ge 59, 3) := dw_162 (kcX2_showValues_0 23 162 rfl) (kcX2_showValues_0 24 0 rfl) (kcX2_showValues_0 25 59 rfl) rfl
theorem kcX2_showValues_1 : CHb cX2_showValues 64 [46, 167, 0, 4, 2, 79, 132, 3, 1, 167, 255, 211, 132, 2, 1, 167, 255, 195, 177] := CHb_of (by decide +kernel)
theorem dX2_showValues_82 : decode cX2_showValues 82 = .ok (.return_, 1) := dw_177 (kcX2_showValues_1 18 177 rfl)
theorem dX2_showValues_26 : decode cX2_showValues 26 = .ok (.iconst 0, 1) := dw_3 (kcX2_showValues_0 26 3 rfl)
theorem dX2_showValues_27 : decode cX2_showValues 27 = .ok (.istore_n 3, 1) := dw_62 (kcX2_showValues_0 27 62 rfl)
theorem dX2_showValues_28 : decode cX2_showValues 28 = .ok (.iload_n 3, 1) := dw_29 (kcX2_showValues_0 28 29 rfl)
theorem dX2_showValues_29 : decode cX2_showValues 29 = .ok (.aload_n 0, 1) := dw_42 (kcX2_showValues_0 29 42 rfl)
theorem dX2_showValues_30 : decode cX2_showValues 30 = .ok (.getfield 15, 3) := dw_180 (kcX2_showValues_0 30 180 rfl) (kcX2_showValues_0 31 0 rfl) (kcX2_showValues_0 32 15 rfl) rfl
theorem dX2_showValues_33 : decode cX2_showValues 33 = .ok (.if_icmp .ge 43, 3) := dw_162 (kcX2_showValues_0 33 162 rfl) (kcX2_showValues_0 34 0 rfl) (kcX2_showValues_0 35 43 rfl) rfl
theorem dX2_showValues_76 : decode cX2_showValues 76 = .ok (.iinc 2 1, 3) := dw_132 (kcX2_showValues_1 12 132 rfl) (kcX2_showValues_1 13 2 rfl) (kcX2_showValues_1 14 1 rfl) rfl
theorem dX2_showValues_79 : decode cX2_showValues 79 = .ok (.goto (-61), 3) := dw_167 (kcX2_showValues_1 15 167 rfl) (kcX2_showValues_1 16 255 rfl) (kcX2_showValues_1 17 195 rfl) rfl
theorem dX2_showValues_36 : decode cX2_showValues 36 = .ok (.iload_n 2, 1) := dw_28 (kcX2_showValues_0 36 28 rfl)
theorem dX2_showValues_37 : decode cX2_showValues 37 = .ok (.iload_n 3, 1) := dw_29 (kcX2_showValues_0 37 29 rfl)
theorem dX2_showValues_38 : decode cX2_showValues 38 = .ok (.invokestatic 89, 3) := dw_184 (kcX2_showValues_0 38 184 rfl) (kcX2_showValues_0 39 0 rfl) (kcX2_showValues_0 40 89 rfl) rfl
theorem dX2_showValues_41 : decode cX2_showValues 41 = .ok (.istore 4, 2) := dw_54 (kcX2_showValues_0 41 54 rfl) (kcX2_showValues_0 42 4 rfl)
theorem dX2_showValues_43 : decode cX2_showValues 43 = .ok (.aload_n 1, 1) := dw_43 (kcX2_showValues_0 43 43 rfl)
theorem dX2_showValues_44 : decode cX2_showValues 44 = .ok (.getfield 169, 3) := dw_180 (kcX2_showValues_0 44 180 rfl) (kcX2_showValues_0 45 0 rfl) (kcX2_showValues_0 46 169 rfl) rfl
theorem dX2_showValues_47 : decode cX2_showValues 47 = .ok (.iload 4, 2) := dw_21 (kcX2_showValues_0 47 21 rfl) (kcX2_showValues_0 48 4 rfl)
theorem dX2_showValues_49 : decode cX2_showValues 49 = .ok (.aload_n 0, 1) := dw_42 (kcX2_showValues_0 49 42 rfl)
theorem dX2_showValues_50 : decode cX2_showValues 50 = .ok (.getfield 34, 3) := dw_180 (kcX2_showValues_0 50 180 rfl) (kcX2_showValues_0 51 0 rfl) (kcX2_showValues_0 52 34 rfl) rfl
theorem dX2_showValues_53 : decode cX2_showValues 53 = .ok (.iload_n 2, 1) := dw_28 (kcX2_showValues_0 53 28 rfl)
theorem dX2_showValues_54 : decode cX2_showValues 54 = .ok (.baload, 1) := dw_51 (kcX2_showValues_0 54 51 rfl)
theorem dX2_showValues_55 : decode cX2_showValues 55 = .ok (.ifCond .eq 13, 3) := dw_153 (kcX2_showValues_0 55 153 rfl) (kcX2_showValues_0 56 0 rfl) (kcX2_showValues_0 57 13 rfl) rfl
theorem dX2_showValues_68 : decode cX2_showValues 68 = .ok (.iconst (-1), 1) := dw_2 (kcX2_showValues_1 4 2 rfl)
theorem dX2_showValues_69 : decode cX2_showValues 69 = .ok (.iastore, 1) := dw_79 (kcX2_showValues_1 5 79 rfl)
theorem dX2_showValues_70 : decode cX2_showValues 70 = .ok (.iinc 3 1, 3) := dw_132 (kcX2_showValues_1 6 132 rfl) (kcX2_showValues_1 7 3 rfl) (kcX2_showValues_1 8 1 rfl) rfl
theorem dX2_showValues_73 : decode cX2_showValues 73 = .ok (.goto (-45), 3) := dw_167 (kcX2_showValues_1 9 167 rfl) (kcX2_showValues_1 10 255 rfl) (kcX2_showValues_1 11 211 rfl) rfl
theorem dX2_showValues_58 : decode cX2_showValues 58 = .ok (.aload_n 0, 1) := dw_42 (kcX2_showValues_0 58 42 rfl)
theorem dX2_showValues_59 : decode cX2_showValues 59 = .ok (.getfield 54, 3) := dw_180 (kcX2_showValues_0 59 180 rfl) (kcX2_showValues_0 60 0 rfl) (kcX2_showValues_0 61 54 rfl) rfl
theorem dX2_showValues_62 : decode cX2_showValues 62 = .ok (.iload 4, 2) := dw_21 (kcX2_showValues_0 62 21 rfl) (kcX2_showValues_0 63 4 rfl)
theorem dX2_showValues_64 : decode cX2_showValues 64 = .ok (.iaload, 1) := dw_46 (kcX2_showValues_1 0 46 rfl)
theorem dX2_showValues_65 : decode cX2_showValues 65 = .ok (.goto 4, 3) := dw_167 (kcX2_showValues_1 1 167 rfl) (kcX2_showValues_1 2 0 rfl) (kcX2_showValues_1 3 4 rfl) rfl
theorem kcX2_showOpenly_0 : CHb cX2_showOpenly 0 [43, 42, 180, 0, 9, 181, 0, 165, 43, 42, 180, 0, 15, 181, 0, 168, 3, 61, 28, 42, 180, 0, 9, 162, 0, 79, 3, 62, 29, 42, 180, 0, 15, 162, 0, 63, 28, 29, 184, 0, 89, 54, 4, 42, 180, 0, 51, 21, 4, 51, 153, 0, 8, 16, 254, 167, 0, 10, 42, 180, 0, 45, 21, 4] := CHb_of (by decide +kernel)
theorem dX2_showOpenly_0 : decode cX2_showOpenly 0 = .ok (.aload_n 1, 1) := dw_43 (kcX2_showOpenly_0 0 43 rfl)
theorem dX2_showOpenly_1 : decode cX2_showOpenly 1 = .ok (.aload_n 0, 1) := dw_42 (kcX2_showOpenly_0 1 42 rfl)
theorem dX2_showOpenly_2 : decode cX2_showOpenly 2 = .ok (.getfield 9, 3) := dw_180 (kcX2_showOpenly_0 2 180 rfl) (kcX2_showOpenly_0 3 0 rfl) (kcX2_showOpenly_0 4 9 rfl) rfl
theorem dX2_showOpenly_5 : decode cX2_showOpenly 5 = .ok (.putfield 165, 3) := dw_181 (kcX2_showOpenly_0 5 181 rfl) (kcX2_showOpenly_0 6 0 rfl) (kcX2_showOpenly_0 7 165 rfl) rfl
theorem dX2_showOpenly_8 : decode cX2_showOpenly 8 = .ok (.aload_n 1, 1) := dw_43 (kcX2_showOpenly_0 8 43 rfl)
theorem dX2_showOpenly_9 : decode cX2_showOpenly 9 = .ok (.aload_n 0, 1) := dw_42 (kcX2_showOpenly_0 9 42 rfl)
theorem dX2_showOpenly_10 : decode cX2_showOpenly 10 = .ok (.getfield 15, 3) := dw_180 (kcX2_showOpenly_0 10 180 rfl) (kcX2_showOpenly_0 11 0 rfl) (kcX2_showOpenly_0 12 15 rfl) rfl
theorem dX2_showOpenly_13 : decode cX2_showOpenly 13 = .ok (.putfield 168, 3) := dw_181 (kcX2_showOpenly_0 13 181 rfl) (kcX2_showOpenly_0 14 0 rfl) (kcX2_showOpenly_0 15 168 rfl) rfl
theorem dX2_showOpenly_16 : decode cX2_showOpenly 16 = .ok (.iconst 0, 1) := dw_3 (kcX2_showOpenly_0 16 3 rfl)
theorem dX2_showOpenly_17 : decode cX2_showOpenly 17 = .ok (.istore_n 2, 1) := dw_61 (kcX2_showOpenly_0 17 61 rfl)
theorem dX2_showOpenly_18 : decode cX2_showOpenly 18 = .ok (.iload_n 2, 1) := dw_28 (kcX2_showOpenly_0 18 28 rfl)
theorem dX2_showOpenly_19 : decode cX2_showOpenly 19 = .ok (.aload_n 0, 1) := dw_42 (kcX2_showOpenly_0 19 42 rfl)
theorem dX2_showOpenly_20 : decode cX2_showOpenly 20 = .ok (.getfield 9, 3) := dw_180 (kcX2_showOpenly_0 20 180 rfl) (kcX2_showOpenly_0 21 0 rfl) (kcX2_showOpenly_0 22 9 rfl) rfl
theorem dX2_showOpenly_23 : decode cX2_showOpenly 23 = .ok (.if_icmp .ge 79, 3) := dw_162 (kcX2_showOpenly_0 23 162 rfl) (kcX2_showOpenly_0 24 0 rfl) (kcX2_showOpenly_0 25 79 rfl) rfl
theorem kcX2_showOpenly_1 : CHb cX2_showOpenly 64 [46, 54, 5, 43, 180, 0, 169, 21, 4, 42, 180, 0, 34, 28, 51, 153, 0, 8, 21, 5, 167, 0, 5, 16, 253, 79, 132, 3, 1, 167, 255, 191, 132, 2, 1, 167, 255, 175, 177] := CHb_of (by decide +kernel)
theorem dX2_showOpenly_102 : decode cX2_showOpenly 102 = .ok (.return_, 1) := dw_177 (kcX2_showOpenly_1 38 177 rfl)
theorem dX2_showOpenly_26 : decode cX2_showOpenly 26 = .ok (.iconst 0, 1) := dw_3 (kcX2_showOpenly_0 26 3 rfl)
theorem dX2_showOpenly_27 : decode cX2_showOpenly 27 = .ok (.istore_n 3, 1) := dw_62 (kcX2_showOpenly_0 27 62 rfl)
theorem dX2_showOpenly_28 : decode cX2_showOpenly 28 = .ok (.iload_n 3, 1) := dw_29 (kcX2_showOpenly_0 28 29 rfl)
theorem dX2_showOpenly_29 : decode cX2_showOpenly 29 = .ok (.aload_n 0, 1) := dw_42 (kcX2_showOpenly_0 29 42 rfl)
theorem dX2_showOpenly_30 : decode cX2_showOpenly 30 = .ok (.getfield 15, 3) := dw_180 (kcX2_showOpenly_0 30 180 rfl) (kcX2_showOpenly_0 31 0 rfl) (kcX2_showOpenly_0 32 15 rfl) rfl
theorem dX2_showOpenly_33 : decode cX2_showOpenly 33 = .ok (.if_icmp .ge 63, 3) := dw_162 (kcX2_showOpenly_0 33 162 rfl) (kcX2_showOpenly_0 34 0 rfl) (kcX2_showOpenly_0 35 63 rfl) rfl
theorem dX2_showOpenly_96 : decode cX2_showOpenly 96 = .ok (.iinc 2 1, 3) := dw_132 (kcX2_showOpenly_1 32 132 rfl) (kcX2_showOpenly_1 33 2 rfl) (kcX2_showOpenly_1 34 1 rfl) rfl
theorem dX2_showOpenly_99 : decode cX2_showOpenly 99 = .ok (.goto (-81), 3) := dw_167 (kcX2_showOpenly_1 35 167 rfl) (kcX2_showOpenly_1 36 255 rfl) (kcX2_showOpenly_1 37 175 rfl) rfl
theorem dX2_showOpenly_36 : decode cX2_showOpenly 36 = .ok (.iload_n 2, 1) := dw_28 (kcX2_showOpenly_0 36 28 rfl)
theorem dX2_showOpenly_37 : decode cX2_showOpenly 37 = .ok (.iload_n 3, 1) := dw_29 (kcX2_showOpenly_0 37 29 rfl)
theorem dX2_showOpenly_38 : decode cX2_showOpenly 38 = .ok (.invokestatic 89, 3) := dw_184 (kcX2_showOpenly_0 38 184 rfl) (kcX2_showOpenly_0 39 0 rfl) (kcX2_showOpenly_0 40 89 rfl) rfl
theorem dX2_showOpenly_41 : decode cX2_showOpenly 41 = .ok (.istore 4, 2) := dw_54 (kcX2_showOpenly_0 41 54 rfl) (kcX2_showOpenly_0 42 4 rfl)
theorem dX2_showOpenly_43 : decode cX2_showOpenly 43 = .ok (.aload_n 0, 1) := dw_42 (kcX2_showOpenly_0 43 42 rfl)
theorem dX2_showOpenly_44 : decode cX2_showOpenly 44 = .ok (.getfield 51, 3) := dw_180 (kcX2_showOpenly_0 44 180 rfl) (kcX2_showOpenly_0 45 0 rfl) (kcX2_showOpenly_0 46 51 rfl) rfl
theorem dX2_showOpenly_47 : decode cX2_showOpenly 47 = .ok (.iload 4, 2) := dw_21 (kcX2_showOpenly_0 47 21 rfl) (kcX2_showOpenly_0 48 4 rfl)
theorem dX2_showOpenly_49 : decode cX2_showOpenly 49 = .ok (.baload, 1) := dw_51 (kcX2_showOpenly_0 49 51 rfl)
theorem dX2_showOpenly_50 : decode cX2_showOpenly 50 = .ok (.ifCond .eq 8, 3) := dw_153 (kcX2_showOpenly_0 50 153 rfl) (kcX2_showOpenly_0 51 0 rfl) (kcX2_showOpenly_0 52 8 rfl) rfl
theorem dX2_showOpenly_58 : decode cX2_showOpenly 58 = .ok (.aload_n 0, 1) := dw_42 (kcX2_showOpenly_0 58 42 rfl)
theorem dX2_showOpenly_59 : decode cX2_showOpenly 59 = .ok (.getfield 45, 3) := dw_180 (kcX2_showOpenly_0 59 180 rfl) (kcX2_showOpenly_0 60 0 rfl) (kcX2_showOpenly_0 61 45 rfl) rfl
theorem dX2_showOpenly_62 : decode cX2_showOpenly 62 = .ok (.iload 4, 2) := dw_21 (kcX2_showOpenly_0 62 21 rfl) (kcX2_showOpenly_0 63 4 rfl)
theorem dX2_showOpenly_64 : decode cX2_showOpenly 64 = .ok (.iaload, 1) := dw_46 (kcX2_showOpenly_1 0 46 rfl)
theorem dX2_showOpenly_65 : decode cX2_showOpenly 65 = .ok (.istore 5, 2) := dw_54 (kcX2_showOpenly_1 1 54 rfl) (kcX2_showOpenly_1 2 5 rfl)
theorem dX2_showOpenly_67 : decode cX2_showOpenly 67 = .ok (.aload_n 1, 1) := dw_43 (kcX2_showOpenly_1 3 43 rfl)
theorem dX2_showOpenly_68 : decode cX2_showOpenly 68 = .ok (.getfield 169, 3) := dw_180 (kcX2_showOpenly_1 4 180 rfl) (kcX2_showOpenly_1 5 0 rfl) (kcX2_showOpenly_1 6 169 rfl) rfl
theorem dX2_showOpenly_71 : decode cX2_showOpenly 71 = .ok (.iload 4, 2) := dw_21 (kcX2_showOpenly_1 7 21 rfl) (kcX2_showOpenly_1 8 4 rfl)
theorem dX2_showOpenly_73 : decode cX2_showOpenly 73 = .ok (.aload_n 0, 1) := dw_42 (kcX2_showOpenly_1 9 42 rfl)
theorem dX2_showOpenly_74 : decode cX2_showOpenly 74 = .ok (.getfield 34, 3) := dw_180 (kcX2_showOpenly_1 10 180 rfl) (kcX2_showOpenly_1 11 0 rfl) (kcX2_showOpenly_1 12 34 rfl) rfl
theorem dX2_showOpenly_77 : decode cX2_showOpenly 77 = .ok (.iload_n 2, 1) := dw_28 (kcX2_showOpenly_1 13 28 rfl)
theorem dX2_showOpenly_78 : decode cX2_showOpenly 78 = .ok (.baload, 1) := dw_51 (kcX2_showOpenly_1 14 51 rfl)
theorem dX2_showOpenly_79 : decode cX2_showOpenly 79 = .ok (.ifCond .eq 8, 3) := dw_153 (kcX2_showOpenly_1 15 153 rfl) (kcX2_showOpenly_1 16 0 rfl) (kcX2_showOpenly_1 17 8 rfl) rfl
theorem dX2_showOpenly_87 : decode cX2_showOpenly 87 = .ok (.bipush (-3), 2) := dw_16 (kcX2_showOpenly_1 23 16 rfl) (kcX2_showOpenly_1 24 253 rfl) rfl
theorem dX2_showOpenly_89 : decode cX2_showOpenly 89 = .ok (.iastore, 1) := dw_79 (kcX2_showOpenly_1 25 79 rfl)
theorem dX2_showOpenly_90 : decode cX2_showOpenly 90 = .ok (.iinc 3 1, 3) := dw_132 (kcX2_showOpenly_1 26 132 rfl) (kcX2_showOpenly_1 27 3 rfl) (kcX2_showOpenly_1 28 1 rfl) rfl
theorem dX2_showOpenly_93 : decode cX2_showOpenly 93 = .ok (.goto (-65), 3) := dw_167 (kcX2_showOpenly_1 29 167 rfl) (kcX2_showOpenly_1 30 255 rfl) (kcX2_showOpenly_1 31 191 rfl) rfl
theorem dX2_showOpenly_82 : decode cX2_showOpenly 82 = .ok (.iload 5, 2) := dw_21 (kcX2_showOpenly_1 18 21 rfl) (kcX2_showOpenly_1 19 5 rfl)
theorem dX2_showOpenly_84 : decode cX2_showOpenly 84 = .ok (.goto 5, 3) := dw_167 (kcX2_showOpenly_1 20 167 rfl) (kcX2_showOpenly_1 21 0 rfl) (kcX2_showOpenly_1 22 5 rfl) rfl
theorem dX2_showOpenly_53 : decode cX2_showOpenly 53 = .ok (.bipush (-2), 2) := dw_16 (kcX2_showOpenly_0 53 16 rfl) (kcX2_showOpenly_0 54 254 rfl) rfl
theorem dX2_showOpenly_55 : decode cX2_showOpenly 55 = .ok (.goto 10, 3) := dw_167 (kcX2_showOpenly_0 55 167 rfl) (kcX2_showOpenly_0 56 0 rfl) (kcX2_showOpenly_0 57 10 rfl) rfl
theorem kcX1_at_0 : CHb cX1_at 0 [27, 155, 0, 27, 27, 42, 180, 0, 9, 162, 0, 19, 28, 155, 0, 15, 28, 42, 180, 0, 15, 162, 0, 7, 4, 167, 0, 4, 3, 62, 29, 153, 0, 16, 42, 180, 0, 18, 27, 28, 184, 0, 22, 46, 167, 0, 4, 2, 172] := CHb_of (by decide +kernel)
theorem dX1_at_0 : decode cX1_at 0 = .ok (.iload_n 1, 1) := dw_27 (kcX1_at_0 0 27 rfl)
theorem dX1_at_1 : decode cX1_at 1 = .ok (.ifCond .lt 27, 3) := dw_155 (kcX1_at_0 1 155 rfl) (kcX1_at_0 2 0 rfl) (kcX1_at_0 3 27 rfl) rfl
theorem dX1_at_28 : decode cX1_at 28 = .ok (.iconst 0, 1) := dw_3 (kcX1_at_0 28 3 rfl)
theorem dX1_at_29 : decode cX1_at 29 = .ok (.istore_n 3, 1) := dw_62 (kcX1_at_0 29 62 rfl)
theorem dX1_at_30 : decode cX1_at 30 = .ok (.iload_n 3, 1) := dw_29 (kcX1_at_0 30 29 rfl)
theorem dX1_at_31 : decode cX1_at 31 = .ok (.ifCond .eq 16, 3) := dw_153 (kcX1_at_0 31 153 rfl) (kcX1_at_0 32 0 rfl) (kcX1_at_0 33 16 rfl) rfl
theorem dX1_at_47 : decode cX1_at 47 = .ok (.iconst (-1), 1) := dw_2 (kcX1_at_0 47 2 rfl)
theorem dX1_at_48 : decode cX1_at 48 = .ok (.ireturn, 1) := dw_172 (kcX1_at_0 48 172 rfl)
theorem dX1_at_4 : decode cX1_at 4 = .ok (.iload_n 1, 1) := dw_27 (kcX1_at_0 4 27 rfl)
theorem dX1_at_5 : decode cX1_at 5 = .ok (.aload_n 0, 1) := dw_42 (kcX1_at_0 5 42 rfl)
theorem dX1_at_6 : decode cX1_at 6 = .ok (.getfield 9, 3) := dw_180 (kcX1_at_0 6 180 rfl) (kcX1_at_0 7 0 rfl) (kcX1_at_0 8 9 rfl) rfl
theorem dX1_at_9 : decode cX1_at 9 = .ok (.if_icmp .ge 19, 3) := dw_162 (kcX1_at_0 9 162 rfl) (kcX1_at_0 10 0 rfl) (kcX1_at_0 11 19 rfl) rfl
theorem dX1_at_12 : decode cX1_at 12 = .ok (.iload_n 2, 1) := dw_28 (kcX1_at_0 12 28 rfl)
theorem dX1_at_13 : decode cX1_at 13 = .ok (.ifCond .lt 15, 3) := dw_155 (kcX1_at_0 13 155 rfl) (kcX1_at_0 14 0 rfl) (kcX1_at_0 15 15 rfl) rfl
theorem dX1_at_16 : decode cX1_at 16 = .ok (.iload_n 2, 1) := dw_28 (kcX1_at_0 16 28 rfl)
theorem dX1_at_17 : decode cX1_at 17 = .ok (.aload_n 0, 1) := dw_42 (kcX1_at_0 17 42 rfl)
theorem dX1_at_18 : decode cX1_at 18 = .ok (.getfield 15, 3) := dw_180 (kcX1_at_0 18 180 rfl) (kcX1_at_0 19 0 rfl) (kcX1_at_0 20 15 rfl) rfl
theorem dX1_at_21 : decode cX1_at 21 = .ok (.if_icmp .ge 7, 3) := dw_162 (kcX1_at_0 21 162 rfl) (kcX1_at_0 22 0 rfl) (kcX1_at_0 23 7 rfl) rfl
theorem dX1_at_24 : decode cX1_at 24 = .ok (.iconst 1, 1) := dw_4 (kcX1_at_0 24 4 rfl)
theorem dX1_at_25 : decode cX1_at 25 = .ok (.goto 4, 3) := dw_167 (kcX1_at_0 25 167 rfl) (kcX1_at_0 26 0 rfl) (kcX1_at_0 27 4 rfl) rfl
theorem dX1_at_34 : decode cX1_at 34 = .ok (.aload_n 0, 1) := dw_42 (kcX1_at_0 34 42 rfl)
theorem dX1_at_35 : decode cX1_at 35 = .ok (.getfield 18, 3) := dw_180 (kcX1_at_0 35 180 rfl) (kcX1_at_0 36 0 rfl) (kcX1_at_0 37 18 rfl) rfl
theorem dX1_at_38 : decode cX1_at 38 = .ok (.iload_n 1, 1) := dw_27 (kcX1_at_0 38 27 rfl)
theorem dX1_at_39 : decode cX1_at 39 = .ok (.iload_n 2, 1) := dw_28 (kcX1_at_0 39 28 rfl)
theorem dX1_at_40 : decode cX1_at 40 = .ok (.invokestatic 22, 3) := dw_184 (kcX1_at_0 40 184 rfl) (kcX1_at_0 41 0 rfl) (kcX1_at_0 42 22 rfl) rfl
theorem dX1_at_43 : decode cX1_at 43 = .ok (.iaload, 1) := dw_46 (kcX1_at_0 43 46 rfl)
theorem dX1_at_44 : decode cX1_at 44 = .ok (.goto 4, 3) := dw_167 (kcX1_at_0 44 167 rfl) (kcX1_at_0 45 0 rfl) (kcX1_at_0 46 4 rfl) rfl
set_option maxHeartbeats 4000000 in
set_option maxRecDepth 100000 in
theorem c_X2_findFirst (l : Launch) (G : GG) (a b : Nat → Nat) (f : Nat → Int32) (r : Nat → Nat → Int32) (q : Nat → Nat → Int32) (rc : Int32) (rw cl : Nat) (hrw : rw ≤ 12) (hcl : cl ≤ 12) (h0 : f 0 = nI rw) (h1 : f 1 = nI cl) (i j : Nat) (hi : i < 12) (hj : j < 12) (gr : Int32) (hRB : RB adjR (q 0)) : WrV l yX2_findFirst cX2_findFirst 7 ({ frames := 5, cells := 0, slots := 0, locals := 131 }) G ([((a 15), .inr (2, [.int (f 0), .int (f 1), .int (f 2), .int (f 3), .int (f 4), .ref (b 3), .ref (a 6), .ref (a 7), .ref (a 8), .ref (a 9), .ref (a 10), .ref (a 11), .ref (a 12), .ref (a 13), .ref (a 14)])), ((a 6), .inl (G.2.2.1, 12, .inl (r 6))), ((a 7), .inl (G.2.1, 12, .inl (r 7))), ((a 8), .inl (G.2.1, 144, .inl (r 8))), ((a 9), .inl (G.2.1, 144, .inl (r 9))), ((a 10), .inl (G.2.1, 144, .inl (r 10))), ((a 11), .inl (G.2.2.1, 144, .inl (r 11))), ((a 12), .inl (G.2.1, 144, .inl (r 12))), ((a 13), .inl (G.2.1, 144, .inl (r 13))), ((a 14), .inl (G.2.1, 144, .inl (r 14))), ((b 3), .inr (5, [.ref (b 0), .ref (b 1), .ref (b 2), .int rc])), ((b 0), .inl (G.2.1, 25, .inl (q 0))), ((b 1), .inl (G.2.1, 25, .inl (q 1))), ((b 2), .inl (G.2.1, 25, .inl (q 2)))]) [.ref (a 15), .int (nI i), .int (nI j), .int gr] (fun w => ∃ (e4 : Int32) (r2 : Nat → Nat → Int32) (s2 bf qu : Nat → Int32) (rc2 : Int32), RB adjR s2 ∧ w = [((a 15), .inr (2, [.int (f 0), .int (f 1), .int (f 2), .int (f 3), .int e4, .ref (b 3), .ref (a 6), .ref (a 7), .ref (a 8), .ref (a 9), .ref (a 10), .ref (a 11), .ref (a 12), .ref (a 13), .ref (a 14)])), ((a 6), .inl (G.2.2.1, 12, .inl (r2 6))), ((a 7), .inl (G.2.1, 12, .inl (r2 7))), ((a 8), .inl (G.2.1, 144, .inl (r2 8))), ((a 9), .inl (G.2.1, 144, .inl (r2 9))), ((a 10), .inl (G.2.1, 144, .inl (r2 10))), ((a 11), .inl (G.2.2.1, 144, .inl (r2 11))), ((a 12), .inl (G.2.1, 144, .inl (r2 12))), ((a 13), .inl (G.2.1, 144, .inl (r2 13))), ((a 14), .inl (G.2.1, 144, .inl (r2 14))), ((b 3), .inr (5, [.ref (b 0), .ref (b 1), .ref (b 2), .int rc2])), ((b 0), .inl (G.2.1, 25, .inl s2)), ((b 1), .inl (G.2.1, 25, .inl bf)), ((b 2), .inl (G.2.1, 25, .inl qu))]) := by
  refine wr_entryV (by decide +kernel) (Nat.le_of_ble_eq_true rfl) ?_
  intro p e s m below meth c A C0 hP hK hD hA ls hl
  have hS : va_S A s.heap s.heap [] := va_S.rf
  obtain ⟨hx, hb, hml, hown, hts, hr, hlocks, hin⟩ := C0
  have hown : s.vm.findClass RX2 = some m.cls := hown
  have hl : lv_has ls 7 [(0, .ref (a 15)), (1, .int (nI i)), (2, .int (nI j)), (3, .int gr)] := hl
  refine lv_aload_n hx hb dX2_findFirst_0 rfl (lv_at hl 0 rfl) ?_
  refine lv_iload_n hx hb dX2_findFirst_1 rfl (lv_at hl 1 rfl) ?_
  refine lv_iload_n hx hb dX2_findFirst_2 rfl (lv_at hl 2 rfl) ?_
  refine lv_iload_n hx hb dX2_findFirst_3 rfl (lv_at hl 3 rfl) ?_
  refine wrVV (rest := []) (q0 := 0) ⟨hx, hb, hml, hown, hts⟩ (c_X2_moveToEnd l G a b (fun k => match k with | 0 => (f 0) | 1 => (f 1) | 2 => (f 2) | 3 => (f 3) | _ => (f 4)) (fun k => match k with | 6 => (r 6) | 7 => (r 7) | 8 => (r 8) | 9 => (r 9) | 10 => (r 10) | 11 => (r 11) | 12 => (r 12) | 13 => (r 13) | 14 => (r 14) | _ => (fun _ => 0)) (fun k => match k with | 0 => (q 0) | 1 => (q 1) | 2 => (q 2) | _ => (fun _ => 0)) (rc) rw cl hrw hcl h0 h1 i j (by omega) (by omega) gr hRB) mi_yX2_moveToEnd mv_yX2_moveToEnd ml_X2_158 ⟨rfl, rfl, Nat.le_of_ble_eq_true rfl, Nat.le_of_ble_eq_true rfl⟩ hK hP hD [0, 1, 2, 3, 4, 5, 6, 7, 8, 9, 10, 11, 12, 13] rfl (by decide) rfl rfl rfl hl.1 rfl (Nat.le_of_ble_eq_true rfl) dX2_findFirst_4 ⟨Nat.zero_le _, Nat.zero_le _⟩ hS hA (fun w2 H locs hw2 hP hS => ?_)
  obtain ⟨en3, rr4, ss5, bb6, qq7, cc8, hRB, rfl⟩ := hw2
  have h9_ := P_rg (s := 0) (hP rfl) rfl (Nat.le_of_ble_eq_true rfl)
  have hP : PP G [((a 15), .inr (2, [.int (f 0), .int (f 1), .int (f 2), .int (f 3), .int en3, .ref (b 3), .ref (a 6), .ref (a 7), .ref (a 8), .ref (a 9), .ref (a 10), .ref (a 11), .ref (a 12), .ref (a 13), .ref (a 14)])), ((a 6), .inl (G.2.2.1, 12, .inl (rr4 6))), ((a 7), .inl (G.2.1, 12, .inl (rr4 7))), ((a 8), .inl (G.2.1, 144, .inl (rr4 8))), ((a 9), .inl (G.2.1, 144, .inl (rr4 9))), ((a 10), .inl (G.2.1, 144, .inl (rr4 10))), ((a 11), .inl (G.2.2.1, 144, .inl (rr4 11))), ((a 12), .inl (G.2.1, 144, .inl (rr4 12))), ((a 13), .inl (G.2.1, 144, .inl (rr4 13))), ((a 14), .inl (G.2.1, 144, .inl (rr4 14))), ((b 3), .inr (5, [.ref (b 0), .ref (b 1), .ref (b 2), .int cc8])), ((b 0), .inl (G.2.1, 25, .inl ss5)), ((b 1), .inl (G.2.1, 25, .inl bb6)), ((b 2), .inl (G.2.1, 25, .inl qq7))] H := h9_
  have hD := D_as2 hP hD rfl
  refine lv_iconst (v := 0) hx hb dX2_findFirst_7 (by decide) ?_
  refine lv_istore (lv' := [(4, .int 0), (0, .ref (a 15)), (1, .int (nI i)), (2, .int (nI j)), (3, .int gr)]) hx hb dX2_findFirst_8 hl (by decide) rfl (fun ls hl => ?_)
  have outer : ∀ (k yy : Nat) (e4 : Int32) (r2 : Nat → Nat → Int32) (s2 bf qu : Nat → Int32) (rc2 : Int32), yy ≤ rw → rw < yy + k → RB adjR s2 → ∀ (H : Heap) (locs : List Loc) (ls : Array Slot), PP G ([((a 15), .inr (2, [.int (f 0), .int (f 1), .int (f 2), .int (f 3), .int e4, .ref (b 3), .ref (a 6), .ref (a 7), .ref (a 8), .ref (a 9), .ref (a 10), .ref (a 11), .ref (a 12), .ref (a 13), .ref (a 14)])), ((a 6), .inl (G.2.2.1, 12, .inl (r2 6))), ((a 7), .inl (G.2.1, 12, .inl (r2 7))), ((a 8), .inl (G.2.1, 144, .inl (r2 8))), ((a 9), .inl (G.2.1, 144, .inl (r2 9))), ((a 10), .inl (G.2.1, 144, .inl (r2 10))), ((a 11), .inl (G.2.2.1, 144, .inl (r2 11))), ((a 12), .inl (G.2.1, 144, .inl (r2 12))), ((a 13), .inl (G.2.1, 144, .inl (r2 13))), ((a 14), .inl (G.2.1, 144, .inl (r2 14))), ((b 3), .inr (5, [.ref (b 0), .ref (b 1), .ref (b 2), .int rc2])), ((b 0), .inl (G.2.1, 25, .inl s2)), ((b 1), .inl (G.2.1, 25, .inl bf)), ((b 2), .inl (G.2.1, 25, .inl qu))]) H → va_S A s.heap H locs → lv_has ls 7 [(0, .ref (a 15)), (1, .int (nI i)), (2, .int (nI j)), (4, .int (nI yy))] → W p l e ({ frames := 5, cells := 0, slots := 0, locals := 131 }) s m ([.ref (a 15), .int (nI i), .int (nI j), .int gr] : List Value).toArray below meth c H locs 0 0 (MQ below (QwV G (fun w => ∃ (e4 : Int32) (r2 : Nat → Nat → Int32) (s2 bf qu : Nat → Int32) (rc2 : Int32), RB adjR s2 ∧ w = [((a 15), .inr (2, [.int (f 0), .int (f 1), .int (f 2), .int (f 3), .int e4, .ref (b 3), .ref (a 6), .ref (a 7), .ref (a 8), .ref (a 9), .ref (a 10), .ref (a 11), .ref (a 12), .ref (a 13), .ref (a 14)])), ((a 6), .inl (G.2.2.1, 12, .inl (r2 6))), ((a 7), .inl (G.2.1, 12, .inl (r2 7))), ((a 8), .inl (G.2.1, 144, .inl (r2 8))), ((a 9), .inl (G.2.1, 144, .inl (r2 9))), ((a 10), .inl (G.2.1, 144, .inl (r2 10))), ((a 11), .inl (G.2.2.1, 144, .inl (r2 11))), ((a 12), .inl (G.2.1, 144, .inl (r2 12))), ((a 13), .inl (G.2.1, 144, .inl (r2 13))), ((a 14), .inl (G.2.1, 144, .inl (r2 14))), ((b 3), .inr (5, [.ref (b 0), .ref (b 1), .ref (b 2), .int rc2])), ((b 0), .inl (G.2.1, 25, .inl s2)), ((b 1), .inl (G.2.1, 25, .inl bf)), ((b 2), .inl (G.2.1, 25, .inl qu))]) A) ([.ref (a 15), .int (nI i), .int (nI j), .int gr] : List Value).toArray s 0 0 A) (F0 m 10 ls []) := by
    intro k
    induction k with
    | zero => intro yy e4 r2 s2 bf qu rc2 h1 h2; omega
    | succ k ih =>
      intro yy e4 r2 s2 bf qu rc2 hi_yy hk_yy hRB H locs ls hP hS hl
      have hD := D_as2 hP hD rfl
      refine lv_iload hx hb dX2_findFirst_10 (lv_at hl 3 rfl) ?_
      refine lv_aload_n hx hb dX2_findFirst_12 rfl (lv_at hl 0 rfl) ?_
      refine va_get (D := G.1) (ci := 2) (v := .int (f 0)) (C := RX2) (T := TX2) (N := 15) hx hb hts inX2 hown hK.1 hP 0 rfl rfl 0 (by decide) (hts _ mf_X2_9) (fun _ h9 => h9) rfl dX2_findFirst_13 ?_
      refine lv_icmp_ge (tgt := 142) hx hb dX2_findFirst_16 (by decide) (fun c9 => ?_) (fun c9 => ?_)
      · rw [h0] at c9
        have hge := ge_t (by omega) (by omega) c9
        have heq : yy = rw := by omega
        refine lv_aload_n hx hb dX2_findFirst_142 rfl (lv_at hl 0 rfl) ?_
        refine lv_bipush (v := -2) hx hb dX2_findFirst_143 (by decide) ?_
        refine va_put (D := G.1) (ci := 2) (v := .int (-2)) (C := RX2) (T := TX2) (N := 15) hx hb hts inX2 tyX2 tyX2_ok nmX2 hown hK.1 hP hD hS 0 rfl rfl 4 (by decide) (hts _ mf_X2_24) (fun _ h9 => h9) rfl (tyX2_ok 4 (by decide)) (rfl) (rfl) (Nat.le_of_ble_eq_true rfl) dX2_findFirst_145 (fun H locs hP hD hS => ?_)
        have hP : PP G [((a 15), .inr (2, [.int (f 0), .int (f 1), .int (f 2), .int (f 3), .int (-2), .ref (b 3), .ref (a 6), .ref (a 7), .ref (a 8), .ref (a 9), .ref (a 10), .ref (a 11), .ref (a 12), .ref (a 13), .ref (a 14)])), ((a 6), .inl (G.2.2.1, 12, .inl (r2 6))), ((a 7), .inl (G.2.1, 12, .inl (r2 7))), ((a 8), .inl (G.2.1, 144, .inl (r2 8))), ((a 9), .inl (G.2.1, 144, .inl (r2 9))), ((a 10), .inl (G.2.1, 144, .inl (r2 10))), ((a 11), .inl (G.2.2.1, 144, .inl (r2 11))), ((a 12), .inl (G.2.1, 144, .inl (r2 12))), ((a 13), .inl (G.2.1, 144, .inl (r2 13))), ((a 14), .inl (G.2.1, 144, .inl (r2 14))), ((b 3), .inr (5, [.ref (b 0), .ref (b 1), .ref (b 2), .int rc2])), ((b 0), .inl (G.2.1, 25, .inl s2)), ((b 1), .inl (G.2.1, 25, .inl bf)), ((b 2), .inl (G.2.1, 25, .inl qu))] H := hP
        have hD := D_as hP hD rfl
        exact wr_vret hx hb hr hlocks hS hP ⟨(-2), (fun k => match k with | 6 => (r2 6) | 7 => (r2 7) | 8 => (r2 8) | 9 => (r2 9) | 10 => (r2 10) | 11 => (r2 11) | 12 => (r2 12) | 13 => (r2 13) | 14 => (r2 14) | _ => (fun _ => 0)), s2, bf, qu, rc2, hRB, rfl⟩ dX2_findFirst_148
      · rw [h0] at c9
        have hlt := ge_f (by omega) (by omega) c9
        refine lv_aload_n hx hb dX2_findFirst_19 rfl (lv_at hl 0 rfl) ?_
        refine va_get (D := G.1) (ci := 2) (v := .ref (a 6)) (C := RX2) (T := TX2) (N := 15) hx hb hts inX2 hown hK.1 hP 0 rfl rfl 6 (by decide) (hts _ mf_X2_34) (fun _ h9 => h9) rfl dX2_findFirst_20 ?_
        refine lv_iload hx hb dX2_findFirst_23 (lv_at hl 3 rfl) ?_
        refine xzald hx hb hK hP 1 (yy) (rfl) (by omega) (by omega) rfl dX2_findFirst_25 ?_
        refine lv_topi (fun v10 ev10 => ?_)
        refine lv_if_ne (tgt := 32) hx hb dX2_findFirst_26 (by decide) (fun c11 => ?_) (fun c11 => ?_)
        · refine lv_aload_n hx hb dX2_findFirst_32 rfl (lv_at hl 0 rfl) ?_
          refine lv_aload_n hx hb dX2_findFirst_33 rfl (lv_at hl 0 rfl) ?_
          refine va_get (D := G.1) (ci := 2) (v := .ref (a 7)) (C := RX2) (T := TX2) (N := 15) hx hb hts inX2 hown hK.1 hP 0 rfl rfl 7 (by decide) (hts _ mf_X2_38) (fun _ h9 => h9) rfl dX2_findFirst_34 ?_
          refine lv_iload hx hb dX2_findFirst_37 (lv_at hl 3 rfl) ?_
          refine xiald hx hb hK hP 2 (yy) (rfl) (by omega) (by omega) rfl dX2_findFirst_39 ?_
          refine lv_topi (fun v12 ev12 => ?_)
          refine lv_iload hx hb dX2_findFirst_40 (lv_at hl 3 rfl) ?_
          refine wrVV (rest := []) (q0 := 0) ⟨hx, hb, hml, hown, hts⟩ (c_X2_enter l G a b (fun k => match k with | 0 => (f 0) | 1 => (f 1) | 2 => (f 2) | 3 => (f 3) | _ => e4) (fun k => match k with | 6 => (r2 6) | 7 => (r2 7) | 8 => (r2 8) | 9 => (r2 9) | 10 => (r2 10) | 11 => (r2 11) | 12 => (r2 12) | 13 => (r2 13) | 14 => (r2 14) | _ => (fun _ => 0)) (fun k => match k with | 0 => s2 | 1 => bf | 2 => qu | _ => (fun _ => 0)) (rc2) rw cl hrw hcl h0 h1 v12 yy (by omega)) mi_yX2_enter mv_yX2_enter ml_X2_146 ⟨rfl, rfl, Nat.le_of_ble_eq_true rfl, Nat.le_of_ble_eq_true rfl⟩ hK hP hD [0, 1, 2, 3, 4, 5, 6, 7, 8, 9, 10, 11, 12, 13] rfl (by decide) rfl rfl rfl hl.1 rfl (Nat.le_of_ble_eq_true rfl) dX2_findFirst_42 ⟨Nat.zero_le _, Nat.zero_le _⟩ hS hA (fun w14 H locs hw14 hP hS => ?_)
          obtain ⟨en15, ss16, hRB, rfl⟩ := hw14
          have h9_ := P_rg (s := 0) (hP rfl) rfl (Nat.le_of_ble_eq_true rfl)
          have hP : PP G [((a 15), .inr (2, [.int (f 0), .int (f 1), .int (f 2), .int (f 3), .int en15, .ref (b 3), .ref (a 6), .ref (a 7), .ref (a 8), .ref (a 9), .ref (a 10), .ref (a 11), .ref (a 12), .ref (a 13), .ref (a 14)])), ((a 6), .inl (G.2.2.1, 12, .inl (r2 6))), ((a 7), .inl (G.2.1, 12, .inl (r2 7))), ((a 8), .inl (G.2.1, 144, .inl (r2 8))), ((a 9), .inl (G.2.1, 144, .inl (r2 9))), ((a 10), .inl (G.2.1, 144, .inl (r2 10))), ((a 11), .inl (G.2.2.1, 144, .inl (r2 11))), ((a 12), .inl (G.2.1, 144, .inl (r2 12))), ((a 13), .inl (G.2.1, 144, .inl (r2 13))), ((a 14), .inl (G.2.1, 144, .inl (r2 14))), ((b 3), .inr (5, [.ref (b 0), .ref (b 1), .ref (b 2), .int rc2])), ((b 0), .inl (G.2.1, 25, .inl ss16)), ((b 1), .inl (G.2.1, 25, .inl bf)), ((b 2), .inl (G.2.1, 25, .inl qu))] H := h9_
          have hD := D_as2 hP hD rfl
          refine lv_aload_n hx hb dX2_findFirst_45 rfl (lv_at hl 0 rfl) ?_
          refine va_get (D := G.1) (ci := 2) (v := .ref (b 3)) (C := RX2) (T := TX2) (N := 15) hx hb hts inX2 hown hK.1 hP 0 rfl rfl 5 (by decide) (hts _ mf_X2_30) (fun _ h9 => h9) rfl dX2_findFirst_46 ?_
          refine lv_iload_n hx hb dX2_findFirst_49 rfl (lv_at hl 1 rfl) ?_
          refine lv_bipush (v := 12) hx hb dX2_findFirst_50 (by decide) ?_
          refine lv_iload_n hx hb dX2_findFirst_52 rfl (lv_at hl 2 rfl) ?_
          refine lv_iadd hx hb dX2_findFirst_53 ?_
          refine lv_topi (fun v17 ev17 => ?_)
          obtain rfl : v17 = nI (12 + j) := nI_plus (i := 12) ev17 rfl rfl
          refine lv_iconst (v := 0) hx hb dX2_findFirst_54 (by decide) ?_
          refine lv_iconst (v := 0) hx hb dX2_findFirst_55 (by decide) ?_
          refine wrVV (rest := []) (q0 := 0) ⟨hx, hb, hml, hown, hts⟩ (c_X5_join l G b (fun k => match k with | 0 => ss16 | 1 => bf | 2 => qu | _ => (fun _ => 0)) (rc2) i (12 + j) 0 0 (by omega) (by omega)) mi_yX5_join mv_yX5_join ml_X2_120 ⟨rfl, rfl, Nat.le_of_ble_eq_true rfl, Nat.le_of_ble_eq_true rfl⟩ hK hP hD [10, 11, 12, 13] rfl (by decide) rfl rfl rfl hl.1 rfl (Nat.le_of_ble_eq_true rfl) dX2_findFirst_56 ⟨Nat.zero_le _, Nat.zero_le _⟩ hS hA (fun w19 H locs hw19 hP hS => ?_)
          obtain rfl := hw19
          have hRB := RB_join 0 0 hRB (adjR1 (i := i) (j := j) (by omega) (by omega)) (adjR2 (by omega) (by omega)) (by omega) (by omega)
          have hP : PP G [((a 15), .inr (2, [.int (f 0), .int (f 1), .int (f 2), .int (f 3), .int en15, .ref (b 3), .ref (a 6), .ref (a 7), .ref (a 8), .ref (a 9), .ref (a 10), .ref (a 11), .ref (a 12), .ref (a 13), .ref (a 14)])), ((a 6), .inl (G.2.2.1, 12, .inl (r2 6))), ((a 7), .inl (G.2.1, 12, .inl (r2 7))), ((a 8), .inl (G.2.1, 144, .inl (r2 8))), ((a 9), .inl (G.2.1, 144, .inl (r2 9))), ((a 10), .inl (G.2.1, 144, .inl (r2 10))), ((a 11), .inl (G.2.2.1, 144, .inl (r2 11))), ((a 12), .inl (G.2.1, 144, .inl (r2 12))), ((a 13), .inl (G.2.1, 144, .inl (r2 13))), ((a 14), .inl (G.2.1, 144, .inl (r2 14))), ((b 3), .inr (5, [.ref (b 0), .ref (b 1), .ref (b 2), .int rc2])), ((b 0), .inl (G.2.1, 25, .inl (jnF ss16 i (12 + j) 0 0))), ((b 1), .inl (G.2.1, 25, .inl bf)), ((b 2), .inl (G.2.1, 25, .inl qu))] H := hP rfl
          have hD := D_as2 hP hD rfl
          refine lv_iconst (v := 0) hx hb dX2_findFirst_59 (by decide) ?_
          refine lv_istore (lv' := [(5, .int 0), (0, .ref (a 15)), (1, .int (nI i)), (2, .int (nI j)), (4, .int (nI yy))]) hx hb dX2_findFirst_60 hl (by decide) rfl (fun ls hl => ?_)
          have inner : ∀ (k2 zz : Nat) (e4 : Int32) (r2 : Nat → Nat → Int32) (s2 bf qu : Nat → Int32) (rc2 : Int32), zz ≤ cl → cl < zz + k2 → RB adjR s2 → ∀ (H : Heap) (locs : List Loc) (ls : Array Slot), PP G ([((a 15), .inr (2, [.int (f 0), .int (f 1), .int (f 2), .int (f 3), .int e4, .ref (b 3), .ref (a 6), .ref (a 7), .ref (a 8), .ref (a 9), .ref (a 10), .ref (a 11), .ref (a 12), .ref (a 13), .ref (a 14)])), ((a 6), .inl (G.2.2.1, 12, .inl (r2 6))), ((a 7), .inl (G.2.1, 12, .inl (r2 7))), ((a 8), .inl (G.2.1, 144, .inl (r2 8))), ((a 9), .inl (G.2.1, 144, .inl (r2 9))), ((a 10), .inl (G.2.1, 144, .inl (r2 10))), ((a 11), .inl (G.2.2.1, 144, .inl (r2 11))), ((a 12), .inl (G.2.1, 144, .inl (r2 12))), ((a 13), .inl (G.2.1, 144, .inl (r2 13))), ((a 14), .inl (G.2.1, 144, .inl (r2 14))), ((b 3), .inr (5, [.ref (b 0), .ref (b 1), .ref (b 2), .int rc2])), ((b 0), .inl (G.2.1, 25, .inl s2)), ((b 1), .inl (G.2.1, 25, .inl bf)), ((b 2), .inl (G.2.1, 25, .inl qu))]) H → va_S A s.heap H locs → lv_has ls 7 [(0, .ref (a 15)), (1, .int (nI i)), (2, .int (nI j)), (4, .int (nI yy)), (5, .int (nI zz))] → W p l e ({ frames := 5, cells := 0, slots := 0, locals := 131 }) s m ([.ref (a 15), .int (nI i), .int (nI j), .int gr] : List Value).toArray below meth c H locs 0 0 (MQ below (QwV G (fun w => ∃ (e4 : Int32) (r2 : Nat → Nat → Int32) (s2 bf qu : Nat → Int32) (rc2 : Int32), RB adjR s2 ∧ w = [((a 15), .inr (2, [.int (f 0), .int (f 1), .int (f 2), .int (f 3), .int e4, .ref (b 3), .ref (a 6), .ref (a 7), .ref (a 8), .ref (a 9), .ref (a 10), .ref (a 11), .ref (a 12), .ref (a 13), .ref (a 14)])), ((a 6), .inl (G.2.2.1, 12, .inl (r2 6))), ((a 7), .inl (G.2.1, 12, .inl (r2 7))), ((a 8), .inl (G.2.1, 144, .inl (r2 8))), ((a 9), .inl (G.2.1, 144, .inl (r2 9))), ((a 10), .inl (G.2.1, 144, .inl (r2 10))), ((a 11), .inl (G.2.2.1, 144, .inl (r2 11))), ((a 12), .inl (G.2.1, 144, .inl (r2 12))), ((a 13), .inl (G.2.1, 144, .inl (r2 13))), ((a 14), .inl (G.2.1, 144, .inl (r2 14))), ((b 3), .inr (5, [.ref (b 0), .ref (b 1), .ref (b 2), .int rc2])), ((b 0), .inl (G.2.1, 25, .inl s2)), ((b 1), .inl (G.2.1, 25, .inl bf)), ((b 2), .inl (G.2.1, 25, .inl qu))]) A) ([.ref (a 15), .int (nI i), .int (nI j), .int gr] : List Value).toArray s 0 0 A) (F0 m 62 ls []) := by
            intro k2
            induction k2 with
            | zero => intro zz e4 r2 s2 bf qu rc2 h1 h2; omega
            | succ k2 ih2 =>
              intro zz e4 r2 s2 bf qu rc2 hi_zz hk_zz hRB H locs ls hP hS hl
              have hD := D_as2 hP hD rfl
              refine lv_iload hx hb dX2_findFirst_62 (lv_at hl 4 rfl) ?_
              refine lv_aload_n hx hb dX2_findFirst_64 rfl (lv_at hl 0 rfl) ?_
              refine va_get (D := G.1) (ci := 2) (v := .int (f 1)) (C := RX2) (T := TX2) (N := 15) hx hb hts inX2 hown hK.1 hP 0 rfl rfl 1 (by decide) (hts _ mf_X2_15) (fun _ h9 => h9) rfl dX2_findFirst_65 ?_
              refine lv_icmp_ge (tgt := 136) hx hb dX2_findFirst_68 (by decide) (fun c20 => ?_) (fun c20 => ?_)
              · rw [h1] at c20
                have hge2 := ge_t (by omega) (by omega) c20
                have heq2 : zz = cl := by omega
                obtain ⟨v21, ev21⟩ : ∃ y : Int32, y = (nI yy) + Int32.ofInt (1) := ⟨_, rfl⟩
                refine lv_iinc (v := v21) (lv' := [(4, .int v21), (0, .ref (a 15)), (1, .int (nI i)), (2, .int (nI j)), (5, .int (nI zz))]) hx hb dX2_findFirst_136 hl (k := 3) rfl ev21.symm (by decide) rfl (fun ls hl => ?_)
                refine lv_goto (tgt := 10) hx hb dX2_findFirst_139 (by decide) ?_
                exact ih (yy + 1) (e4) (fun k => match k with | 6 => (r2 6) | 7 => (r2 7) | 8 => (r2 8) | 9 => (r2 9) | 10 => (r2 10) | 11 => (r2 11) | 12 => (r2 12) | 13 => (r2 13) | 14 => (r2 14) | _ => (fun _ => 0)) s2 bf qu (rc2) (by omega) (by omega) hRB _ _ _ hP hS (by have e := nI_inc ev21; rw [e] at hl; exact lv_sub hl [1, 2, 3, 0] rfl)
              · rw [h1] at c20
                have hlt2 := ge_f (by omega) (by omega) c20
                refine lv_iload hx hb dX2_findFirst_71 (lv_at hl 3 rfl) ?_
                refine lv_iload_n hx hb dX2_findFirst_73 rfl (lv_at hl 1 rfl) ?_
                refine lv_icmp_ne (tgt := 87) hx hb dX2_findFirst_74 (by decide) (fun c22 => ?_) (fun c22 => ?_)
                · refine lv_iconst (v := 0) hx hb dX2_findFirst_87 (by decide) ?_
                  refine lv_istore (lv' := [(6, .int 0), (0, .ref (a 15)), (1, .int (nI i)), (2, .int (nI j)), (4, .int (nI yy)), (5, .int (nI zz))]) hx hb dX2_findFirst_88 hl (by decide) rfl (fun ls hl => ?_)
                  refine lv_aload_n hx hb dX2_findFirst_90 rfl (lv_at hl 1 rfl) ?_
                  refine va_get (D := G.1) (ci := 2) (v := .ref (a 11)) (C := RX2) (T := TX2) (N := 15) hx hb hts inX2 hown hK.1 hP 0 rfl rfl 11 (by decide) (hts _ mf_X2_51) (fun _ h9 => h9) rfl dX2_findFirst_91 ?_
                  refine lv_iload hx hb dX2_findFirst_94 (lv_at hl 4 rfl) ?_
                  refine lv_iload hx hb dX2_findFirst_96 (lv_at hl 5 rfl) ?_
                  refine rdSN (rest := [.ref (a 11)]) ⟨hx, hb, hml, hown, hts⟩ (c_X6_spotOf l G ((nI yy)) ((nI zz))) mi_yX6_spotOf mst_yX6_spotOf (by decide +kernel) ⟨rfl, rfl, Nat.le_of_ble_eq_true rfl, Nat.le_of_ble_eq_true rfl⟩ hK (fun k q h => by simp at h) rfl hl.1 rfl (Nat.le_of_ble_eq_true rfl) dX2_findFirst_98 ⟨Nat.zero_le _, Nat.zero_le _⟩ hS hA hP (fun r23 H locs hr23 hP hS => ?_)
                  obtain rfl : r23 = nI (yy * 12 + zz) := spot_eq hr23
                  refine xzald hx hb hK hP 6 (yy * 12 + zz) (rfl) (by omega) (by omega) rfl dX2_findFirst_101 ?_
                  refine lv_topi (fun v24 ev24 => ?_)
                  refine lv_if_eq (tgt := 130) hx hb dX2_findFirst_102 (by decide) (fun c25 => ?_) (fun c25 => ?_)
                  · obtain ⟨v26, ev26⟩ : ∃ y : Int32, y = (nI zz) + Int32.ofInt (1) := ⟨_, rfl⟩
                    refine lv_iinc (v := v26) (lv' := [(5, .int v26), (6, .int 0), (0, .ref (a 15)), (1, .int (nI i)), (2, .int (nI j)), (4, .int (nI yy))]) hx hb dX2_findFirst_130 hl (k := 5) rfl ev26.symm (by decide) rfl (fun ls hl => ?_)
                    refine lv_goto (tgt := 62) hx hb dX2_findFirst_133 (by decide) ?_
                    exact ih2 (zz + 1) (e4) (fun k => match k with | 6 => (r2 6) | 7 => (r2 7) | 8 => (r2 8) | 9 => (r2 9) | 10 => (r2 10) | 11 => (r2 11) | 12 => (r2 12) | 13 => (r2 13) | 14 => (r2 14) | _ => (fun _ => 0)) s2 bf qu (rc2) (by omega) (by omega) hRB _ _ _ hP hS (by have e := nI_inc ev26; rw [e] at hl; exact lv_sub hl [2, 3, 4, 5, 0] rfl)
                  · refine lv_iload hx hb dX2_findFirst_105 (lv_at hl 0 rfl) ?_
                    refine lv_if_ne (tgt := 130) hx hb dX2_findFirst_107 (by decide) (fun c27 => absurd (by decide) c27) (fun _ => ?_)
                    refine lv_aload_n hx hb dX2_findFirst_110 rfl (lv_at hl 1 rfl) ?_
                    refine lv_iload hx hb dX2_findFirst_111 (lv_at hl 4 rfl) ?_
                    refine lv_iload hx hb dX2_findFirst_113 (lv_at hl 5 rfl) ?_
                    refine lv_aload_n hx hb dX2_findFirst_115 rfl (lv_at hl 1 rfl) ?_
                    refine va_get (D := G.1) (ci := 2) (v := .ref (a 13)) (C := RX2) (T := TX2) (N := 15) hx hb hts inX2 hown hK.1 hP 0 rfl rfl 13 (by decide) (hts _ mf_X2_57) (fun _ h9 => h9) rfl dX2_findFirst_116 ?_
                    refine lv_iload hx hb dX2_findFirst_119 (lv_at hl 4 rfl) ?_
                    refine lv_iload hx hb dX2_findFirst_121 (lv_at hl 5 rfl) ?_
                    refine rdSN (rest := [.ref (a 13), .int (nI zz), .int (nI yy), .ref (a 15)]) ⟨hx, hb, hml, hown, hts⟩ (c_X6_spotOf l G ((nI yy)) ((nI zz))) mi_yX6_spotOf mst_yX6_spotOf (by decide +kernel) ⟨rfl, rfl, Nat.le_of_ble_eq_true rfl, Nat.le_of_ble_eq_true rfl⟩ hK (fun k q h => by simp at h) rfl hl.1 rfl (Nat.le_of_ble_eq_true rfl) dX2_findFirst_123 ⟨Nat.zero_le _, Nat.zero_le _⟩ hS hA hP (fun r28 H locs hr28 hP hS => ?_)
                    obtain rfl : r28 = nI (yy * 12 + zz) := spot_eq hr28
                    refine xiald hx hb hK hP 8 (yy * 12 + zz) (rfl) (by omega) (by omega) rfl dX2_findFirst_126 ?_
                    refine lv_topi (fun v29 ev29 => ?_)
                    refine wrVV (rest := []) (q0 := 0) ⟨hx, hb, hml, hown, hts⟩ (c_X2_draw l G a b (fun k => match k with | 0 => (f 0) | 1 => (f 1) | 2 => (f 2) | 3 => (f 3) | _ => e4) (fun k => match k with | 6 => (r2 6) | 7 => (r2 7) | 8 => (r2 8) | 9 => (r2 9) | 10 => (r2 10) | 11 => (r2 11) | 12 => (r2 12) | 13 => (r2 13) | 14 => (r2 14) | _ => (fun _ => 0)) (fun k => match k with | 0 => s2 | 1 => bf | 2 => qu | _ => (fun _ => 0)) (rc2) (yy) (zz) v29 (by omega) (by omega) hRB) mi_yX2_draw mv_yX2_draw ml_X2_149 ⟨rfl, rfl, Nat.le_of_ble_eq_true rfl, Nat.le_of_ble_eq_true rfl⟩ hK hP hD [0, 1, 2, 3, 4, 5, 6, 7, 8, 9, 10, 11, 12, 13] rfl (by decide) rfl rfl rfl hl.1 rfl (Nat.le_of_ble_eq_true rfl) dX2_findFirst_127 ⟨Nat.zero_le _, Nat.zero_le _⟩ hS hA (fun w31 H locs hw31 hP hS => ?_)
                    obtain ⟨rr32, ss33, bb34, qq35, cc36, hRB, rfl⟩ := hw31
                    have h9_ := P_rg (s := 0) (hP rfl) rfl (Nat.le_of_ble_eq_true rfl)
                    have hP : PP G [((a 15), .inr (2, [.int (f 0), .int (f 1), .int (f 2), .int (f 3), .int e4, .ref (b 3), .ref (a 6), .ref (a 7), .ref (a 8), .ref (a 9), .ref (a 10), .ref (a 11), .ref (a 12), .ref (a 13), .ref (a 14)])), ((a 6), .inl (G.2.2.1, 12, .inl (rr32 6))), ((a 7), .inl (G.2.1, 12, .inl (rr32 7))), ((a 8), .inl (G.2.1, 144, .inl (rr32 8))), ((a 9), .inl (G.2.1, 144, .inl (rr32 9))), ((a 10), .inl (G.2.1, 144, .inl (rr32 10))), ((a 11), .inl (G.2.2.1, 144, .inl (rr32 11))), ((a 12), .inl (G.2.1, 144, .inl (rr32 12))), ((a 13), .inl (G.2.1, 144, .inl (rr32 13))), ((a 14), .inl (G.2.1, 144, .inl (rr32 14))), ((b 3), .inr (5, [.ref (b 0), .ref (b 1), .ref (b 2), .int cc36])), ((b 0), .inl (G.2.1, 25, .inl ss33)), ((b 1), .inl (G.2.1, 25, .inl bb34)), ((b 2), .inl (G.2.1, 25, .inl qq35))] H := h9_
                    have hD := D_as2 hP hD rfl
                    obtain ⟨v37, ev37⟩ : ∃ y : Int32, y = (nI zz) + Int32.ofInt (1) := ⟨_, rfl⟩
                    refine lv_iinc (v := v37) (lv' := [(5, .int v37), (6, .int 0), (0, .ref (a 15)), (1, .int (nI i)), (2, .int (nI j)), (4, .int (nI yy))]) hx hb dX2_findFirst_130 hl (k := 5) rfl ev37.symm (by decide) rfl (fun ls hl => ?_)
                    refine lv_goto (tgt := 62) hx hb dX2_findFirst_133 (by decide) ?_
                    exact ih2 (zz + 1) (e4) (fun k => match k with | 6 => (rr32 6) | 7 => (rr32 7) | 8 => (rr32 8) | 9 => (rr32 9) | 10 => (rr32 10) | 11 => (rr32 11) | 12 => (rr32 12) | 13 => (rr32 13) | 14 => (rr32 14) | _ => (fun _ => 0)) ss33 bb34 qq35 (cc36) (by omega) (by omega) hRB _ _ _ hP hS (by have e := nI_inc ev37; rw [e] at hl; exact lv_sub hl [2, 3, 4, 5, 0] rfl)
                · refine lv_iload hx hb dX2_findFirst_77 (lv_at hl 4 rfl) ?_
                  refine lv_iload_n hx hb dX2_findFirst_79 rfl (lv_at hl 2 rfl) ?_
                  refine lv_icmp_ne (tgt := 87) hx hb dX2_findFirst_80 (by decide) (fun c38 => ?_) (fun c38 => ?_)
                  · refine lv_iconst (v := 0) hx hb dX2_findFirst_87 (by decide) ?_
                    refine lv_istore (lv' := [(6, .int 0), (0, .ref (a 15)), (1, .int (nI i)), (2, .int (nI j)), (4, .int (nI yy)), (5, .int (nI zz))]) hx hb dX2_findFirst_88 hl (by decide) rfl (fun ls hl => ?_)
                    refine lv_aload_n hx hb dX2_findFirst_90 rfl (lv_at hl 1 rfl) ?_
                    refine va_get (D := G.1) (ci := 2) (v := .ref (a 11)) (C := RX2) (T := TX2) (N := 15) hx hb hts inX2 hown hK.1 hP 0 rfl rfl 11 (by decide) (hts _ mf_X2_51) (fun _ h9 => h9) rfl dX2_findFirst_91 ?_
                    refine lv_iload hx hb dX2_findFirst_94 (lv_at hl 4 rfl) ?_
                    refine lv_iload hx hb dX2_findFirst_96 (lv_at hl 5 rfl) ?_
                    refine rdSN (rest := [.ref (a 11)]) ⟨hx, hb, hml, hown, hts⟩ (c_X6_spotOf l G ((nI yy)) ((nI zz))) mi_yX6_spotOf mst_yX6_spotOf (by decide +kernel) ⟨rfl, rfl, Nat.le_of_ble_eq_true rfl, Nat.le_of_ble_eq_true rfl⟩ hK (fun k q h => by simp at h) rfl hl.1 rfl (Nat.le_of_ble_eq_true rfl) dX2_findFirst_98 ⟨Nat.zero_le _, Nat.zero_le _⟩ hS hA hP (fun r39 H locs hr39 hP hS => ?_)
                    obtain rfl : r39 = nI (yy * 12 + zz) := spot_eq hr39
                    refine xzald hx hb hK hP 6 (yy * 12 + zz) (rfl) (by omega) (by omega) rfl dX2_findFirst_101 ?_
                    refine lv_topi (fun v40 ev40 => ?_)
                    refine lv_if_eq (tgt := 130) hx hb dX2_findFirst_102 (by decide) (fun c41 => ?_) (fun c41 => ?_)
                    · obtain ⟨v42, ev42⟩ : ∃ y : Int32, y = (nI zz) + Int32.ofInt (1) := ⟨_, rfl⟩
                      refine lv_iinc (v := v42) (lv' := [(5, .int v42), (6, .int 0), (0, .ref (a 15)), (1, .int (nI i)), (2, .int (nI j)), (4, .int (nI yy))]) hx hb dX2_findFirst_130 hl (k := 5) rfl ev42.symm (by decide) rfl (fun ls hl => ?_)
                      refine lv_goto (tgt := 62) hx hb dX2_findFirst_133 (by decide) ?_
                      exact ih2 (zz + 1) (e4) (fun k => match k with | 6 => (r2 6) | 7 => (r2 7) | 8 => (r2 8) | 9 => (r2 9) | 10 => (r2 10) | 11 => (r2 11) | 12 => (r2 12) | 13 => (r2 13) | 14 => (r2 14) | _ => (fun _ => 0)) s2 bf qu (rc2) (by omega) (by omega) hRB _ _ _ hP hS (by have e := nI_inc ev42; rw [e] at hl; exact lv_sub hl [2, 3, 4, 5, 0] rfl)
                    · refine lv_iload hx hb dX2_findFirst_105 (lv_at hl 0 rfl) ?_
                      refine lv_if_ne (tgt := 130) hx hb dX2_findFirst_107 (by decide) (fun c43 => absurd (by decide) c43) (fun _ => ?_)
                      refine lv_aload_n hx hb dX2_findFirst_110 rfl (lv_at hl 1 rfl) ?_
                      refine lv_iload hx hb dX2_findFirst_111 (lv_at hl 4 rfl) ?_
                      refine lv_iload hx hb dX2_findFirst_113 (lv_at hl 5 rfl) ?_
                      refine lv_aload_n hx hb dX2_findFirst_115 rfl (lv_at hl 1 rfl) ?_
                      refine va_get (D := G.1) (ci := 2) (v := .ref (a 13)) (C := RX2) (T := TX2) (N := 15) hx hb hts inX2 hown hK.1 hP 0 rfl rfl 13 (by decide) (hts _ mf_X2_57) (fun _ h9 => h9) rfl dX2_findFirst_116 ?_
                      refine lv_iload hx hb dX2_findFirst_119 (lv_at hl 4 rfl) ?_
                      refine lv_iload hx hb dX2_findFirst_121 (lv_at hl 5 rfl) ?_
                      refine rdSN (rest := [.ref (a 13), .int (nI zz), .int (nI yy), .ref (a 15)]) ⟨hx, hb, hml, hown, hts⟩ (c_X6_spotOf l G ((nI yy)) ((nI zz))) mi_yX6_spotOf mst_yX6_spotOf (by decide +kernel) ⟨rfl, rfl, Nat.le_of_ble_eq_true rfl, Nat.le_of_ble_eq_true rfl⟩ hK (fun k q h => by simp at h) rfl hl.1 rfl (Nat.le_of_ble_eq_true rfl) dX2_findFirst_123 ⟨Nat.zero_le _, Nat.zero_le _⟩ hS hA hP (fun r44 H locs hr44 hP hS => ?_)
                      obtain rfl : r44 = nI (yy * 12 + zz) := spot_eq hr44
                      refine xiald hx hb hK hP 8 (yy * 12 + zz) (rfl) (by omega) (by omega) rfl dX2_findFirst_126 ?_
                      refine lv_topi (fun v45 ev45 => ?_)
                      refine wrVV (rest := []) (q0 := 0) ⟨hx, hb, hml, hown, hts⟩ (c_X2_draw l G a b (fun k => match k with | 0 => (f 0) | 1 => (f 1) | 2 => (f 2) | 3 => (f 3) | _ => e4) (fun k => match k with | 6 => (r2 6) | 7 => (r2 7) | 8 => (r2 8) | 9 => (r2 9) | 10 => (r2 10) | 11 => (r2 11) | 12 => (r2 12) | 13 => (r2 13) | 14 => (r2 14) | _ => (fun _ => 0)) (fun k => match k with | 0 => s2 | 1 => bf | 2 => qu | _ => (fun _ => 0)) (rc2) (yy) (zz) v45 (by omega) (by omega) hRB) mi_yX2_draw mv_yX2_draw ml_X2_149 ⟨rfl, rfl, Nat.le_of_ble_eq_true rfl, Nat.le_of_ble_eq_true rfl⟩ hK hP hD [0, 1, 2, 3, 4, 5, 6, 7, 8, 9, 10, 11, 12, 13] rfl (by decide) rfl rfl rfl hl.1 rfl (Nat.le_of_ble_eq_true rfl) dX2_findFirst_127 ⟨Nat.zero_le _, Nat.zero_le _⟩ hS hA (fun w47 H locs hw47 hP hS => ?_)
                      obtain ⟨rr48, ss49, bb50, qq51, cc52, hRB, rfl⟩ := hw47
                      have h9_ := P_rg (s := 0) (hP rfl) rfl (Nat.le_of_ble_eq_true rfl)
                      have hP : PP G [((a 15), .inr (2, [.int (f 0), .int (f 1), .int (f 2), .int (f 3), .int e4, .ref (b 3), .ref (a 6), .ref (a 7), .ref (a 8), .ref (a 9), .ref (a 10), .ref (a 11), .ref (a 12), .ref (a 13), .ref (a 14)])), ((a 6), .inl (G.2.2.1, 12, .inl (rr48 6))), ((a 7), .inl (G.2.1, 12, .inl (rr48 7))), ((a 8), .inl (G.2.1, 144, .inl (rr48 8))), ((a 9), .inl (G.2.1, 144, .inl (rr48 9))), ((a 10), .inl (G.2.1, 144, .inl (rr48 10))), ((a 11), .inl (G.2.2.1, 144, .inl (rr48 11))), ((a 12), .inl (G.2.1, 144, .inl (rr48 12))), ((a 13), .inl (G.2.1, 144, .inl (rr48 13))), ((a 14), .inl (G.2.1, 144, .inl (rr48 14))), ((b 3), .inr (5, [.ref (b 0), .ref (b 1), .ref (b 2), .int cc52])), ((b 0), .inl (G.2.1, 25, .inl ss49)), ((b 1), .inl (G.2.1, 25, .inl bb50)), ((b 2), .inl (G.2.1, 25, .inl qq51))] H := h9_
                      have hD := D_as2 hP hD rfl
                      obtain ⟨v53, ev53⟩ : ∃ y : Int32, y = (nI zz) + Int32.ofInt (1) := ⟨_, rfl⟩
                      refine lv_iinc (v := v53) (lv' := [(5, .int v53), (6, .int 0), (0, .ref (a 15)), (1, .int (nI i)), (2, .int (nI j)), (4, .int (nI yy))]) hx hb dX2_findFirst_130 hl (k := 5) rfl ev53.symm (by decide) rfl (fun ls hl => ?_)
                      refine lv_goto (tgt := 62) hx hb dX2_findFirst_133 (by decide) ?_
                      exact ih2 (zz + 1) (e4) (fun k => match k with | 6 => (rr48 6) | 7 => (rr48 7) | 8 => (rr48 8) | 9 => (rr48 9) | 10 => (rr48 10) | 11 => (rr48 11) | 12 => (rr48 12) | 13 => (rr48 13) | 14 => (rr48 14) | _ => (fun _ => 0)) ss49 bb50 qq51 (cc52) (by omega) (by omega) hRB _ _ _ hP hS (by have e := nI_inc ev53; rw [e] at hl; exact lv_sub hl [2, 3, 4, 5, 0] rfl)
                  · refine lv_iconst (v := 1) hx hb dX2_findFirst_83 (by decide) ?_
                    refine lv_goto (tgt := 88) hx hb dX2_findFirst_84 (by decide) ?_
                    refine lv_istore (lv' := [(6, .int 1), (0, .ref (a 15)), (1, .int (nI i)), (2, .int (nI j)), (4, .int (nI yy)), (5, .int (nI zz))]) hx hb dX2_findFirst_88 hl (by decide) rfl (fun ls hl => ?_)
                    refine lv_aload_n hx hb dX2_findFirst_90 rfl (lv_at hl 1 rfl) ?_
                    refine va_get (D := G.1) (ci := 2) (v := .ref (a 11)) (C := RX2) (T := TX2) (N := 15) hx hb hts inX2 hown hK.1 hP 0 rfl rfl 11 (by decide) (hts _ mf_X2_51) (fun _ h9 => h9) rfl dX2_findFirst_91 ?_
                    refine lv_iload hx hb dX2_findFirst_94 (lv_at hl 4 rfl) ?_
                    refine lv_iload hx hb dX2_findFirst_96 (lv_at hl 5 rfl) ?_
                    refine rdSN (rest := [.ref (a 11)]) ⟨hx, hb, hml, hown, hts⟩ (c_X6_spotOf l G ((nI yy)) ((nI zz))) mi_yX6_spotOf mst_yX6_spotOf (by decide +kernel) ⟨rfl, rfl, Nat.le_of_ble_eq_true rfl, Nat.le_of_ble_eq_true rfl⟩ hK (fun k q h => by simp at h) rfl hl.1 rfl (Nat.le_of_ble_eq_true rfl) dX2_findFirst_98 ⟨Nat.zero_le _, Nat.zero_le _⟩ hS hA hP (fun r54 H locs hr54 hP hS => ?_)
                    obtain rfl : r54 = nI (yy * 12 + zz) := spot_eq hr54
                    refine xzald hx hb hK hP 6 (yy * 12 + zz) (rfl) (by omega) (by omega) rfl dX2_findFirst_101 ?_
                    refine lv_topi (fun v55 ev55 => ?_)
                    refine lv_if_eq (tgt := 130) hx hb dX2_findFirst_102 (by decide) (fun c56 => ?_) (fun c56 => ?_)
                    · obtain ⟨v57, ev57⟩ : ∃ y : Int32, y = (nI zz) + Int32.ofInt (1) := ⟨_, rfl⟩
                      refine lv_iinc (v := v57) (lv' := [(5, .int v57), (6, .int 1), (0, .ref (a 15)), (1, .int (nI i)), (2, .int (nI j)), (4, .int (nI yy))]) hx hb dX2_findFirst_130 hl (k := 5) rfl ev57.symm (by decide) rfl (fun ls hl => ?_)
                      refine lv_goto (tgt := 62) hx hb dX2_findFirst_133 (by decide) ?_
                      exact ih2 (zz + 1) (e4) (fun k => match k with | 6 => (r2 6) | 7 => (r2 7) | 8 => (r2 8) | 9 => (r2 9) | 10 => (r2 10) | 11 => (r2 11) | 12 => (r2 12) | 13 => (r2 13) | 14 => (r2 14) | _ => (fun _ => 0)) s2 bf qu (rc2) (by omega) (by omega) hRB _ _ _ hP hS (by have e := nI_inc ev57; rw [e] at hl; exact lv_sub hl [2, 3, 4, 5, 0] rfl)
                    · refine lv_iload hx hb dX2_findFirst_105 (lv_at hl 0 rfl) ?_
                      refine lv_if_ne (tgt := 130) hx hb dX2_findFirst_107 (by decide) (fun _ => ?_) (fun c58 => absurd c58 (by decide))
                      obtain ⟨v59, ev59⟩ : ∃ y : Int32, y = (nI zz) + Int32.ofInt (1) := ⟨_, rfl⟩
                      refine lv_iinc (v := v59) (lv' := [(5, .int v59), (6, .int 1), (0, .ref (a 15)), (1, .int (nI i)), (2, .int (nI j)), (4, .int (nI yy))]) hx hb dX2_findFirst_130 hl (k := 5) rfl ev59.symm (by decide) rfl (fun ls hl => ?_)
                      refine lv_goto (tgt := 62) hx hb dX2_findFirst_133 (by decide) ?_
                      exact ih2 (zz + 1) (e4) (fun k => match k with | 6 => (r2 6) | 7 => (r2 7) | 8 => (r2 8) | 9 => (r2 9) | 10 => (r2 10) | 11 => (r2 11) | 12 => (r2 12) | 13 => (r2 13) | 14 => (r2 14) | _ => (fun _ => 0)) s2 bf qu (rc2) (by omega) (by omega) hRB _ _ _ hP hS (by have e := nI_inc ev59; rw [e] at hl; exact lv_sub hl [2, 3, 4, 5, 0] rfl)
          exact inner (cl + 1) 0 (en15) (fun k => match k with | 6 => (r2 6) | 7 => (r2 7) | 8 => (r2 8) | 9 => (r2 9) | 10 => (r2 10) | 11 => (r2 11) | 12 => (r2 12) | 13 => (r2 13) | 14 => (r2 14) | _ => (fun _ => 0)) (jnF ss16 i (12 + j) 0 0) bf qu (rc2) (Nat.zero_le _) (by omega) hRB _ _ _ hP hS (lv_sub hl [1, 2, 3, 4, 0] rfl)
        · refine lv_goto (tgt := 136) hx hb dX2_findFirst_29 (by decide) ?_
          obtain ⟨v60, ev60⟩ : ∃ y : Int32, y = (nI yy) + Int32.ofInt (1) := ⟨_, rfl⟩
          refine lv_iinc (v := v60) (lv' := [(4, .int v60), (0, .ref (a 15)), (1, .int (nI i)), (2, .int (nI j))]) hx hb dX2_findFirst_136 hl (k := 3) rfl ev60.symm (by decide) rfl (fun ls hl => ?_)
          refine lv_goto (tgt := 10) hx hb dX2_findFirst_139 (by decide) ?_
          exact ih (yy + 1) (e4) (fun k => match k with | 6 => (r2 6) | 7 => (r2 7) | 8 => (r2 8) | 9 => (r2 9) | 10 => (r2 10) | 11 => (r2 11) | 12 => (r2 12) | 13 => (r2 13) | 14 => (r2 14) | _ => (fun _ => 0)) s2 bf qu (rc2) (by omega) (by omega) hRB _ _ _ hP hS (by have e := nI_inc ev60; rw [e] at hl; exact lv_sub hl [1, 2, 3, 0] rfl)
  exact outer (rw + 1) 0 (en3) (fun k => match k with | 6 => (rr4 6) | 7 => (rr4 7) | 8 => (rr4 8) | 9 => (rr4 9) | 10 => (rr4 10) | 11 => (rr4 11) | 12 => (rr4 12) | 13 => (rr4 13) | 14 => (rr4 14) | _ => (fun _ => 0)) ss5 bb6 qq7 (cc8) (Nat.zero_le _) (by omega) hRB _ _ _ hP hS (lv_sub hl [1, 2, 3, 0] rfl)
set_option maxHeartbeats 4000000 in
set_option maxRecDepth 100000 in
theorem c_X2_cutOf (l : Launch) (G : GG) (a b : Nat → Nat) (f : Nat → Int32) (r : Nat → Nat → Int32) (q : Nat → Nat → Int32) (rc : Int32) (rw cl : Nat) (hrw : rw ≤ 12) (hcl : cl ≤ 12) (h0 : f 0 = nI rw) (h1 : f 1 = nI cl) (i j : Nat) (hi : i < 12) (hj : j < 12) (gr : Int32) (hRB : RB adjR (q 0)) : WrI l yX2_cutOf cX2_cutOf 5 (some .int) ({ frames := 3, cells := 0, slots := 0, locals := 75 }) G ([((a 15), .inr (2, [.int (f 0), .int (f 1), .int (f 2), .int (f 3), .int (f 4), .ref (b 3), .ref (a 6), .ref (a 7), .ref (a 8), .ref (a 9), .ref (a 10), .ref (a 11), .ref (a 12), .ref (a 13), .ref (a 14)])), ((a 6), .inl (G.2.2.1, 12, .inl (r 6))), ((a 7), .inl (G.2.1, 12, .inl (r 7))), ((a 8), .inl (G.2.1, 144, .inl (r 8))), ((a 9), .inl (G.2.1, 144, .inl (r 9))), ((a 10), .inl (G.2.1, 144, .inl (r 10))), ((a 11), .inl (G.2.2.1, 144, .inl (r 11))), ((a 12), .inl (G.2.1, 144, .inl (r 12))), ((a 13), .inl (G.2.1, 144, .inl (r 13))), ((a 14), .inl (G.2.1, 144, .inl (r 14))), ((b 3), .inr (5, [.ref (b 0), .ref (b 1), .ref (b 2), .int rc])), ((b 0), .inl (G.2.1, 25, .inl (q 0))), ((b 1), .inl (G.2.1, 25, .inl (q 1))), ((b 2), .inl (G.2.1, 25, .inl (q 2)))]) [.ref (a 15), .int (nI i), .int (nI j), .int gr] (fun _ w => ∃ (e4 : Int32) (r2 : Nat → Nat → Int32) (s2 bf qu : Nat → Int32) (rc2 : Int32), RB adjR s2 ∧ w = [((a 15), .inr (2, [.int (f 0), .int (f 1), .int (f 2), .int (f 3), .int e4, .ref (b 3), .ref (a 6), .ref (a 7), .ref (a 8), .ref (a 9), .ref (a 10), .ref (a 11), .ref (a 12), .ref (a 13), .ref (a 14)])), ((a 6), .inl (G.2.2.1, 12, .inl (r2 6))), ((a 7), .inl (G.2.1, 12, .inl (r2 7))), ((a 8), .inl (G.2.1, 144, .inl (r2 8))), ((a 9), .inl (G.2.1, 144, .inl (r2 9))), ((a 10), .inl (G.2.1, 144, .inl (r2 10))), ((a 11), .inl (G.2.2.1, 144, .inl (r2 11))), ((a 12), .inl (G.2.1, 144, .inl (r2 12))), ((a 13), .inl (G.2.1, 144, .inl (r2 13))), ((a 14), .inl (G.2.1, 144, .inl (r2 14))), ((b 3), .inr (5, [.ref (b 0), .ref (b 1), .ref (b 2), .int rc2])), ((b 0), .inl (G.2.1, 25, .inl s2)), ((b 1), .inl (G.2.1, 25, .inl bf)), ((b 2), .inl (G.2.1, 25, .inl qu))]) := by
  refine wr_entryI (by decide +kernel) (Nat.le_of_ble_eq_true rfl) ?_
  intro p e s m below meth c A C0 hP hK hD hA ls hl
  have hS : va_S A s.heap s.heap [] := va_S.rf
  obtain ⟨hx, hb, hml, hown, hts, hr, hlocks, hin⟩ := C0
  have hown : s.vm.findClass RX2 = some m.cls := hown
  have hl : lv_has ls 5 [(0, .ref (a 15)), (1, .int (nI i)), (2, .int (nI j)), (3, .int gr)] := hl
  refine lv_iload_n hx hb dX2_cutOf_0 rfl (lv_at hl 3 rfl) ?_
  refine lv_if_eq (tgt := 11) hx hb dX2_cutOf_1 (by decide) (fun c1 => ?_) (fun c1 => ?_)
  · refine lv_iload_n hx hb dX2_cutOf_11 rfl (lv_at hl 1 rfl) ?_
    refine lv_istore (lv' := [(4, .int (nI i)), (0, .ref (a 15)), (1, .int (nI i)), (2, .int (nI j)), (3, .int gr)]) hx hb dX2_cutOf_12 hl (by decide) rfl (fun ls hl => ?_)
    refine lv_aload_n hx hb dX2_cutOf_14 rfl (lv_at hl 1 rfl) ?_
    refine va_get (D := G.1) (ci := 2) (v := .ref (a 11)) (C := RX2) (T := TX2) (N := 15) hx hb hts inX2 hown hK.1 hP 0 rfl rfl 11 (by decide) (hts _ mf_X2_51) (fun _ h9 => h9) rfl dX2_cutOf_15 ?_
    refine lv_iload_n hx hb dX2_cutOf_18 rfl (lv_at hl 2 rfl) ?_
    refine lv_iload_n hx hb dX2_cutOf_19 rfl (lv_at hl 3 rfl) ?_
    refine rdSN (rest := [.ref (a 11)]) ⟨hx, hb, hml, hown, hts⟩ (c_X6_spotOf l G ((nI i)) ((nI j))) mi_yX6_spotOf mst_yX6_spotOf (by decide +kernel) ⟨rfl, rfl, Nat.le_of_ble_eq_true rfl, Nat.le_of_ble_eq_true rfl⟩ hK (fun k q h => by simp at h) rfl hl.1 rfl (Nat.le_of_ble_eq_true rfl) dX2_cutOf_20 ⟨Nat.zero_le _, Nat.zero_le _⟩ hS hA hP (fun r2 H locs hr2 hP hS => ?_)
    obtain rfl : r2 = nI (i * 12 + j) := spot_eq hr2
    refine xzald hx hb hK hP 6 (i * 12 + j) (rfl) (by omega) (by omega) rfl dX2_cutOf_23 ?_
    refine lv_topi (fun v3 ev3 => ?_)
    refine lv_if_ne (tgt := 32) hx hb dX2_cutOf_24 (by decide) (fun c4 => ?_) (fun c4 => ?_)
    · refine lv_aload_n hx hb dX2_cutOf_32 rfl (lv_at hl 1 rfl) ?_
      refine lv_aload_n hx hb dX2_cutOf_33 rfl (lv_at hl 1 rfl) ?_
      refine va_get (D := G.1) (ci := 2) (v := .ref (a 7)) (C := RX2) (T := TX2) (N := 15) hx hb hts inX2 hown hK.1 hP 0 rfl rfl 7 (by decide) (hts _ mf_X2_38) (fun _ h9 => h9) rfl dX2_cutOf_34 ?_
      refine lv_iload_n hx hb dX2_cutOf_37 rfl (lv_at hl 2 rfl) ?_
      refine xiald hx hb hK hP 2 (i) (rfl) (by omega) (by omega) rfl dX2_cutOf_38 ?_
      refine lv_topi (fun v5 ev5 => ?_)
      refine lv_iconst (v := 0) hx hb dX2_cutOf_39 (by decide) ?_
      refine wrVV (rest := []) (q0 := 0) ⟨hx, hb, hml, hown, hts⟩ (c_X2_enter l G a b (fun k => match k with | 0 => (f 0) | 1 => (f 1) | 2 => (f 2) | 3 => (f 3) | _ => (f 4)) (fun k => match k with | 6 => (r 6) | 7 => (r 7) | 8 => (r 8) | 9 => (r 9) | 10 => (r 10) | 11 => (r 11) | 12 => (r 12) | 13 => (r 13) | 14 => (r 14) | _ => (fun _ => 0)) (fun k => match k with | 0 => (q 0) | 1 => (q 1) | 2 => (q 2) | _ => (fun _ => 0)) (rc) rw cl hrw hcl h0 h1 v5 0 (Nat.zero_le _)) mi_yX2_enter mv_yX2_enter ml_X2_146 ⟨rfl, rfl, Nat.le_of_ble_eq_true rfl, Nat.le_of_ble_eq_true rfl⟩ hK hP hD [0, 1, 2, 3, 4, 5, 6, 7, 8, 9, 10, 11, 12, 13] rfl (by decide) rfl rfl rfl hl.1 rfl (Nat.le_of_ble_eq_true rfl) dX2_cutOf_40 ⟨Nat.zero_le _, Nat.zero_le _⟩ hS hA (fun w7 H locs hw7 hP hS => ?_)
      obtain ⟨en8, ss9, hRB, rfl⟩ := hw7
      have h9_ := P_rg (s := 0) (hP rfl) rfl (Nat.le_of_ble_eq_true rfl)
      have hP : PP G [((a 15), .inr (2, [.int (f 0), .int (f 1), .int (f 2), .int (f 3), .int en8, .ref (b 3), .ref (a 6), .ref (a 7), .ref (a 8), .ref (a 9), .ref (a 10), .ref (a 11), .ref (a 12), .ref (a 13), .ref (a 14)])), ((a 6), .inl (G.2.2.1, 12, .inl (r 6))), ((a 7), .inl (G.2.1, 12, .inl (r 7))), ((a 8), .inl (G.2.1, 144, .inl (r 8))), ((a 9), .inl (G.2.1, 144, .inl (r 9))), ((a 10), .inl (G.2.1, 144, .inl (r 10))), ((a 11), .inl (G.2.2.1, 144, .inl (r 11))), ((a 12), .inl (G.2.1, 144, .inl (r 12))), ((a 13), .inl (G.2.1, 144, .inl (r 13))), ((a 14), .inl (G.2.1, 144, .inl (r 14))), ((b 3), .inr (5, [.ref (b 0), .ref (b 1), .ref (b 2), .int rc])), ((b 0), .inl (G.2.1, 25, .inl ss9)), ((b 1), .inl (G.2.1, 25, .inl (q 1))), ((b 2), .inl (G.2.1, 25, .inl (q 2)))] H := h9_
      have hD := D_as2 hP hD rfl
      refine lv_aload_n hx hb dX2_cutOf_43 rfl (lv_at hl 1 rfl) ?_
      refine va_get (D := G.1) (ci := 2) (v := .ref (b 3)) (C := RX2) (T := TX2) (N := 15) hx hb hts inX2 hown hK.1 hP 0 rfl rfl 5 (by decide) (hts _ mf_X2_30) (fun _ h9 => h9) rfl dX2_cutOf_44 ?_
      refine lv_iload_n hx hb dX2_cutOf_47 rfl (lv_at hl 2 rfl) ?_
      refine lv_bipush (v := 12) hx hb dX2_cutOf_48 (by decide) ?_
      refine lv_iload_n hx hb dX2_cutOf_50 rfl (lv_at hl 3 rfl) ?_
      refine lv_iadd hx hb dX2_cutOf_51 ?_
      refine lv_topi (fun v10 ev10 => ?_)
      obtain rfl : v10 = nI (12 + j) := nI_plus (i := 12) ev10 rfl rfl
      refine lv_iconst (v := 0) hx hb dX2_cutOf_52 (by decide) ?_
      refine lv_iconst (v := 0) hx hb dX2_cutOf_53 (by decide) ?_
      refine wrVV (rest := []) (q0 := 0) ⟨hx, hb, hml, hown, hts⟩ (c_X5_join l G b (fun k => match k with | 0 => ss9 | 1 => (q 1) | 2 => (q 2) | _ => (fun _ => 0)) (rc) i (12 + j) 0 0 (by omega) (by omega)) mi_yX5_join mv_yX5_join ml_X2_120 ⟨rfl, rfl, Nat.le_of_ble_eq_true rfl, Nat.le_of_ble_eq_true rfl⟩ hK hP hD [10, 11, 12, 13] rfl (by decide) rfl rfl rfl hl.1 rfl (Nat.le_of_ble_eq_true rfl) dX2_cutOf_54 ⟨Nat.zero_le _, Nat.zero_le _⟩ hS hA (fun w12 H locs hw12 hP hS => ?_)
      obtain rfl := hw12
      have hRB := RB_join 0 0 hRB (adjR1 (i := i) (j := j) (by omega) (by omega)) (adjR2 (by omega) (by omega)) (by omega) (by omega)
      have hP : PP G [((a 15), .inr (2, [.int (f 0), .int (f 1), .int (f 2), .int (f 3), .int en8, .ref (b 3), .ref (a 6), .ref (a 7), .ref (a 8), .ref (a 9), .ref (a 10), .ref (a 11), .ref (a 12), .ref (a 13), .ref (a 14)])), ((a 6), .inl (G.2.2.1, 12, .inl (r 6))), ((a 7), .inl (G.2.1, 12, .inl (r 7))), ((a 8), .inl (G.2.1, 144, .inl (r 8))), ((a 9), .inl (G.2.1, 144, .inl (r 9))), ((a 10), .inl (G.2.1, 144, .inl (r 10))), ((a 11), .inl (G.2.2.1, 144, .inl (r 11))), ((a 12), .inl (G.2.1, 144, .inl (r 12))), ((a 13), .inl (G.2.1, 144, .inl (r 13))), ((a 14), .inl (G.2.1, 144, .inl (r 14))), ((b 3), .inr (5, [.ref (b 0), .ref (b 1), .ref (b 2), .int rc])), ((b 0), .inl (G.2.1, 25, .inl (jnF ss9 i (12 + j) 0 0))), ((b 1), .inl (G.2.1, 25, .inl (q 1))), ((b 2), .inl (G.2.1, 25, .inl (q 2)))] H := hP rfl
      have hD := D_as2 hP hD rfl
      refine lv_aload_n hx hb dX2_cutOf_57 rfl (lv_at hl 1 rfl) ?_
      refine lv_bipush (v := -2) hx hb dX2_cutOf_58 (by decide) ?_
      refine va_put (D := G.1) (ci := 2) (v := .int (-2)) (C := RX2) (T := TX2) (N := 15) hx hb hts inX2 tyX2 tyX2_ok nmX2 hown hK.1 hP hD hS 0 rfl rfl 4 (by decide) (hts _ mf_X2_24) (fun _ h9 => h9) rfl (tyX2_ok 4 (by decide)) (rfl) (rfl) (Nat.le_of_ble_eq_true rfl) dX2_cutOf_60 (fun H locs hP hD hS => ?_)
      have hP : PP G [((a 15), .inr (2, [.int (f 0), .int (f 1), .int (f 2), .int (f 3), .int (-2), .ref (b 3), .ref (a 6), .ref (a 7), .ref (a 8), .ref (a 9), .ref (a 10), .ref (a 11), .ref (a 12), .ref (a 13), .ref (a 14)])), ((a 6), .inl (G.2.2.1, 12, .inl (r 6))), ((a 7), .inl (G.2.1, 12, .inl (r 7))), ((a 8), .inl (G.2.1, 144, .inl (r 8))), ((a 9), .inl (G.2.1, 144, .inl (r 9))), ((a 10), .inl (G.2.1, 144, .inl (r 10))), ((a 11), .inl (G.2.2.1, 144, .inl (r 11))), ((a 12), .inl (G.2.1, 144, .inl (r 12))), ((a 13), .inl (G.2.1, 144, .inl (r 13))), ((a 14), .inl (G.2.1, 144, .inl (r 14))), ((b 3), .inr (5, [.ref (b 0), .ref (b 1), .ref (b 2), .int rc])), ((b 0), .inl (G.2.1, 25, .inl (jnF ss9 i (12 + j) 0 0))), ((b 1), .inl (G.2.1, 25, .inl (q 1))), ((b 2), .inl (G.2.1, 25, .inl (q 2)))] H := hP
      have hD := D_as hP hD rfl
      refine lv_aload_n hx hb dX2_cutOf_63 rfl (lv_at hl 1 rfl) ?_
      refine va_get (D := G.1) (ci := 2) (v := .ref (b 3)) (C := RX2) (T := TX2) (N := 15) hx hb hts inX2 hown hK.1 hP 0 rfl rfl 5 (by decide) (hts _ mf_X2_30) (fun _ h9 => h9) rfl dX2_cutOf_64 ?_
      refine lv_iload hx hb dX2_cutOf_67 (lv_at hl 0 rfl) ?_
      refine wrVI (rest := []) (q0 := 0) ⟨hx, hb, hml, hown, hts⟩ (c_X5_allFrom l G b (fun k => match k with | 0 => (jnF ss9 i (12 + j) 0 0) | 1 => (q 1) | 2 => (q 2) | _ => (fun _ => 0)) (rc) adjR i (by omega) hRB) mi_yX5_allFrom mv_yX5_allFrom ml_X2_162 ⟨rfl, rfl, Nat.le_of_ble_eq_true rfl, Nat.le_of_ble_eq_true rfl⟩ hK hP hD [10, 11, 12, 13] rfl (by decide) rfl rfl rfl hl.1 rfl (Nat.le_of_ble_eq_true rfl) dX2_cutOf_69 ⟨Nat.zero_le _, Nat.zero_le _⟩ hS hA (fun r13 w14 H locs hw14 hP hS => ?_)
      obtain ⟨bb15, qq16, cc17, rfl⟩ := hw14
      have hP : PP G [((a 15), .inr (2, [.int (f 0), .int (f 1), .int (f 2), .int (f 3), .int (-2), .ref (b 3), .ref (a 6), .ref (a 7), .ref (a 8), .ref (a 9), .ref (a 10), .ref (a 11), .ref (a 12), .ref (a 13), .ref (a 14)])), ((a 6), .inl (G.2.2.1, 12, .inl (r 6))), ((a 7), .inl (G.2.1, 12, .inl (r 7))), ((a 8), .inl (G.2.1, 144, .inl (r 8))), ((a 9), .inl (G.2.1, 144, .inl (r 9))), ((a 10), .inl (G.2.1, 144, .inl (r 10))), ((a 11), .inl (G.2.2.1, 144, .inl (r 11))), ((a 12), .inl (G.2.1, 144, .inl (r 12))), ((a 13), .inl (G.2.1, 144, .inl (r 13))), ((a 14), .inl (G.2.1, 144, .inl (r 14))), ((b 3), .inr (5, [.ref (b 0), .ref (b 1), .ref (b 2), .int cc17])), ((b 0), .inl (G.2.1, 25, .inl (jnF ss9 i (12 + j) 0 0))), ((b 1), .inl (G.2.1, 25, .inl bb15)), ((b 2), .inl (G.2.1, 25, .inl qq16))] H := hP rfl
      have hD := D_as2 hP hD rfl
      exact wr_iret hx hb hr hlocks hS hP ⟨(-2), (fun k => match k with | 6 => (r 6) | 7 => (r 7) | 8 => (r 8) | 9 => (r 9) | 10 => (r 10) | 11 => (r 11) | 12 => (r 12) | 13 => (r 13) | 14 => (r 14) | _ => (fun _ => 0)), (jnF ss9 i (12 + j) 0 0), bb15, qq16, cc17, hRB, rfl⟩ dX2_cutOf_72
    · refine lv_iconst (v := 1) hx hb dX2_cutOf_27 (by decide) ?_
      refine lv_iload hx hb dX2_cutOf_28 (lv_at hl 0 rfl) ?_
      refine lv_ishl hx hb dX2_cutOf_30 ?_
      refine lv_topi (fun v18 ev18 => ?_)
      exact wr_iret hx hb hr hlocks hS hP ⟨(f 4), (fun k => match k with | 6 => (r 6) | 7 => (r 7) | 8 => (r 8) | 9 => (r 9) | 10 => (r 10) | 11 => (r 11) | 12 => (r 12) | 13 => (r 13) | 14 => (r 14) | _ => (fun _ => 0)), (q 0), (q 1), (q 2), rc, hRB, rfl⟩ dX2_cutOf_31
  · refine lv_bipush (v := 12) hx hb dX2_cutOf_4 (by decide) ?_
    refine lv_iload_n hx hb dX2_cutOf_6 rfl (lv_at hl 2 rfl) ?_
    refine lv_iadd hx hb dX2_cutOf_7 ?_
    refine lv_topi (fun v19 ev19 => ?_)
    obtain rfl : v19 = nI (12 + j) := nI_plus (i := 12) ev19 rfl rfl
    refine lv_goto (tgt := 12) hx hb dX2_cutOf_8 (by decide) ?_
    refine lv_istore (lv' := [(4, .int (nI (12 + j))), (0, .ref (a 15)), (1, .int (nI i)), (2, .int (nI j)), (3, .int gr)]) hx hb dX2_cutOf_12 hl (by decide) rfl (fun ls hl => ?_)
    refine lv_aload_n hx hb dX2_cutOf_14 rfl (lv_at hl 1 rfl) ?_
    refine va_get (D := G.1) (ci := 2) (v := .ref (a 11)) (C := RX2) (T := TX2) (N := 15) hx hb hts inX2 hown hK.1 hP 0 rfl rfl 11 (by decide) (hts _ mf_X2_51) (fun _ h9 => h9) rfl dX2_cutOf_15 ?_
    refine lv_iload_n hx hb dX2_cutOf_18 rfl (lv_at hl 2 rfl) ?_
    refine lv_iload_n hx hb dX2_cutOf_19 rfl (lv_at hl 3 rfl) ?_
    refine rdSN (rest := [.ref (a 11)]) ⟨hx, hb, hml, hown, hts⟩ (c_X6_spotOf l G ((nI i)) ((nI j))) mi_yX6_spotOf mst_yX6_spotOf (by decide +kernel) ⟨rfl, rfl, Nat.le_of_ble_eq_true rfl, Nat.le_of_ble_eq_true rfl⟩ hK (fun k q h => by simp at h) rfl hl.1 rfl (Nat.le_of_ble_eq_true rfl) dX2_cutOf_20 ⟨Nat.zero_le _, Nat.zero_le _⟩ hS hA hP (fun r20 H locs hr20 hP hS => ?_)
    obtain rfl : r20 = nI (i * 12 + j) := spot_eq hr20
    refine xzald hx hb hK hP 6 (i * 12 + j) (rfl) (by omega) (by omega) rfl dX2_cutOf_23 ?_
    refine lv_topi (fun v21 ev21 => ?_)
    refine lv_if_ne (tgt := 32) hx hb dX2_cutOf_24 (by decide) (fun c22 => ?_) (fun c22 => ?_)
    · refine lv_aload_n hx hb dX2_cutOf_32 rfl (lv_at hl 1 rfl) ?_
      refine lv_aload_n hx hb dX2_cutOf_33 rfl (lv_at hl 1 rfl) ?_
      refine va_get (D := G.1) (ci := 2) (v := .ref (a 7)) (C := RX2) (T := TX2) (N := 15) hx hb hts inX2 hown hK.1 hP 0 rfl rfl 7 (by decide) (hts _ mf_X2_38) (fun _ h9 => h9) rfl dX2_cutOf_34 ?_
      refine lv_iload_n hx hb dX2_cutOf_37 rfl (lv_at hl 2 rfl) ?_
      refine xiald hx hb hK hP 2 (i) (rfl) (by omega) (by omega) rfl dX2_cutOf_38 ?_
      refine lv_topi (fun v23 ev23 => ?_)
      refine lv_iconst (v := 0) hx hb dX2_cutOf_39 (by decide) ?_
      refine wrVV (rest := []) (q0 := 0) ⟨hx, hb, hml, hown, hts⟩ (c_X2_enter l G a b (fun k => match k with | 0 => (f 0) | 1 => (f 1) | 2 => (f 2) | 3 => (f 3) | _ => (f 4)) (fun k => match k with | 6 => (r 6) | 7 => (r 7) | 8 => (r 8) | 9 => (r 9) | 10 => (r 10) | 11 => (r 11) | 12 => (r 12) | 13 => (r 13) | 14 => (r 14) | _ => (fun _ => 0)) (fun k => match k with | 0 => (q 0) | 1 => (q 1) | 2 => (q 2) | _ => (fun _ => 0)) (rc) rw cl hrw hcl h0 h1 v23 0 (Nat.zero_le _)) mi_yX2_enter mv_yX2_enter ml_X2_146 ⟨rfl, rfl, Nat.le_of_ble_eq_true rfl, Nat.le_of_ble_eq_true rfl⟩ hK hP hD [0, 1, 2, 3, 4, 5, 6, 7, 8, 9, 10, 11, 12, 13] rfl (by decide) rfl rfl rfl hl.1 rfl (Nat.le_of_ble_eq_true rfl) dX2_cutOf_40 ⟨Nat.zero_le _, Nat.zero_le _⟩ hS hA (fun w25 H locs hw25 hP hS => ?_)
      obtain ⟨en26, ss27, hRB, rfl⟩ := hw25
      have h9_ := P_rg (s := 0) (hP rfl) rfl (Nat.le_of_ble_eq_true rfl)
      have hP : PP G [((a 15), .inr (2, [.int (f 0), .int (f 1), .int (f 2), .int (f 3), .int en26, .ref (b 3), .ref (a 6), .ref (a 7), .ref (a 8), .ref (a 9), .ref (a 10), .ref (a 11), .ref (a 12), .ref (a 13), .ref (a 14)])), ((a 6), .inl (G.2.2.1, 12, .inl (r 6))), ((a 7), .inl (G.2.1, 12, .inl (r 7))), ((a 8), .inl (G.2.1, 144, .inl (r 8))), ((a 9), .inl (G.2.1, 144, .inl (r 9))), ((a 10), .inl (G.2.1, 144, .inl (r 10))), ((a 11), .inl (G.2.2.1, 144, .inl (r 11))), ((a 12), .inl (G.2.1, 144, .inl (r 12))), ((a 13), .inl (G.2.1, 144, .inl (r 13))), ((a 14), .inl (G.2.1, 144, .inl (r 14))), ((b 3), .inr (5, [.ref (b 0), .ref (b 1), .ref (b 2), .int rc])), ((b 0), .inl (G.2.1, 25, .inl ss27)), ((b 1), .inl (G.2.1, 25, .inl (q 1))), ((b 2), .inl (G.2.1, 25, .inl (q 2)))] H := h9_
      have hD := D_as2 hP hD rfl
      refine lv_aload_n hx hb dX2_cutOf_43 rfl (lv_at hl 1 rfl) ?_
      refine va_get (D := G.1) (ci := 2) (v := .ref (b 3)) (C := RX2) (T := TX2) (N := 15) hx hb hts inX2 hown hK.1 hP 0 rfl rfl 5 (by decide) (hts _ mf_X2_30) (fun _ h9 => h9) rfl dX2_cutOf_44 ?_
      refine lv_iload_n hx hb dX2_cutOf_47 rfl (lv_at hl 2 rfl) ?_
      refine lv_bipush (v := 12) hx hb dX2_cutOf_48 (by decide) ?_
      refine lv_iload_n hx hb dX2_cutOf_50 rfl (lv_at hl 3 rfl) ?_
      refine lv_iadd hx hb dX2_cutOf_51 ?_
      refine lv_topi (fun v28 ev28 => ?_)
      obtain rfl : v28 = nI (12 + j) := nI_plus (i := 12) ev28 rfl rfl
      refine lv_iconst (v := 0) hx hb dX2_cutOf_52 (by decide) ?_
      refine lv_iconst (v := 0) hx hb dX2_cutOf_53 (by decide) ?_
      refine wrVV (rest := []) (q0 := 0) ⟨hx, hb, hml, hown, hts⟩ (c_X5_join l G b (fun k => match k with | 0 => ss27 | 1 => (q 1) | 2 => (q 2) | _ => (fun _ => 0)) (rc) i (12 + j) 0 0 (by omega) (by omega)) mi_yX5_join mv_yX5_join ml_X2_120 ⟨rfl, rfl, Nat.le_of_ble_eq_true rfl, Nat.le_of_ble_eq_true rfl⟩ hK hP hD [10, 11, 12, 13] rfl (by decide) rfl rfl rfl hl.1 rfl (Nat.le_of_ble_eq_true rfl) dX2_cutOf_54 ⟨Nat.zero_le _, Nat.zero_le _⟩ hS hA (fun w30 H locs hw30 hP hS => ?_)
      obtain rfl := hw30
      have hRB := RB_join 0 0 hRB (adjR1 (i := i) (j := j) (by omega) (by omega)) (adjR2 (by omega) (by omega)) (by omega) (by omega)
      have hP : PP G [((a 15), .inr (2, [.int (f 0), .int (f 1), .int (f 2), .int (f 3), .int en26, .ref (b 3), .ref (a 6), .ref (a 7), .ref (a 8), .ref (a 9), .ref (a 10), .ref (a 11), .ref (a 12), .ref (a 13), .ref (a 14)])), ((a 6), .inl (G.2.2.1, 12, .inl (r 6))), ((a 7), .inl (G.2.1, 12, .inl (r 7))), ((a 8), .inl (G.2.1, 144, .inl (r 8))), ((a 9), .inl (G.2.1, 144, .inl (r 9))), ((a 10), .inl (G.2.1, 144, .inl (r 10))), ((a 11), .inl (G.2.2.1, 144, .inl (r 11))), ((a 12), .inl (G.2.1, 144, .inl (r 12))), ((a 13), .inl (G.2.1, 144, .inl (r 13))), ((a 14), .inl (G.2.1, 144, .inl (r 14))), ((b 3), .inr (5, [.ref (b 0), .ref (b 1), .ref (b 2), .int rc])), ((b 0), .inl (G.2.1, 25, .inl (jnF ss27 i (12 + j) 0 0))), ((b 1), .inl (G.2.1, 25, .inl (q 1))), ((b 2), .inl (G.2.1, 25, .inl (q 2)))] H := hP rfl
      have hD := D_as2 hP hD rfl
      refine lv_aload_n hx hb dX2_cutOf_57 rfl (lv_at hl 1 rfl) ?_
      refine lv_bipush (v := -2) hx hb dX2_cutOf_58 (by decide) ?_
      refine va_put (D := G.1) (ci := 2) (v := .int (-2)) (C := RX2) (T := TX2) (N := 15) hx hb hts inX2 tyX2 tyX2_ok nmX2 hown hK.1 hP hD hS 0 rfl rfl 4 (by decide) (hts _ mf_X2_24) (fun _ h9 => h9) rfl (tyX2_ok 4 (by decide)) (rfl) (rfl) (Nat.le_of_ble_eq_true rfl) dX2_cutOf_60 (fun H locs hP hD hS => ?_)
      have hP : PP G [((a 15), .inr (2, [.int (f 0), .int (f 1), .int (f 2), .int (f 3), .int (-2), .ref (b 3), .ref (a 6), .ref (a 7), .ref (a 8), .ref (a 9), .ref (a 10), .ref (a 11), .ref (a 12), .ref (a 13), .ref (a 14)])), ((a 6), .inl (G.2.2.1, 12, .inl (r 6))), ((a 7), .inl (G.2.1, 12, .inl (r 7))), ((a 8), .inl (G.2.1, 144, .inl (r 8))), ((a 9), .inl (G.2.1, 144, .inl (r 9))), ((a 10), .inl (G.2.1, 144, .inl (r 10))), ((a 11), .inl (G.2.2.1, 144, .inl (r 11))), ((a 12), .inl (G.2.1, 144, .inl (r 12))), ((a 13), .inl (G.2.1, 144, .inl (r 13))), ((a 14), .inl (G.2.1, 144, .inl (r 14))), ((b 3), .inr (5, [.ref (b 0), .ref (b 1), .ref (b 2), .int rc])), ((b 0), .inl (G.2.1, 25, .inl (jnF ss27 i (12 + j) 0 0))), ((b 1), .inl (G.2.1, 25, .inl (q 1))), ((b 2), .inl (G.2.1, 25, .inl (q 2)))] H := hP
      have hD := D_as hP hD rfl
      refine lv_aload_n hx hb dX2_cutOf_63 rfl (lv_at hl 1 rfl) ?_
      refine va_get (D := G.1) (ci := 2) (v := .ref (b 3)) (C := RX2) (T := TX2) (N := 15) hx hb hts inX2 hown hK.1 hP 0 rfl rfl 5 (by decide) (hts _ mf_X2_30) (fun _ h9 => h9) rfl dX2_cutOf_64 ?_
      refine lv_iload hx hb dX2_cutOf_67 (lv_at hl 0 rfl) ?_
      refine wrVI (rest := []) (q0 := 0) ⟨hx, hb, hml, hown, hts⟩ (c_X5_allFrom l G b (fun k => match k with | 0 => (jnF ss27 i (12 + j) 0 0) | 1 => (q 1) | 2 => (q 2) | _ => (fun _ => 0)) (rc) adjR (12 + j) (by omega) hRB) mi_yX5_allFrom mv_yX5_allFrom ml_X2_162 ⟨rfl, rfl, Nat.le_of_ble_eq_true rfl, Nat.le_of_ble_eq_true rfl⟩ hK hP hD [10, 11, 12, 13] rfl (by decide) rfl rfl rfl hl.1 rfl (Nat.le_of_ble_eq_true rfl) dX2_cutOf_69 ⟨Nat.zero_le _, Nat.zero_le _⟩ hS hA (fun r31 w32 H locs hw32 hP hS => ?_)
      obtain ⟨bb33, qq34, cc35, rfl⟩ := hw32
      have hP : PP G [((a 15), .inr (2, [.int (f 0), .int (f 1), .int (f 2), .int (f 3), .int (-2), .ref (b 3), .ref (a 6), .ref (a 7), .ref (a 8), .ref (a 9), .ref (a 10), .ref (a 11), .ref (a 12), .ref (a 13), .ref (a 14)])), ((a 6), .inl (G.2.2.1, 12, .inl (r 6))), ((a 7), .inl (G.2.1, 12, .inl (r 7))), ((a 8), .inl (G.2.1, 144, .inl (r 8))), ((a 9), .inl (G.2.1, 144, .inl (r 9))), ((a 10), .inl (G.2.1, 144, .inl (r 10))), ((a 11), .inl (G.2.2.1, 144, .inl (r 11))), ((a 12), .inl (G.2.1, 144, .inl (r 12))), ((a 13), .inl (G.2.1, 144, .inl (r 13))), ((a 14), .inl (G.2.1, 144, .inl (r 14))), ((b 3), .inr (5, [.ref (b 0), .ref (b 1), .ref (b 2), .int cc35])), ((b 0), .inl (G.2.1, 25, .inl (jnF ss27 i (12 + j) 0 0))), ((b 1), .inl (G.2.1, 25, .inl bb33)), ((b 2), .inl (G.2.1, 25, .inl qq34))] H := hP rfl
      have hD := D_as2 hP hD rfl
      exact wr_iret hx hb hr hlocks hS hP ⟨(-2), (fun k => match k with | 6 => (r 6) | 7 => (r 7) | 8 => (r 8) | 9 => (r 9) | 10 => (r 10) | 11 => (r 11) | 12 => (r 12) | 13 => (r 13) | 14 => (r 14) | _ => (fun _ => 0)), (jnF ss27 i (12 + j) 0 0), bb33, qq34, cc35, hRB, rfl⟩ dX2_cutOf_72
    · refine lv_iconst (v := 1) hx hb dX2_cutOf_27 (by decide) ?_
      refine lv_iload hx hb dX2_cutOf_28 (lv_at hl 0 rfl) ?_
      refine lv_ishl hx hb dX2_cutOf_30 ?_
      refine lv_topi (fun v36 ev36 => ?_)
      exact wr_iret hx hb hr hlocks hS hP ⟨(f 4), (fun k => match k with | 6 => (r 6) | 7 => (r 7) | 8 => (r 8) | 9 => (r 9) | 10 => (r 10) | 11 => (r 11) | 12 => (r 12) | 13 => (r 13) | 14 => (r 14) | _ => (fun _ => 0)), (q 0), (q 1), (q 2), rc, hRB, rfl⟩ dX2_cutOf_31
set_option maxHeartbeats 4000000 in
set_option maxRecDepth 100000 in
theorem c_X2_showValues (l : Launch) (G : GG) (a b : Nat → Nat) (f : Nat → Int32) (r : Nat → Nat → Int32) (la : Nat → Nat) (l0 l1 : Int32) (lf : Nat → Int32) (rw cl : Nat) (hrw : rw ≤ 12) (hcl : cl ≤ 12) (h0 : f 0 = nI rw) (h1 : f 1 = nI cl) : WrV l yX2_showValues cX2_showValues 5 ({ frames := 1, cells := 0, slots := 0, locals := 21 }) G ([((a 15), .inr (2, [.int (f 0), .int (f 1), .int (f 2), .int (f 3), .int (f 4), .ref (b 3), .ref (a 6), .ref (a 7), .ref (a 8), .ref (a 9), .ref (a 10), .ref (a 11), .ref (a 12), .ref (a 13), .ref (a 14)])), ((a 6), .inl (G.2.2.1, 12, .inl (r 6))), ((a 7), .inl (G.2.1, 12, .inl (r 7))), ((a 8), .inl (G.2.1, 144, .inl (r 8))), ((a 9), .inl (G.2.1, 144, .inl (r 9))), ((a 10), .inl (G.2.1, 144, .inl (r 10))), ((a 11), .inl (G.2.2.1, 144, .inl (r 11))), ((a 12), .inl (G.2.1, 144, .inl (r 12))), ((a 13), .inl (G.2.1, 144, .inl (r 13))), ((a 14), .inl (G.2.1, 144, .inl (r 14))), ((la 0), .inr (1, [.int l0, .int l1, .ref (la 1)])), ((la 1), .inl (G.2.1, 144, .inl lf))]) [.ref (a 15), .ref (la 0)] (fun w => ∃ l2 : Nat → Int32, w = [((a 15), .inr (2, [.int (f 0), .int (f 1), .int (f 2), .int (f 3), .int (f 4), .ref (b 3), .ref (a 6), .ref (a 7), .ref (a 8), .ref (a 9), .ref (a 10), .ref (a 11), .ref (a 12), .ref (a 13), .ref (a 14)])), ((a 6), .inl (G.2.2.1, 12, .inl (r 6))), ((a 7), .inl (G.2.1, 12, .inl (r 7))), ((a 8), .inl (G.2.1, 144, .inl (r 8))), ((a 9), .inl (G.2.1, 144, .inl (r 9))), ((a 10), .inl (G.2.1, 144, .inl (r 10))), ((a 11), .inl (G.2.2.1, 144, .inl (r 11))), ((a 12), .inl (G.2.1, 144, .inl (r 12))), ((a 13), .inl (G.2.1, 144, .inl (r 13))), ((a 14), .inl (G.2.1, 144, .inl (r 14))), ((la 0), .inr (1, [.int (f 0), .int (f 1), .ref (la 1)])), ((la 1), .inl (G.2.1, 144, .inl l2))]) := by
  refine wr_entryV (by decide +kernel) (Nat.le_of_ble_eq_true rfl) ?_
  intro p e s m below meth c A C0 hP hK hD hA ls hl
  have hS : va_S A s.heap s.heap [] := va_S.rf
  obtain ⟨hx, hb, hml, hown, hts, hr, hlocks, hin⟩ := C0
  have hown : s.vm.findClass RX2 = some m.cls := hown
  have hl : lv_has ls 5 [(0, .ref (a 15)), (1, .ref (la 0))] := hl
  refine lv_aload_n hx hb dX2_showValues_0 rfl (lv_at hl 1 rfl) ?_
  refine lv_aload_n hx hb dX2_showValues_1 rfl (lv_at hl 0 rfl) ?_
  refine va_get (D := G.1) (ci := 2) (v := .int (f 0)) (C := RX2) (T := TX2) (N := 15) hx hb hts inX2 hown hK.1 hP 0 rfl rfl 0 (by decide) (hts _ mf_X2_9) (fun _ h9 => h9) rfl dX2_showValues_2 ?_
  refine va_put (D := G.1) (ci := 1) (v := .int (f 0)) (C := RX1) (T := TX1) (N := 3) hx hb hts inX1 tyX1 tyX1_ok nmX1 hown hK.1 hP hD hS 10 rfl rfl 0 (by decide) (hts _ mf_X2_165) (fun _ h9 => h9) rfl (tyX1_ok 0 (by decide)) (rfl) (rfl) (Nat.le_of_ble_eq_true rfl) dX2_showValues_5 (fun H locs hP hD hS => ?_)
  have hP : PP G [((a 15), .inr (2, [.int (f 0), .int (f 1), .int (f 2), .int (f 3), .int (f 4), .ref (b 3), .ref (a 6), .ref (a 7), .ref (a 8), .ref (a 9), .ref (a 10), .ref (a 11), .ref (a 12), .ref (a 13), .ref (a 14)])), ((a 6), .inl (G.2.2.1, 12, .inl (r 6))), ((a 7), .inl (G.2.1, 12, .inl (r 7))), ((a 8), .inl (G.2.1, 144, .inl (r 8))), ((a 9), .inl (G.2.1, 144, .inl (r 9))), ((a 10), .inl (G.2.1, 144, .inl (r 10))), ((a 11), .inl (G.2.2.1, 144, .inl (r 11))), ((a 12), .inl (G.2.1, 144, .inl (r 12))), ((a 13), .inl (G.2.1, 144, .inl (r 13))), ((a 14), .inl (G.2.1, 144, .inl (r 14))), ((la 0), .inr (1, [.int (f 0), .int l1, .ref (la 1)])), ((la 1), .inl (G.2.1, 144, .inl lf))] H := hP
  have hD := D_as hP hD rfl
  refine lv_aload_n hx hb dX2_showValues_8 rfl (lv_at hl 1 rfl) ?_
  refine lv_aload_n hx hb dX2_showValues_9 rfl (lv_at hl 0 rfl) ?_
  refine va_get (D := G.1) (ci := 2) (v := .int (f 1)) (C := RX2) (T := TX2) (N := 15) hx hb hts inX2 hown hK.1 hP 0 rfl rfl 1 (by decide) (hts _ mf_X2_15) (fun _ h9 => h9) rfl dX2_showValues_10 ?_
  refine va_put (D := G.1) (ci := 1) (v := .int (f 1)) (C := RX1) (T := TX1) (N := 3) hx hb hts inX1 tyX1 tyX1_ok nmX1 hown hK.1 hP hD hS 10 rfl rfl 1 (by decide) (hts _ mf_X2_168) (fun _ h9 => h9) rfl (tyX1_ok 1 (by decide)) (rfl) (rfl) (Nat.le_of_ble_eq_true rfl) dX2_showValues_13 (fun H locs hP hD hS => ?_)
  have hP : PP G [((a 15), .inr (2, [.int (f 0), .int (f 1), .int (f 2), .int (f 3), .int (f 4), .ref (b 3), .ref (a 6), .ref (a 7), .ref (a 8), .ref (a 9), .ref (a 10), .ref (a 11), .ref (a 12), .ref (a 13), .ref (a 14)])), ((a 6), .inl (G.2.2.1, 12, .inl (r 6))), ((a 7), .inl (G.2.1, 12, .inl (r 7))), ((a 8), .inl (G.2.1, 144, .inl (r 8))), ((a 9), .inl (G.2.1, 144, .inl (r 9))), ((a 10), .inl (G.2.1, 144, .inl (r 10))), ((a 11), .inl (G.2.2.1, 144, .inl (r 11))), ((a 12), .inl (G.2.1, 144, .inl (r 12))), ((a 13), .inl (G.2.1, 144, .inl (r 13))), ((a 14), .inl (G.2.1, 144, .inl (r 14))), ((la 0), .inr (1, [.int (f 0), .int (f 1), .ref (la 1)])), ((la 1), .inl (G.2.1, 144, .inl lf))] H := hP
  have hD := D_as hP hD rfl
  refine lv_iconst (v := 0) hx hb dX2_showValues_16 (by decide) ?_
  refine lv_istore_n (lv' := [(2, .int 0), (0, .ref (a 15)), (1, .ref (la 0))]) hx hb dX2_showValues_17 rfl hl (by decide) rfl (fun ls hl => ?_)
  have outer : ∀ (k i : Nat) (l2 : Nat → Int32), i ≤ rw → rw < i + k → ∀ (H : Heap) (locs : List Loc) (ls : Array Slot), PP G ([((a 15), .inr (2, [.int (f 0), .int (f 1), .int (f 2), .int (f 3), .int (f 4), .ref (b 3), .ref (a 6), .ref (a 7), .ref (a 8), .ref (a 9), .ref (a 10), .ref (a 11), .ref (a 12), .ref (a 13), .ref (a 14)])), ((a 6), .inl (G.2.2.1, 12, .inl (r 6))), ((a 7), .inl (G.2.1, 12, .inl (r 7))), ((a 8), .inl (G.2.1, 144, .inl (r 8))), ((a 9), .inl (G.2.1, 144, .inl (r 9))), ((a 10), .inl (G.2.1, 144, .inl (r 10))), ((a 11), .inl (G.2.2.1, 144, .inl (r 11))), ((a 12), .inl (G.2.1, 144, .inl (r 12))), ((a 13), .inl (G.2.1, 144, .inl (r 13))), ((a 14), .inl (G.2.1, 144, .inl (r 14))), ((la 0), .inr (1, [.int (f 0), .int (f 1), .ref (la 1)])), ((la 1), .inl (G.2.1, 144, .inl l2))]) H → va_S A s.heap H locs → lv_has ls 5 [(0, .ref (a 15)), (1, .ref (la 0)), (2, .int (nI i))] → W p l e ({ frames := 1, cells := 0, slots := 0, locals := 21 }) s m ([.ref (a 15), .ref (la 0)] : List Value).toArray below meth c H locs 0 0 (MQ below (QwV G (fun w => ∃ l2 : Nat → Int32, w = [((a 15), .inr (2, [.int (f 0), .int (f 1), .int (f 2), .int (f 3), .int (f 4), .ref (b 3), .ref (a 6), .ref (a 7), .ref (a 8), .ref (a 9), .ref (a 10), .ref (a 11), .ref (a 12), .ref (a 13), .ref (a 14)])), ((a 6), .inl (G.2.2.1, 12, .inl (r 6))), ((a 7), .inl (G.2.1, 12, .inl (r 7))), ((a 8), .inl (G.2.1, 144, .inl (r 8))), ((a 9), .inl (G.2.1, 144, .inl (r 9))), ((a 10), .inl (G.2.1, 144, .inl (r 10))), ((a 11), .inl (G.2.2.1, 144, .inl (r 11))), ((a 12), .inl (G.2.1, 144, .inl (r 12))), ((a 13), .inl (G.2.1, 144, .inl (r 13))), ((a 14), .inl (G.2.1, 144, .inl (r 14))), ((la 0), .inr (1, [.int (f 0), .int (f 1), .ref (la 1)])), ((la 1), .inl (G.2.1, 144, .inl l2))]) A) ([.ref (a 15), .ref (la 0)] : List Value).toArray s 0 0 A) (F0 m 18 ls []) := by
    intro k
    induction k with
    | zero => intro i l2 h1 h2; omega
    | succ k ih =>
      intro i l2 hi_i hk_i  H locs ls hP hS hl
      have hD := D_as2 hP hD rfl
      refine lv_iload_n hx hb dX2_showValues_18 rfl (lv_at hl 2 rfl) ?_
      refine lv_aload_n hx hb dX2_showValues_19 rfl (lv_at hl 0 rfl) ?_
      refine va_get (D := G.1) (ci := 2) (v := .int (f 0)) (C := RX2) (T := TX2) (N := 15) hx hb hts inX2 hown hK.1 hP 0 rfl rfl 0 (by decide) (hts _ mf_X2_9) (fun _ h9 => h9) rfl dX2_showValues_20 ?_
      refine lv_icmp_ge (tgt := 82) hx hb dX2_showValues_23 (by decide) (fun c1 => ?_) (fun c1 => ?_)
      · rw [h0] at c1
        have hge := ge_t (by omega) (by omega) c1
        have heq : i = rw := by omega
        exact wr_vret hx hb hr hlocks hS hP ⟨l2, rfl⟩ dX2_showValues_82
      · rw [h0] at c1
        have hlt := ge_f (by omega) (by omega) c1
        refine lv_iconst (v := 0) hx hb dX2_showValues_26 (by decide) ?_
        refine lv_istore_n (lv' := [(3, .int 0), (0, .ref (a 15)), (1, .ref (la 0)), (2, .int (nI i))]) hx hb dX2_showValues_27 rfl hl (by decide) rfl (fun ls hl => ?_)
        have inner : ∀ (k2 j : Nat) (l2 : Nat → Int32), j ≤ cl → cl < j + k2 → ∀ (H : Heap) (locs : List Loc) (ls : Array Slot), PP G ([((a 15), .inr (2, [.int (f 0), .int (f 1), .int (f 2), .int (f 3), .int (f 4), .ref (b 3), .ref (a 6), .ref (a 7), .ref (a 8), .ref (a 9), .ref (a 10), .ref (a 11), .ref (a 12), .ref (a 13), .ref (a 14)])), ((a 6), .inl (G.2.2.1, 12, .inl (r 6))), ((a 7), .inl (G.2.1, 12, .inl (r 7))), ((a 8), .inl (G.2.1, 144, .inl (r 8))), ((a 9), .inl (G.2.1, 144, .inl (r 9))), ((a 10), .inl (G.2.1, 144, .inl (r 10))), ((a 11), .inl (G.2.2.1, 144, .inl (r 11))), ((a 12), .inl (G.2.1, 144, .inl (r 12))), ((a 13), .inl (G.2.1, 144, .inl (r 13))), ((a 14), .inl (G.2.1, 144, .inl (r 14))), ((la 0), .inr (1, [.int (f 0), .int (f 1), .ref (la 1)])), ((la 1), .inl (G.2.1, 144, .inl l2))]) H → va_S A s.heap H locs → lv_has ls 5 [(0, .ref (a 15)), (1, .ref (la 0)), (2, .int (nI i)), (3, .int (nI j))] → W p l e ({ frames := 1, cells := 0, slots := 0, locals := 21 }) s m ([.ref (a 15), .ref (la 0)] : List Value).toArray below meth c H locs 0 0 (MQ below (QwV G (fun w => ∃ l2 : Nat → Int32, w = [((a 15), .inr (2, [.int (f 0), .int (f 1), .int (f 2), .int (f 3), .int (f 4), .ref (b 3), .ref (a 6), .ref (a 7), .ref (a 8), .ref (a 9), .ref (a 10), .ref (a 11), .ref (a 12), .ref (a 13), .ref (a 14)])), ((a 6), .inl (G.2.2.1, 12, .inl (r 6))), ((a 7), .inl (G.2.1, 12, .inl (r 7))), ((a 8), .inl (G.2.1, 144, .inl (r 8))), ((a 9), .inl (G.2.1, 144, .inl (r 9))), ((a 10), .inl (G.2.1, 144, .inl (r 10))), ((a 11), .inl (G.2.2.1, 144, .inl (r 11))), ((a 12), .inl (G.2.1, 144, .inl (r 12))), ((a 13), .inl (G.2.1, 144, .inl (r 13))), ((a 14), .inl (G.2.1, 144, .inl (r 14))), ((la 0), .inr (1, [.int (f 0), .int (f 1), .ref (la 1)])), ((la 1), .inl (G.2.1, 144, .inl l2))]) A) ([.ref (a 15), .ref (la 0)] : List Value).toArray s 0 0 A) (F0 m 28 ls []) := by
          intro k2
          induction k2 with
          | zero => intro j l2 h1 h2; omega
          | succ k2 ih2 =>
            intro j l2 hi_j hk_j  H locs ls hP hS hl
            have hD := D_as2 hP hD rfl
            refine lv_iload_n hx hb dX2_showValues_28 rfl (lv_at hl 3 rfl) ?_
            refine lv_aload_n hx hb dX2_showValues_29 rfl (lv_at hl 0 rfl) ?_
            refine va_get (D := G.1) (ci := 2) (v := .int (f 1)) (C := RX2) (T := TX2) (N := 15) hx hb hts inX2 hown hK.1 hP 0 rfl rfl 1 (by decide) (hts _ mf_X2_15) (fun _ h9 => h9) rfl dX2_showValues_30 ?_
            refine lv_icmp_ge (tgt := 76) hx hb dX2_showValues_33 (by decide) (fun c2 => ?_) (fun c2 => ?_)
            · rw [h1] at c2
              have hge2 := ge_t (by omega) (by omega) c2
              have heq2 : j = cl := by omega
              obtain ⟨v3, ev3⟩ : ∃ y : Int32, y = (nI i) + Int32.ofInt (1) := ⟨_, rfl⟩
              refine lv_iinc (v := v3) (lv' := [(2, .int v3), (0, .ref (a 15)), (1, .ref (la 0)), (3, .int (nI j))]) hx hb dX2_showValues_76 hl (k := 2) rfl ev3.symm (by decide) rfl (fun ls hl => ?_)
              refine lv_goto (tgt := 18) hx hb dX2_showValues_79 (by decide) ?_
              exact ih (i + 1) l2 (by omega) (by omega) _ _ _ hP hS (by have e := nI_inc ev3; rw [e] at hl; exact lv_sub hl [1, 2, 0] rfl)
            · rw [h1] at c2
              have hlt2 := ge_f (by omega) (by omega) c2
              refine lv_iload_n hx hb dX2_showValues_36 rfl (lv_at hl 2 rfl) ?_
              refine lv_iload_n hx hb dX2_showValues_37 rfl (lv_at hl 3 rfl) ?_
              refine rdSN (rest := []) ⟨hx, hb, hml, hown, hts⟩ (c_X6_spotOf l G ((nI i)) ((nI j))) mi_yX6_spotOf mst_yX6_spotOf (by decide +kernel) ⟨rfl, rfl, Nat.le_of_ble_eq_true rfl, Nat.le_of_ble_eq_true rfl⟩ hK (fun k q h => by simp at h) rfl hl.1 rfl (Nat.le_of_ble_eq_true rfl) dX2_showValues_38 ⟨Nat.zero_le _, Nat.zero_le _⟩ hS hA hP (fun r4 H locs hr4 hP hS => ?_)
              obtain rfl : r4 = nI (i * 12 + j) := spot_eq hr4
              refine lv_istore (lv' := [(4, .int (nI (i * 12 + j))), (0, .ref (a 15)), (1, .ref (la 0)), (2, .int (nI i)), (3, .int (nI j))]) hx hb dX2_showValues_41 hl (by decide) rfl (fun ls hl => ?_)
              refine lv_aload_n hx hb dX2_showValues_43 rfl (lv_at hl 2 rfl) ?_
              refine va_get (D := G.1) (ci := 1) (v := .ref (la 1)) (C := RX1) (T := TX1) (N := 3) hx hb hts inX1 hown hK.1 hP 10 rfl rfl 2 (by decide) (hts _ mf_X2_169) (fun _ h9 => h9) rfl dX2_showValues_44 ?_
              refine lv_iload hx hb dX2_showValues_47 (lv_at hl 0 rfl) ?_
              refine lv_aload_n hx hb dX2_showValues_49 rfl (lv_at hl 1 rfl) ?_
              refine va_get (D := G.1) (ci := 2) (v := .ref (a 6)) (C := RX2) (T := TX2) (N := 15) hx hb hts inX2 hown hK.1 hP 0 rfl rfl 6 (by decide) (hts _ mf_X2_34) (fun _ h9 => h9) rfl dX2_showValues_50 ?_
              refine lv_iload_n hx hb dX2_showValues_53 rfl (lv_at hl 3 rfl) ?_
              refine xzald hx hb hK hP 1 (i) (rfl) (by omega) (by omega) rfl dX2_showValues_54 ?_
              refine lv_topi (fun v5 ev5 => ?_)
              refine lv_if_eq (tgt := 68) hx hb dX2_showValues_55 (by decide) (fun c6 => ?_) (fun c6 => ?_)
              · refine lv_iconst (v := -1) hx hb dX2_showValues_68 (by decide) ?_
                refine xiast (x := (-1)) hx hb hK hP hD hS 11 (i * 12 + j) (rfl) (by omega) (by omega) rfl dX2_showValues_69 (fun H locs hP hD hS => ?_)
                have hP : PP G [((a 15), .inr (2, [.int (f 0), .int (f 1), .int (f 2), .int (f 3), .int (f 4), .ref (b 3), .ref (a 6), .ref (a 7), .ref (a 8), .ref (a 9), .ref (a 10), .ref (a 11), .ref (a 12), .ref (a 13), .ref (a 14)])), ((a 6), .inl (G.2.2.1, 12, .inl (r 6))), ((a 7), .inl (G.2.1, 12, .inl (r 7))), ((a 8), .inl (G.2.1, 144, .inl (r 8))), ((a 9), .inl (G.2.1, 144, .inl (r 9))), ((a 10), .inl (G.2.1, 144, .inl (r 10))), ((a 11), .inl (G.2.2.1, 144, .inl (r 11))), ((a 12), .inl (G.2.1, 144, .inl (r 12))), ((a 13), .inl (G.2.1, 144, .inl (r 13))), ((a 14), .inl (G.2.1, 144, .inl (r 14))), ((la 0), .inr (1, [.int (f 0), .int (f 1), .ref (la 1)])), ((la 1), .inl (G.2.1, 144, .inl (upd l2 (i * 12 + j) ((-1)))))] H := hP
                have hD := D_as hP hD rfl
                obtain ⟨v7, ev7⟩ : ∃ y : Int32, y = (nI j) + Int32.ofInt (1) := ⟨_, rfl⟩
                refine lv_iinc (v := v7) (lv' := [(3, .int v7), (4, .int (nI (i * 12 + j))), (0, .ref (a 15)), (1, .ref (la 0)), (2, .int (nI i))]) hx hb dX2_showValues_70 hl (k := 4) rfl ev7.symm (by decide) rfl (fun ls hl => ?_)
                refine lv_goto (tgt := 28) hx hb dX2_showValues_73 (by decide) ?_
                exact ih2 (j + 1) (upd l2 (i * 12 + j) ((-1))) (by omega) (by omega) _ _ _ hP hS (by have e := nI_inc ev7; rw [e] at hl; exact lv_sub hl [2, 3, 4, 0] rfl)
              · refine lv_aload_n hx hb dX2_showValues_58 rfl (lv_at hl 1 rfl) ?_
                refine va_get (D := G.1) (ci := 2) (v := .ref (a 12)) (C := RX2) (T := TX2) (N := 15) hx hb hts inX2 hown hK.1 hP 0 rfl rfl 12 (by decide) (hts _ mf_X2_54) (fun _ h9 => h9) rfl dX2_showValues_59 ?_
                refine lv_iload hx hb dX2_showValues_62 (lv_at hl 0 rfl) ?_
                refine xiald hx hb hK hP 7 (i * 12 + j) (rfl) (by omega) (by omega) rfl dX2_showValues_64 ?_
                refine lv_topi (fun v8 ev8 => ?_)
                refine lv_goto (tgt := 69) hx hb dX2_showValues_65 (by decide) ?_
                refine xiast (x := v8) hx hb hK hP hD hS 11 (i * 12 + j) (rfl) (by omega) (by omega) rfl dX2_showValues_69 (fun H locs hP hD hS => ?_)
                have hP : PP G [((a 15), .inr (2, [.int (f 0), .int (f 1), .int (f 2), .int (f 3), .int (f 4), .ref (b 3), .ref (a 6), .ref (a 7), .ref (a 8), .ref (a 9), .ref (a 10), .ref (a 11), .ref (a 12), .ref (a 13), .ref (a 14)])), ((a 6), .inl (G.2.2.1, 12, .inl (r 6))), ((a 7), .inl (G.2.1, 12, .inl (r 7))), ((a 8), .inl (G.2.1, 144, .inl (r 8))), ((a 9), .inl (G.2.1, 144, .inl (r 9))), ((a 10), .inl (G.2.1, 144, .inl (r 10))), ((a 11), .inl (G.2.2.1, 144, .inl (r 11))), ((a 12), .inl (G.2.1, 144, .inl (r 12))), ((a 13), .inl (G.2.1, 144, .inl (r 13))), ((a 14), .inl (G.2.1, 144, .inl (r 14))), ((la 0), .inr (1, [.int (f 0), .int (f 1), .ref (la 1)])), ((la 1), .inl (G.2.1, 144, .inl (upd l2 (i * 12 + j) (v8))))] H := hP
                have hD := D_as hP hD rfl
                obtain ⟨v9, ev9⟩ : ∃ y : Int32, y = (nI j) + Int32.ofInt (1) := ⟨_, rfl⟩
                refine lv_iinc (v := v9) (lv' := [(3, .int v9), (4, .int (nI (i * 12 + j))), (0, .ref (a 15)), (1, .ref (la 0)), (2, .int (nI i))]) hx hb dX2_showValues_70 hl (k := 4) rfl ev9.symm (by decide) rfl (fun ls hl => ?_)
                refine lv_goto (tgt := 28) hx hb dX2_showValues_73 (by decide) ?_
                exact ih2 (j + 1) (upd l2 (i * 12 + j) (v8)) (by omega) (by omega) _ _ _ hP hS (by have e := nI_inc ev9; rw [e] at hl; exact lv_sub hl [2, 3, 4, 0] rfl)
        exact inner (cl + 1) 0 l2 (Nat.zero_le _) (by omega) _ _ _ hP hS (lv_sub hl [1, 2, 3, 0] rfl)
  exact outer (rw + 1) 0 lf (Nat.zero_le _) (by omega) _ _ _ hP hS (lv_sub hl [1, 2, 0] rfl)
set_option maxHeartbeats 4000000 in
set_option maxRecDepth 100000 in
theorem c_X2_showOpenly (l : Launch) (G : GG) (a b : Nat → Nat) (f : Nat → Int32) (r : Nat → Nat → Int32) (la : Nat → Nat) (l0 l1 : Int32) (lf : Nat → Int32) (rw cl : Nat) (hrw : rw ≤ 12) (hcl : cl ≤ 12) (h0 : f 0 = nI rw) (h1 : f 1 = nI cl) : WrV l yX2_showOpenly cX2_showOpenly 6 ({ frames := 1, cells := 0, slots := 0, locals := 21 }) G ([((a 15), .inr (2, [.int (f 0), .int (f 1), .int (f 2), .int (f 3), .int (f 4), .ref (b 3), .ref (a 6), .ref (a 7), .ref (a 8), .ref (a 9), .ref (a 10), .ref (a 11), .ref (a 12), .ref (a 13), .ref (a 14)])), ((a 6), .inl (G.2.2.1, 12, .inl (r 6))), ((a 7), .inl (G.2.1, 12, .inl (r 7))), ((a 8), .inl (G.2.1, 144, .inl (r 8))), ((a 9), .inl (G.2.1, 144, .inl (r 9))), ((a 10), .inl (G.2.1, 144, .inl (r 10))), ((a 11), .inl (G.2.2.1, 144, .inl (r 11))), ((a 12), .inl (G.2.1, 144, .inl (r 12))), ((a 13), .inl (G.2.1, 144, .inl (r 13))), ((a 14), .inl (G.2.1, 144, .inl (r 14))), ((la 0), .inr (1, [.int l0, .int l1, .ref (la 1)])), ((la 1), .inl (G.2.1, 144, .inl lf))]) [.ref (a 15), .ref (la 0)] (fun w => ∃ l2 : Nat → Int32, w = [((a 15), .inr (2, [.int (f 0), .int (f 1), .int (f 2), .int (f 3), .int (f 4), .ref (b 3), .ref (a 6), .ref (a 7), .ref (a 8), .ref (a 9), .ref (a 10), .ref (a 11), .ref (a 12), .ref (a 13), .ref (a 14)])), ((a 6), .inl (G.2.2.1, 12, .inl (r 6))), ((a 7), .inl (G.2.1, 12, .inl (r 7))), ((a 8), .inl (G.2.1, 144, .inl (r 8))), ((a 9), .inl (G.2.1, 144, .inl (r 9))), ((a 10), .inl (G.2.1, 144, .inl (r 10))), ((a 11), .inl (G.2.2.1, 144, .inl (r 11))), ((a 12), .inl (G.2.1, 144, .inl (r 12))), ((a 13), .inl (G.2.1, 144, .inl (r 13))), ((a 14), .inl (G.2.1, 144, .inl (r 14))), ((la 0), .inr (1, [.int (f 0), .int (f 1), .ref (la 1)])), ((la 1), .inl (G.2.1, 144, .inl l2))]) := by
  refine wr_entryV (by decide +kernel) (Nat.le_of_ble_eq_true rfl) ?_
  intro p e s m below meth c A C0 hP hK hD hA ls hl
  have hS : va_S A s.heap s.heap [] := va_S.rf
  obtain ⟨hx, hb, hml, hown, hts, hr, hlocks, hin⟩ := C0
  have hown : s.vm.findClass RX2 = some m.cls := hown
  have hl : lv_has ls 6 [(0, .ref (a 15)), (1, .ref (la 0))] := hl
  refine lv_aload_n hx hb dX2_showOpenly_0 rfl (lv_at hl 1 rfl) ?_
  refine lv_aload_n hx hb dX2_showOpenly_1 rfl (lv_at hl 0 rfl) ?_
  refine va_get (D := G.1) (ci := 2) (v := .int (f 0)) (C := RX2) (T := TX2) (N := 15) hx hb hts inX2 hown hK.1 hP 0 rfl rfl 0 (by decide) (hts _ mf_X2_9) (fun _ h9 => h9) rfl dX2_showOpenly_2 ?_
  refine va_put (D := G.1) (ci := 1) (v := .int (f 0)) (C := RX1) (T := TX1) (N := 3) hx hb hts inX1 tyX1 tyX1_ok nmX1 hown hK.1 hP hD hS 10 rfl rfl 0 (by decide) (hts _ mf_X2_165) (fun _ h9 => h9) rfl (tyX1_ok 0 (by decide)) (rfl) (rfl) (Nat.le_of_ble_eq_true rfl) dX2_showOpenly_5 (fun H locs hP hD hS => ?_)
  have hP : PP G [((a 15), .inr (2, [.int (f 0), .int (f 1), .int (f 2), .int (f 3), .int (f 4), .ref (b 3), .ref (a 6), .ref (a 7), .ref (a 8), .ref (a 9), .ref (a 10), .ref (a 11), .ref (a 12), .ref (a 13), .ref (a 14)])), ((a 6), .inl (G.2.2.1, 12, .inl (r 6))), ((a 7), .inl (G.2.1, 12, .inl (r 7))), ((a 8), .inl (G.2.1, 144, .inl (r 8))), ((a 9), .inl (G.2.1, 144, .inl (r 9))), ((a 10), .inl (G.2.1, 144, .inl (r 10))), ((a 11), .inl (G.2.2.1, 144, .inl (r 11))), ((a 12), .inl (G.2.1, 144, .inl (r 12))), ((a 13), .inl (G.2.1, 144, .inl (r 13))), ((a 14), .inl (G.2.1, 144, .inl (r 14))), ((la 0), .inr (1, [.int (f 0), .int l1, .ref (la 1)])), ((la 1), .inl (G.2.1, 144, .inl lf))] H := hP
  have hD := D_as hP hD rfl
  refine lv_aload_n hx hb dX2_showOpenly_8 rfl (lv_at hl 1 rfl) ?_
  refine lv_aload_n hx hb dX2_showOpenly_9 rfl (lv_at hl 0 rfl) ?_
  refine va_get (D := G.1) (ci := 2) (v := .int (f 1)) (C := RX2) (T := TX2) (N := 15) hx hb hts inX2 hown hK.1 hP 0 rfl rfl 1 (by decide) (hts _ mf_X2_15) (fun _ h9 => h9) rfl dX2_showOpenly_10 ?_
  refine va_put (D := G.1) (ci := 1) (v := .int (f 1)) (C := RX1) (T := TX1) (N := 3) hx hb hts inX1 tyX1 tyX1_ok nmX1 hown hK.1 hP hD hS 10 rfl rfl 1 (by decide) (hts _ mf_X2_168) (fun _ h9 => h9) rfl (tyX1_ok 1 (by decide)) (rfl) (rfl) (Nat.le_of_ble_eq_true rfl) dX2_showOpenly_13 (fun H locs hP hD hS => ?_)
  have hP : PP G [((a 15), .inr (2, [.int (f 0), .int (f 1), .int (f 2), .int (f 3), .int (f 4), .ref (b 3), .ref (a 6), .ref (a 7), .ref (a 8), .ref (a 9), .ref (a 10), .ref (a 11), .ref (a 12), .ref (a 13), .ref (a 14)])), ((a 6), .inl (G.2.2.1, 12, .inl (r 6))), ((a 7), .inl (G.2.1, 12, .inl (r 7))), ((a 8), .inl (G.2.1, 144, .inl (r 8))), ((a 9), .inl (G.2.1, 144, .inl (r 9))), ((a 10), .inl (G.2.1, 144, .inl (r 10))), ((a 11), .inl (G.2.2.1, 144, .inl (r 11))), ((a 12), .inl (G.2.1, 144, .inl (r 12))), ((a 13), .inl (G.2.1, 144, .inl (r 13))), ((a 14), .inl (G.2.1, 144, .inl (r 14))), ((la 0), .inr (1, [.int (f 0), .int (f 1), .ref (la 1)])), ((la 1), .inl (G.2.1, 144, .inl lf))] H := hP
  have hD := D_as hP hD rfl
  refine lv_iconst (v := 0) hx hb dX2_showOpenly_16 (by decide) ?_
  refine lv_istore_n (lv' := [(2, .int 0), (0, .ref (a 15)), (1, .ref (la 0))]) hx hb dX2_showOpenly_17 rfl hl (by decide) rfl (fun ls hl => ?_)
  have outer : ∀ (k i : Nat) (l2 : Nat → Int32), i ≤ rw → rw < i + k → ∀ (H : Heap) (locs : List Loc) (ls : Array Slot), PP G ([((a 15), .inr (2, [.int (f 0), .int (f 1), .int (f 2), .int (f 3), .int (f 4), .ref (b 3), .ref (a 6), .ref (a 7), .ref (a 8), .ref (a 9), .ref (a 10), .ref (a 11), .ref (a 12), .ref (a 13), .ref (a 14)])), ((a 6), .inl (G.2.2.1, 12, .inl (r 6))), ((a 7), .inl (G.2.1, 12, .inl (r 7))), ((a 8), .inl (G.2.1, 144, .inl (r 8))), ((a 9), .inl (G.2.1, 144, .inl (r 9))), ((a 10), .inl (G.2.1, 144, .inl (r 10))), ((a 11), .inl (G.2.2.1, 144, .inl (r 11))), ((a 12), .inl (G.2.1, 144, .inl (r 12))), ((a 13), .inl (G.2.1, 144, .inl (r 13))), ((a 14), .inl (G.2.1, 144, .inl (r 14))), ((la 0), .inr (1, [.int (f 0), .int (f 1), .ref (la 1)])), ((la 1), .inl (G.2.1, 144, .inl l2))]) H → va_S A s.heap H locs → lv_has ls 6 [(0, .ref (a 15)), (1, .ref (la 0)), (2, .int (nI i))] → W p l e ({ frames := 1, cells := 0, slots := 0, locals := 21 }) s m ([.ref (a 15), .ref (la 0)] : List Value).toArray below meth c H locs 0 0 (MQ below (QwV G (fun w => ∃ l2 : Nat → Int32, w = [((a 15), .inr (2, [.int (f 0), .int (f 1), .int (f 2), .int (f 3), .int (f 4), .ref (b 3), .ref (a 6), .ref (a 7), .ref (a 8), .ref (a 9), .ref (a 10), .ref (a 11), .ref (a 12), .ref (a 13), .ref (a 14)])), ((a 6), .inl (G.2.2.1, 12, .inl (r 6))), ((a 7), .inl (G.2.1, 12, .inl (r 7))), ((a 8), .inl (G.2.1, 144, .inl (r 8))), ((a 9), .inl (G.2.1, 144, .inl (r 9))), ((a 10), .inl (G.2.1, 144, .inl (r 10))), ((a 11), .inl (G.2.2.1, 144, .inl (r 11))), ((a 12), .inl (G.2.1, 144, .inl (r 12))), ((a 13), .inl (G.2.1, 144, .inl (r 13))), ((a 14), .inl (G.2.1, 144, .inl (r 14))), ((la 0), .inr (1, [.int (f 0), .int (f 1), .ref (la 1)])), ((la 1), .inl (G.2.1, 144, .inl l2))]) A) ([.ref (a 15), .ref (la 0)] : List Value).toArray s 0 0 A) (F0 m 18 ls []) := by
    intro k
    induction k with
    | zero => intro i l2 h1 h2; omega
    | succ k ih =>
      intro i l2 hi_i hk_i  H locs ls hP hS hl
      have hD := D_as2 hP hD rfl
      refine lv_iload_n hx hb dX2_showOpenly_18 rfl (lv_at hl 2 rfl) ?_
      refine lv_aload_n hx hb dX2_showOpenly_19 rfl (lv_at hl 0 rfl) ?_
      refine va_get (D := G.1) (ci := 2) (v := .int (f 0)) (C := RX2) (T := TX2) (N := 15) hx hb hts inX2 hown hK.1 hP 0 rfl rfl 0 (by decide) (hts _ mf_X2_9) (fun _ h9 => h9) rfl dX2_showOpenly_20 ?_
      refine lv_icmp_ge (tgt := 102) hx hb dX2_showOpenly_23 (by decide) (fun c1 => ?_) (fun c1 => ?_)
      · rw [h0] at c1
        have hge := ge_t (by omega) (by omega) c1
        have heq : i = rw := by omega
        exact wr_vret hx hb hr hlocks hS hP ⟨l2, rfl⟩ dX2_showOpenly_102
      · rw [h0] at c1
        have hlt := ge_f (by omega) (by omega) c1
        refine lv_iconst (v := 0) hx hb dX2_showOpenly_26 (by decide) ?_
        refine lv_istore_n (lv' := [(3, .int 0), (0, .ref (a 15)), (1, .ref (la 0)), (2, .int (nI i))]) hx hb dX2_showOpenly_27 rfl hl (by decide) rfl (fun ls hl => ?_)
        have inner : ∀ (k2 j : Nat) (l2 : Nat → Int32), j ≤ cl → cl < j + k2 → ∀ (H : Heap) (locs : List Loc) (ls : Array Slot), PP G ([((a 15), .inr (2, [.int (f 0), .int (f 1), .int (f 2), .int (f 3), .int (f 4), .ref (b 3), .ref (a 6), .ref (a 7), .ref (a 8), .ref (a 9), .ref (a 10), .ref (a 11), .ref (a 12), .ref (a 13), .ref (a 14)])), ((a 6), .inl (G.2.2.1, 12, .inl (r 6))), ((a 7), .inl (G.2.1, 12, .inl (r 7))), ((a 8), .inl (G.2.1, 144, .inl (r 8))), ((a 9), .inl (G.2.1, 144, .inl (r 9))), ((a 10), .inl (G.2.1, 144, .inl (r 10))), ((a 11), .inl (G.2.2.1, 144, .inl (r 11))), ((a 12), .inl (G.2.1, 144, .inl (r 12))), ((a 13), .inl (G.2.1, 144, .inl (r 13))), ((a 14), .inl (G.2.1, 144, .inl (r 14))), ((la 0), .inr (1, [.int (f 0), .int (f 1), .ref (la 1)])), ((la 1), .inl (G.2.1, 144, .inl l2))]) H → va_S A s.heap H locs → lv_has ls 6 [(0, .ref (a 15)), (1, .ref (la 0)), (2, .int (nI i)), (3, .int (nI j))] → W p l e ({ frames := 1, cells := 0, slots := 0, locals := 21 }) s m ([.ref (a 15), .ref (la 0)] : List Value).toArray below meth c H locs 0 0 (MQ below (QwV G (fun w => ∃ l2 : Nat → Int32, w = [((a 15), .inr (2, [.int (f 0), .int (f 1), .int (f 2), .int (f 3), .int (f 4), .ref (b 3), .ref (a 6), .ref (a 7), .ref (a 8), .ref (a 9), .ref (a 10), .ref (a 11), .ref (a 12), .ref (a 13), .ref (a 14)])), ((a 6), .inl (G.2.2.1, 12, .inl (r 6))), ((a 7), .inl (G.2.1, 12, .inl (r 7))), ((a 8), .inl (G.2.1, 144, .inl (r 8))), ((a 9), .inl (G.2.1, 144, .inl (r 9))), ((a 10), .inl (G.2.1, 144, .inl (r 10))), ((a 11), .inl (G.2.2.1, 144, .inl (r 11))), ((a 12), .inl (G.2.1, 144, .inl (r 12))), ((a 13), .inl (G.2.1, 144, .inl (r 13))), ((a 14), .inl (G.2.1, 144, .inl (r 14))), ((la 0), .inr (1, [.int (f 0), .int (f 1), .ref (la 1)])), ((la 1), .inl (G.2.1, 144, .inl l2))]) A) ([.ref (a 15), .ref (la 0)] : List Value).toArray s 0 0 A) (F0 m 28 ls []) := by
          intro k2
          induction k2 with
          | zero => intro j l2 h1 h2; omega
          | succ k2 ih2 =>
            intro j l2 hi_j hk_j  H locs ls hP hS hl
            have hD := D_as2 hP hD rfl
            refine lv_iload_n hx hb dX2_showOpenly_28 rfl (lv_at hl 3 rfl) ?_
            refine lv_aload_n hx hb dX2_showOpenly_29 rfl (lv_at hl 0 rfl) ?_
            refine va_get (D := G.1) (ci := 2) (v := .int (f 1)) (C := RX2) (T := TX2) (N := 15) hx hb hts inX2 hown hK.1 hP 0 rfl rfl 1 (by decide) (hts _ mf_X2_15) (fun _ h9 => h9) rfl dX2_showOpenly_30 ?_
            refine lv_icmp_ge (tgt := 96) hx hb dX2_showOpenly_33 (by decide) (fun c2 => ?_) (fun c2 => ?_)
            · rw [h1] at c2
              have hge2 := ge_t (by omega) (by omega) c2
              have heq2 : j = cl := by omega
              obtain ⟨v3, ev3⟩ : ∃ y : Int32, y = (nI i) + Int32.ofInt (1) := ⟨_, rfl⟩
              refine lv_iinc (v := v3) (lv' := [(2, .int v3), (0, .ref (a 15)), (1, .ref (la 0)), (3, .int (nI j))]) hx hb dX2_showOpenly_96 hl (k := 2) rfl ev3.symm (by decide) rfl (fun ls hl => ?_)
              refine lv_goto (tgt := 18) hx hb dX2_showOpenly_99 (by decide) ?_
              exact ih (i + 1) l2 (by omega) (by omega) _ _ _ hP hS (by have e := nI_inc ev3; rw [e] at hl; exact lv_sub hl [1, 2, 0] rfl)
            · rw [h1] at c2
              have hlt2 := ge_f (by omega) (by omega) c2
              refine lv_iload_n hx hb dX2_showOpenly_36 rfl (lv_at hl 2 rfl) ?_
              refine lv_iload_n hx hb dX2_showOpenly_37 rfl (lv_at hl 3 rfl) ?_
              refine rdSN (rest := []) ⟨hx, hb, hml, hown, hts⟩ (c_X6_spotOf l G ((nI i)) ((nI j))) mi_yX6_spotOf mst_yX6_spotOf (by decide +kernel) ⟨rfl, rfl, Nat.le_of_ble_eq_true rfl, Nat.le_of_ble_eq_true rfl⟩ hK (fun k q h => by simp at h) rfl hl.1 rfl (Nat.le_of_ble_eq_true rfl) dX2_showOpenly_38 ⟨Nat.zero_le _, Nat.zero_le _⟩ hS hA hP (fun r4 H locs hr4 hP hS => ?_)
              obtain rfl : r4 = nI (i * 12 + j) := spot_eq hr4
              refine lv_istore (lv' := [(4, .int (nI (i * 12 + j))), (0, .ref (a 15)), (1, .ref (la 0)), (2, .int (nI i)), (3, .int (nI j))]) hx hb dX2_showOpenly_41 hl (by decide) rfl (fun ls hl => ?_)
              refine lv_aload_n hx hb dX2_showOpenly_43 rfl (lv_at hl 1 rfl) ?_
              refine va_get (D := G.1) (ci := 2) (v := .ref (a 11)) (C := RX2) (T := TX2) (N := 15) hx hb hts inX2 hown hK.1 hP 0 rfl rfl 11 (by decide) (hts _ mf_X2_51) (fun _ h9 => h9) rfl dX2_showOpenly_44 ?_
              refine lv_iload hx hb dX2_showOpenly_47 (lv_at hl 0 rfl) ?_
              refine xzald hx hb hK hP 6 (i * 12 + j) (rfl) (by omega) (by omega) rfl dX2_showOpenly_49 ?_
              refine lv_topi (fun v5 ev5 => ?_)
              refine lv_if_eq (tgt := 58) hx hb dX2_showOpenly_50 (by decide) (fun c6 => ?_) (fun c6 => ?_)
              · refine lv_aload_n hx hb dX2_showOpenly_58 rfl (lv_at hl 1 rfl) ?_
                refine va_get (D := G.1) (ci := 2) (v := .ref (a 9)) (C := RX2) (T := TX2) (N := 15) hx hb hts inX2 hown hK.1 hP 0 rfl rfl 9 (by decide) (hts _ mf_X2_45) (fun _ h9 => h9) rfl dX2_showOpenly_59 ?_
                refine lv_iload hx hb dX2_showOpenly_62 (lv_at hl 0 rfl) ?_
                refine xiald hx hb hK hP 4 (i * 12 + j) (rfl) (by omega) (by omega) rfl dX2_showOpenly_64 ?_
                refine lv_topi (fun v7 ev7 => ?_)
                refine lv_istore (lv' := [(5, .int v7), (4, .int (nI (i * 12 + j))), (0, .ref (a 15)), (1, .ref (la 0)), (2, .int (nI i)), (3, .int (nI j))]) hx hb dX2_showOpenly_65 hl (by decide) rfl (fun ls hl => ?_)
                refine lv_aload_n hx hb dX2_showOpenly_67 rfl (lv_at hl 3 rfl) ?_
                refine va_get (D := G.1) (ci := 1) (v := .ref (la 1)) (C := RX1) (T := TX1) (N := 3) hx hb hts inX1 hown hK.1 hP 10 rfl rfl 2 (by decide) (hts _ mf_X2_169) (fun _ h9 => h9) rfl dX2_showOpenly_68 ?_
                refine lv_iload hx hb dX2_showOpenly_71 (lv_at hl 1 rfl) ?_
                refine lv_aload_n hx hb dX2_showOpenly_73 rfl (lv_at hl 2 rfl) ?_
                refine va_get (D := G.1) (ci := 2) (v := .ref (a 6)) (C := RX2) (T := TX2) (N := 15) hx hb hts inX2 hown hK.1 hP 0 rfl rfl 6 (by decide) (hts _ mf_X2_34) (fun _ h9 => h9) rfl dX2_showOpenly_74 ?_
                refine lv_iload_n hx hb dX2_showOpenly_77 rfl (lv_at hl 4 rfl) ?_
                refine xzald hx hb hK hP 1 (i) (rfl) (by omega) (by omega) rfl dX2_showOpenly_78 ?_
                refine lv_topi (fun v8 ev8 => ?_)
                refine lv_if_eq (tgt := 87) hx hb dX2_showOpenly_79 (by decide) (fun c9 => ?_) (fun c9 => ?_)
                · refine lv_bipush (v := -3) hx hb dX2_showOpenly_87 (by decide) ?_
                  refine xiast (x := (-3)) hx hb hK hP hD hS 11 (i * 12 + j) (rfl) (by omega) (by omega) rfl dX2_showOpenly_89 (fun H locs hP hD hS => ?_)
                  have hP : PP G [((a 15), .inr (2, [.int (f 0), .int (f 1), .int (f 2), .int (f 3), .int (f 4), .ref (b 3), .ref (a 6), .ref (a 7), .ref (a 8), .ref (a 9), .ref (a 10), .ref (a 11), .ref (a 12), .ref (a 13), .ref (a 14)])), ((a 6), .inl (G.2.2.1, 12, .inl (r 6))), ((a 7), .inl (G.2.1, 12, .inl (r 7))), ((a 8), .inl (G.2.1, 144, .inl (r 8))), ((a 9), .inl (G.2.1, 144, .inl (r 9))), ((a 10), .inl (G.2.1, 144, .inl (r 10))), ((a 11), .inl (G.2.2.1, 144, .inl (r 11))), ((a 12), .inl (G.2.1, 144, .inl (r 12))), ((a 13), .inl (G.2.1, 144, .inl (r 13))), ((a 14), .inl (G.2.1, 144, .inl (r 14))), ((la 0), .inr (1, [.int (f 0), .int (f 1), .ref (la 1)])), ((la 1), .inl (G.2.1, 144, .inl (upd l2 (i * 12 + j) ((-3)))))] H := hP
                  have hD := D_as hP hD rfl
                  obtain ⟨v10, ev10⟩ : ∃ y : Int32, y = (nI j) + Int32.ofInt (1) := ⟨_, rfl⟩
                  refine lv_iinc (v := v10) (lv' := [(3, .int v10), (5, .int v7), (4, .int (nI (i * 12 + j))), (0, .ref (a 15)), (1, .ref (la 0)), (2, .int (nI i))]) hx hb dX2_showOpenly_90 hl (k := 5) rfl ev10.symm (by decide) rfl (fun ls hl => ?_)
                  refine lv_goto (tgt := 28) hx hb dX2_showOpenly_93 (by decide) ?_
                  exact ih2 (j + 1) (upd l2 (i * 12 + j) ((-3))) (by omega) (by omega) _ _ _ hP hS (by have e := nI_inc ev10; rw [e] at hl; exact lv_sub hl [3, 4, 5, 0] rfl)
                · refine lv_iload hx hb dX2_showOpenly_82 (lv_at hl 0 rfl) ?_
                  refine lv_goto (tgt := 89) hx hb dX2_showOpenly_84 (by decide) ?_
                  refine xiast (x := v7) hx hb hK hP hD hS 11 (i * 12 + j) (rfl) (by omega) (by omega) rfl dX2_showOpenly_89 (fun H locs hP hD hS => ?_)
                  have hP : PP G [((a 15), .inr (2, [.int (f 0), .int (f 1), .int (f 2), .int (f 3), .int (f 4), .ref (b 3), .ref (a 6), .ref (a 7), .ref (a 8), .ref (a 9), .ref (a 10), .ref (a 11), .ref (a 12), .ref (a 13), .ref (a 14)])), ((a 6), .inl (G.2.2.1, 12, .inl (r 6))), ((a 7), .inl (G.2.1, 12, .inl (r 7))), ((a 8), .inl (G.2.1, 144, .inl (r 8))), ((a 9), .inl (G.2.1, 144, .inl (r 9))), ((a 10), .inl (G.2.1, 144, .inl (r 10))), ((a 11), .inl (G.2.2.1, 144, .inl (r 11))), ((a 12), .inl (G.2.1, 144, .inl (r 12))), ((a 13), .inl (G.2.1, 144, .inl (r 13))), ((a 14), .inl (G.2.1, 144, .inl (r 14))), ((la 0), .inr (1, [.int (f 0), .int (f 1), .ref (la 1)])), ((la 1), .inl (G.2.1, 144, .inl (upd l2 (i * 12 + j) (v7))))] H := hP
                  have hD := D_as hP hD rfl
                  obtain ⟨v11, ev11⟩ : ∃ y : Int32, y = (nI j) + Int32.ofInt (1) := ⟨_, rfl⟩
                  refine lv_iinc (v := v11) (lv' := [(3, .int v11), (5, .int v7), (4, .int (nI (i * 12 + j))), (0, .ref (a 15)), (1, .ref (la 0)), (2, .int (nI i))]) hx hb dX2_showOpenly_90 hl (k := 5) rfl ev11.symm (by decide) rfl (fun ls hl => ?_)
                  refine lv_goto (tgt := 28) hx hb dX2_showOpenly_93 (by decide) ?_
                  exact ih2 (j + 1) (upd l2 (i * 12 + j) (v7)) (by omega) (by omega) _ _ _ hP hS (by have e := nI_inc ev11; rw [e] at hl; exact lv_sub hl [3, 4, 5, 0] rfl)
              · refine lv_bipush (v := -2) hx hb dX2_showOpenly_53 (by decide) ?_
                refine lv_goto (tgt := 65) hx hb dX2_showOpenly_55 (by decide) ?_
                refine lv_istore (lv' := [(5, .int (-2)), (4, .int (nI (i * 12 + j))), (0, .ref (a 15)), (1, .ref (la 0)), (2, .int (nI i)), (3, .int (nI j))]) hx hb dX2_showOpenly_65 hl (by decide) rfl (fun ls hl => ?_)
                refine lv_aload_n hx hb dX2_showOpenly_67 rfl (lv_at hl 3 rfl) ?_
                refine va_get (D := G.1) (ci := 1) (v := .ref (la 1)) (C := RX1) (T := TX1) (N := 3) hx hb hts inX1 hown hK.1 hP 10 rfl rfl 2 (by decide) (hts _ mf_X2_169) (fun _ h9 => h9) rfl dX2_showOpenly_68 ?_
                refine lv_iload hx hb dX2_showOpenly_71 (lv_at hl 1 rfl) ?_
                refine lv_aload_n hx hb dX2_showOpenly_73 rfl (lv_at hl 2 rfl) ?_
                refine va_get (D := G.1) (ci := 2) (v := .ref (a 6)) (C := RX2) (T := TX2) (N := 15) hx hb hts inX2 hown hK.1 hP 0 rfl rfl 6 (by decide) (hts _ mf_X2_34) (fun _ h9 => h9) rfl dX2_showOpenly_74 ?_
                refine lv_iload_n hx hb dX2_showOpenly_77 rfl (lv_at hl 4 rfl) ?_
                refine xzald hx hb hK hP 1 (i) (rfl) (by omega) (by omega) rfl dX2_showOpenly_78 ?_
                refine lv_topi (fun v12 ev12 => ?_)
                refine lv_if_eq (tgt := 87) hx hb dX2_showOpenly_79 (by decide) (fun c13 => ?_) (fun c13 => ?_)
                · refine lv_bipush (v := -3) hx hb dX2_showOpenly_87 (by decide) ?_
                  refine xiast (x := (-3)) hx hb hK hP hD hS 11 (i * 12 + j) (rfl) (by omega) (by omega) rfl dX2_showOpenly_89 (fun H locs hP hD hS => ?_)
                  have hP : PP G [((a 15), .inr (2, [.int (f 0), .int (f 1), .int (f 2), .int (f 3), .int (f 4), .ref (b 3), .ref (a 6), .ref (a 7), .ref (a 8), .ref (a 9), .ref (a 10), .ref (a 11), .ref (a 12), .ref (a 13), .ref (a 14)])), ((a 6), .inl (G.2.2.1, 12, .inl (r 6))), ((a 7), .inl (G.2.1, 12, .inl (r 7))), ((a 8), .inl (G.2.1, 144, .inl (r 8))), ((a 9), .inl (G.2.1, 144, .inl (r 9))), ((a 10), .inl (G.2.1, 144, .inl (r 10))), ((a 11), .inl (G.2.2.1, 144, .inl (r 11))), ((a 12), .inl (G.2.1, 144, .inl (r 12))), ((a 13), .inl (G.2.1, 144, .inl (r 13))), ((a 14), .inl (G.2.1, 144, .inl (r 14))), ((la 0), .inr (1, [.int (f 0), .int (f 1), .ref (la 1)])), ((la 1), .inl (G.2.1, 144, .inl (upd l2 (i * 12 + j) ((-3)))))] H := hP
                  have hD := D_as hP hD rfl
                  obtain ⟨v14, ev14⟩ : ∃ y : Int32, y = (nI j) + Int32.ofInt (1) := ⟨_, rfl⟩
                  refine lv_iinc (v := v14) (lv' := [(3, .int v14), (5, .int (-2)), (4, .int (nI (i * 12 + j))), (0, .ref (a 15)), (1, .ref (la 0)), (2, .int (nI i))]) hx hb dX2_showOpenly_90 hl (k := 5) rfl ev14.symm (by decide) rfl (fun ls hl => ?_)
                  refine lv_goto (tgt := 28) hx hb dX2_showOpenly_93 (by decide) ?_
                  exact ih2 (j + 1) (upd l2 (i * 12 + j) ((-3))) (by omega) (by omega) _ _ _ hP hS (by have e := nI_inc ev14; rw [e] at hl; exact lv_sub hl [3, 4, 5, 0] rfl)
                · refine lv_iload hx hb dX2_showOpenly_82 (lv_at hl 0 rfl) ?_
                  refine lv_goto (tgt := 89) hx hb dX2_showOpenly_84 (by decide) ?_
                  refine xiast (x := (-2)) hx hb hK hP hD hS 11 (i * 12 + j) (rfl) (by omega) (by omega) rfl dX2_showOpenly_89 (fun H locs hP hD hS => ?_)
                  have hP : PP G [((a 15), .inr (2, [.int (f 0), .int (f 1), .int (f 2), .int (f 3), .int (f 4), .ref (b 3), .ref (a 6), .ref (a 7), .ref (a 8), .ref (a 9), .ref (a 10), .ref (a 11), .ref (a 12), .ref (a 13), .ref (a 14)])), ((a 6), .inl (G.2.2.1, 12, .inl (r 6))), ((a 7), .inl (G.2.1, 12, .inl (r 7))), ((a 8), .inl (G.2.1, 144, .inl (r 8))), ((a 9), .inl (G.2.1, 144, .inl (r 9))), ((a 10), .inl (G.2.1, 144, .inl (r 10))), ((a 11), .inl (G.2.2.1, 144, .inl (r 11))), ((a 12), .inl (G.2.1, 144, .inl (r 12))), ((a 13), .inl (G.2.1, 144, .inl (r 13))), ((a 14), .inl (G.2.1, 144, .inl (r 14))), ((la 0), .inr (1, [.int (f 0), .int (f 1), .ref (la 1)])), ((la 1), .inl (G.2.1, 144, .inl (upd l2 (i * 12 + j) ((-2)))))] H := hP
                  have hD := D_as hP hD rfl
                  obtain ⟨v15, ev15⟩ : ∃ y : Int32, y = (nI j) + Int32.ofInt (1) := ⟨_, rfl⟩
                  refine lv_iinc (v := v15) (lv' := [(3, .int v15), (5, .int (-2)), (4, .int (nI (i * 12 + j))), (0, .ref (a 15)), (1, .ref (la 0)), (2, .int (nI i))]) hx hb dX2_showOpenly_90 hl (k := 5) rfl ev15.symm (by decide) rfl (fun ls hl => ?_)
                  refine lv_goto (tgt := 28) hx hb dX2_showOpenly_93 (by decide) ?_
                  exact ih2 (j + 1) (upd l2 (i * 12 + j) ((-2))) (by omega) (by omega) _ _ _ hP hS (by have e := nI_inc ev15; rw [e] at hl; exact lv_sub hl [3, 4, 5, 0] rfl)
        exact inner (cl + 1) 0 l2 (Nat.zero_le _) (by omega) _ _ _ hP hS (lv_sub hl [1, 2, 3, 0] rfl)
  exact outer (rw + 1) 0 lf (Nat.zero_le _) (by omega) _ _ _ hP hS (lv_sub hl [1, 2, 0] rfl)
set_option maxHeartbeats 4000000 in
set_option maxRecDepth 100000 in
theorem c_X1_at (l : Launch) (G : GG) (la : Nat → Nat) (lf : Nat → Int32) (rw cl : Nat) (hrw : rw ≤ 12) (hcl : cl ≤ 12) (p1 p2 : Int32) : RdI l yX1_at cX1_at 4 (some .int) ({ frames := 1, cells := 0, slots := 0, locals := 21 }) G ([((la 0), .inr (1, [.int (nI rw), .int (nI cl), .ref (la 1)])), ((la 1), .inl (G.2.1, 144, .inl lf))]) [.ref (la 0), .int p1, .int p2] (fun q => (∃ i j, i < rw ∧ j < cl ∧ p1 = nI i ∧ p2 = nI j ∧ q = lf (i * 12 + j)) ∨ (q = -1 ∧ ¬ ∃ i j, i < rw ∧ j < cl ∧ p1 = nI i ∧ p2 = nI j)) := by
  refine rd_entry (by decide +kernel) (Nat.le_of_ble_eq_true rfl) ?_
  intro p e s m below meth c C0 hP hK ls hl
  have hS : va_S (fun q => s.heap.size ≤ q) s.heap s.heap [] := va_S.rf
  have hA : ∀ q, s.heap.size ≤ q → (fun q => s.heap.size ≤ q) q := fun _ h => h
  obtain ⟨hx, hb, hml, hown, hts, hr, hlocks, hin⟩ := C0
  have hown : s.vm.findClass RX1 = some m.cls := hown
  have hl : lv_has ls 4 [(0, .ref (la 0)), (1, .int p1), (2, .int p2)] := hl
  refine lv_iload_n hx hb dX1_at_0 rfl (lv_at hl 1 rfl) ?_
  refine lv_if_lt (tgt := 28) hx hb dX1_at_1 (by decide) (fun c1 => ?_) (fun c1 => ?_)
  · refine lv_iconst (v := 0) hx hb dX1_at_28 (by decide) ?_
    refine lv_istore_n (lv' := [(3, .int 0), (0, .ref (la 0)), (1, .int p1), (2, .int p2)]) hx hb dX1_at_29 rfl hl (by decide) rfl (fun ls hl => ?_)
    refine lv_iload_n hx hb dX1_at_30 rfl (lv_at hl 0 rfl) ?_
    refine lv_if_eq (tgt := 47) hx hb dX1_at_31 (by decide) (fun _ => ?_) (fun c2 => absurd (by decide) c2)
    refine lv_iconst (v := -1) hx hb dX1_at_47 (by decide) ?_
    exact rd_iret hx hb hr hlocks hS (Or.inr ⟨rfl, fun ⟨i, j, a1, a2, e1, e2⟩ => (nI_pos (by omega)) (e1 ▸ c1)⟩) dX1_at_48
  · refine lv_iload_n hx hb dX1_at_4 rfl (lv_at hl 1 rfl) ?_
    refine lv_aload_n hx hb dX1_at_5 rfl (lv_at hl 0 rfl) ?_
    refine va_get (D := G.1) (ci := 1) (v := .int (nI rw)) (C := RX1) (T := TX1) (N := 3) hx hb hts inX1 hown hK.1 hP 0 rfl rfl 0 (by decide) (hts _ mf_X1_9) (fun _ h9 => h9) rfl dX1_at_6 ?_
    refine lv_icmp_ge (tgt := 28) hx hb dX1_at_9 (by decide) (fun c3 => ?_) (fun c3 => ?_)
    · refine lv_iconst (v := 0) hx hb dX1_at_28 (by decide) ?_
      refine lv_istore_n (lv' := [(3, .int 0), (0, .ref (la 0)), (1, .int p1), (2, .int p2)]) hx hb dX1_at_29 rfl hl (by decide) rfl (fun ls hl => ?_)
      refine lv_iload_n hx hb dX1_at_30 rfl (lv_at hl 0 rfl) ?_
      refine lv_if_eq (tgt := 47) hx hb dX1_at_31 (by decide) (fun _ => ?_) (fun c4 => absurd (by decide) c4)
      refine lv_iconst (v := -1) hx hb dX1_at_47 (by decide) ?_
      exact rd_iret hx hb hr hlocks hS (Or.inr ⟨rfl, fun ⟨i, j, a1, a2, e1, e2⟩ => (nI_ge a1 (by omega)) (e1 ▸ c3)⟩) dX1_at_48
    · refine lv_iload_n hx hb dX1_at_12 rfl (lv_at hl 2 rfl) ?_
      refine lv_if_lt (tgt := 28) hx hb dX1_at_13 (by decide) (fun c5 => ?_) (fun c5 => ?_)
      · refine lv_iconst (v := 0) hx hb dX1_at_28 (by decide) ?_
        refine lv_istore_n (lv' := [(3, .int 0), (0, .ref (la 0)), (1, .int p1), (2, .int p2)]) hx hb dX1_at_29 rfl hl (by decide) rfl (fun ls hl => ?_)
        refine lv_iload_n hx hb dX1_at_30 rfl (lv_at hl 0 rfl) ?_
        refine lv_if_eq (tgt := 47) hx hb dX1_at_31 (by decide) (fun _ => ?_) (fun c6 => absurd (by decide) c6)
        refine lv_iconst (v := -1) hx hb dX1_at_47 (by decide) ?_
        exact rd_iret hx hb hr hlocks hS (Or.inr ⟨rfl, fun ⟨i, j, a1, a2, e1, e2⟩ => (nI_pos (by omega)) (e2 ▸ c5)⟩) dX1_at_48
      · refine lv_iload_n hx hb dX1_at_16 rfl (lv_at hl 2 rfl) ?_
        refine lv_aload_n hx hb dX1_at_17 rfl (lv_at hl 0 rfl) ?_
        refine va_get (D := G.1) (ci := 1) (v := .int (nI cl)) (C := RX1) (T := TX1) (N := 3) hx hb hts inX1 hown hK.1 hP 0 rfl rfl 1 (by decide) (hts _ mf_X1_15) (fun _ h9 => h9) rfl dX1_at_18 ?_
        refine lv_icmp_ge (tgt := 28) hx hb dX1_at_21 (by decide) (fun c7 => ?_) (fun c7 => ?_)
        · refine lv_iconst (v := 0) hx hb dX1_at_28 (by decide) ?_
          refine lv_istore_n (lv' := [(3, .int 0), (0, .ref (la 0)), (1, .int p1), (2, .int p2)]) hx hb dX1_at_29 rfl hl (by decide) rfl (fun ls hl => ?_)
          refine lv_iload_n hx hb dX1_at_30 rfl (lv_at hl 0 rfl) ?_
          refine lv_if_eq (tgt := 47) hx hb dX1_at_31 (by decide) (fun _ => ?_) (fun c8 => absurd (by decide) c8)
          refine lv_iconst (v := -1) hx hb dX1_at_47 (by decide) ?_
          exact rd_iret hx hb hr hlocks hS (Or.inr ⟨rfl, fun ⟨i, j, a1, a2, e1, e2⟩ => (nI_ge a2 (by omega)) (e2 ▸ c7)⟩) dX1_at_48
        · refine lv_iconst (v := 1) hx hb dX1_at_24 (by decide) ?_
          refine lv_goto (tgt := 29) hx hb dX1_at_25 (by decide) ?_
          refine lv_istore_n (lv' := [(3, .int 1), (0, .ref (la 0)), (1, .int p1), (2, .int p2)]) hx hb dX1_at_29 rfl hl (by decide) rfl (fun ls hl => ?_)
          refine lv_iload_n hx hb dX1_at_30 rfl (lv_at hl 0 rfl) ?_
          refine lv_if_eq (tgt := 47) hx hb dX1_at_31 (by decide) (fun c9 => absurd c9 (by decide)) (fun _ => ?_)
          refine lv_aload_n hx hb dX1_at_34 rfl (lv_at hl 1 rfl) ?_
          refine va_get (D := G.1) (ci := 1) (v := .ref (la 1)) (C := RX1) (T := TX1) (N := 3) hx hb hts inX1 hown hK.1 hP 0 rfl rfl 2 (by decide) (hts _ mf_X1_18) (fun _ h9 => h9) rfl dX1_at_35 ?_
          refine lv_iload_n hx hb dX1_at_38 rfl (lv_at hl 2 rfl) ?_
          refine lv_iload_n hx hb dX1_at_39 rfl (lv_at hl 3 rfl) ?_
          obtain ⟨i, hi, e1⟩ := lt_ix (x := p1) (n := rw) (by omega) c1 c3
          obtain ⟨j, hj, e2⟩ := lt_ix (x := p2) (n := cl) (by omega) c5 c7
          refine rdSN (rest := [.ref (la 1)]) ⟨hx, hb, hml, hown, hts⟩ (c_X6_spotOf l G (p1) (p2)) mi_yX6_spotOf mst_yX6_spotOf (by decide +kernel) ⟨rfl, rfl, Nat.le_of_ble_eq_true rfl, Nat.le_of_ble_eq_true rfl⟩ hK (fun k q h => by simp at h) rfl hl.1 rfl (Nat.le_of_ble_eq_true rfl) dX1_at_40 ⟨Nat.zero_le _, Nat.zero_le _⟩ hS hA hP (fun r10 H locs hr10 hP hS => ?_)
          obtain rfl : r10 = nI (i * 12 + j) := spot_eq (by rw [← e1, ← e2]; exact hr10)
          refine xiald hx hb hK hP 1 (i * 12 + j) (rfl) (by omega) (by omega) rfl dX1_at_43 ?_
          refine lv_topi (fun v11 ev11 => ?_)
          refine lv_goto (tgt := 48) hx hb dX1_at_44 (by decide) ?_
          exact rd_iret hx hb hr hlocks hS (Or.inl ⟨i, j, hi, hj, e1, e2, ev11⟩) dX1_at_48
