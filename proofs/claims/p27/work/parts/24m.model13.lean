theorem ml_X7_248 : Cond.methodLink RX7 248 yX7_bestOf ∈ TB := TB_t5 239 rfl rfl
theorem mcode_yX7_bestOf : Cond.code yX7_bestOf cX7_bestOf 10 (some .int) ∈ TB := TB_t6 2 rfl rfl
theorem mi_yX7_bestOf : MI yX7_bestOf cX7_bestOf 10 (some .int) 2 := ⟨mz_RX7, mcode_yX7_bestOf, by decide +kernel, by decide +kernel, by decide +kernel⟩
theorem mim_yX7_bestOf : Cond.instanceMethod yX7_bestOf ∈ TB := TB_t6 1 rfl rfl
theorem msel_yX7_bestOf : Cond.selects yX7_bestOf.cls yX7_bestOf yX7_bestOf ∈ TB := TB_s (n := 43) 71 (by decide +kernel)
theorem mv_yX7_bestOf : Cond.instanceMethod yX7_bestOf ∈ TB ∧ Cond.selects yX7_bestOf.cls yX7_bestOf yX7_bestOf ∈ TB := ⟨mim_yX7_bestOf, msel_yX7_bestOf⟩
theorem kcX7_fewest_0 : CHb cX7_fewest 0 [42, 42, 27, 182, 0, 120, 153, 0, 7, 3, 167, 0, 4, 4, 181, 0, 116, 42, 180, 0, 116, 158, 0, 5, 2, 172, 3, 61, 3, 62, 29, 42, 180, 0, 13, 27, 46, 162, 0, 88, 3, 54, 4, 21, 4, 42, 180, 0, 17, 27, 46, 162, 0, 68, 42, 27, 29, 182, 0, 161, 153, 0, 59, 27] := CHb_of (by decide +kernel)
theorem dX7_fewest_0 : decode cX7_fewest 0 = .ok (.aload_n 0, 1) := dw_42 (kcX7_fewest_0 0 42 rfl)
theorem dX7_fewest_1 : decode cX7_fewest 1 = .ok (.aload_n 0, 1) := dw_42 (kcX7_fewest_0 1 42 rfl)
theorem dX7_fewest_2 : decode cX7_fewest 2 = .ok (.iload_n 1, 1) := dw_27 (kcX7_fewest_0 2 27 rfl)
theorem dX7_fewest_3 : decode cX7_fewest 3 = .ok (.invokevirtual 120, 3) := dw_182 (kcX7_fewest_0 3 182 rfl) (kcX7_fewest_0 4 0 rfl) (kcX7_fewest_0 5 120 rfl) rfl
theorem dX7_fewest_6 : decode cX7_fewest 6 = .ok (.ifCond .eq 7, 3) := dw_153 (kcX7_fewest_0 6 153 rfl) (kcX7_fewest_0 7 0 rfl) (kcX7_fewest_0 8 7 rfl) rfl
theorem dX7_fewest_13 : decode cX7_fewest 13 = .ok (.iconst 1, 1) := dw_4 (kcX7_fewest_0 13 4 rfl)
theorem dX7_fewest_14 : decode cX7_fewest 14 = .ok (.putfield 116, 3) := dw_181 (kcX7_fewest_0 14 181 rfl) (kcX7_fewest_0 15 0 rfl) (kcX7_fewest_0 16 116 rfl) rfl
theorem dX7_fewest_17 : decode cX7_fewest 17 = .ok (.aload_n 0, 1) := dw_42 (kcX7_fewest_0 17 42 rfl)
theorem dX7_fewest_18 : decode cX7_fewest 18 = .ok (.getfield 116, 3) := dw_180 (kcX7_fewest_0 18 180 rfl) (kcX7_fewest_0 19 0 rfl) (kcX7_fewest_0 20 116 rfl) rfl
theorem dX7_fewest_21 : decode cX7_fewest 21 = .ok (.ifCond .le 5, 3) := dw_158 (kcX7_fewest_0 21 158 rfl) (kcX7_fewest_0 22 0 rfl) (kcX7_fewest_0 23 5 rfl) rfl
theorem dX7_fewest_24 : decode cX7_fewest 24 = .ok (.iconst (-1), 1) := dw_2 (kcX7_fewest_0 24 2 rfl)
theorem dX7_fewest_25 : decode cX7_fewest 25 = .ok (.ireturn, 1) := dw_172 (kcX7_fewest_0 25 172 rfl)
theorem dX7_fewest_9 : decode cX7_fewest 9 = .ok (.iconst 0, 1) := dw_3 (kcX7_fewest_0 9 3 rfl)
theorem dX7_fewest_10 : decode cX7_fewest 10 = .ok (.goto 4, 3) := dw_167 (kcX7_fewest_0 10 167 rfl) (kcX7_fewest_0 11 0 rfl) (kcX7_fewest_0 12 4 rfl) rfl
theorem dX7_fewest_26 : decode cX7_fewest 26 = .ok (.iconst 0, 1) := dw_3 (kcX7_fewest_0 26 3 rfl)
theorem dX7_fewest_27 : decode cX7_fewest 27 = .ok (.istore_n 2, 1) := dw_61 (kcX7_fewest_0 27 61 rfl)
theorem dX7_fewest_28 : decode cX7_fewest 28 = .ok (.iconst 0, 1) := dw_3 (kcX7_fewest_0 28 3 rfl)
theorem dX7_fewest_29 : decode cX7_fewest 29 = .ok (.istore_n 3, 1) := dw_62 (kcX7_fewest_0 29 62 rfl)
theorem dX7_fewest_30 : decode cX7_fewest 30 = .ok (.iload_n 3, 1) := dw_29 (kcX7_fewest_0 30 29 rfl)
theorem dX7_fewest_31 : decode cX7_fewest 31 = .ok (.aload_n 0, 1) := dw_42 (kcX7_fewest_0 31 42 rfl)
theorem dX7_fewest_32 : decode cX7_fewest 32 = .ok (.getfield 13, 3) := dw_180 (kcX7_fewest_0 32 180 rfl) (kcX7_fewest_0 33 0 rfl) (kcX7_fewest_0 34 13 rfl) rfl
theorem dX7_fewest_35 : decode cX7_fewest 35 = .ok (.iload_n 1, 1) := dw_27 (kcX7_fewest_0 35 27 rfl)
theorem dX7_fewest_36 : decode cX7_fewest 36 = .ok (.iaload, 1) := dw_46 (kcX7_fewest_0 36 46 rfl)
theorem dX7_fewest_37 : decode cX7_fewest 37 = .ok (.if_icmp .ge 88, 3) := dw_162 (kcX7_fewest_0 37 162 rfl) (kcX7_fewest_0 38 0 rfl) (kcX7_fewest_0 39 88 rfl) rfl
theorem dX7_fewest_40 : decode cX7_fewest 40 = .ok (.iconst 0, 1) := dw_3 (kcX7_fewest_0 40 3 rfl)
theorem dX7_fewest_41 : decode cX7_fewest 41 = .ok (.istore 4, 2) := dw_54 (kcX7_fewest_0 41 54 rfl) (kcX7_fewest_0 42 4 rfl)
theorem dX7_fewest_43 : decode cX7_fewest 43 = .ok (.iload 4, 2) := dw_21 (kcX7_fewest_0 43 21 rfl) (kcX7_fewest_0 44 4 rfl)
theorem dX7_fewest_45 : decode cX7_fewest 45 = .ok (.aload_n 0, 1) := dw_42 (kcX7_fewest_0 45 42 rfl)
theorem dX7_fewest_46 : decode cX7_fewest 46 = .ok (.getfield 17, 3) := dw_180 (kcX7_fewest_0 46 180 rfl) (kcX7_fewest_0 47 0 rfl) (kcX7_fewest_0 48 17 rfl) rfl
theorem dX7_fewest_49 : decode cX7_fewest 49 = .ok (.iload_n 1, 1) := dw_27 (kcX7_fewest_0 49 27 rfl)
theorem dX7_fewest_50 : decode cX7_fewest 50 = .ok (.iaload, 1) := dw_46 (kcX7_fewest_0 50 46 rfl)
theorem dX7_fewest_51 : decode cX7_fewest 51 = .ok (.if_icmp .ge 68, 3) := dw_162 (kcX7_fewest_0 51 162 rfl) (kcX7_fewest_0 52 0 rfl) (kcX7_fewest_0 53 68 rfl) rfl
theorem kcX7_fewest_1 : CHb cX7_fewest 64 [29, 21, 4, 184, 0, 147, 54, 5, 42, 180, 0, 23, 21, 5, 46, 7, 159, 0, 33, 42, 27, 21, 5, 182, 0, 175, 158, 0, 6, 167, 0, 20, 28, 16, 12, 162, 0, 11, 42, 180, 0, 86, 28, 21, 5, 79, 132, 2, 1, 132, 4, 1, 167, 255, 183, 132, 3, 1, 167, 255, 164, 28, 16, 8] := CHb_of (by decide +kernel)
theorem dX7_fewest_119 : decode cX7_fewest 119 = .ok (.iinc 3 1, 3) := dw_132 (kcX7_fewest_1 55 132 rfl) (kcX7_fewest_1 56 3 rfl) (kcX7_fewest_1 57 1 rfl) rfl
theorem dX7_fewest_122 : decode cX7_fewest 122 = .ok (.goto (-92), 3) := dw_167 (kcX7_fewest_1 58 167 rfl) (kcX7_fewest_1 59 255 rfl) (kcX7_fewest_1 60 164 rfl) rfl
theorem dX7_fewest_54 : decode cX7_fewest 54 = .ok (.aload_n 0, 1) := dw_42 (kcX7_fewest_0 54 42 rfl)
theorem dX7_fewest_55 : decode cX7_fewest 55 = .ok (.iload_n 1, 1) := dw_27 (kcX7_fewest_0 55 27 rfl)
theorem dX7_fewest_56 : decode cX7_fewest 56 = .ok (.iload_n 3, 1) := dw_29 (kcX7_fewest_0 56 29 rfl)
theorem dX7_fewest_57 : decode cX7_fewest 57 = .ok (.invokevirtual 161, 3) := dw_182 (kcX7_fewest_0 57 182 rfl) (kcX7_fewest_0 58 0 rfl) (kcX7_fewest_0 59 161 rfl) rfl
theorem dX7_fewest_60 : decode cX7_fewest 60 = .ok (.ifCond .eq 59, 3) := dw_153 (kcX7_fewest_0 60 153 rfl) (kcX7_fewest_0 61 0 rfl) (kcX7_fewest_0 62 59 rfl) rfl
theorem dX7_fewest_63 : decode cX7_fewest 63 = .ok (.iload_n 1, 1) := dw_27 (kcX7_fewest_0 63 27 rfl)
theorem dX7_fewest_64 : decode cX7_fewest 64 = .ok (.iload_n 3, 1) := dw_29 (kcX7_fewest_1 0 29 rfl)
theorem dX7_fewest_65 : decode cX7_fewest 65 = .ok (.iload 4, 2) := dw_21 (kcX7_fewest_1 1 21 rfl) (kcX7_fewest_1 2 4 rfl)
theorem dX7_fewest_67 : decode cX7_fewest 67 = .ok (.invokestatic 147, 3) := dw_184 (kcX7_fewest_1 3 184 rfl) (kcX7_fewest_1 4 0 rfl) (kcX7_fewest_1 5 147 rfl) rfl
theorem dX7_fewest_70 : decode cX7_fewest 70 = .ok (.istore 5, 2) := dw_54 (kcX7_fewest_1 6 54 rfl) (kcX7_fewest_1 7 5 rfl)
theorem dX7_fewest_72 : decode cX7_fewest 72 = .ok (.aload_n 0, 1) := dw_42 (kcX7_fewest_1 8 42 rfl)
theorem dX7_fewest_73 : decode cX7_fewest 73 = .ok (.getfield 23, 3) := dw_180 (kcX7_fewest_1 9 180 rfl) (kcX7_fewest_1 10 0 rfl) (kcX7_fewest_1 11 23 rfl) rfl
theorem dX7_fewest_76 : decode cX7_fewest 76 = .ok (.iload 5, 2) := dw_21 (kcX7_fewest_1 12 21 rfl) (kcX7_fewest_1 13 5 rfl)
theorem dX7_fewest_78 : decode cX7_fewest 78 = .ok (.iaload, 1) := dw_46 (kcX7_fewest_1 14 46 rfl)
theorem dX7_fewest_79 : decode cX7_fewest 79 = .ok (.iconst 4, 1) := dw_7 (kcX7_fewest_1 15 7 rfl)
theorem dX7_fewest_80 : decode cX7_fewest 80 = .ok (.if_icmp .eq 33, 3) := dw_159 (kcX7_fewest_1 16 159 rfl) (kcX7_fewest_1 17 0 rfl) (kcX7_fewest_1 18 33 rfl) rfl
theorem dX7_fewest_113 : decode cX7_fewest 113 = .ok (.iinc 4 1, 3) := dw_132 (kcX7_fewest_1 49 132 rfl) (kcX7_fewest_1 50 4 rfl) (kcX7_fewest_1 51 1 rfl) rfl
theorem dX7_fewest_116 : decode cX7_fewest 116 = .ok (.goto (-73), 3) := dw_167 (kcX7_fewest_1 52 167 rfl) (kcX7_fewest_1 53 255 rfl) (kcX7_fewest_1 54 183 rfl) rfl
theorem dX7_fewest_83 : decode cX7_fewest 83 = .ok (.aload_n 0, 1) := dw_42 (kcX7_fewest_1 19 42 rfl)
theorem dX7_fewest_84 : decode cX7_fewest 84 = .ok (.iload_n 1, 1) := dw_27 (kcX7_fewest_1 20 27 rfl)
theorem dX7_fewest_85 : decode cX7_fewest 85 = .ok (.iload 5, 2) := dw_21 (kcX7_fewest_1 21 21 rfl) (kcX7_fewest_1 22 5 rfl)
theorem dX7_fewest_87 : decode cX7_fewest 87 = .ok (.invokevirtual 175, 3) := dw_182 (kcX7_fewest_1 23 182 rfl) (kcX7_fewest_1 24 0 rfl) (kcX7_fewest_1 25 175 rfl) rfl
theorem dX7_fewest_90 : decode cX7_fewest 90 = .ok (.ifCond .le 6, 3) := dw_158 (kcX7_fewest_1 26 158 rfl) (kcX7_fewest_1 27 0 rfl) (kcX7_fewest_1 28 6 rfl) rfl
theorem dX7_fewest_96 : decode cX7_fewest 96 = .ok (.iload_n 2, 1) := dw_28 (kcX7_fewest_1 32 28 rfl)
theorem dX7_fewest_97 : decode cX7_fewest 97 = .ok (.bipush 12, 2) := dw_16 (kcX7_fewest_1 33 16 rfl) (kcX7_fewest_1 34 12 rfl) rfl
theorem dX7_fewest_99 : decode cX7_fewest 99 = .ok (.if_icmp .ge 11, 3) := dw_162 (kcX7_fewest_1 35 162 rfl) (kcX7_fewest_1 36 0 rfl) (kcX7_fewest_1 37 11 rfl) rfl
theorem dX7_fewest_110 : decode cX7_fewest 110 = .ok (.iinc 2 1, 3) := dw_132 (kcX7_fewest_1 46 132 rfl) (kcX7_fewest_1 47 2 rfl) (kcX7_fewest_1 48 1 rfl) rfl
theorem dX7_fewest_102 : decode cX7_fewest 102 = .ok (.aload_n 0, 1) := dw_42 (kcX7_fewest_1 38 42 rfl)
theorem dX7_fewest_103 : decode cX7_fewest 103 = .ok (.getfield 86, 3) := dw_180 (kcX7_fewest_1 39 180 rfl) (kcX7_fewest_1 40 0 rfl) (kcX7_fewest_1 41 86 rfl) rfl
theorem dX7_fewest_106 : decode cX7_fewest 106 = .ok (.iload_n 2, 1) := dw_28 (kcX7_fewest_1 42 28 rfl)
theorem dX7_fewest_107 : decode cX7_fewest 107 = .ok (.iload 5, 2) := dw_21 (kcX7_fewest_1 43 21 rfl) (kcX7_fewest_1 44 5 rfl)
theorem dX7_fewest_109 : decode cX7_fewest 109 = .ok (.iastore, 1) := dw_79 (kcX7_fewest_1 45 79 rfl)
theorem dX7_fewest_93 : decode cX7_fewest 93 = .ok (.goto 20, 3) := dw_167 (kcX7_fewest_1 29 167 rfl) (kcX7_fewest_1 30 0 rfl) (kcX7_fewest_1 31 20 rfl) rfl
theorem dX7_fewest_125 : decode cX7_fewest 125 = .ok (.iload_n 2, 1) := dw_28 (kcX7_fewest_1 61 28 rfl)
theorem dX7_fewest_126 : decode cX7_fewest 126 = .ok (.bipush 8, 2) := dw_16 (kcX7_fewest_1 62 16 rfl) (kcX7_fewest_1 63 8 rfl) rfl
theorem kcX7_fewest_2 : CHb cX7_fewest 128 [164, 0, 9, 42, 16, 8, 181, 0, 116, 42, 180, 0, 116, 158, 0, 5, 2, 172, 3, 62, 29, 17, 0, 144, 162, 0, 40, 42, 180, 0, 83, 29, 42, 180, 0, 38, 17, 0, 144, 27, 104, 29, 96, 51, 84, 42, 180, 0, 38, 17, 0, 144, 27, 104, 29, 96, 3, 84, 132, 3, 1, 167, 255, 215] := CHb_of (by decide +kernel)
theorem dX7_fewest_128 : decode cX7_fewest 128 = .ok (.if_icmp .le 9, 3) := dw_164 (kcX7_fewest_2 0 164 rfl) (kcX7_fewest_2 1 0 rfl) (kcX7_fewest_2 2 9 rfl) rfl
theorem dX7_fewest_137 : decode cX7_fewest 137 = .ok (.aload_n 0, 1) := dw_42 (kcX7_fewest_2 9 42 rfl)
theorem dX7_fewest_138 : decode cX7_fewest 138 = .ok (.getfield 116, 3) := dw_180 (kcX7_fewest_2 10 180 rfl) (kcX7_fewest_2 11 0 rfl) (kcX7_fewest_2 12 116 rfl) rfl
theorem dX7_fewest_141 : decode cX7_fewest 141 = .ok (.ifCond .le 5, 3) := dw_158 (kcX7_fewest_2 13 158 rfl) (kcX7_fewest_2 14 0 rfl) (kcX7_fewest_2 15 5 rfl) rfl
theorem dX7_fewest_146 : decode cX7_fewest 146 = .ok (.iconst 0, 1) := dw_3 (kcX7_fewest_2 18 3 rfl)
theorem dX7_fewest_147 : decode cX7_fewest 147 = .ok (.istore_n 3, 1) := dw_62 (kcX7_fewest_2 19 62 rfl)
theorem dX7_fewest_148 : decode cX7_fewest 148 = .ok (.iload_n 3, 1) := dw_29 (kcX7_fewest_2 20 29 rfl)
theorem dX7_fewest_149 : decode cX7_fewest 149 = .ok (.sipush 144, 3) := dw_17 (kcX7_fewest_2 21 17 rfl) (kcX7_fewest_2 22 0 rfl) (kcX7_fewest_2 23 144 rfl) rfl
theorem dX7_fewest_152 : decode cX7_fewest 152 = .ok (.if_icmp .ge 40, 3) := dw_162 (kcX7_fewest_2 24 162 rfl) (kcX7_fewest_2 25 0 rfl) (kcX7_fewest_2 26 40 rfl) rfl
theorem dX7_fewest_155 : decode cX7_fewest 155 = .ok (.aload_n 0, 1) := dw_42 (kcX7_fewest_2 27 42 rfl)
theorem dX7_fewest_156 : decode cX7_fewest 156 = .ok (.getfield 83, 3) := dw_180 (kcX7_fewest_2 28 180 rfl) (kcX7_fewest_2 29 0 rfl) (kcX7_fewest_2 30 83 rfl) rfl
theorem dX7_fewest_159 : decode cX7_fewest 159 = .ok (.iload_n 3, 1) := dw_29 (kcX7_fewest_2 31 29 rfl)
theorem dX7_fewest_160 : decode cX7_fewest 160 = .ok (.aload_n 0, 1) := dw_42 (kcX7_fewest_2 32 42 rfl)
theorem dX7_fewest_161 : decode cX7_fewest 161 = .ok (.getfield 38, 3) := dw_180 (kcX7_fewest_2 33 180 rfl) (kcX7_fewest_2 34 0 rfl) (kcX7_fewest_2 35 38 rfl) rfl
theorem dX7_fewest_164 : decode cX7_fewest 164 = .ok (.sipush 144, 3) := dw_17 (kcX7_fewest_2 36 17 rfl) (kcX7_fewest_2 37 0 rfl) (kcX7_fewest_2 38 144 rfl) rfl
theorem dX7_fewest_167 : decode cX7_fewest 167 = .ok (.iload_n 1, 1) := dw_27 (kcX7_fewest_2 39 27 rfl)
theorem dX7_fewest_168 : decode cX7_fewest 168 = .ok (.imul, 1) := dw_104 (kcX7_fewest_2 40 104 rfl)
theorem dX7_fewest_169 : decode cX7_fewest 169 = .ok (.iload_n 3, 1) := dw_29 (kcX7_fewest_2 41 29 rfl)
theorem dX7_fewest_170 : decode cX7_fewest 170 = .ok (.iadd, 1) := dw_96 (kcX7_fewest_2 42 96 rfl)
theorem dX7_fewest_171 : decode cX7_fewest 171 = .ok (.baload, 1) := dw_51 (kcX7_fewest_2 43 51 rfl)
theorem dX7_fewest_172 : decode cX7_fewest 172 = .ok (.bastore, 1) := dw_84 (kcX7_fewest_2 44 84 rfl)
theorem dX7_fewest_173 : decode cX7_fewest 173 = .ok (.aload_n 0, 1) := dw_42 (kcX7_fewest_2 45 42 rfl)
theorem dX7_fewest_174 : decode cX7_fewest 174 = .ok (.getfield 38, 3) := dw_180 (kcX7_fewest_2 46 180 rfl) (kcX7_fewest_2 47 0 rfl) (kcX7_fewest_2 48 38 rfl) rfl
theorem dX7_fewest_177 : decode cX7_fewest 177 = .ok (.sipush 144, 3) := dw_17 (kcX7_fewest_2 49 17 rfl) (kcX7_fewest_2 50 0 rfl) (kcX7_fewest_2 51 144 rfl) rfl
theorem dX7_fewest_180 : decode cX7_fewest 180 = .ok (.iload_n 1, 1) := dw_27 (kcX7_fewest_2 52 27 rfl)
theorem dX7_fewest_181 : decode cX7_fewest 181 = .ok (.imul, 1) := dw_104 (kcX7_fewest_2 53 104 rfl)
theorem dX7_fewest_182 : decode cX7_fewest 182 = .ok (.iload_n 3, 1) := dw_29 (kcX7_fewest_2 54 29 rfl)
theorem dX7_fewest_183 : decode cX7_fewest 183 = .ok (.iadd, 1) := dw_96 (kcX7_fewest_2 55 96 rfl)
theorem dX7_fewest_184 : decode cX7_fewest 184 = .ok (.iconst 0, 1) := dw_3 (kcX7_fewest_2 56 3 rfl)
theorem dX7_fewest_185 : decode cX7_fewest 185 = .ok (.bastore, 1) := dw_84 (kcX7_fewest_2 57 84 rfl)
theorem dX7_fewest_186 : decode cX7_fewest 186 = .ok (.iinc 3 1, 3) := dw_132 (kcX7_fewest_2 58 132 rfl) (kcX7_fewest_2 59 3 rfl) (kcX7_fewest_2 60 1 rfl) rfl
theorem dX7_fewest_189 : decode cX7_fewest 189 = .ok (.goto (-41), 3) := dw_167 (kcX7_fewest_2 61 167 rfl) (kcX7_fewest_2 62 255 rfl) (kcX7_fewest_2 63 215 rfl) rfl
theorem kcX7_fewest_3 : CHb cX7_fewest 192 [42, 27, 28, 182, 0, 248, 62, 29, 2, 159, 0, 11, 42, 27, 28, 29, 182, 0, 251, 172, 3, 54, 4, 21, 4, 17, 0, 144, 162, 0, 29, 42, 180, 0, 38, 17, 0, 144, 27, 104, 21, 4, 96, 42, 180, 0, 83, 21, 4, 51, 84, 132, 4, 1, 167, 255, 225, 42, 16, 10, 181, 0, 116, 2] := CHb_of (by decide +kernel)
theorem dX7_fewest_192 : decode cX7_fewest 192 = .ok (.aload_n 0, 1) := dw_42 (kcX7_fewest_3 0 42 rfl)
theorem dX7_fewest_193 : decode cX7_fewest 193 = .ok (.iload_n 1, 1) := dw_27 (kcX7_fewest_3 1 27 rfl)
theorem dX7_fewest_194 : decode cX7_fewest 194 = .ok (.iload_n 2, 1) := dw_28 (kcX7_fewest_3 2 28 rfl)
theorem dX7_fewest_195 : decode cX7_fewest 195 = .ok (.invokevirtual 248, 3) := dw_182 (kcX7_fewest_3 3 182 rfl) (kcX7_fewest_3 4 0 rfl) (kcX7_fewest_3 5 248 rfl) rfl
theorem dX7_fewest_198 : decode cX7_fewest 198 = .ok (.istore_n 3, 1) := dw_62 (kcX7_fewest_3 6 62 rfl)
theorem dX7_fewest_199 : decode cX7_fewest 199 = .ok (.iload_n 3, 1) := dw_29 (kcX7_fewest_3 7 29 rfl)
theorem dX7_fewest_200 : decode cX7_fewest 200 = .ok (.iconst (-1), 1) := dw_2 (kcX7_fewest_3 8 2 rfl)
theorem dX7_fewest_201 : decode cX7_fewest 201 = .ok (.if_icmp .eq 11, 3) := dw_159 (kcX7_fewest_3 9 159 rfl) (kcX7_fewest_3 10 0 rfl) (kcX7_fewest_3 11 11 rfl) rfl
theorem dX7_fewest_212 : decode cX7_fewest 212 = .ok (.iconst 0, 1) := dw_3 (kcX7_fewest_3 20 3 rfl)
theorem dX7_fewest_213 : decode cX7_fewest 213 = .ok (.istore 4, 2) := dw_54 (kcX7_fewest_3 21 54 rfl) (kcX7_fewest_3 22 4 rfl)
theorem dX7_fewest_215 : decode cX7_fewest 215 = .ok (.iload 4, 2) := dw_21 (kcX7_fewest_3 23 21 rfl) (kcX7_fewest_3 24 4 rfl)
theorem dX7_fewest_217 : decode cX7_fewest 217 = .ok (.sipush 144, 3) := dw_17 (kcX7_fewest_3 25 17 rfl) (kcX7_fewest_3 26 0 rfl) (kcX7_fewest_3 27 144 rfl) rfl
theorem dX7_fewest_220 : decode cX7_fewest 220 = .ok (.if_icmp .ge 29, 3) := dw_162 (kcX7_fewest_3 28 162 rfl) (kcX7_fewest_3 29 0 rfl) (kcX7_fewest_3 30 29 rfl) rfl
theorem dX7_fewest_223 : decode cX7_fewest 223 = .ok (.aload_n 0, 1) := dw_42 (kcX7_fewest_3 31 42 rfl)
theorem dX7_fewest_224 : decode cX7_fewest 224 = .ok (.getfield 38, 3) := dw_180 (kcX7_fewest_3 32 180 rfl) (kcX7_fewest_3 33 0 rfl) (kcX7_fewest_3 34 38 rfl) rfl
theorem dX7_fewest_227 : decode cX7_fewest 227 = .ok (.sipush 144, 3) := dw_17 (kcX7_fewest_3 35 17 rfl) (kcX7_fewest_3 36 0 rfl) (kcX7_fewest_3 37 144 rfl) rfl
theorem dX7_fewest_230 : decode cX7_fewest 230 = .ok (.iload_n 1, 1) := dw_27 (kcX7_fewest_3 38 27 rfl)
theorem dX7_fewest_231 : decode cX7_fewest 231 = .ok (.imul, 1) := dw_104 (kcX7_fewest_3 39 104 rfl)
theorem dX7_fewest_232 : decode cX7_fewest 232 = .ok (.iload 4, 2) := dw_21 (kcX7_fewest_3 40 21 rfl) (kcX7_fewest_3 41 4 rfl)
theorem dX7_fewest_234 : decode cX7_fewest 234 = .ok (.iadd, 1) := dw_96 (kcX7_fewest_3 42 96 rfl)
theorem dX7_fewest_235 : decode cX7_fewest 235 = .ok (.aload_n 0, 1) := dw_42 (kcX7_fewest_3 43 42 rfl)
theorem dX7_fewest_236 : decode cX7_fewest 236 = .ok (.getfield 83, 3) := dw_180 (kcX7_fewest_3 44 180 rfl) (kcX7_fewest_3 45 0 rfl) (kcX7_fewest_3 46 83 rfl) rfl
theorem dX7_fewest_239 : decode cX7_fewest 239 = .ok (.iload 4, 2) := dw_21 (kcX7_fewest_3 47 21 rfl) (kcX7_fewest_3 48 4 rfl)
theorem dX7_fewest_241 : decode cX7_fewest 241 = .ok (.baload, 1) := dw_51 (kcX7_fewest_3 49 51 rfl)
theorem dX7_fewest_242 : decode cX7_fewest 242 = .ok (.bastore, 1) := dw_84 (kcX7_fewest_3 50 84 rfl)
theorem dX7_fewest_243 : decode cX7_fewest 243 = .ok (.iinc 4 1, 3) := dw_132 (kcX7_fewest_3 51 132 rfl) (kcX7_fewest_3 52 4 rfl) (kcX7_fewest_3 53 1 rfl) rfl
theorem dX7_fewest_246 : decode cX7_fewest 246 = .ok (.goto (-31), 3) := dw_167 (kcX7_fewest_3 54 167 rfl) (kcX7_fewest_3 55 255 rfl) (kcX7_fewest_3 56 225 rfl) rfl
theorem dX7_fewest_249 : decode cX7_fewest 249 = .ok (.aload_n 0, 1) := dw_42 (kcX7_fewest_3 57 42 rfl)
theorem dX7_fewest_250 : decode cX7_fewest 250 = .ok (.bipush 10, 2) := dw_16 (kcX7_fewest_3 58 16 rfl) (kcX7_fewest_3 59 10 rfl) rfl
theorem dX7_fewest_252 : decode cX7_fewest 252 = .ok (.putfield 116, 3) := dw_181 (kcX7_fewest_3 60 181 rfl) (kcX7_fewest_3 61 0 rfl) (kcX7_fewest_3 62 116 rfl) rfl
theorem dX7_fewest_255 : decode cX7_fewest 255 = .ok (.iconst (-1), 1) := dw_2 (kcX7_fewest_3 63 2 rfl)
theorem kcX7_fewest_4 : CHb cX7_fewest 256 [172] := CHb_of (by decide +kernel)
theorem dX7_fewest_256 : decode cX7_fewest 256 = .ok (.ireturn, 1) := dw_172 (kcX7_fewest_4 0 172 rfl)
theorem dX7_fewest_204 : decode cX7_fewest 204 = .ok (.aload_n 0, 1) := dw_42 (kcX7_fewest_3 12 42 rfl)
theorem dX7_fewest_205 : decode cX7_fewest 205 = .ok (.iload_n 1, 1) := dw_27 (kcX7_fewest_3 13 27 rfl)
theorem dX7_fewest_206 : decode cX7_fewest 206 = .ok (.iload_n 2, 1) := dw_28 (kcX7_fewest_3 14 28 rfl)
theorem dX7_fewest_207 : decode cX7_fewest 207 = .ok (.iload_n 3, 1) := dw_29 (kcX7_fewest_3 15 29 rfl)
theorem dX7_fewest_208 : decode cX7_fewest 208 = .ok (.invokevirtual 251, 3) := dw_182 (kcX7_fewest_3 16 182 rfl) (kcX7_fewest_3 17 0 rfl) (kcX7_fewest_3 18 251 rfl) rfl
theorem dX7_fewest_211 : decode cX7_fewest 211 = .ok (.ireturn, 1) := dw_172 (kcX7_fewest_3 19 172 rfl)
theorem dX7_fewest_131 : decode cX7_fewest 131 = .ok (.aload_n 0, 1) := dw_42 (kcX7_fewest_2 3 42 rfl)
theorem dX7_fewest_132 : decode cX7_fewest 132 = .ok (.bipush 8, 2) := dw_16 (kcX7_fewest_2 4 16 rfl) (kcX7_fewest_2 5 8 rfl) rfl
theorem dX7_fewest_134 : decode cX7_fewest 134 = .ok (.putfield 116, 3) := dw_181 (kcX7_fewest_2 6 181 rfl) (kcX7_fewest_2 7 0 rfl) (kcX7_fewest_2 8 116 rfl) rfl
theorem dX7_fewest_144 : decode cX7_fewest 144 = .ok (.iconst (-1), 1) := dw_2 (kcX7_fewest_2 16 2 rfl)
theorem dX7_fewest_145 : decode cX7_fewest 145 = .ok (.ireturn, 1) := dw_172 (kcX7_fewest_2 17 172 rfl)
/-- what fewest does -/
def fwM (tb q : Int32) (r1 r2 r3 r4 r5 r6 r7 r8 r9 r10 r11 r12 r13 r14 q10 : Nat → Int32) (st : Int32) : Prop := (¬ opn r1 tb ∧ q = -1 ∧ q10 = r10 ∧ st = 1) ∨ ∃ t rw cl bk dn uq, t < 6 ∧ tb = nI t ∧ ¬ r1 t = 0 ∧ rw ≤ 12 ∧ cl ≤ 12 ∧ bk ≤ 12 ∧ r2 t = nI rw ∧ r3 t = nI cl ∧ r12 t = nI bk ∧ r4 (6 * t + 3) = nI dn ∧ r4 (6 * t + 4) = nI uq ∧ dn ≤ 1000000 ∧ uq ≤ 1000000 ∧ ((8 < rkG (mayM r3 r4 r5 r6 r7 r8 r9 r11 t rw cl) (12 * rw) ∧ q = -1 ∧ q10 = r10 ∧ st = 8) ∨ ∃ m cp, m = rkG (mayM r3 r4 r5 r6 r7 r8 r9 r11 t rw cl) (12 * rw) ∧ m < 9 ∧ (∀ x y, (mayM r3 r4 r5 r6 r7 r8 r9 r11 t rw cl) x y → cp (rkG (mayM r3 r4 r5 r6 r7 r8 r9 r11 t rw cl) (12 * x + y)) = (prM r4 r6 t) x y) ∧ ((∃ bz, LSG cp m (GRD rw cl (UGm rw cl t bk r3 r4 r5 r6 r7 r8 r9 r11 r13 r14 dn uq) (seM r4 r5 r6 r7 r8 r9 t) (mayM r3 r4 r5 r6 r7 r8 r9 r11 t rw cl) m) bz ∧ q = nI (prc cp m bz) ∧ (∀ x y, x < 12 → y < 12 → q10 (144 * t + 12 * x + y) = (if pB ((mayM r3 r4 r5 r6 r7 r8 r9 r11 t rw cl) x y ∧ bt (nI bz) (m - 1 - rkG (mayM r3 r4 r5 r6 r7 r8 r9 r11 t rw cl) (12 * x + y)) = true) = true then 1 else 0)) ∧ (∀ p, (p < 144 * t ∨ 144 * t + 144 ≤ p) → q10 p = r10 p) ∧ st = 0) ∨ ((∀ s, s < 2 ^ m → ¬ (GRD rw cl (UGm rw cl t bk r3 r4 r5 r6 r7 r8 r9 r11 r13 r14 dn uq) (seM r4 r5 r6 r7 r8 r9 t) (mayM r3 r4 r5 r6 r7 r8 r9 r11 t rw cl) m) s) ∧ q = -1 ∧ (∀ p, p < 864 → q10 p = r10 p) ∧ st = 10)))
theorem cl_s {b a : Nat → Int32} {t n : Nat} (hn : n < 144) (h : ∀ k, k < n → b (144 * t + k) = 0) : ∀ k, k < n + 1 → upd b (144 * t + n) 0 (144 * t + k) = 0 := fun k hk => by
  by_cases e : k = n
  · subst e; exact pk_us
  · rw [pk_un (by omega)]; exact h k (by omega)
theorem rk_stop {M : Nat → Nat → Prop} {x j : Nat} (hj : j ≤ 12) (h : ∀ y, ¬ M x y) : rkG M (12 * (x + 1)) = rkG M (12 * x + j) := rk_end hj (fun y _ => h y)
theorem GCM_s {M : Nat → Nat → Prop} {t i j B : Nat} {c1 : Nat → Int32} (hM : ∀ x y, M x y → y < 12) (h : GCM M t (12 * i + j) B c1) (hj : j ≤ 12) (hn : ∀ y, ¬ M i y) : GCM M t (12 * (i + 1)) B c1 := fun x y hxy hlt hr => by
  have hy := hM x y hxy
  refine h x y hxy ?_ hr
  by_cases e : x = i
  · rw [e] at hxy; exact absurd hxy (hn y)
  · omega
set_option maxHeartbeats 4000000 in
set_option maxRecDepth 100000 in
theorem n_fewest (l : Launch) (G : GG) (y : Nat) (b : Nat → Nat) (f : Nat → Int32) (r : Nat → Nat → Int32) (tb : Int32) (hM2 : nOK 6 12 (r 2)) (hM3 : nOK 6 12 (r 3)) (hM12 : nOK 6 12 (r 12)) (hG : nOK 864 6 (r 7)) (hNA : ∀ t rw cl, t < 6 → rw ≤ 12 → cl ≤ 12 → ¬ (r 1) t = 0 → (r 2) t = nI rw → (r 3) t = nI cl → NRM rw cl t (r 3) (r 5) (r 6) (r 11)) (hRA : ∀ t, t < 6 → ¬ (r 1) t = 0 → ∃ dn uq, dn ≤ 1000000 ∧ uq ≤ 1000000 ∧ (r 4) (6 * t + 3) = nI dn ∧ (r 4) (6 * t + 4) = nI uq) (hB0 : ∀ p, p < 864 → (r 10) p = 0 ∨ (r 10) p = 1) : WrI l yX7_fewest cX7_fewest 6 (some .int) ({ frames := 8, cells := 0, slots := 0, locals := 208 }) G (mM G y b f r) [.ref y, .int tb] (fun q w => ∃ (n_f_0 : Int32) (n_f_20 : Int32) (n_f_21 : Int32) (n_r_10 : Nat → Int32) (n_r_15 : Nat → Int32) (n_r_16 : Nat → Int32) (n_r_17 : Nat → Int32) (n_r_18 : Nat → Int32) (n_r_19 : Nat → Int32) (n_r_22 : Nat → Int32) (n_r_23 : Nat → Int32) (n_r_29 : Nat → Int32) (n_r_30 : Nat → Int32), w = mM G y b (upd (upd (upd f 0 n_f_0) 20 n_f_20) 21 n_f_21) (up2 (up2 (up2 (up2 (up2 (up2 (up2 (up2 (up2 (up2 r 10 n_r_10) 15 n_r_15) 16 n_r_16) 17 n_r_17) 18 n_r_18) 19 n_r_19) 22 n_r_22) 23 n_r_23) 29 n_r_29) 30 n_r_30) ∧ fwM tb q (r 1) (r 2) (r 3) (r 4) (r 5) (r 6) (r 7) (r 8) (r 9) (r 10) (r 11) (r 12) (r 13) (r 14) n_r_10 n_f_0) := by
  refine wr_entryI (by decide +kernel) (Nat.le_of_ble_eq_true rfl) ?_
  intro p e s m below meth c A C0 hP hK hD hA ls hl
  have hS : va_S A s.heap s.heap [] := va_S.rf
  obtain ⟨hx, hb, hml, hown, hts, hr, hlocks, hin⟩ := C0
  have hown : s.vm.findClass RX7 = some m.cls := hown
  have hDD : ∀ f' r', va_D A (mM G y b f' r') := fun f' r' => D_same hD rfl
  have hl : lv_has ls 6 [(0, .ref y), (1, .int tb)] := hl
  have hB9 := hB0
  refine lv_aload_n hx hb dX7_fewest_0 rfl (lv_at hl 0 rfl) ?_
  refine lv_aload_n hx hb dX7_fewest_1 rfl (lv_at hl 0 rfl) ?_
  refine lv_iload_n hx hb dX7_fewest_2 rfl (lv_at hl 1 rfl) ?_
  refine rdV (rest := [.ref y]) (q0 := 0) ⟨hx, hb, hml, hown, hts⟩ (m_X7_isTable l G y b f r tb  ) mi_yX7_isTable mv_yX7_isTable ml_X7_120 ⟨rfl, rfl, Nat.le_of_ble_eq_true rfl, Nat.le_of_ble_eq_true rfl⟩ hK (hP) rfl rfl rfl hl.1 rfl (Nat.le_of_ble_eq_true rfl) dX7_fewest_3 ⟨Nat.zero_le _, Nat.zero_le _⟩ hS hA hP (fun r1 H locs hr1 hP hS => ?_)
  have hr1 : ((r1 = 1 ∧ (opn (r 1) tb)) ∨ (r1 = 0 ∧ ¬ (opn (r 1) tb))) := hr1
  refine lv_if_eq (tgt := 13) hx hb dX7_fewest_6 (by decide) (fun c2 => ?_) (fun c2 => ?_)
  · have b6 := bF hr1 c2
    refine lv_iconst (v := 1) hx hb dX7_fewest_13 (by decide) ?_
    refine va_put (D := G.1) (ci := 7) (v := .int 1) (C := RX7) (T := TX7) (N := 43) hx hb hts inX7 tyX7 tyX7_ok nmX7 hown hK.1 hP (hDD _ _) hS 0 rfl rfl 0 (by decide) (hts _ mf_X7_116) (fun _ h9 => h9) rfl (tyX7_ok 0 (by decide)) (rfl) (rfl) (Nat.le_of_ble_eq_true rfl) dX7_fewest_14 (fun H locs hP _ hS => ?_)
    have hP : PP G (mM G y b (upd f 0 1) r) H := hP
    refine lv_aload_n hx hb dX7_fewest_17 rfl (lv_at hl 0 rfl) ?_
    refine va_get (D := G.1) (ci := 7) (v := .int 1) (C := RX7) (T := TX7) (N := 43) hx hb hts inX7 hown hK.1 hP 0 rfl rfl 0 (by decide) (hts _ mf_X7_116) (fun _ h9 => h9) rfl dX7_fewest_18 ?_
    refine lv_if_le (tgt := 26) hx hb dX7_fewest_21 (by decide) (fun c3 => absurd c3 (by decide)) (fun c3 => ?_)
    refine lv_iconst (v := -1) hx hb dX7_fewest_24 (by decide) ?_
    exact wr_iret hx hb hr hlocks hS hP ⟨1, (f 20), (f 21), (r 10), (r 15), (r 16), (r 17), (r 18), (r 19), (r 22), (r 23), (r 29), (r 30), rfl, (Or.inl ⟨b6, rfl, rfl, rfl⟩)⟩ dX7_fewest_25
  · have b6 := bT hr1 c2
    obtain ⟨t, ht, rfl, hop⟩ := b6
    obtain ⟨rw, hrw, h2⟩ := hM2 t ht
    obtain ⟨cl, hcl, h3⟩ := hM3 t ht
    obtain ⟨bk, hbk, h12⟩ := hM12 t ht
    have hNR := hNA t rw cl ht hrw hcl hop h2 h3
    obtain ⟨dn, uq, hdn, huq, hr3, hr4⟩ := hRA t ht hop
    have hM12 : ∀ x y, (mayM (r 3) (r 4) (r 5) (r 6) (r 7) (r 8) (r 9) (r 11) t rw cl) x y → y < 12 := fun x y h9 => by have := h9.2.1; omega
    have hMc : ∀ x y, (mayM (r 3) (r 4) (r 5) (r 6) (r 7) (r 8) (r 9) (r 11) t rw cl) x y → y < cl := fun x y h9 => h9.2.1
    refine lv_iconst (v := 0) hx hb dX7_fewest_9 (by decide) ?_
    refine lv_goto (tgt := 14) hx hb dX7_fewest_10 (by decide) ?_
    refine va_put (D := G.1) (ci := 7) (v := .int 0) (C := RX7) (T := TX7) (N := 43) hx hb hts inX7 tyX7 tyX7_ok nmX7 hown hK.1 hP (hDD _ _) hS 0 rfl rfl 0 (by decide) (hts _ mf_X7_116) (fun _ h9 => h9) rfl (tyX7_ok 0 (by decide)) (rfl) (rfl) (Nat.le_of_ble_eq_true rfl) dX7_fewest_14 (fun H locs hP _ hS => ?_)
    have hP : PP G (mM G y b (upd f 0 0) r) H := hP
    refine lv_aload_n hx hb dX7_fewest_17 rfl (lv_at hl 0 rfl) ?_
    refine va_get (D := G.1) (ci := 7) (v := .int 0) (C := RX7) (T := TX7) (N := 43) hx hb hts inX7 hown hK.1 hP 0 rfl rfl 0 (by decide) (hts _ mf_X7_116) (fun _ h9 => h9) rfl dX7_fewest_18 ?_
    refine lv_if_le (tgt := 26) hx hb dX7_fewest_21 (by decide) (fun c4 => ?_) (fun c4 => absurd (by decide) c4)
    refine lv_iconst (v := 0) hx hb dX7_fewest_26 (by decide) ?_
    refine lv_istore_n (lv' := [(2, .int 0), (0, .ref y), (1, .int (nI t))]) hx hb dX7_fewest_27 rfl hl (by decide) rfl (fun ls hl => ?_)
    refine lv_iconst (v := 0) hx hb dX7_fewest_28 (by decide) ?_
    refine lv_istore_n (lv' := [(3, .int 0), (2, .int 0), (0, .ref y), (1, .int (nI t))]) hx hb dX7_fewest_29 rfl hl (by decide) rfl (fun ls hl => ?_)
    have loop30 : ∀ (k5 i : Nat) (mc : Nat) (x7 : Nat → Int32), i ≤ rw → rw < i + k5 → (mc = rkG (mayM (r 3) (r 4) (r 5) (r 6) (r 7) (r 8) (r 9) (r 11) t rw cl) (12 * i)) → (GCM (mayM (r 3) (r 4) (r 5) (r 6) (r 7) (r 8) (r 9) (r 11) t rw cl) t (12 * i) 12 x7) → ∀ (H : Heap) (locs : List Loc) (ls : Array Slot), PP G (mM G y b (upd f 0 0) (up2 r 30 x7)) H → va_S A s.heap H locs → lv_has ls 6 [(3, .int (nI i)), (2, .int (nI mc)), (0, .ref y), (1, .int (nI t))] → W p l e ({ frames := 8, cells := 0, slots := 0, locals := 208 }) s m ([.ref y, .int (nI t)] : List Value).toArray below meth c H locs 0 0 (MQ below (QwI G (fun q w => ∃ (n_f_0 : Int32) (n_f_20 : Int32) (n_f_21 : Int32) (n_r_10 : Nat → Int32) (n_r_15 : Nat → Int32) (n_r_16 : Nat → Int32) (n_r_17 : Nat → Int32) (n_r_18 : Nat → Int32) (n_r_19 : Nat → Int32) (n_r_22 : Nat → Int32) (n_r_23 : Nat → Int32) (n_r_29 : Nat → Int32) (n_r_30 : Nat → Int32), w = mM G y b (upd (upd (upd f 0 n_f_0) 20 n_f_20) 21 n_f_21) (up2 (up2 (up2 (up2 (up2 (up2 (up2 (up2 (up2 (up2 r 10 n_r_10) 15 n_r_15) 16 n_r_16) 17 n_r_17) 18 n_r_18) 19 n_r_19) 22 n_r_22) 23 n_r_23) 29 n_r_29) 30 n_r_30) ∧ fwM (nI t) q (r 1) (r 2) (r 3) (r 4) (r 5) (r 6) (r 7) (r 8) (r 9) (r 10) (r 11) (r 12) (r 13) (r 14) n_r_10 n_f_0) A) ([.ref y, .int (nI t)] : List Value).toArray s 0 0 A) (F0 m 30 ls []) := by
      intro k5
      induction k5 with
      | zero => intro i mc x7 h1 h2; exact absurd h1 (by omega)
      | succ k5 ih30k5 =>
        intro i mc x7 hi_i hk_i hc hg H locs ls hP hS hl
        refine lv_iload_n hx hb dX7_fewest_30 rfl (lv_at hl 0 rfl) ?_
        refine lv_aload_n hx hb dX7_fewest_31 rfl (lv_at hl 2 rfl) ?_
        refine va_get (D := G.1) (ci := 7) (v := .ref (b 2)) (C := RX7) (T := TX7) (N := 43) hx hb hts inX7 hown hK.1 hP 0 rfl rfl 2 (by decide) (hts _ mf_X7_13) (fun _ h9 => h9) rfl dX7_fewest_32 ?_
        refine lv_iload_n hx hb dX7_fewest_35 rfl (lv_at hl 3 rfl) ?_
        refine xiald (f := (r 2)) hx hb hK hP 2 (t) (rfl) (by omega) (by decide) rfl dX7_fewest_36 ?_
        refine lv_topi (fun v8 ev8 => ?_)
        obtain rfl : v8 = nI (rw) := ev8.trans (h2)
        refine lv_icmp_ge (tgt := 125) hx hb dX7_fewest_37 (by decide) (fun c9 => ?_) (fun c9 => ?_)
        · have b37 := qge_t (a := i) (b := (rw)) (by omega) (by omega) c9
          refine lv_iload_n hx hb dX7_fewest_125 rfl (lv_at hl 1 rfl) ?_
          refine lv_bipush (v := 8) hx hb dX7_fewest_126 (by decide) ?_
          have hrk := rk_b (M := (mayM (r 3) (r 4) (r 5) (r 6) (r 7) (r 8) (r 9) (r 11) t rw cl)) (12 * i)
          refine lv_icmp_le (tgt := 137) hx hb dX7_fewest_128 (by decide) (fun c10 => ?_) (fun c10 => ?_)
          · have b128 := qle_t (a := mc) (b := 8) (by omega) (by omega) c10
            refine lv_aload_n hx hb dX7_fewest_137 rfl (lv_at hl 2 rfl) ?_
            refine va_get (D := G.1) (ci := 7) (v := .int 0) (C := RX7) (T := TX7) (N := 43) hx hb hts inX7 hown hK.1 hP 0 rfl rfl 0 (by decide) (hts _ mf_X7_116) (fun _ h9 => h9) rfl dX7_fewest_138 ?_
            refine lv_if_le (tgt := 146) hx hb dX7_fewest_141 (by decide) (fun c11 => ?_) (fun c11 => absurd (by decide) c11)
            refine lv_iconst (v := 0) hx hb dX7_fewest_146 (by decide) ?_
            refine lv_istore_n (lv' := [(3, .int 0), (2, .int (nI mc)), (0, .ref y), (1, .int (nI t))]) hx hb dX7_fewest_147 rfl hl (by decide) rfl (fun ls hl => ?_)
            have loop148 : ∀ (k12 n1 : Nat) (x13 : Nat → Int32) (x14 : Nat → Int32), n1 ≤ 144 → 144 < n1 + k12 → (∀ k, k < n1 → x14 k = r 10 (144 * t + k)) → (∀ k, k < n1 → x13 (144 * t + k) = 0) → (∀ p, (p < 144 * t ∨ 144 * t + n1 ≤ p) → x13 p = r 10 p) → ∀ (H : Heap) (locs : List Loc) (ls : Array Slot), PP G (mM G y b (upd f 0 0) (up2 (up2 (up2 r 10 x13) 29 x14) 30 x7)) H → va_S A s.heap H locs → lv_has ls 6 [(3, .int (nI n1)), (2, .int (nI mc)), (0, .ref y), (1, .int (nI t))] → W p l e ({ frames := 8, cells := 0, slots := 0, locals := 208 }) s m ([.ref y, .int (nI t)] : List Value).toArray below meth c H locs 0 0 (MQ below (QwI G (fun q w => ∃ (n_f_0 : Int32) (n_f_20 : Int32) (n_f_21 : Int32) (n_r_10 : Nat → Int32) (n_r_15 : Nat → Int32) (n_r_16 : Nat → Int32) (n_r_17 : Nat → Int32) (n_r_18 : Nat → Int32) (n_r_19 : Nat → Int32) (n_r_22 : Nat → Int32) (n_r_23 : Nat → Int32) (n_r_29 : Nat → Int32) (n_r_30 : Nat → Int32), w = mM G y b (upd (upd (upd f 0 n_f_0) 20 n_f_20) 21 n_f_21) (up2 (up2 (up2 (up2 (up2 (up2 (up2 (up2 (up2 (up2 r 10 n_r_10) 15 n_r_15) 16 n_r_16) 17 n_r_17) 18 n_r_18) 19 n_r_19) 22 n_r_22) 23 n_r_23) 29 n_r_29) 30 n_r_30) ∧ fwM (nI t) q (r 1) (r 2) (r 3) (r 4) (r 5) (r 6) (r 7) (r 8) (r 9) (r 10) (r 11) (r 12) (r 13) (r 14) n_r_10 n_f_0) A) ([.ref y, .int (nI t)] : List Value).toArray s 0 0 A) (F0 m 148 ls []) := by
              intro k12
              induction k12 with
              | zero => intro n1 x13 x14 h1 h2; exact absurd h1 (by omega)
              | succ k12 ih148k12 =>
                intro n1 x13 x14 hi_n1 hk_n1 hwas hclr hou H locs ls hP hS hl
                refine lv_iload_n hx hb dX7_fewest_148 rfl (lv_at hl 0 rfl) ?_
                refine lv_sipush (v := 144) hx hb dX7_fewest_149 (by decide) ?_
                refine lv_icmp_ge (tgt := 192) hx hb dX7_fewest_152 (by decide) (fun c15 => ?_) (fun c15 => ?_)
                · have b152 := qge_t (a := n1) (b := 144) (by omega) (by omega) c15
                  have hmk : mc = rkG (mayM (r 3) (r 4) (r 5) (r 6) (r 7) (r 8) (r 9) (r 11) t rw cl) (12 * rw) := by rw [hc, show 12 * i = 12 * rw by omega]
                  have hg2 : GCM (mayM (r 3) (r 4) (r 5) (r 6) (r 7) (r 8) (r 9) (r 11) t rw cl) t (12 * rw) 12 x7 := by rw [show 12 * rw = 12 * i by omega]; exact hg
                  obtain ⟨cp, ecp⟩ : ∃ z9 : Nat → Nat, z9 = (fun k => (coR (r 4 (6 * t + 5)) (r 6 (x7 k).toNatClampNeg)).toNatClampNeg) := ⟨_, rfl⟩
                  have hMr : ∀ x y, (mayM (r 3) (r 4) (r 5) (r 6) (r 7) (r 8) (r 9) (r 11) t rw cl) x y → rkG (mayM (r 3) (r 4) (r 5) (r 6) (r 7) (r 8) (r 9) (r 11) t rw cl) (12 * x + y) < mc := fun x y h9 => by rw [hmk]; exact rk_lt (hM12 x y h9) h9 (by have h8 := h9.1; have h7 := hM12 x y h9; omega)
                  have hcx : ∀ x y, (mayM (r 3) (r 4) (r 5) (r 6) (r 7) (r 8) (r 9) (r 11) t rw cl) x y → coR (r 4 (6 * t + 5)) (r 6 (144 * t + 12 * x + y)) = nI (cp (rkG (mayM (r 3) (r 4) (r 5) (r 6) (r 7) (r 8) (r 9) (r 11) t rw cl) (12 * x + y))) ∧ cp (rkG (mayM (r 3) (r 4) (r 5) (r 6) (r 7) (r 8) (r 9) (r 11) t rw cl) (12 * x + y)) = (prM (r 4) (r 6) t) x y ∧ cp (rkG (mayM (r 3) (r 4) (r 5) (r 6) (r 7) (r 8) (r 9) (r 11) t rw cl) (12 * x + y)) ≤ 1000001 := fun x y h9 => by obtain ⟨m9, hm9, em9⟩ := hNR x y h9.1 h9.2.1 h9.2.2.1; have h8 := hg2 x y h9 (by have h7 := h9.1; have h6 := hM12 x y h9; omega) (by have := hMr x y h9; omega); have h7 := pr_le (ru := r 4 (6 * t + 5)) hm9 em9; have h6 : cp (rkG (mayM (r 3) (r 4) (r 5) (r 6) (r 7) (r 8) (r 9) (r 11) t rw cl) (12 * x + y)) = (prM (r 4) (r 6) t) x y := (by rw [ecp]; show (coR (r 4 (6 * t + 5)) (r 6 (x7 (rkG (mayM (r 3) (r 4) (r 5) (r 6) (r 7) (r 8) (r 9) (r 11) t rw cl) (12 * x + y))).toNatClampNeg)).toNatClampNeg = _; rw [h8, nI_clamp (by have h5 := h9.1; have h4 := hM12 x y h9; omega), co_n hm9 em9, nI_clamp (by omega)]; try rfl); rw [h6]; exact ⟨co_n hm9 em9, rfl, h7.2⟩
                  have hcb : ∀ k, k < mc → cp k ≤ 1000001 := fun k h9 => by obtain ⟨xx, yy, _, _, h8, h7⟩ := rk_ex (M := (mayM (r 3) (r 4) (r 5) (r 6) (r 7) (r 8) (r 9) (r 11) t rw cl)) (12 * rw) (show k < rkG (mayM (r 3) (r 4) (r 5) (r 6) (r 7) (r 8) (r 9) (r 11) t rw cl) (12 * rw) by omega); rw [← h7]; exact (hcx xx yy h8).2.2
                  have hch : ∀ k, k < mc → ∃ pk, pk < 864 ∧ x7 k = nI pk ∧ coR (r 4 (6 * t + 5)) (r 6 pk) = nI (cp k) := fun k hk => by obtain ⟨xx, yy, hy9, hn9, hM9, hr9⟩ := rk_ex (M := (mayM (r 3) (r 4) (r 5) (r 6) (r 7) (r 8) (r 9) (r 11) t rw cl)) (12 * rw) (show k < rkG (mayM (r 3) (r 4) (r 5) (r 6) (r 7) (r 8) (r 9) (r 11) t rw cl) (12 * rw) by omega); have h1 := hg2 xx yy hM9 hn9 (by omega); have h2_ := (hcx xx yy hM9).1; rw [hr9] at h1 h2_; exact ⟨_, by have h5 := hM9.1; have h4 := hM12 xx yy hM9; omega, h1, h2_⟩
                  have hou2 : ∀ p, (p < 144 * t ∨ 144 * t + 144 ≤ p) → x13 p = r 10 p := fun p h9 => hou p (by omega)
                  have hwas9 := hwas
                  refine lv_aload_n hx hb dX7_fewest_192 rfl (lv_at hl 2 rfl) ?_
                  refine lv_iload_n hx hb dX7_fewest_193 rfl (lv_at hl 3 rfl) ?_
                  refine lv_iload_n hx hb dX7_fewest_194 rfl (lv_at hl 1 rfl) ?_
                  refine wrVIa (rest := []) (q0 := 0) ⟨hx, hb, hml, hown, hts⟩ (n_bestOf l G y b (upd f 0 0) (up2 (up2 (up2 r 10 x13) 29 x14) 30 x7) t mc rw cl bk dn uq cp (by omega) (by omega) (by omega) (by omega) h2 h3 h12 hG hNR (by omega) (by omega) hr3 hr4 (by omega) hmk hg2 (fun x y h9 => (hcx x y h9).1) hcb (fun x y h8 h9 => by rw [Nat.add_assoc]; exact hclr _ (by omega))) mi_yX7_bestOf mv_yX7_bestOf ml_X7_248 ⟨rfl, rfl, Nat.le_of_ble_eq_true rfl, Nat.le_of_ble_eq_true rfl⟩ hK hP (hDD _ _) rfl rfl rfl hl.1 rfl (Nat.le_of_ble_eq_true rfl) dX7_fewest_195 ⟨Nat.zero_le _, Nat.zero_le _⟩ hS hA (fun r16 w17 H locs hw17 hP hS => ?_)
                  obtain ⟨x18, x19, x20, x21, x22, x23, x24, x25, x26, x27, rfl, hw17r, hou⟩ := hw17
                  have hP : PP G (mM G y b (upd (upd (upd f 0 0) 20 x18) 21 x19) (up2 (up2 (up2 (up2 (up2 (up2 (up2 (up2 (up2 (up2 r 10 x20) 15 x21) 16 x22) 17 x23) 18 x24) 19 x25) 22 x26) 23 x27) 29 x14) 30 x7)) H := hP
                  have hou : ∀ p, (p < 144 * t ∨ 144 * t + 144 ≤ p) → x20 p = x13 p := hou
                  have hw17r : ((r16 = -1 ∧ ∀ s, s < 2 ^ mc → ¬ (GRD rw cl (UGm rw cl t bk (r 3) (r 4) (r 5) (r 6) (r 7) (r 8) (r 9) (r 11) (r 13) (r 14) dn uq) (seM (r 4) (r 5) (r 6) (r 7) (r 8) (r 9) t) (mayM (r 3) (r 4) (r 5) (r 6) (r 7) (r 8) (r 9) (r 11) t rw cl) mc) s) ∨ ∃ bz, r16 = nI bz ∧ LSG cp mc (GRD rw cl (UGm rw cl t bk (r 3) (r 4) (r 5) (r 6) (r 7) (r 8) (r 9) (r 11) (r 13) (r 14) dn uq) (seM (r 4) (r 5) (r 6) (r 7) (r 8) (r 9) t) (mayM (r 3) (r 4) (r 5) (r 6) (r 7) (r 8) (r 9) (r 11) t rw cl) mc) bz ∧ ∀ x y, x < 12 → y < 12 → x20 (144 * t + 12 * x + y) = (if pB ((mayM (r 3) (r 4) (r 5) (r 6) (r 7) (r 8) (r 9) (r 11) t rw cl) x y ∧ bt (nI bz) (mc - 1 - rkG (mayM (r 3) (r 4) (r 5) (r 6) (r 7) (r 8) (r 9) (r 11) t rw cl) (12 * x + y)) = true) = true then 1 else 0)) := hw17r
                  refine lv_istore_n (lv' := [(3, .int r16), (2, .int (nI mc)), (0, .ref y), (1, .int (nI t))]) hx hb dX7_fewest_198 rfl hl (by decide) rfl (fun ls hl => ?_)
                  refine lv_iload_n hx hb dX7_fewest_199 rfl (lv_at hl 0 rfl) ?_
                  refine lv_iconst (v := -1) hx hb dX7_fewest_200 (by decide) ?_
                  refine lv_icmp_eq (tgt := 212) hx hb dX7_fewest_201 (by decide) (fun c28 => ?_) (fun c28 => ?_)
                  · have hnon := (hw17r.resolve_right (fun ⟨b8, e8, h8, _⟩ => absurd (e8.symm.trans c28) (nI_nm1 (by have h7 := h8.1; have h6 := p2_le mc (by omega); omega)))).2
                    have hre : ∀ p, (p < 144 * t + 0 ∨ 144 * t + 144 ≤ p) → x20 p = r 10 p := fun p h9 => by rw [hou p (by omega)]; exact hou2 p (by omega)
                    refine lv_iconst (v := 0) hx hb dX7_fewest_212 (by decide) ?_
                    refine lv_istore (lv' := [(4, .int 0), (3, .int r16), (2, .int (nI mc)), (0, .ref y), (1, .int (nI t))]) hx hb dX7_fewest_213 hl (by decide) rfl (fun ls hl => ?_)
                    have loop215 : ∀ (k29 n2 : Nat) (x30 : Nat → Int32), n2 ≤ 144 → 144 < n2 + k29 → (∀ p, (p < 144 * t + n2 ∨ 144 * t + 144 ≤ p) → x30 p = r 10 p) → ∀ (H : Heap) (locs : List Loc) (ls : Array Slot), PP G (mM G y b (upd (upd (upd f 0 0) 20 x18) 21 x19) (up2 (up2 (up2 (up2 (up2 (up2 (up2 (up2 (up2 (up2 r 10 x30) 15 x21) 16 x22) 17 x23) 18 x24) 19 x25) 22 x26) 23 x27) 29 x14) 30 x7)) H → va_S A s.heap H locs → lv_has ls 6 [(4, .int (nI n2)), (0, .ref y), (1, .int (nI t))] → W p l e ({ frames := 8, cells := 0, slots := 0, locals := 208 }) s m ([.ref y, .int (nI t)] : List Value).toArray below meth c H locs 0 0 (MQ below (QwI G (fun q w => ∃ (n_f_0 : Int32) (n_f_20 : Int32) (n_f_21 : Int32) (n_r_10 : Nat → Int32) (n_r_15 : Nat → Int32) (n_r_16 : Nat → Int32) (n_r_17 : Nat → Int32) (n_r_18 : Nat → Int32) (n_r_19 : Nat → Int32) (n_r_22 : Nat → Int32) (n_r_23 : Nat → Int32) (n_r_29 : Nat → Int32) (n_r_30 : Nat → Int32), w = mM G y b (upd (upd (upd f 0 n_f_0) 20 n_f_20) 21 n_f_21) (up2 (up2 (up2 (up2 (up2 (up2 (up2 (up2 (up2 (up2 r 10 n_r_10) 15 n_r_15) 16 n_r_16) 17 n_r_17) 18 n_r_18) 19 n_r_19) 22 n_r_22) 23 n_r_23) 29 n_r_29) 30 n_r_30) ∧ fwM (nI t) q (r 1) (r 2) (r 3) (r 4) (r 5) (r 6) (r 7) (r 8) (r 9) (r 10) (r 11) (r 12) (r 13) (r 14) n_r_10 n_f_0) A) ([.ref y, .int (nI t)] : List Value).toArray s 0 0 A) (F0 m 215 ls []) := by
                      intro k29
                      induction k29 with
                      | zero => intro n2 x30 h1 h2; exact absurd h1 (by omega)
                      | succ k29 ih215k29 =>
                        intro n2 x30 hi_n2 hk_n2 hre H locs ls hP hS hl
                        refine lv_iload hx hb dX7_fewest_215 (lv_at hl 0 rfl) ?_
                        refine lv_sipush (v := 144) hx hb dX7_fewest_217 (by decide) ?_
                        refine lv_icmp_ge (tgt := 249) hx hb dX7_fewest_220 (by decide) (fun c31 => ?_) (fun c31 => ?_)
                        · have b220 := qge_t (a := n2) (b := 144) (by omega) (by omega) c31
                          refine lv_aload_n hx hb dX7_fewest_249 rfl (lv_at hl 1 rfl) ?_
                          refine lv_bipush (v := 10) hx hb dX7_fewest_250 (by decide) ?_
                          refine va_put (D := G.1) (ci := 7) (v := .int 10) (C := RX7) (T := TX7) (N := 43) hx hb hts inX7 tyX7 tyX7_ok nmX7 hown hK.1 hP (hDD _ _) hS 0 rfl rfl 0 (by decide) (hts _ mf_X7_116) (fun _ h9 => h9) rfl (tyX7_ok 0 (by decide)) (rfl) (rfl) (Nat.le_of_ble_eq_true rfl) dX7_fewest_252 (fun H locs hP _ hS => ?_)
                          have hP : PP G (mM G y b (upd (upd (upd f 0 10) 20 x18) 21 x19) (up2 (up2 (up2 (up2 (up2 (up2 (up2 (up2 (up2 (up2 r 10 x30) 15 x21) 16 x22) 17 x23) 18 x24) 19 x25) 22 x26) 23 x27) 29 x14) 30 x7)) H := hP
                          refine lv_iconst (v := -1) hx hb dX7_fewest_255 (by decide) ?_
                          exact wr_iret hx hb hr hlocks hS hP ⟨10, x18, x19, x30, x21, x22, x23, x24, x25, x26, x27, x14, x7, rfl, (Or.inr ⟨t, rw, cl, bk, dn, uq, ht, rfl, hop, hrw, hcl, hbk, h2, h3, h12, hr3, hr4, hdn, huq, Or.inr ⟨mc, cp, hmk, by omega, fun x y h9 => (hcx x y h9).2.1, Or.inr ⟨hnon, rfl, fun p h9 => hre p (by omega), rfl⟩⟩⟩)⟩ dX7_fewest_256
                        · have b220 := qge_f (a := n2) (b := 144) (by omega) (by omega) c31
                          refine lv_aload_n hx hb dX7_fewest_223 rfl (lv_at hl 1 rfl) ?_
                          refine va_get (D := G.1) (ci := 7) (v := .ref (b 10)) (C := RX7) (T := TX7) (N := 43) hx hb hts inX7 hown hK.1 hP 0 rfl rfl 10 (by decide) (hts _ mf_X7_38) (fun _ h9 => h9) rfl dX7_fewest_224 ?_
                          refine lv_sipush (v := 144) hx hb dX7_fewest_227 (by decide) ?_
                          refine lv_iload_n hx hb dX7_fewest_230 rfl (lv_at hl 2 rfl) ?_
                          refine lv_imul hx hb dX7_fewest_231 ?_
                          refine lv_topi (fun v32 ev32 => ?_)
                          obtain rfl : v32 = nI (144 * t) := nI_times ev32 rfl rfl
                          refine lv_iload hx hb dX7_fewest_232 (lv_at hl 0 rfl) ?_
                          refine lv_iadd hx hb dX7_fewest_234 ?_
                          refine lv_topi (fun v33 ev33 => ?_)
                          obtain rfl : v33 = nI ((144 * t) + n2) := nI_plus ev33 rfl rfl
                          refine lv_aload_n hx hb dX7_fewest_235 rfl (lv_at hl 1 rfl) ?_
                          refine va_get (D := G.1) (ci := 7) (v := .ref (b 29)) (C := RX7) (T := TX7) (N := 43) hx hb hts inX7 hown hK.1 hP 0 rfl rfl 29 (by decide) (hts _ mf_X7_83) (fun _ h9 => h9) rfl dX7_fewest_236 ?_
                          refine lv_iload hx hb dX7_fewest_239 (lv_at hl 0 rfl) ?_
                          refine xzald (f := x14) hx hb hK hP 25 (n2) (rfl) (by omega) (by decide) rfl dX7_fewest_241 ?_
                          refine lv_topi (fun v34 ev34 => ?_)
                          refine xzast (f := x30) (x := v34) hx hb hK hP (hDD _ _) hS 10 (((144 * t) + n2)) (rfl) (by omega) (by decide) ((by rw [ev34, hwas n2 (by omega)]; exact hB9 _ (by omega))) rfl dX7_fewest_242 (fun H locs hP _ hS => ?_)
                          have hP : PP G (mM G y b (upd (upd (upd f 0 0) 20 x18) 21 x19) (up2 (up2 (up2 (up2 (up2 (up2 (up2 (up2 (up2 (up2 r 10 (upd x30 (((144 * t) + n2)) (v34))) 15 x21) 16 x22) 17 x23) 18 x24) 19 x25) 22 x26) 23 x27) 29 x14) 30 x7)) H := hP
                          obtain ⟨v35, ev35⟩ : ∃ y9 : Int32, y9 = (nI n2) + Int32.ofInt (1) := ⟨_, rfl⟩
                          refine lv_iinc (v := v35) (lv' := [(4, .int v35), (0, .ref y), (1, .int (nI t))]) hx hb dX7_fewest_243 hl (k := 0) rfl ev35.symm (by decide) rfl (fun ls hl => ?_)
                          obtain rfl : v35 = nI (n2 + 1) := nI_plus (i := n2) (j := 1) ev35 rfl (by decide)
                          refine lv_goto (tgt := 215) hx hb dX7_fewest_246 (by decide) ?_
                          exact ih215k29 (n2 + 1) (upd x30 (((144 * t) + n2)) (v34)) (by omega) (by omega) (re_s (by omega) hre (ev34.trans (hwas n2 (by omega)))) _ _ _ hP hS (lv_sub hl [0, 1, 2] rfl)
                    exact loop215 (144 + 1) 0 x20 (by omega) (by omega) (hre) _ _ _ hP hS (lv_sub hl [0, 3, 4] rfl)
                  · obtain ⟨bz, ez, hls, hcel⟩ := hw17r.resolve_left (fun z9 => c28 z9.1)
                    subst ez
                    refine lv_aload_n hx hb dX7_fewest_204 rfl (lv_at hl 2 rfl) ?_
                    refine lv_iload_n hx hb dX7_fewest_205 rfl (lv_at hl 3 rfl) ?_
                    refine lv_iload_n hx hb dX7_fewest_206 rfl (lv_at hl 1 rfl) ?_
                    refine lv_iload_n hx hb dX7_fewest_207 rfl (lv_at hl 0 rfl) ?_
                    refine rdV (rest := []) (q0 := 0) ⟨hx, hb, hml, hown, hts⟩ (n_costOfSet l G y b (upd (upd (upd f 0 0) 20 x18) 21 x19) (up2 (up2 (up2 (up2 (up2 (up2 (up2 (up2 (up2 (up2 r 10 x20) 15 x21) 16 x22) 17 x23) 18 x24) 19 x25) 22 x26) 23 x27) 29 x14) 30 x7) t mc bz cp (by omega) (by omega) hch) mi_yX7_costOfSet mv_yX7_costOfSet ml_X7_251 ⟨rfl, rfl, Nat.le_of_ble_eq_true rfl, Nat.le_of_ble_eq_true rfl⟩ hK (hP) rfl rfl rfl hl.1 rfl (Nat.le_of_ble_eq_true rfl) dX7_fewest_208 ⟨Nat.zero_le _, Nat.zero_le _⟩ hS hA hP (fun r36 H locs hr36 hP hS => ?_)
                    obtain rfl := hr36
                    exact wr_iret hx hb hr hlocks hS hP ⟨0, x18, x19, x20, x21, x22, x23, x24, x25, x26, x27, x14, x7, rfl, (Or.inr ⟨t, rw, cl, bk, dn, uq, ht, rfl, hop, hrw, hcl, hbk, h2, h3, h12, hr3, hr4, hdn, huq, Or.inr ⟨mc, cp, hmk, by omega, fun x y h9 => (hcx x y h9).2.1, Or.inl ⟨bz, hls, rfl, hcel, fun p h9 => (hou p h9).trans (hou2 p h9), rfl⟩⟩⟩)⟩ dX7_fewest_211
                · have b152 := qge_f (a := n1) (b := 144) (by omega) (by omega) c15
                  refine lv_aload_n hx hb dX7_fewest_155 rfl (lv_at hl 2 rfl) ?_
                  refine va_get (D := G.1) (ci := 7) (v := .ref (b 29)) (C := RX7) (T := TX7) (N := 43) hx hb hts inX7 hown hK.1 hP 0 rfl rfl 29 (by decide) (hts _ mf_X7_83) (fun _ h9 => h9) rfl dX7_fewest_156 ?_
                  refine lv_iload_n hx hb dX7_fewest_159 rfl (lv_at hl 0 rfl) ?_
                  refine lv_aload_n hx hb dX7_fewest_160 rfl (lv_at hl 2 rfl) ?_
                  refine va_get (D := G.1) (ci := 7) (v := .ref (b 10)) (C := RX7) (T := TX7) (N := 43) hx hb hts inX7 hown hK.1 hP 0 rfl rfl 10 (by decide) (hts _ mf_X7_38) (fun _ h9 => h9) rfl dX7_fewest_161 ?_
                  refine lv_sipush (v := 144) hx hb dX7_fewest_164 (by decide) ?_
                  refine lv_iload_n hx hb dX7_fewest_167 rfl (lv_at hl 3 rfl) ?_
                  refine lv_imul hx hb dX7_fewest_168 ?_
                  refine lv_topi (fun v37 ev37 => ?_)
                  obtain rfl : v37 = nI (144 * t) := nI_times ev37 rfl rfl
                  refine lv_iload_n hx hb dX7_fewest_169 rfl (lv_at hl 0 rfl) ?_
                  refine lv_iadd hx hb dX7_fewest_170 ?_
                  refine lv_topi (fun v38 ev38 => ?_)
                  obtain rfl : v38 = nI ((144 * t) + n1) := nI_plus ev38 rfl rfl
                  refine xzald (f := x13) hx hb hK hP 10 (((144 * t) + n1)) (rfl) (by omega) (by decide) rfl dX7_fewest_171 ?_
                  refine lv_topi (fun v39 ev39 => ?_)
                  refine xzast (f := x14) (x := v39) hx hb hK hP (hDD _ _) hS 25 (n1) (rfl) (by omega) (by decide) ((by rw [ev39, hou _ (by omega)]; exact hB9 _ (by omega))) rfl dX7_fewest_172 (fun H locs hP _ hS => ?_)
                  have hP : PP G (mM G y b (upd f 0 0) (up2 (up2 (up2 r 10 x13) 29 (upd x14 (n1) (v39))) 30 x7)) H := hP
                  refine lv_aload_n hx hb dX7_fewest_173 rfl (lv_at hl 2 rfl) ?_
                  refine va_get (D := G.1) (ci := 7) (v := .ref (b 10)) (C := RX7) (T := TX7) (N := 43) hx hb hts inX7 hown hK.1 hP 0 rfl rfl 10 (by decide) (hts _ mf_X7_38) (fun _ h9 => h9) rfl dX7_fewest_174 ?_
                  refine lv_sipush (v := 144) hx hb dX7_fewest_177 (by decide) ?_
                  refine lv_iload_n hx hb dX7_fewest_180 rfl (lv_at hl 3 rfl) ?_
                  refine lv_imul hx hb dX7_fewest_181 ?_
                  refine lv_topi (fun v40 ev40 => ?_)
                  obtain rfl : v40 = nI (144 * t) := nI_times ev40 rfl rfl
                  refine lv_iload_n hx hb dX7_fewest_182 rfl (lv_at hl 0 rfl) ?_
                  refine lv_iadd hx hb dX7_fewest_183 ?_
                  refine lv_topi (fun v41 ev41 => ?_)
                  obtain rfl : v41 = nI ((144 * t) + n1) := nI_plus ev41 rfl rfl
                  refine lv_iconst (v := 0) hx hb dX7_fewest_184 (by decide) ?_
                  refine xzast (f := x13) (x := 0) hx hb hK hP (hDD _ _) hS 10 (((144 * t) + n1)) (rfl) (by omega) (by decide) (Or.inl rfl) rfl dX7_fewest_185 (fun H locs hP _ hS => ?_)
                  have hP : PP G (mM G y b (upd f 0 0) (up2 (up2 (up2 r 10 (upd x13 (((144 * t) + n1)) (0))) 29 (upd x14 (n1) (v39))) 30 x7)) H := hP
                  obtain ⟨v42, ev42⟩ : ∃ y9 : Int32, y9 = (nI n1) + Int32.ofInt (1) := ⟨_, rfl⟩
                  refine lv_iinc (v := v42) (lv' := [(3, .int v42), (2, .int (nI mc)), (0, .ref y), (1, .int (nI t))]) hx hb dX7_fewest_186 hl (k := 0) rfl ev42.symm (by decide) rfl (fun ls hl => ?_)
                  obtain rfl : v42 = nI (n1 + 1) := nI_plus (i := n1) (j := 1) ev42 rfl (by decide)
                  refine lv_goto (tgt := 148) hx hb dX7_fewest_189 (by decide) ?_
                  exact ih148k12 (n1 + 1) (upd x13 (((144 * t) + n1)) (0)) (upd x14 (n1) (v39)) (by omega) (by omega) (wa_s hwas (ev39.trans (hou _ (by omega)))) (cl_s (a := r 10) (by omega) hclr) (fun p h9 => by rw [pk_un (by omega)]; exact hou p (by omega)) _ _ _ hP hS (lv_sub hl [0, 1, 2, 3] rfl)
            exact loop148 (144 + 1) 0 (r 10) (r 29) (by omega) (by omega) (fun k h9 => absurd h9 (by omega)) (fun k h9 => absurd h9 (by omega)) (fun _ _ => rfl) _ _ _ hP hS (lv_sub hl [0, 1, 2, 3] rfl)
          · have b128 := qle_f (a := mc) (b := 8) (by omega) (by omega) c10
            refine lv_aload_n hx hb dX7_fewest_131 rfl (lv_at hl 2 rfl) ?_
            refine lv_bipush (v := 8) hx hb dX7_fewest_132 (by decide) ?_
            refine va_put (D := G.1) (ci := 7) (v := .int 8) (C := RX7) (T := TX7) (N := 43) hx hb hts inX7 tyX7 tyX7_ok nmX7 hown hK.1 hP (hDD _ _) hS 0 rfl rfl 0 (by decide) (hts _ mf_X7_116) (fun _ h9 => h9) rfl (tyX7_ok 0 (by decide)) (rfl) (rfl) (Nat.le_of_ble_eq_true rfl) dX7_fewest_134 (fun H locs hP _ hS => ?_)
            have hP : PP G (mM G y b (upd f 0 8) (up2 r 30 x7)) H := hP
            refine lv_aload_n hx hb dX7_fewest_137 rfl (lv_at hl 2 rfl) ?_
            refine va_get (D := G.1) (ci := 7) (v := .int 8) (C := RX7) (T := TX7) (N := 43) hx hb hts inX7 hown hK.1 hP 0 rfl rfl 0 (by decide) (hts _ mf_X7_116) (fun _ h9 => h9) rfl dX7_fewest_138 ?_
            refine lv_if_le (tgt := 146) hx hb dX7_fewest_141 (by decide) (fun c43 => absurd c43 (by decide)) (fun c43 => ?_)
            refine lv_iconst (v := -1) hx hb dX7_fewest_144 (by decide) ?_
            exact wr_iret hx hb hr hlocks hS hP ⟨8, (f 20), (f 21), (r 10), (r 15), (r 16), (r 17), (r 18), (r 19), (r 22), (r 23), (r 29), x7, rfl, (Or.inr ⟨t, rw, cl, bk, dn, uq, ht, rfl, hop, hrw, hcl, hbk, h2, h3, h12, hr3, hr4, hdn, huq, Or.inl ⟨by rw [show 12 * rw = 12 * i by omega, ← hc]; exact b128, rfl, rfl, rfl⟩⟩)⟩ dX7_fewest_145
        · have b37 := qge_f (a := i) (b := (rw)) (by omega) (by omega) c9
          refine lv_iconst (v := 0) hx hb dX7_fewest_40 (by decide) ?_
          refine lv_istore (lv' := [(4, .int 0), (3, .int (nI i)), (2, .int (nI mc)), (0, .ref y), (1, .int (nI t))]) hx hb dX7_fewest_41 hl (by decide) rfl (fun ls hl => ?_)
          have loop43 : ∀ (k44 j : Nat) (mc : Nat) (x46 : Nat → Int32), j ≤ cl → cl < j + k44 → (mc = rkG (mayM (r 3) (r 4) (r 5) (r 6) (r 7) (r 8) (r 9) (r 11) t rw cl) (12 * i + j)) → (GCM (mayM (r 3) (r 4) (r 5) (r 6) (r 7) (r 8) (r 9) (r 11) t rw cl) t (12 * i + j) 12 x46) → ∀ (H : Heap) (locs : List Loc) (ls : Array Slot), PP G (mM G y b (upd f 0 0) (up2 r 30 x46)) H → va_S A s.heap H locs → lv_has ls 6 [(4, .int (nI j)), (3, .int (nI i)), (2, .int (nI mc)), (0, .ref y), (1, .int (nI t))] → W p l e ({ frames := 8, cells := 0, slots := 0, locals := 208 }) s m ([.ref y, .int (nI t)] : List Value).toArray below meth c H locs 0 0 (MQ below (QwI G (fun q w => ∃ (n_f_0 : Int32) (n_f_20 : Int32) (n_f_21 : Int32) (n_r_10 : Nat → Int32) (n_r_15 : Nat → Int32) (n_r_16 : Nat → Int32) (n_r_17 : Nat → Int32) (n_r_18 : Nat → Int32) (n_r_19 : Nat → Int32) (n_r_22 : Nat → Int32) (n_r_23 : Nat → Int32) (n_r_29 : Nat → Int32) (n_r_30 : Nat → Int32), w = mM G y b (upd (upd (upd f 0 n_f_0) 20 n_f_20) 21 n_f_21) (up2 (up2 (up2 (up2 (up2 (up2 (up2 (up2 (up2 (up2 r 10 n_r_10) 15 n_r_15) 16 n_r_16) 17 n_r_17) 18 n_r_18) 19 n_r_19) 22 n_r_22) 23 n_r_23) 29 n_r_29) 30 n_r_30) ∧ fwM (nI t) q (r 1) (r 2) (r 3) (r 4) (r 5) (r 6) (r 7) (r 8) (r 9) (r 10) (r 11) (r 12) (r 13) (r 14) n_r_10 n_f_0) A) ([.ref y, .int (nI t)] : List Value).toArray s 0 0 A) (F0 m 43 ls []) := by
            intro k44
            induction k44 with
            | zero => intro j mc x46 h1 h2; exact absurd h1 (by omega)
            | succ k44 ih43k44 =>
              intro j mc x46 hi_j hk_j hc hg H locs ls hP hS hl
              have hrk := rk_b (M := (mayM (r 3) (r 4) (r 5) (r 6) (r 7) (r 8) (r 9) (r 11) t rw cl)) (12 * i + j)
              refine lv_iload hx hb dX7_fewest_43 (lv_at hl 0 rfl) ?_
              refine lv_aload_n hx hb dX7_fewest_45 rfl (lv_at hl 3 rfl) ?_
              refine va_get (D := G.1) (ci := 7) (v := .ref (b 3)) (C := RX7) (T := TX7) (N := 43) hx hb hts inX7 hown hK.1 hP 0 rfl rfl 3 (by decide) (hts _ mf_X7_17) (fun _ h9 => h9) rfl dX7_fewest_46 ?_
              refine lv_iload_n hx hb dX7_fewest_49 rfl (lv_at hl 4 rfl) ?_
              refine xiald (f := (r 3)) hx hb hK hP 3 (t) (rfl) (by omega) (by decide) rfl dX7_fewest_50 ?_
              refine lv_topi (fun v47 ev47 => ?_)
              obtain rfl : v47 = nI (cl) := ev47.trans (h3)
              refine lv_icmp_ge (tgt := 119) hx hb dX7_fewest_51 (by decide) (fun c48 => ?_) (fun c48 => ?_)
              · have b51 := qge_t (a := j) (b := (cl)) (by omega) (by omega) c48
                obtain ⟨v49, ev49⟩ : ∃ y9 : Int32, y9 = (nI i) + Int32.ofInt (1) := ⟨_, rfl⟩
                refine lv_iinc (v := v49) (lv' := [(3, .int v49), (4, .int (nI j)), (2, .int (nI mc)), (0, .ref y), (1, .int (nI t))]) hx hb dX7_fewest_119 hl (k := 1) rfl ev49.symm (by decide) rfl (fun ls hl => ?_)
                obtain rfl : v49 = nI (i + 1) := nI_plus (i := i) (j := 1) ev49 rfl (by decide)
                refine lv_goto (tgt := 30) hx hb dX7_fewest_122 (by decide) ?_
                exact ih30k5 (i + 1) mc x46 (by omega) (by omega) (by rw [rk_end hcl (fun y h8 h9 => absurd (hMc _ _ h9) (by omega)), show 12 * i + cl = 12 * i + j by omega]; exact hc) (GCM_r hMc hcl (by rw [show 12 * i + cl = 12 * i + j by omega]; exact hg)) _ _ _ hP hS (lv_sub hl [0, 2, 3, 4] rfl)
              · have b51 := qge_f (a := j) (b := (cl)) (by omega) (by omega) c48
                refine lv_aload_n hx hb dX7_fewest_54 rfl (lv_at hl 3 rfl) ?_
                refine lv_iload_n hx hb dX7_fewest_55 rfl (lv_at hl 4 rfl) ?_
                refine lv_iload_n hx hb dX7_fewest_56 rfl (lv_at hl 1 rfl) ?_
                refine rdV (rest := []) (q0 := 0) ⟨hx, hb, hml, hown, hts⟩ (m_X7_isSound l G y b (upd f 0 0) (up2 r 30 x46) t i rw cl bk (by omega) (by omega) (by omega) (by omega) h2 h3 h12 (by omega)) mi_yX7_isSound mv_yX7_isSound ml_X7_161 ⟨rfl, rfl, Nat.le_of_ble_eq_true rfl, Nat.le_of_ble_eq_true rfl⟩ hK (hP) rfl rfl rfl hl.1 rfl (Nat.le_of_ble_eq_true rfl) dX7_fewest_57 ⟨Nat.zero_le _, Nat.zero_le _⟩ hS hA hP (fun r50 H locs hr50 hP hS => ?_)
                have hr50 : ((r50 = 1 ∧ (sndN ((r 3) t) (r 11) (r 5) t i)) ∨ (r50 = 0 ∧ ¬ (sndN ((r 3) t) (r 11) (r 5) t i))) := hr50
                refine lv_if_eq (tgt := 119) hx hb dX7_fewest_60 (by decide) (fun c51 => ?_) (fun c51 => ?_)
                · have hns : ∀ y, ¬ (mayM (r 3) (r 4) (r 5) (r 6) (r 7) (r 8) (r 9) (r 11) t rw cl) i y := fun y h9 => bF hr50 c51 h9.2.2.1
                  obtain ⟨v52, ev52⟩ : ∃ y9 : Int32, y9 = (nI i) + Int32.ofInt (1) := ⟨_, rfl⟩
                  refine lv_iinc (v := v52) (lv' := [(3, .int v52), (4, .int (nI j)), (2, .int (nI mc)), (0, .ref y), (1, .int (nI t))]) hx hb dX7_fewest_119 hl (k := 1) rfl ev52.symm (by decide) rfl (fun ls hl => ?_)
                  obtain rfl : v52 = nI (i + 1) := nI_plus (i := i) (j := 1) ev52 rfl (by decide)
                  refine lv_goto (tgt := 30) hx hb dX7_fewest_122 (by decide) ?_
                  exact ih30k5 (i + 1) mc x46 (by omega) (by omega) (by rw [rk_stop (j := j) (by omega) hns]; exact hc) (GCM_s hM12 hg (by omega) hns) _ _ _ hP hS (lv_sub hl [0, 2, 3, 4] rfl)
                · have hsn := bT hr50 c51
                  refine lv_iload_n hx hb dX7_fewest_63 rfl (lv_at hl 4 rfl) ?_
                  refine lv_iload_n hx hb dX7_fewest_64 rfl (lv_at hl 1 rfl) ?_
                  refine lv_iload hx hb dX7_fewest_65 (lv_at hl 0 rfl) ?_
                  refine rdS (rest := []) ⟨hx, hb, hml, hown, hts⟩ (m_X7_at l G y b (upd f 0 0) (up2 r 30 x46) t i j  ) mi_yX7_at mst_yX7_at ml_X7_147 ⟨rfl, rfl, Nat.le_of_ble_eq_true rfl, Nat.le_of_ble_eq_true rfl⟩ hK (hP) rfl hl.1 rfl (Nat.le_of_ble_eq_true rfl) dX7_fewest_67 ⟨Nat.zero_le _, Nat.zero_le _⟩ hS hA hP (fun r53 H locs hr53 hP hS => ?_)
                  obtain rfl := hr53
                  refine lv_istore (lv' := [(5, .int (nI (144 * t + 12 * i + j))), (4, .int (nI j)), (3, .int (nI i)), (2, .int (nI mc)), (0, .ref y), (1, .int (nI t))]) hx hb dX7_fewest_70 hl (by decide) rfl (fun ls hl => ?_)
                  refine lv_aload_n hx hb dX7_fewest_72 rfl (lv_at hl 4 rfl) ?_
                  refine va_get (D := G.1) (ci := 7) (v := .ref (b 5)) (C := RX7) (T := TX7) (N := 43) hx hb hts inX7 hown hK.1 hP 0 rfl rfl 5 (by decide) (hts _ mf_X7_23) (fun _ h9 => h9) rfl dX7_fewest_73 ?_
                  refine lv_iload hx hb dX7_fewest_76 (lv_at hl 0 rfl) ?_
                  refine xiald (f := (r 5)) hx hb hK hP 5 ((144 * t + 12 * i + j)) (rfl) (by omega) (by decide) rfl dX7_fewest_78 ?_
                  refine lv_topi (fun v54 ev54 => ?_)
                  obtain rfl : v54 = (r 5 (144 * t + 12 * i + j)) := ev54.trans (rfl)
                  refine lv_iconst (v := 4) hx hb dX7_fewest_79 (by decide) ?_
                  refine lv_icmp_eq (tgt := 113) hx hb dX7_fewest_80 (by decide) (fun c55 => ?_) (fun c55 => ?_)
                  · have hnm : ¬ (mayM (r 3) (r 4) (r 5) (r 6) (r 7) (r 8) (r 9) (r 11) t rw cl) i j := fun h9 => h9.2.2.2.1 c55
                    obtain ⟨v56, ev56⟩ : ∃ y9 : Int32, y9 = (nI j) + Int32.ofInt (1) := ⟨_, rfl⟩
                    refine lv_iinc (v := v56) (lv' := [(4, .int v56), (5, .int (nI (144 * t + 12 * i + j))), (3, .int (nI i)), (2, .int (nI mc)), (0, .ref y), (1, .int (nI t))]) hx hb dX7_fewest_113 hl (k := 1) rfl ev56.symm (by decide) rfl (fun ls hl => ?_)
                    obtain rfl : v56 = nI (j + 1) := nI_plus (i := j) (j := 1) ev56 rfl (by decide)
                    refine lv_goto (tgt := 43) hx hb dX7_fewest_116 (by decide) ?_
                    exact ih43k44 (j + 1) mc x46 (by omega) (by omega) (by rw [rk_n (by omega) hnm]; exact hc) (GCM_f hM12 (by omega) hg (fun h9 => absurd h9 hnm)) _ _ _ hP hS (lv_sub hl [0, 2, 3, 4, 5] rfl)
                  · refine lv_aload_n hx hb dX7_fewest_83 rfl (lv_at hl 4 rfl) ?_
                    refine lv_iload_n hx hb dX7_fewest_84 rfl (lv_at hl 5 rfl) ?_
                    refine lv_iload hx hb dX7_fewest_85 (lv_at hl 0 rfl) ?_
                    refine rdV (rest := []) (q0 := 0) ⟨hx, hb, hml, hown, hts⟩ (m_X7_why l G y b (upd f 0 0) (up2 r 30 x46) t (144 * t + 12 * i + j)  (by omega) (by omega) hG) mi_yX7_why mv_yX7_why ml_X7_175 ⟨rfl, rfl, Nat.le_of_ble_eq_true rfl, Nat.le_of_ble_eq_true rfl⟩ hK (hP) rfl rfl rfl hl.1 rfl (Nat.le_of_ble_eq_true rfl) dX7_fewest_87 ⟨Nat.zero_le _, Nat.zero_le _⟩ hS hA hP (fun r57 H locs hr57 hP hS => ?_)
                    obtain rfl := hr57
                    refine lv_if_le (tgt := 96) hx hb dX7_fewest_90 (by decide) (fun c58 => ?_) (fun c58 => ?_)
                    · have hm : (mayM (r 3) (r 4) (r 5) (r 6) (r 7) (r 8) (r 9) (r 11) t rw cl) i j := ⟨b37, b51, hsn, c55, Int32.not_lt.mpr c58⟩
                      refine lv_iload_n hx hb dX7_fewest_96 rfl (lv_at hl 3 rfl) ?_
                      refine lv_bipush (v := 12) hx hb dX7_fewest_97 (by decide) ?_
                      refine lv_icmp_ge (tgt := 110) hx hb dX7_fewest_99 (by decide) (fun c59 => ?_) (fun c59 => ?_)
                      · have b99 := qge_t (a := mc) (b := 12) (by omega) (by omega) c59
                        obtain ⟨v60, ev60⟩ : ∃ y9 : Int32, y9 = (nI mc) + Int32.ofInt (1) := ⟨_, rfl⟩
                        refine lv_iinc (v := v60) (lv' := [(2, .int v60), (5, .int (nI (144 * t + 12 * i + j))), (4, .int (nI j)), (3, .int (nI i)), (0, .ref y), (1, .int (nI t))]) hx hb dX7_fewest_110 hl (k := 3) rfl ev60.symm (by decide) rfl (fun ls hl => ?_)
                        obtain rfl : v60 = nI (mc + 1) := nI_plus (i := mc) (j := 1) ev60 rfl (by decide)
                        obtain ⟨v61, ev61⟩ : ∃ y9 : Int32, y9 = (nI j) + Int32.ofInt (1) := ⟨_, rfl⟩
                        refine lv_iinc (v := v61) (lv' := [(4, .int v61), (2, .int (nI (mc + 1))), (5, .int (nI (144 * t + 12 * i + j))), (3, .int (nI i)), (0, .ref y), (1, .int (nI t))]) hx hb dX7_fewest_113 hl (k := 2) rfl ev61.symm (by decide) rfl (fun ls hl => ?_)
                        obtain rfl : v61 = nI (j + 1) := nI_plus (i := j) (j := 1) ev61 rfl (by decide)
                        refine lv_goto (tgt := 43) hx hb dX7_fewest_116 (by decide) ?_
                        exact ih43k44 (j + 1) (mc + 1) x46 (by omega) (by omega) (by rw [rk_y (by omega) hm, hc]) (GCM_f hM12 (by omega) hg (fun _ => by rw [← hc]; exact b99)) _ _ _ hP hS (lv_sub hl [0, 3, 1, 4, 5] rfl)
                      · have b99 := qge_f (a := mc) (b := 12) (by omega) (by omega) c59
                        refine lv_aload_n hx hb dX7_fewest_102 rfl (lv_at hl 4 rfl) ?_
                        refine va_get (D := G.1) (ci := 7) (v := .ref (b 30)) (C := RX7) (T := TX7) (N := 43) hx hb hts inX7 hown hK.1 hP 0 rfl rfl 30 (by decide) (hts _ mf_X7_86) (fun _ h9 => h9) rfl dX7_fewest_103 ?_
                        refine lv_iload_n hx hb dX7_fewest_106 rfl (lv_at hl 3 rfl) ?_
                        refine lv_iload hx hb dX7_fewest_107 (lv_at hl 0 rfl) ?_
                        refine xiast (f := x46) (x := (nI (144 * t + 12 * i + j))) hx hb hK hP (hDD _ _) hS 26 (mc) (rfl) (by omega) (by decide) rfl dX7_fewest_109 (fun H locs hP _ hS => ?_)
                        have hP : PP G (mM G y b (upd f 0 0) (up2 r 30 (upd x46 (mc) ((nI (144 * t + 12 * i + j)))))) H := hP
                        obtain ⟨v62, ev62⟩ : ∃ y9 : Int32, y9 = (nI mc) + Int32.ofInt (1) := ⟨_, rfl⟩
                        refine lv_iinc (v := v62) (lv' := [(2, .int v62), (5, .int (nI (144 * t + 12 * i + j))), (4, .int (nI j)), (3, .int (nI i)), (0, .ref y), (1, .int (nI t))]) hx hb dX7_fewest_110 hl (k := 3) rfl ev62.symm (by decide) rfl (fun ls hl => ?_)
                        obtain rfl : v62 = nI (mc + 1) := nI_plus (i := mc) (j := 1) ev62 rfl (by decide)
                        obtain ⟨v63, ev63⟩ : ∃ y9 : Int32, y9 = (nI j) + Int32.ofInt (1) := ⟨_, rfl⟩
                        refine lv_iinc (v := v63) (lv' := [(4, .int v63), (2, .int (nI (mc + 1))), (5, .int (nI (144 * t + 12 * i + j))), (3, .int (nI i)), (0, .ref y), (1, .int (nI t))]) hx hb dX7_fewest_113 hl (k := 2) rfl ev63.symm (by decide) rfl (fun ls hl => ?_)
                        obtain rfl : v63 = nI (j + 1) := nI_plus (i := j) (j := 1) ev63 rfl (by decide)
                        refine lv_goto (tgt := 43) hx hb dX7_fewest_116 (by decide) ?_
                        exact ih43k44 (j + 1) (mc + 1) (upd x46 (mc) ((nI (144 * t + 12 * i + j)))) (by omega) (by omega) (by rw [rk_y (by omega) hm, hc]) (by rw [hc]; exact GCM_t hM12 hg hm) _ _ _ hP hS (lv_sub hl [0, 3, 1, 4, 5] rfl)
                    · have hnm : ¬ (mayM (r 3) (r 4) (r 5) (r 6) (r 7) (r 8) (r 9) (r 11) t rw cl) i j := fun h9 => h9.2.2.2.2 (Int32.not_le.mp c58)
                      refine lv_goto (tgt := 113) hx hb dX7_fewest_93 (by decide) ?_
                      obtain ⟨v64, ev64⟩ : ∃ y9 : Int32, y9 = (nI j) + Int32.ofInt (1) := ⟨_, rfl⟩
                      refine lv_iinc (v := v64) (lv' := [(4, .int v64), (5, .int (nI (144 * t + 12 * i + j))), (3, .int (nI i)), (2, .int (nI mc)), (0, .ref y), (1, .int (nI t))]) hx hb dX7_fewest_113 hl (k := 1) rfl ev64.symm (by decide) rfl (fun ls hl => ?_)
                      obtain rfl : v64 = nI (j + 1) := nI_plus (i := j) (j := 1) ev64 rfl (by decide)
                      refine lv_goto (tgt := 43) hx hb dX7_fewest_116 (by decide) ?_
                      exact ih43k44 (j + 1) mc x46 (by omega) (by omega) (by rw [rk_n (by omega) hnm]; exact hc) (GCM_f hM12 (by omega) hg (fun h9 => absurd h9 hnm)) _ _ _ hP hS (lv_sub hl [0, 2, 3, 4, 5] rfl)
          exact loop43 (cl + 1) 0 mc x7 (by omega) (by omega) (hc) (hg) _ _ _ hP hS (lv_sub hl [0, 1, 2, 3, 4] rfl)
    exact loop30 (rw + 1) 0 0 (r 30) (by omega) (by omega) (rfl) (fun x y _ h9 => absurd h9 (by omega)) _ _ _ hP hS (lv_sub hl [0, 1, 2, 3] rfl)
