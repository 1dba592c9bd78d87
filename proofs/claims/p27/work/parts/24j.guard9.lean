theorem ml_X0_110 : Cond.methodLink RX0 110 yX0_bitOf ∈ TB := TB_t3 227 rfl rfl
theorem mcode_yX0_bitOf : Cond.code yX0_bitOf cX0_bitOf 2 (some .int) ∈ TB := TB_t3 230 rfl rfl
theorem mi_yX0_bitOf : MI yX0_bitOf cX0_bitOf 2 (some .int) 1 := ⟨mz_RX0, mcode_yX0_bitOf, by decide +kernel, by decide +kernel, by decide +kernel⟩
theorem mim_yX0_bitOf : Cond.instanceMethod yX0_bitOf ∈ TB := TB_t3 229 rfl rfl
theorem msel_yX0_bitOf : Cond.selects yX0_bitOf.cls yX0_bitOf yX0_bitOf ∈ TB := TB_s (n := 9) 27 (by decide +kernel)
theorem mv_yX0_bitOf : Cond.instanceMethod yX0_bitOf ∈ TB ∧ Cond.selects yX0_bitOf.cls yX0_bitOf yX0_bitOf ∈ TB := ⟨mim_yX0_bitOf, msel_yX0_bitOf⟩
theorem ml_X0_123 : Cond.methodLink RX0 123 yX0_isBefore ∈ TB := TB_t3 239 rfl rfl
theorem mcode_yX0_isBefore : Cond.code yX0_isBefore cX0_isBefore 3 (some .boolean) ∈ TB := TB_t4 2 rfl rfl
theorem mi_yX0_isBefore : MI yX0_isBefore cX0_isBefore 3 (some .boolean) 2 := ⟨mz_RX0, mcode_yX0_isBefore, by decide +kernel, by decide +kernel, by decide +kernel⟩
theorem mim_yX0_isBefore : Cond.instanceMethod yX0_isBefore ∈ TB := TB_t4 1 rfl rfl
theorem msel_yX0_isBefore : Cond.selects yX0_isBefore.cls yX0_isBefore yX0_isBefore ∈ TB := TB_s (n := 9) 30 (by decide +kernel)
theorem mv_yX0_isBefore : Cond.instanceMethod yX0_isBefore ∈ TB ∧ Cond.selects yX0_isBefore.cls yX0_isBefore yX0_isBefore ∈ TB := ⟨mim_yX0_isBefore, msel_yX0_isBefore⟩
theorem kcX0_gather_0 : CHb cX0_gather 0 [42, 3, 181, 0, 25, 3, 62, 29, 44, 180, 0, 44, 162, 0, 131, 3, 54, 4, 21, 4, 44, 180, 0, 49, 162, 0, 113, 29, 21, 4, 184, 0, 55, 54, 5, 44, 180, 0, 92, 21, 5, 46, 54, 6, 21, 6, 153, 0, 23, 21, 6, 7, 159, 0, 17, 44, 180, 0, 52, 21, 5, 46, 154, 0] := CHb_of (by decide +kernel)
theorem dX0_gather_0 : decode cX0_gather 0 = .ok (.aload_n 0, 1) := dw_42 (kcX0_gather_0 0 42 rfl)
theorem dX0_gather_1 : decode cX0_gather 1 = .ok (.iconst 0, 1) := dw_3 (kcX0_gather_0 1 3 rfl)
theorem dX0_gather_2 : decode cX0_gather 2 = .ok (.putfield 25, 3) := dw_181 (kcX0_gather_0 2 181 rfl) (kcX0_gather_0 3 0 rfl) (kcX0_gather_0 4 25 rfl) rfl
theorem dX0_gather_5 : decode cX0_gather 5 = .ok (.iconst 0, 1) := dw_3 (kcX0_gather_0 5 3 rfl)
theorem dX0_gather_6 : decode cX0_gather 6 = .ok (.istore_n 3, 1) := dw_62 (kcX0_gather_0 6 62 rfl)
theorem dX0_gather_7 : decode cX0_gather 7 = .ok (.iload_n 3, 1) := dw_29 (kcX0_gather_0 7 29 rfl)
theorem dX0_gather_8 : decode cX0_gather 8 = .ok (.aload_n 2, 1) := dw_44 (kcX0_gather_0 8 44 rfl)
theorem dX0_gather_9 : decode cX0_gather 9 = .ok (.getfield 44, 3) := dw_180 (kcX0_gather_0 9 180 rfl) (kcX0_gather_0 10 0 rfl) (kcX0_gather_0 11 44 rfl) rfl
theorem dX0_gather_12 : decode cX0_gather 12 = .ok (.if_icmp .ge 131, 3) := dw_162 (kcX0_gather_0 12 162 rfl) (kcX0_gather_0 13 0 rfl) (kcX0_gather_0 14 131 rfl) rfl
theorem kcX0_gather_2 : CHb cX0_gather 128 [181, 0, 25, 132, 4, 1, 167, 255, 140, 132, 3, 1, 167, 255, 123, 177] := CHb_of (by decide +kernel)
theorem dX0_gather_143 : decode cX0_gather 143 = .ok (.return_, 1) := dw_177 (kcX0_gather_2 15 177 rfl)
theorem dX0_gather_15 : decode cX0_gather 15 = .ok (.iconst 0, 1) := dw_3 (kcX0_gather_0 15 3 rfl)
theorem dX0_gather_16 : decode cX0_gather 16 = .ok (.istore 4, 2) := dw_54 (kcX0_gather_0 16 54 rfl) (kcX0_gather_0 17 4 rfl)
theorem dX0_gather_18 : decode cX0_gather 18 = .ok (.iload 4, 2) := dw_21 (kcX0_gather_0 18 21 rfl) (kcX0_gather_0 19 4 rfl)
theorem dX0_gather_20 : decode cX0_gather 20 = .ok (.aload_n 2, 1) := dw_44 (kcX0_gather_0 20 44 rfl)
theorem dX0_gather_21 : decode cX0_gather 21 = .ok (.getfield 49, 3) := dw_180 (kcX0_gather_0 21 180 rfl) (kcX0_gather_0 22 0 rfl) (kcX0_gather_0 23 49 rfl) rfl
theorem dX0_gather_24 : decode cX0_gather 24 = .ok (.if_icmp .ge 113, 3) := dw_162 (kcX0_gather_0 24 162 rfl) (kcX0_gather_0 25 0 rfl) (kcX0_gather_0 26 113 rfl) rfl
theorem dX0_gather_27 : decode cX0_gather 27 = .ok (.iload_n 3, 1) := dw_29 (kcX0_gather_0 27 29 rfl)
theorem dX0_gather_28 : decode cX0_gather 28 = .ok (.iload 4, 2) := dw_21 (kcX0_gather_0 28 21 rfl) (kcX0_gather_0 29 4 rfl)
theorem dX0_gather_30 : decode cX0_gather 30 = .ok (.invokestatic 55, 3) := dw_184 (kcX0_gather_0 30 184 rfl) (kcX0_gather_0 31 0 rfl) (kcX0_gather_0 32 55 rfl) rfl
theorem dX0_gather_33 : decode cX0_gather 33 = .ok (.istore 5, 2) := dw_54 (kcX0_gather_0 33 54 rfl) (kcX0_gather_0 34 5 rfl)
theorem dX0_gather_35 : decode cX0_gather 35 = .ok (.aload_n 2, 1) := dw_44 (kcX0_gather_0 35 44 rfl)
theorem dX0_gather_36 : decode cX0_gather 36 = .ok (.getfield 92, 3) := dw_180 (kcX0_gather_0 36 180 rfl) (kcX0_gather_0 37 0 rfl) (kcX0_gather_0 38 92 rfl) rfl
theorem dX0_gather_39 : decode cX0_gather 39 = .ok (.iload 5, 2) := dw_21 (kcX0_gather_0 39 21 rfl) (kcX0_gather_0 40 5 rfl)
theorem dX0_gather_41 : decode cX0_gather 41 = .ok (.iaload, 1) := dw_46 (kcX0_gather_0 41 46 rfl)
theorem dX0_gather_42 : decode cX0_gather 42 = .ok (.istore 6, 2) := dw_54 (kcX0_gather_0 42 54 rfl) (kcX0_gather_0 43 6 rfl)
theorem dX0_gather_44 : decode cX0_gather 44 = .ok (.iload 6, 2) := dw_21 (kcX0_gather_0 44 21 rfl) (kcX0_gather_0 45 6 rfl)
theorem dX0_gather_46 : decode cX0_gather 46 = .ok (.ifCond .eq 23, 3) := dw_153 (kcX0_gather_0 46 153 rfl) (kcX0_gather_0 47 0 rfl) (kcX0_gather_0 48 23 rfl) rfl
theorem kcX0_gather_1 : CHb cX0_gather 64 [7, 4, 167, 0, 4, 3, 54, 7, 21, 7, 153, 0, 38, 42, 180, 0, 25, 16, 8, 162, 0, 29, 42, 180, 0, 15, 42, 180, 0, 25, 21, 5, 79, 42, 180, 0, 19, 42, 180, 0, 25, 43, 21, 5, 182, 0, 98, 79, 42, 89, 180, 0, 25, 21, 7, 153, 0, 7, 4, 167, 0, 4, 3, 96] := CHb_of (by decide +kernel)
theorem dX0_gather_69 : decode cX0_gather 69 = .ok (.iconst 0, 1) := dw_3 (kcX0_gather_1 5 3 rfl)
theorem dX0_gather_70 : decode cX0_gather 70 = .ok (.istore 7, 2) := dw_54 (kcX0_gather_1 6 54 rfl) (kcX0_gather_1 7 7 rfl)
theorem dX0_gather_72 : decode cX0_gather 72 = .ok (.iload 7, 2) := dw_21 (kcX0_gather_1 8 21 rfl) (kcX0_gather_1 9 7 rfl)
theorem dX0_gather_74 : decode cX0_gather 74 = .ok (.ifCond .eq 38, 3) := dw_153 (kcX0_gather_1 10 153 rfl) (kcX0_gather_1 11 0 rfl) (kcX0_gather_1 12 38 rfl) rfl
theorem dX0_gather_112 : decode cX0_gather 112 = .ok (.aload_n 0, 1) := dw_42 (kcX0_gather_1 48 42 rfl)
theorem dX0_gather_113 : decode cX0_gather 113 = .ok (.dup, 1) := dw_89 (kcX0_gather_1 49 89 rfl)
theorem dX0_gather_114 : decode cX0_gather 114 = .ok (.getfield 25, 3) := dw_180 (kcX0_gather_1 50 180 rfl) (kcX0_gather_1 51 0 rfl) (kcX0_gather_1 52 25 rfl) rfl
theorem dX0_gather_117 : decode cX0_gather 117 = .ok (.iload 7, 2) := dw_21 (kcX0_gather_1 53 21 rfl) (kcX0_gather_1 54 7 rfl)
theorem dX0_gather_119 : decode cX0_gather 119 = .ok (.ifCond .eq 7, 3) := dw_153 (kcX0_gather_1 55 153 rfl) (kcX0_gather_1 56 0 rfl) (kcX0_gather_1 57 7 rfl) rfl
theorem dX0_gather_126 : decode cX0_gather 126 = .ok (.iconst 0, 1) := dw_3 (kcX0_gather_1 62 3 rfl)
theorem dX0_gather_127 : decode cX0_gather 127 = .ok (.iadd, 1) := dw_96 (kcX0_gather_1 63 96 rfl)
theorem dX0_gather_128 : decode cX0_gather 128 = .ok (.putfield 25, 3) := dw_181 (kcX0_gather_2 0 181 rfl) (kcX0_gather_2 1 0 rfl) (kcX0_gather_2 2 25 rfl) rfl
theorem dX0_gather_131 : decode cX0_gather 131 = .ok (.iinc 4 1, 3) := dw_132 (kcX0_gather_2 3 132 rfl) (kcX0_gather_2 4 4 rfl) (kcX0_gather_2 5 1 rfl) rfl
theorem dX0_gather_134 : decode cX0_gather 134 = .ok (.goto (-116), 3) := dw_167 (kcX0_gather_2 6 167 rfl) (kcX0_gather_2 7 255 rfl) (kcX0_gather_2 8 140 rfl) rfl
theorem dX0_gather_49 : decode cX0_gather 49 = .ok (.iload 6, 2) := dw_21 (kcX0_gather_0 49 21 rfl) (kcX0_gather_0 50 6 rfl)
theorem dX0_gather_51 : decode cX0_gather 51 = .ok (.iconst 4, 1) := dw_7 (kcX0_gather_0 51 7 rfl)
theorem dX0_gather_52 : decode cX0_gather 52 = .ok (.if_icmp .eq 17, 3) := dw_159 (kcX0_gather_0 52 159 rfl) (kcX0_gather_0 53 0 rfl) (kcX0_gather_0 54 17 rfl) rfl
theorem dX0_gather_55 : decode cX0_gather 55 = .ok (.aload_n 2, 1) := dw_44 (kcX0_gather_0 55 44 rfl)
theorem dX0_gather_56 : decode cX0_gather 56 = .ok (.getfield 52, 3) := dw_180 (kcX0_gather_0 56 180 rfl) (kcX0_gather_0 57 0 rfl) (kcX0_gather_0 58 52 rfl) rfl
theorem dX0_gather_59 : decode cX0_gather 59 = .ok (.iload 5, 2) := dw_21 (kcX0_gather_0 59 21 rfl) (kcX0_gather_0 60 5 rfl)
theorem dX0_gather_61 : decode cX0_gather 61 = .ok (.iaload, 1) := dw_46 (kcX0_gather_0 61 46 rfl)
theorem dX0_gather_62 : decode cX0_gather 62 = .ok (.ifCond .ne 7, 3) := dw_154 (kcX0_gather_0 62 154 rfl) (kcX0_gather_0 63 0 rfl) (kcX0_gather_1 0 7 rfl) rfl
theorem dX0_gather_65 : decode cX0_gather 65 = .ok (.iconst 1, 1) := dw_4 (kcX0_gather_1 1 4 rfl)
theorem dX0_gather_66 : decode cX0_gather 66 = .ok (.goto 4, 3) := dw_167 (kcX0_gather_1 2 167 rfl) (kcX0_gather_1 3 0 rfl) (kcX0_gather_1 4 4 rfl) rfl
theorem dX0_gather_77 : decode cX0_gather 77 = .ok (.aload_n 0, 1) := dw_42 (kcX0_gather_1 13 42 rfl)
theorem dX0_gather_78 : decode cX0_gather 78 = .ok (.getfield 25, 3) := dw_180 (kcX0_gather_1 14 180 rfl) (kcX0_gather_1 15 0 rfl) (kcX0_gather_1 16 25 rfl) rfl
theorem dX0_gather_81 : decode cX0_gather 81 = .ok (.bipush 8, 2) := dw_16 (kcX0_gather_1 17 16 rfl) (kcX0_gather_1 18 8 rfl) rfl
theorem dX0_gather_83 : decode cX0_gather 83 = .ok (.if_icmp .ge 29, 3) := dw_162 (kcX0_gather_1 19 162 rfl) (kcX0_gather_1 20 0 rfl) (kcX0_gather_1 21 29 rfl) rfl
theorem dX0_gather_122 : decode cX0_gather 122 = .ok (.iconst 1, 1) := dw_4 (kcX0_gather_1 58 4 rfl)
theorem dX0_gather_123 : decode cX0_gather 123 = .ok (.goto 4, 3) := dw_167 (kcX0_gather_1 59 167 rfl) (kcX0_gather_1 60 0 rfl) (kcX0_gather_1 61 4 rfl) rfl
theorem dX0_gather_86 : decode cX0_gather 86 = .ok (.aload_n 0, 1) := dw_42 (kcX0_gather_1 22 42 rfl)
theorem dX0_gather_87 : decode cX0_gather 87 = .ok (.getfield 15, 3) := dw_180 (kcX0_gather_1 23 180 rfl) (kcX0_gather_1 24 0 rfl) (kcX0_gather_1 25 15 rfl) rfl
theorem dX0_gather_90 : decode cX0_gather 90 = .ok (.aload_n 0, 1) := dw_42 (kcX0_gather_1 26 42 rfl)
theorem dX0_gather_91 : decode cX0_gather 91 = .ok (.getfield 25, 3) := dw_180 (kcX0_gather_1 27 180 rfl) (kcX0_gather_1 28 0 rfl) (kcX0_gather_1 29 25 rfl) rfl
theorem dX0_gather_94 : decode cX0_gather 94 = .ok (.iload 5, 2) := dw_21 (kcX0_gather_1 30 21 rfl) (kcX0_gather_1 31 5 rfl)
theorem dX0_gather_96 : decode cX0_gather 96 = .ok (.iastore, 1) := dw_79 (kcX0_gather_1 32 79 rfl)
theorem dX0_gather_97 : decode cX0_gather 97 = .ok (.aload_n 0, 1) := dw_42 (kcX0_gather_1 33 42 rfl)
theorem dX0_gather_98 : decode cX0_gather 98 = .ok (.getfield 19, 3) := dw_180 (kcX0_gather_1 34 180 rfl) (kcX0_gather_1 35 0 rfl) (kcX0_gather_1 36 19 rfl) rfl
theorem dX0_gather_101 : decode cX0_gather 101 = .ok (.aload_n 0, 1) := dw_42 (kcX0_gather_1 37 42 rfl)
theorem dX0_gather_102 : decode cX0_gather 102 = .ok (.getfield 25, 3) := dw_180 (kcX0_gather_1 38 180 rfl) (kcX0_gather_1 39 0 rfl) (kcX0_gather_1 40 25 rfl) rfl
theorem dX0_gather_105 : decode cX0_gather 105 = .ok (.aload_n 1, 1) := dw_43 (kcX0_gather_1 41 43 rfl)
theorem dX0_gather_106 : decode cX0_gather 106 = .ok (.iload 5, 2) := dw_21 (kcX0_gather_1 42 21 rfl) (kcX0_gather_1 43 5 rfl)
theorem dX0_gather_108 : decode cX0_gather 108 = .ok (.invokevirtual 98, 3) := dw_182 (kcX0_gather_1 44 182 rfl) (kcX0_gather_1 45 0 rfl) (kcX0_gather_1 46 98 rfl) rfl
theorem dX0_gather_111 : decode cX0_gather 111 = .ok (.iastore, 1) := dw_79 (kcX0_gather_1 47 79 rfl)
theorem dX0_gather_137 : decode cX0_gather 137 = .ok (.iinc 3 1, 3) := dw_132 (kcX0_gather_2 9 132 rfl) (kcX0_gather_2 10 3 rfl) (kcX0_gather_2 11 1 rfl) rfl
theorem dX0_gather_140 : decode cX0_gather 140 = .ok (.goto (-133), 3) := dw_167 (kcX0_gather_2 12 167 rfl) (kcX0_gather_2 13 255 rfl) (kcX0_gather_2 14 123 rfl) rfl
theorem kcX0_bitOf_0 : CHb cX0_bitOf 0 [4, 42, 180, 0, 25, 4, 100, 27, 100, 120, 172] := CHb_of (by decide +kernel)
theorem dX0_bitOf_0 : decode cX0_bitOf 0 = .ok (.iconst 1, 1) := dw_4 (kcX0_bitOf_0 0 4 rfl)
theorem dX0_bitOf_1 : decode cX0_bitOf 1 = .ok (.aload_n 0, 1) := dw_42 (kcX0_bitOf_0 1 42 rfl)
theorem dX0_bitOf_2 : decode cX0_bitOf 2 = .ok (.getfield 25, 3) := dw_180 (kcX0_bitOf_0 2 180 rfl) (kcX0_bitOf_0 3 0 rfl) (kcX0_bitOf_0 4 25 rfl) rfl
theorem dX0_bitOf_5 : decode cX0_bitOf 5 = .ok (.iconst 1, 1) := dw_4 (kcX0_bitOf_0 5 4 rfl)
theorem dX0_bitOf_6 : decode cX0_bitOf 6 = .ok (.isub, 1) := dw_100 (kcX0_bitOf_0 6 100 rfl)
theorem dX0_bitOf_7 : decode cX0_bitOf 7 = .ok (.iload_n 1, 1) := dw_27 (kcX0_bitOf_0 7 27 rfl)
theorem dX0_bitOf_8 : decode cX0_bitOf 8 = .ok (.isub, 1) := dw_100 (kcX0_bitOf_0 8 100 rfl)
theorem dX0_bitOf_9 : decode cX0_bitOf 9 = .ok (.ishl, 1) := dw_120 (kcX0_bitOf_0 9 120 rfl)
theorem dX0_bitOf_10 : decode cX0_bitOf 10 = .ok (.ireturn, 1) := dw_172 (kcX0_bitOf_0 10 172 rfl)
theorem kcX0_priceSets_0 : CHb cX0_priceSets 0 [3, 61, 28, 27, 162, 0, 57, 42, 180, 0, 22, 28, 3, 79, 3, 62, 29, 42, 180, 0, 25, 162, 0, 34, 28, 42, 29, 182, 0, 110, 126, 153, 0, 18, 42, 180, 0, 22, 28, 92, 46, 42, 180, 0, 19, 29, 46, 96, 79, 132, 3, 1, 167, 255, 220, 132, 2, 1, 167, 255, 200, 177] := CHb_of (by decide +kernel)
theorem dX0_priceSets_0 : decode cX0_priceSets 0 = .ok (.iconst 0, 1) := dw_3 (kcX0_priceSets_0 0 3 rfl)
theorem dX0_priceSets_1 : decode cX0_priceSets 1 = .ok (.istore_n 2, 1) := dw_61 (kcX0_priceSets_0 1 61 rfl)
theorem dX0_priceSets_2 : decode cX0_priceSets 2 = .ok (.iload_n 2, 1) := dw_28 (kcX0_priceSets_0 2 28 rfl)
theorem dX0_priceSets_3 : decode cX0_priceSets 3 = .ok (.iload_n 1, 1) := dw_27 (kcX0_priceSets_0 3 27 rfl)
theorem dX0_priceSets_4 : decode cX0_priceSets 4 = .ok (.if_icmp .ge 57, 3) := dw_162 (kcX0_priceSets_0 4 162 rfl) (kcX0_priceSets_0 5 0 rfl) (kcX0_priceSets_0 6 57 rfl) rfl
theorem dX0_priceSets_61 : decode cX0_priceSets 61 = .ok (.return_, 1) := dw_177 (kcX0_priceSets_0 61 177 rfl)
theorem dX0_priceSets_7 : decode cX0_priceSets 7 = .ok (.aload_n 0, 1) := dw_42 (kcX0_priceSets_0 7 42 rfl)
theorem dX0_priceSets_8 : decode cX0_priceSets 8 = .ok (.getfield 22, 3) := dw_180 (kcX0_priceSets_0 8 180 rfl) (kcX0_priceSets_0 9 0 rfl) (kcX0_priceSets_0 10 22 rfl) rfl
theorem dX0_priceSets_11 : decode cX0_priceSets 11 = .ok (.iload_n 2, 1) := dw_28 (kcX0_priceSets_0 11 28 rfl)
theorem dX0_priceSets_12 : decode cX0_priceSets 12 = .ok (.iconst 0, 1) := dw_3 (kcX0_priceSets_0 12 3 rfl)
theorem dX0_priceSets_13 : decode cX0_priceSets 13 = .ok (.iastore, 1) := dw_79 (kcX0_priceSets_0 13 79 rfl)
theorem dX0_priceSets_14 : decode cX0_priceSets 14 = .ok (.iconst 0, 1) := dw_3 (kcX0_priceSets_0 14 3 rfl)
theorem dX0_priceSets_15 : decode cX0_priceSets 15 = .ok (.istore_n 3, 1) := dw_62 (kcX0_priceSets_0 15 62 rfl)
theorem dX0_priceSets_16 : decode cX0_priceSets 16 = .ok (.iload_n 3, 1) := dw_29 (kcX0_priceSets_0 16 29 rfl)
theorem dX0_priceSets_17 : decode cX0_priceSets 17 = .ok (.aload_n 0, 1) := dw_42 (kcX0_priceSets_0 17 42 rfl)
theorem dX0_priceSets_18 : decode cX0_priceSets 18 = .ok (.getfield 25, 3) := dw_180 (kcX0_priceSets_0 18 180 rfl) (kcX0_priceSets_0 19 0 rfl) (kcX0_priceSets_0 20 25 rfl) rfl
theorem dX0_priceSets_21 : decode cX0_priceSets 21 = .ok (.if_icmp .ge 34, 3) := dw_162 (kcX0_priceSets_0 21 162 rfl) (kcX0_priceSets_0 22 0 rfl) (kcX0_priceSets_0 23 34 rfl) rfl
theorem dX0_priceSets_24 : decode cX0_priceSets 24 = .ok (.iload_n 2, 1) := dw_28 (kcX0_priceSets_0 24 28 rfl)
theorem dX0_priceSets_25 : decode cX0_priceSets 25 = .ok (.aload_n 0, 1) := dw_42 (kcX0_priceSets_0 25 42 rfl)
theorem dX0_priceSets_26 : decode cX0_priceSets 26 = .ok (.iload_n 3, 1) := dw_29 (kcX0_priceSets_0 26 29 rfl)
theorem dX0_priceSets_27 : decode cX0_priceSets 27 = .ok (.invokevirtual 110, 3) := dw_182 (kcX0_priceSets_0 27 182 rfl) (kcX0_priceSets_0 28 0 rfl) (kcX0_priceSets_0 29 110 rfl) rfl
theorem dX0_priceSets_30 : decode cX0_priceSets 30 = .ok (.iand, 1) := dw_126 (kcX0_priceSets_0 30 126 rfl)
theorem dX0_priceSets_31 : decode cX0_priceSets 31 = .ok (.ifCond .eq 18, 3) := dw_153 (kcX0_priceSets_0 31 153 rfl) (kcX0_priceSets_0 32 0 rfl) (kcX0_priceSets_0 33 18 rfl) rfl
theorem dX0_priceSets_49 : decode cX0_priceSets 49 = .ok (.iinc 3 1, 3) := dw_132 (kcX0_priceSets_0 49 132 rfl) (kcX0_priceSets_0 50 3 rfl) (kcX0_priceSets_0 51 1 rfl) rfl
theorem dX0_priceSets_52 : decode cX0_priceSets 52 = .ok (.goto (-36), 3) := dw_167 (kcX0_priceSets_0 52 167 rfl) (kcX0_priceSets_0 53 255 rfl) (kcX0_priceSets_0 54 220 rfl) rfl
theorem dX0_priceSets_34 : decode cX0_priceSets 34 = .ok (.aload_n 0, 1) := dw_42 (kcX0_priceSets_0 34 42 rfl)
theorem dX0_priceSets_35 : decode cX0_priceSets 35 = .ok (.getfield 22, 3) := dw_180 (kcX0_priceSets_0 35 180 rfl) (kcX0_priceSets_0 36 0 rfl) (kcX0_priceSets_0 37 22 rfl) rfl
theorem dX0_priceSets_38 : decode cX0_priceSets 38 = .ok (.iload_n 2, 1) := dw_28 (kcX0_priceSets_0 38 28 rfl)
theorem dX0_priceSets_39 : decode cX0_priceSets 39 = .ok (.dup2, 1) := dw_92 (kcX0_priceSets_0 39 92 rfl)
theorem dX0_priceSets_40 : decode cX0_priceSets 40 = .ok (.iaload, 1) := dw_46 (kcX0_priceSets_0 40 46 rfl)
theorem dX0_priceSets_41 : decode cX0_priceSets 41 = .ok (.aload_n 0, 1) := dw_42 (kcX0_priceSets_0 41 42 rfl)
theorem dX0_priceSets_42 : decode cX0_priceSets 42 = .ok (.getfield 19, 3) := dw_180 (kcX0_priceSets_0 42 180 rfl) (kcX0_priceSets_0 43 0 rfl) (kcX0_priceSets_0 44 19 rfl) rfl
theorem dX0_priceSets_45 : decode cX0_priceSets 45 = .ok (.iload_n 3, 1) := dw_29 (kcX0_priceSets_0 45 29 rfl)
theorem dX0_priceSets_46 : decode cX0_priceSets 46 = .ok (.iaload, 1) := dw_46 (kcX0_priceSets_0 46 46 rfl)
theorem dX0_priceSets_47 : decode cX0_priceSets 47 = .ok (.iadd, 1) := dw_96 (kcX0_priceSets_0 47 96 rfl)
theorem dX0_priceSets_48 : decode cX0_priceSets 48 = .ok (.iastore, 1) := dw_79 (kcX0_priceSets_0 48 79 rfl)
theorem dX0_priceSets_55 : decode cX0_priceSets 55 = .ok (.iinc 2 1, 3) := dw_132 (kcX0_priceSets_0 55 132 rfl) (kcX0_priceSets_0 56 2 rfl) (kcX0_priceSets_0 57 1 rfl) rfl
theorem dX0_priceSets_58 : decode cX0_priceSets 58 = .ok (.goto (-56), 3) := dw_167 (kcX0_priceSets_0 58 167 rfl) (kcX0_priceSets_0 59 255 rfl) (kcX0_priceSets_0 60 200 rfl) rfl
theorem kcX0_isBefore_0 : CHb cX0_isBefore 0 [27, 2, 159, 0, 18, 42, 180, 0, 22, 27, 46, 42, 180, 0, 22, 28, 46, 159, 0, 29, 27, 2, 159, 0, 18, 42, 180, 0, 22, 27, 46, 42, 180, 0, 22, 28, 46, 162, 0, 7, 4, 167, 0, 4, 3, 172, 27, 28, 164, 0, 7, 4, 167, 0, 4, 3, 172] := CHb_of (by decide +kernel)
theorem dX0_isBefore_0 : decode cX0_isBefore 0 = .ok (.iload_n 1, 1) := dw_27 (kcX0_isBefore_0 0 27 rfl)
theorem dX0_isBefore_1 : decode cX0_isBefore 1 = .ok (.iconst (-1), 1) := dw_2 (kcX0_isBefore_0 1 2 rfl)
theorem dX0_isBefore_2 : decode cX0_isBefore 2 = .ok (.if_icmp .eq 18, 3) := dw_159 (kcX0_isBefore_0 2 159 rfl) (kcX0_isBefore_0 3 0 rfl) (kcX0_isBefore_0 4 18 rfl) rfl
theorem dX0_isBefore_20 : decode cX0_isBefore 20 = .ok (.iload_n 1, 1) := dw_27 (kcX0_isBefore_0 20 27 rfl)
theorem dX0_isBefore_21 : decode cX0_isBefore 21 = .ok (.iconst (-1), 1) := dw_2 (kcX0_isBefore_0 21 2 rfl)
theorem dX0_isBefore_22 : decode cX0_isBefore 22 = .ok (.if_icmp .eq 18, 3) := dw_159 (kcX0_isBefore_0 22 159 rfl) (kcX0_isBefore_0 23 0 rfl) (kcX0_isBefore_0 24 18 rfl) rfl
theorem dX0_isBefore_40 : decode cX0_isBefore 40 = .ok (.iconst 1, 1) := dw_4 (kcX0_isBefore_0 40 4 rfl)
theorem dX0_isBefore_41 : decode cX0_isBefore 41 = .ok (.goto 4, 3) := dw_167 (kcX0_isBefore_0 41 167 rfl) (kcX0_isBefore_0 42 0 rfl) (kcX0_isBefore_0 43 4 rfl) rfl
theorem dX0_isBefore_45 : decode cX0_isBefore 45 = .ok (.ireturn, 1) := dw_172 (kcX0_isBefore_0 45 172 rfl)
theorem dX0_isBefore_5 : decode cX0_isBefore 5 = .ok (.aload_n 0, 1) := dw_42 (kcX0_isBefore_0 5 42 rfl)
theorem dX0_isBefore_6 : decode cX0_isBefore 6 = .ok (.getfield 22, 3) := dw_180 (kcX0_isBefore_0 6 180 rfl) (kcX0_isBefore_0 7 0 rfl) (kcX0_isBefore_0 8 22 rfl) rfl
theorem dX0_isBefore_9 : decode cX0_isBefore 9 = .ok (.iload_n 1, 1) := dw_27 (kcX0_isBefore_0 9 27 rfl)
theorem dX0_isBefore_10 : decode cX0_isBefore 10 = .ok (.iaload, 1) := dw_46 (kcX0_isBefore_0 10 46 rfl)
theorem dX0_isBefore_11 : decode cX0_isBefore 11 = .ok (.aload_n 0, 1) := dw_42 (kcX0_isBefore_0 11 42 rfl)
theorem dX0_isBefore_12 : decode cX0_isBefore 12 = .ok (.getfield 22, 3) := dw_180 (kcX0_isBefore_0 12 180 rfl) (kcX0_isBefore_0 13 0 rfl) (kcX0_isBefore_0 14 22 rfl) rfl
theorem dX0_isBefore_15 : decode cX0_isBefore 15 = .ok (.iload_n 2, 1) := dw_28 (kcX0_isBefore_0 15 28 rfl)
theorem dX0_isBefore_16 : decode cX0_isBefore 16 = .ok (.iaload, 1) := dw_46 (kcX0_isBefore_0 16 46 rfl)
theorem dX0_isBefore_17 : decode cX0_isBefore 17 = .ok (.if_icmp .eq 29, 3) := dw_159 (kcX0_isBefore_0 17 159 rfl) (kcX0_isBefore_0 18 0 rfl) (kcX0_isBefore_0 19 29 rfl) rfl
theorem dX0_isBefore_46 : decode cX0_isBefore 46 = .ok (.iload_n 1, 1) := dw_27 (kcX0_isBefore_0 46 27 rfl)
theorem dX0_isBefore_47 : decode cX0_isBefore 47 = .ok (.iload_n 2, 1) := dw_28 (kcX0_isBefore_0 47 28 rfl)
theorem dX0_isBefore_48 : decode cX0_isBefore 48 = .ok (.if_icmp .le 7, 3) := dw_164 (kcX0_isBefore_0 48 164 rfl) (kcX0_isBefore_0 49 0 rfl) (kcX0_isBefore_0 50 7 rfl) rfl
theorem dX0_isBefore_55 : decode cX0_isBefore 55 = .ok (.iconst 0, 1) := dw_3 (kcX0_isBefore_0 55 3 rfl)
theorem dX0_isBefore_56 : decode cX0_isBefore 56 = .ok (.ireturn, 1) := dw_172 (kcX0_isBefore_0 56 172 rfl)
theorem dX0_isBefore_51 : decode cX0_isBefore 51 = .ok (.iconst 1, 1) := dw_4 (kcX0_isBefore_0 51 4 rfl)
theorem dX0_isBefore_52 : decode cX0_isBefore 52 = .ok (.goto 4, 3) := dw_167 (kcX0_isBefore_0 52 167 rfl) (kcX0_isBefore_0 53 0 rfl) (kcX0_isBefore_0 54 4 rfl) rfl
theorem dX0_isBefore_25 : decode cX0_isBefore 25 = .ok (.aload_n 0, 1) := dw_42 (kcX0_isBefore_0 25 42 rfl)
theorem dX0_isBefore_26 : decode cX0_isBefore 26 = .ok (.getfield 22, 3) := dw_180 (kcX0_isBefore_0 26 180 rfl) (kcX0_isBefore_0 27 0 rfl) (kcX0_isBefore_0 28 22 rfl) rfl
theorem dX0_isBefore_29 : decode cX0_isBefore 29 = .ok (.iload_n 1, 1) := dw_27 (kcX0_isBefore_0 29 27 rfl)
theorem dX0_isBefore_30 : decode cX0_isBefore 30 = .ok (.iaload, 1) := dw_46 (kcX0_isBefore_0 30 46 rfl)
theorem dX0_isBefore_31 : decode cX0_isBefore 31 = .ok (.aload_n 0, 1) := dw_42 (kcX0_isBefore_0 31 42 rfl)
theorem dX0_isBefore_32 : decode cX0_isBefore 32 = .ok (.getfield 22, 3) := dw_180 (kcX0_isBefore_0 32 180 rfl) (kcX0_isBefore_0 33 0 rfl) (kcX0_isBefore_0 34 22 rfl) rfl
theorem dX0_isBefore_35 : decode cX0_isBefore 35 = .ok (.iload_n 2, 1) := dw_28 (kcX0_isBefore_0 35 28 rfl)
theorem dX0_isBefore_36 : decode cX0_isBefore 36 = .ok (.iaload, 1) := dw_46 (kcX0_isBefore_0 36 46 rfl)
theorem dX0_isBefore_37 : decode cX0_isBefore 37 = .ok (.if_icmp .ge 7, 3) := dw_162 (kcX0_isBefore_0 37 162 rfl) (kcX0_isBefore_0 38 0 rfl) (kcX0_isBefore_0 39 7 rfl) rfl
theorem dX0_isBefore_44 : decode cX0_isBefore 44 = .ok (.iconst 0, 1) := dw_3 (kcX0_isBefore_0 44 3 rfl)
theorem kcX0_nextSet_0 : CHb cX0_nextSet 0 [2, 62, 27, 4, 100, 54, 4, 21, 4, 155, 0, 43, 42, 28, 21, 4, 182, 0, 123, 153, 0, 27, 29, 2, 159, 0, 19, 42, 180, 0, 22, 21, 4, 46, 42, 180, 0, 22, 29, 46, 162, 0, 6, 21, 4, 62, 132, 4, 255, 167, 255, 214, 29, 172] := CHb_of (by decide +kernel)
theorem dX0_nextSet_0 : decode cX0_nextSet 0 = .ok (.iconst (-1), 1) := dw_2 (kcX0_nextSet_0 0 2 rfl)
theorem dX0_nextSet_1 : decode cX0_nextSet 1 = .ok (.istore_n 3, 1) := dw_62 (kcX0_nextSet_0 1 62 rfl)
theorem dX0_nextSet_2 : decode cX0_nextSet 2 = .ok (.iload_n 1, 1) := dw_27 (kcX0_nextSet_0 2 27 rfl)
theorem dX0_nextSet_3 : decode cX0_nextSet 3 = .ok (.iconst 1, 1) := dw_4 (kcX0_nextSet_0 3 4 rfl)
theorem dX0_nextSet_4 : decode cX0_nextSet 4 = .ok (.isub, 1) := dw_100 (kcX0_nextSet_0 4 100 rfl)
theorem dX0_nextSet_5 : decode cX0_nextSet 5 = .ok (.istore 4, 2) := dw_54 (kcX0_nextSet_0 5 54 rfl) (kcX0_nextSet_0 6 4 rfl)
theorem dX0_nextSet_7 : decode cX0_nextSet 7 = .ok (.iload 4, 2) := dw_21 (kcX0_nextSet_0 7 21 rfl) (kcX0_nextSet_0 8 4 rfl)
theorem dX0_nextSet_9 : decode cX0_nextSet 9 = .ok (.ifCond .lt 43, 3) := dw_155 (kcX0_nextSet_0 9 155 rfl) (kcX0_nextSet_0 10 0 rfl) (kcX0_nextSet_0 11 43 rfl) rfl
theorem dX0_nextSet_52 : decode cX0_nextSet 52 = .ok (.iload_n 3, 1) := dw_29 (kcX0_nextSet_0 52 29 rfl)
theorem dX0_nextSet_53 : decode cX0_nextSet 53 = .ok (.ireturn, 1) := dw_172 (kcX0_nextSet_0 53 172 rfl)
theorem dX0_nextSet_12 : decode cX0_nextSet 12 = .ok (.aload_n 0, 1) := dw_42 (kcX0_nextSet_0 12 42 rfl)
theorem dX0_nextSet_13 : decode cX0_nextSet 13 = .ok (.iload_n 2, 1) := dw_28 (kcX0_nextSet_0 13 28 rfl)
theorem dX0_nextSet_14 : decode cX0_nextSet 14 = .ok (.iload 4, 2) := dw_21 (kcX0_nextSet_0 14 21 rfl) (kcX0_nextSet_0 15 4 rfl)
theorem dX0_nextSet_16 : decode cX0_nextSet 16 = .ok (.invokevirtual 123, 3) := dw_182 (kcX0_nextSet_0 16 182 rfl) (kcX0_nextSet_0 17 0 rfl) (kcX0_nextSet_0 18 123 rfl) rfl
theorem dX0_nextSet_19 : decode cX0_nextSet 19 = .ok (.ifCond .eq 27, 3) := dw_153 (kcX0_nextSet_0 19 153 rfl) (kcX0_nextSet_0 20 0 rfl) (kcX0_nextSet_0 21 27 rfl) rfl
theorem dX0_nextSet_46 : decode cX0_nextSet 46 = .ok (.iinc 4 (-1), 3) := dw_132 (kcX0_nextSet_0 46 132 rfl) (kcX0_nextSet_0 47 4 rfl) (kcX0_nextSet_0 48 255 rfl) rfl
theorem dX0_nextSet_49 : decode cX0_nextSet 49 = .ok (.goto (-42), 3) := dw_167 (kcX0_nextSet_0 49 167 rfl) (kcX0_nextSet_0 50 255 rfl) (kcX0_nextSet_0 51 214 rfl) rfl
theorem dX0_nextSet_22 : decode cX0_nextSet 22 = .ok (.iload_n 3, 1) := dw_29 (kcX0_nextSet_0 22 29 rfl)
theorem dX0_nextSet_23 : decode cX0_nextSet 23 = .ok (.iconst (-1), 1) := dw_2 (kcX0_nextSet_0 23 2 rfl)
theorem dX0_nextSet_24 : decode cX0_nextSet 24 = .ok (.if_icmp .eq 19, 3) := dw_159 (kcX0_nextSet_0 24 159 rfl) (kcX0_nextSet_0 25 0 rfl) (kcX0_nextSet_0 26 19 rfl) rfl
theorem dX0_nextSet_43 : decode cX0_nextSet 43 = .ok (.iload 4, 2) := dw_21 (kcX0_nextSet_0 43 21 rfl) (kcX0_nextSet_0 44 4 rfl)
theorem dX0_nextSet_45 : decode cX0_nextSet 45 = .ok (.istore_n 3, 1) := dw_62 (kcX0_nextSet_0 45 62 rfl)
theorem dX0_nextSet_27 : decode cX0_nextSet 27 = .ok (.aload_n 0, 1) := dw_42 (kcX0_nextSet_0 27 42 rfl)
theorem dX0_nextSet_28 : decode cX0_nextSet 28 = .ok (.getfield 22, 3) := dw_180 (kcX0_nextSet_0 28 180 rfl) (kcX0_nextSet_0 29 0 rfl) (kcX0_nextSet_0 30 22 rfl) rfl
theorem dX0_nextSet_31 : decode cX0_nextSet 31 = .ok (.iload 4, 2) := dw_21 (kcX0_nextSet_0 31 21 rfl) (kcX0_nextSet_0 32 4 rfl)
theorem dX0_nextSet_33 : decode cX0_nextSet 33 = .ok (.iaload, 1) := dw_46 (kcX0_nextSet_0 33 46 rfl)
theorem dX0_nextSet_34 : decode cX0_nextSet 34 = .ok (.aload_n 0, 1) := dw_42 (kcX0_nextSet_0 34 42 rfl)
theorem dX0_nextSet_35 : decode cX0_nextSet 35 = .ok (.getfield 22, 3) := dw_180 (kcX0_nextSet_0 35 180 rfl) (kcX0_nextSet_0 36 0 rfl) (kcX0_nextSet_0 37 22 rfl) rfl
theorem dX0_nextSet_38 : decode cX0_nextSet 38 = .ok (.iload_n 3, 1) := dw_29 (kcX0_nextSet_0 38 29 rfl)
theorem dX0_nextSet_39 : decode cX0_nextSet 39 = .ok (.iaload, 1) := dw_46 (kcX0_nextSet_0 39 46 rfl)
theorem dX0_nextSet_40 : decode cX0_nextSet 40 = .ok (.if_icmp .ge 6, 3) := dw_162 (kcX0_nextSet_0 40 162 rfl) (kcX0_nextSet_0 41 0 rfl) (kcX0_nextSet_0 42 6 rfl) rfl
def mayA (r8 r10 : Nat → Int32) (rw cl x y : Nat) : Prop := x < rw ∧ y < cl ∧ ¬ r8 (x * 12 + y) = 0 ∧ ¬ r8 (x * 12 + y) = 4 ∧ r10 (x * 12 + y) = 0
def secA (r10 : Nat → Int32) (x y : Nat) : Prop := ¬ r10 (x * 12 + y) = 0
/-- the choices, by their rank -/
def GCH (M : Nat → Nat → Prop) (n : Nat) (c1 c2 : Nat → Int32) (P : Nat → Nat → Int32) : Prop := ∀ x y, M x y → 12 * x + y < n → rkG M (12 * x + y) < 8 → c1 (rkG M (12 * x + y)) = nI (x * 12 + y) ∧ c2 (rkG M (12 * x + y)) = P x y
section GC
variable {M : Nat → Nat → Prop} {n i j : Nat} {c1 c2 : Nat → Int32} {P : Nat → Nat → Int32}
theorem GCH_t (hM : ∀ x y, M x y → y < 12) (h : GCH M (12 * i + j) c1 c2 P) (hm : M i j) {v : Int32} (hv : v = P i j) : GCH M (12 * i + (j + 1)) (upd c1 (rkG M (12 * i + j)) (nI (i * 12 + j))) (upd c2 (rkG M (12 * i + j)) v) P := fun x y hxy hn hr => by
  have hy := hM x y hxy
  have hj := hM i j hm
  by_cases e : x = i ∧ y = j
  · rw [e.1, e.2, pk_us, pk_us]; exact ⟨rfl, hv⟩
  · have l := rk_lt hy hxy (show 12 * x + y < 12 * i + j by omega)
    rw [pk_un (by omega), pk_un (by omega)]
    exact h x y hxy (by omega) hr
theorem GCH_f (hM : ∀ x y, M x y → y < 12) (hj : j < 12) (h : GCH M (12 * i + j) c1 c2 P) (hm : M i j → 8 ≤ rkG M (12 * i + j)) : GCH M (12 * i + (j + 1)) c1 c2 P := fun x y hxy hn hr => by
  have hy := hM x y hxy
  by_cases e : x = i ∧ y = j
  · rw [e.1, e.2] at hxy hr; have := hm hxy; omega
  · exact h x y hxy (by omega) hr
theorem GCH_r {cl : Nat} (hM : ∀ x y, M x y → y < cl) (hcl : cl ≤ 12) (h : GCH M (12 * i + cl) c1 c2 P) : GCH M (12 * (i + 1)) c1 c2 P := fun x y hxy hn hr => by
  have hy := hM x y hxy
  exact h x y hxy (by omega) hr
end GC
def AFT (cp : Nat → Nat) (m : Nat) (one : Int32) (s : Nat) : Prop := one = -1 ∨ ∃ o, o < 256 ∧ one = nI o ∧ BEF cp m o s
theorem bt_y {s v : Nat} (hv : v < 32) {x b : Int32} (e : x = nI s &&& b) (eb : b = (1 : Int32) <<< (nI v &&& 31)) (h : ¬ x = 0) : bt (nI s) v = true := andbit_of hv (by rw [← eb, ← e]; exact h)
theorem bt_n {s v : Nat} (hv : v < 32) {x b : Int32} (e : x = nI s &&& b) (eb : b = (1 : Int32) <<< (nI v &&& 31)) (h : x = 0) : bt (nI s) v = false := an_0 (m := b) (by rw [← e]; exact h) (by rw [eb, b_sh1 (by omega) (by omega)]; exact decide_eq_true rfl)
theorem m1_0 {n : Nat} {z : Int32} (hn : n ≤ 256) (e : z = nI n - 1) (h : z < 0) : n = 0 := by
  rcases Nat.eq_zero_or_pos n with c | c
  · exact c
  · have e2 : z = nI (n - 1) := e.trans (pk_sub (b := 1) (by omega))
    rw [e2] at h; exact absurd h (nI_pos (by omega))
theorem m1_p {n : Nat} {z : Int32} (e : z = nI n - 1) (h : ¬ z < 0) : ∃ p, n = p + 1 ∧ z = nI p := by
  cases n with
  | zero => rw [e] at h; exact absurd (by decide) h
  | succ p => exact ⟨p, rfl, e.trans (pk_sub (b := 1) (by omega))⟩
theorem m1_d {v : Int32} {p : Nat} (e : v = nI p + Int32.ofInt (-1)) : v = nI p - 1 := by rw [e, Int32.sub_eq_add_neg]; rfl
theorem sh_2 : ∀ m, m < 9 → (1 : Int32) <<< (nI m &&& 31) = nI (2 ^ m) := by decide +kernel
theorem p2_le : ∀ m, m < 9 → 2 ^ m ≤ 256 ∧ 1 ≤ 2 ^ m := by decide +kernel
set_option maxHeartbeats 4000000 in
set_option maxRecDepth 100000 in
theorem x_X0_gather (l : Launch) (G : GG) (x : Nat) (xa ta a b ga ua la lb lc : Nat → Nat) (tg gg : Nat → Option Nat) (xf tf f qf gf uf lf mf nf : Nat → Int32) (tr r q gr ur lr mr nr : Nat → Nat → Int32) (rw : Nat) (cl : Nat) (hrw : rw ≤ 12) (hcl : cl ≤ 12) (h0 : (f 0) = nI rw) (h1 : (f 1) = nI cl) : WrV l yX0_gather cX0_gather 8 ({ frames := 1, cells := 0, slots := 0, locals := 21 }) G (xM G x xa ta a b ga ua la lb lc tg gg xf tf f qf gf uf lf mf nf tr r q gr ur lr mr nr) [.ref (ga 9), .ref (ta 0), .ref (a 15)] (fun w => ∃ (n_gf_4 : Int32) (n_gr_1 : Nat → Int32) (n_gr_2 : Nat → Int32), w = xM G x xa ta a b ga ua la lb lc tg gg xf tf f qf (upd gf 4 n_gf_4) uf lf mf nf tr r q (up2 (up2 gr 1 n_gr_1) 2 n_gr_2) ur lr mr nr ∧ (n_gf_4 = nI (rkG (mayA (r 8) (r 10) rw cl) (12 * rw))) ∧ (GCH (mayA (r 8) (r 10) rw cl) (12 * rw) n_gr_1 n_gr_2 (fun x y => coR ((tr 9) 5) ((tr 6) (x * 12 + y))))) := by
  refine wr_entryV (by decide +kernel) (Nat.le_of_ble_eq_true rfl) ?_
  intro p e s m below meth c A C0 hP hK hD hA ls hl
  have hS : va_S A s.heap s.heap [] := va_S.rf
  obtain ⟨hx, hb, hml, hown, hts, hr, hlocks, hin⟩ := C0
  have hown : s.vm.findClass RX0 = some m.cls := hown
  have hDD : ∀ xf' tf' f' qf' gf' uf' lf' mf' nf' tr' r' q' gr' ur' lr' mr' nr', va_D A (xM G x xa ta a b ga ua la lb lc tg gg xf' tf' f' qf' gf' uf' lf' mf' nf' tr' r' q' gr' ur' lr' mr' nr') := fun xf' tf' f' qf' gf' uf' lf' mf' nf' tr' r' q' gr' ur' lr' mr' nr' => D_same hD rfl
  have hl : lv_has ls 8 [(0, .ref (ga 9)), (1, .ref (ta 0)), (2, .ref (a 15))] := hl
  have hMy : ∀ x y, (mayA (r 8) (r 10) rw cl) x y → y < cl := fun x y h9 => h9.2.1
  have hM12 : ∀ x y, (mayA (r 8) (r 10) rw cl) x y → y < 12 := fun x y h9 => by have := h9.2.1; omega
  refine lv_aload_n hx hb dX0_gather_0 rfl (lv_at hl 0 rfl) ?_
  refine lv_iconst (v := 0) hx hb dX0_gather_1 (by decide) ?_
  refine va_put (D := G.1) (ci := 0) (v := .int 0) (C := RX0) (T := TX0) (N := 9) hx hb hts inX0 tyX0 tyX0_ok nmX0 hown hK.1 hP (hDD _ _ _ _ _ _ _ _ _ _ _ _ _ _ _ _ _) hS 25 rfl rfl 4 (by decide) (hts _ mf_X0_25) (fun _ h9 => h9) rfl (tyX0_ok 4 (by decide)) (rfl) (rfl) (Nat.le_of_ble_eq_true rfl) dX0_gather_2 (fun H locs hP _ hS => ?_)
  have hP : PP G (xM G x xa ta a b ga ua la lb lc tg gg xf tf f qf (upd gf 4 0) uf lf mf nf tr r q gr ur lr mr nr) H := hP
  refine lv_iconst (v := 0) hx hb dX0_gather_5 (by decide) ?_
  refine lv_istore_n (lv' := [(3, .int 0), (0, .ref (ga 9)), (1, .ref (ta 0)), (2, .ref (a 15))]) hx hb dX0_gather_6 rfl hl (by decide) rfl (fun ls hl => ?_)
  have loop7 : ∀ (k1 i : Nat) (x2 : Int32) (x3 : Nat → Int32) (x4 : Nat → Int32), i ≤ rw → rw < i + k1 → (x2 = nI (rkG (mayA (r 8) (r 10) rw cl) (12 * i))) → (GCH (mayA (r 8) (r 10) rw cl) (12 * i) x3 x4 (fun x y => coR ((tr 9) 5) ((tr 6) (x * 12 + y)))) → ∀ (H : Heap) (locs : List Loc) (ls : Array Slot), PP G (xM G x xa ta a b ga ua la lb lc tg gg xf tf f qf (upd gf 4 x2) uf lf mf nf tr r q (up2 (up2 gr 1 x3) 2 x4) ur lr mr nr) H → va_S A s.heap H locs → lv_has ls 8 [(3, .int (nI i)), (0, .ref (ga 9)), (1, .ref (ta 0)), (2, .ref (a 15))] → W p l e ({ frames := 1, cells := 0, slots := 0, locals := 21 }) s m ([.ref (ga 9), .ref (ta 0), .ref (a 15)] : List Value).toArray below meth c H locs 0 0 (MQ below (QwV G (fun w => ∃ (n_gf_4 : Int32) (n_gr_1 : Nat → Int32) (n_gr_2 : Nat → Int32), w = xM G x xa ta a b ga ua la lb lc tg gg xf tf f qf (upd gf 4 n_gf_4) uf lf mf nf tr r q (up2 (up2 gr 1 n_gr_1) 2 n_gr_2) ur lr mr nr ∧ (n_gf_4 = nI (rkG (mayA (r 8) (r 10) rw cl) (12 * rw))) ∧ (GCH (mayA (r 8) (r 10) rw cl) (12 * rw) n_gr_1 n_gr_2 (fun x y => coR ((tr 9) 5) ((tr 6) (x * 12 + y))))) A) ([.ref (ga 9), .ref (ta 0), .ref (a 15)] : List Value).toArray s 0 0 A) (F0 m 7 ls []) := by
    intro k1
    induction k1 with
    | zero => intro i x2 x3 x4 h1 h2; exact absurd h1 (by omega)
    | succ k1 ih7k1 =>
      intro i x2 x3 x4 hi_i hk_i hc hg H locs ls hP hS hl
      refine lv_iload_n hx hb dX0_gather_7 rfl (lv_at hl 0 rfl) ?_
      refine lv_aload_n hx hb dX0_gather_8 rfl (lv_at hl 3 rfl) ?_
      refine va_get (D := G.1) (ci := 2) (v := .int (f 0)) (C := RX2) (T := TX2) (N := 15) hx hb hts inX2 hown hK.1 hP 11 rfl rfl 0 (by decide) (hts _ mf_X0_44) (fun _ h9 => h9) rfl dX0_gather_9 ?_
      rw [show (f 0) = nI (rw) from h0]
      refine lv_icmp_ge (tgt := 143) hx hb dX0_gather_12 (by decide) (fun c5 => ?_) (fun c5 => ?_)
      · have b12 := qge_t (a := i) (b := (rw)) (by omega) (by omega) c5
        exact wr_vret hx hb hr hlocks hS hP ⟨x2, x3, x4, rfl, (by rw [show rw = i by omega] at hc ⊢; exact hc), (by rw [show 12 * rw = 12 * i by omega]; exact hg)⟩ dX0_gather_143
      · have b12 := qge_f (a := i) (b := (rw)) (by omega) (by omega) c5
        refine lv_iconst (v := 0) hx hb dX0_gather_15 (by decide) ?_
        refine lv_istore (lv' := [(4, .int 0), (3, .int (nI i)), (0, .ref (ga 9)), (1, .ref (ta 0)), (2, .ref (a 15))]) hx hb dX0_gather_16 hl (by decide) rfl (fun ls hl => ?_)
        have loop18 : ∀ (k6 j : Nat) (x7 : Int32) (x8 : Nat → Int32) (x9 : Nat → Int32), j ≤ cl → cl < j + k6 → (x7 = nI (rkG (mayA (r 8) (r 10) rw cl) (12 * i + j))) → (GCH (mayA (r 8) (r 10) rw cl) (12 * i + j) x8 x9 (fun x y => coR ((tr 9) 5) ((tr 6) (x * 12 + y)))) → ∀ (H : Heap) (locs : List Loc) (ls : Array Slot), PP G (xM G x xa ta a b ga ua la lb lc tg gg xf tf f qf (upd gf 4 x7) uf lf mf nf tr r q (up2 (up2 gr 1 x8) 2 x9) ur lr mr nr) H → va_S A s.heap H locs → lv_has ls 8 [(4, .int (nI j)), (3, .int (nI i)), (0, .ref (ga 9)), (1, .ref (ta 0)), (2, .ref (a 15))] → W p l e ({ frames := 1, cells := 0, slots := 0, locals := 21 }) s m ([.ref (ga 9), .ref (ta 0), .ref (a 15)] : List Value).toArray below meth c H locs 0 0 (MQ below (QwV G (fun w => ∃ (n_gf_4 : Int32) (n_gr_1 : Nat → Int32) (n_gr_2 : Nat → Int32), w = xM G x xa ta a b ga ua la lb lc tg gg xf tf f qf (upd gf 4 n_gf_4) uf lf mf nf tr r q (up2 (up2 gr 1 n_gr_1) 2 n_gr_2) ur lr mr nr ∧ (n_gf_4 = nI (rkG (mayA (r 8) (r 10) rw cl) (12 * rw))) ∧ (GCH (mayA (r 8) (r 10) rw cl) (12 * rw) n_gr_1 n_gr_2 (fun x y => coR ((tr 9) 5) ((tr 6) (x * 12 + y))))) A) ([.ref (ga 9), .ref (ta 0), .ref (a 15)] : List Value).toArray s 0 0 A) (F0 m 18 ls []) := by
          intro k6
          induction k6 with
          | zero => intro j x7 x8 x9 h1 h2; exact absurd h1 (by omega)
          | succ k6 ih18k6 =>
            intro j x7 x8 x9 hi_j hk_j hc hg H locs ls hP hS hl
            have hrk := rk_b (M := (mayA (r 8) (r 10) rw cl)) (12 * i + j)
            refine lv_iload hx hb dX0_gather_18 (lv_at hl 0 rfl) ?_
            refine lv_aload_n hx hb dX0_gather_20 rfl (lv_at hl 4 rfl) ?_
            refine va_get (D := G.1) (ci := 2) (v := .int (f 1)) (C := RX2) (T := TX2) (N := 15) hx hb hts inX2 hown hK.1 hP 11 rfl rfl 1 (by decide) (hts _ mf_X0_49) (fun _ h9 => h9) rfl dX0_gather_21 ?_
            rw [show (f 1) = nI (cl) from h1]
            refine lv_icmp_ge (tgt := 137) hx hb dX0_gather_24 (by decide) (fun c10 => ?_) (fun c10 => ?_)
            · have b24 := qge_t (a := j) (b := (cl)) (by omega) (by omega) c10
              obtain ⟨v11, ev11⟩ : ∃ y9 : Int32, y9 = (nI i) + Int32.ofInt (1) := ⟨_, rfl⟩
              refine lv_iinc (v := v11) (lv' := [(3, .int v11), (4, .int (nI j)), (0, .ref (ga 9)), (1, .ref (ta 0)), (2, .ref (a 15))]) hx hb dX0_gather_137 hl (k := 1) rfl ev11.symm (by decide) rfl (fun ls hl => ?_)
              obtain rfl : v11 = nI (i + 1) := nI_plus (i := i) (j := 1) ev11 rfl (by decide)
              refine lv_goto (tgt := 7) hx hb dX0_gather_140 (by decide) ?_
              exact ih7k1 (i + 1) x7 x8 x9 (by omega) (by omega) (by rw [rk_end hcl (fun y h8 h9 => absurd (hMy _ _ h9) (by omega)), show 12 * i + cl = 12 * i + j by omega]; exact hc) (GCH_r hMy hcl (by rw [show 12 * i + cl = 12 * i + j by omega]; exact hg)) _ _ _ hP hS (lv_sub hl [0, 2, 3, 4] rfl)
            · have b24 := qge_f (a := j) (b := (cl)) (by omega) (by omega) c10
              refine lv_iload_n hx hb dX0_gather_27 rfl (lv_at hl 1 rfl) ?_
              refine lv_iload hx hb dX0_gather_28 (lv_at hl 0 rfl) ?_
              refine rdSN (rest := []) ⟨hx, hb, hml, hown, hts⟩ (c_X6_spotOf l G ((nI i)) ((nI j))) mi_yX6_spotOf mst_yX6_spotOf (by decide +kernel) ⟨rfl, rfl, Nat.le_of_ble_eq_true rfl, Nat.le_of_ble_eq_true rfl⟩ hK (fun k q h => by simp at h) rfl hl.1 rfl (Nat.le_of_ble_eq_true rfl) dX0_gather_30 ⟨Nat.zero_le _, Nat.zero_le _⟩ hS hA hP (fun r12 H locs hr12 hP hS => ?_)
              obtain rfl : r12 = nI (i * 12 + j) := spot_eq hr12
              refine lv_istore (lv' := [(5, .int (nI (i * 12 + j))), (4, .int (nI j)), (3, .int (nI i)), (0, .ref (ga 9)), (1, .ref (ta 0)), (2, .ref (a 15))]) hx hb dX0_gather_33 hl (by decide) rfl (fun ls hl => ?_)
              refine lv_aload_n hx hb dX0_gather_35 rfl (lv_at hl 5 rfl) ?_
              refine va_get (D := G.1) (ci := 2) (v := .ref (a 8)) (C := RX2) (T := TX2) (N := 15) hx hb hts inX2 hown hK.1 hP 11 rfl rfl 8 (by decide) (hts _ mf_X0_92) (fun _ h9 => h9) rfl dX0_gather_36 ?_
              refine lv_iload hx hb dX0_gather_39 (lv_at hl 0 rfl) ?_
              refine xiald (f := (r 8)) hx hb hK hP 14 ((i * 12 + j)) (rfl) (by omega) (by decide) rfl dX0_gather_41 ?_
              refine lv_topi (fun v13 ev13 => ?_)
              obtain rfl : v13 = (r 8 (i * 12 + j)) := ev13.trans (rfl)
              refine lv_istore (lv' := [(6, .int (r 8 (i * 12 + j))), (5, .int (nI (i * 12 + j))), (4, .int (nI j)), (3, .int (nI i)), (0, .ref (ga 9)), (1, .ref (ta 0)), (2, .ref (a 15))]) hx hb dX0_gather_42 hl (by decide) rfl (fun ls hl => ?_)
              refine lv_iload hx hb dX0_gather_44 (lv_at hl 0 rfl) ?_
              refine lv_if_eq (tgt := 69) hx hb dX0_gather_46 (by decide) (fun c14 => ?_) (fun c14 => ?_)
              · refine lv_iconst (v := 0) hx hb dX0_gather_69 (by decide) ?_
                refine lv_istore (lv' := [(7, .int 0), (6, .int (r 8 (i * 12 + j))), (5, .int (nI (i * 12 + j))), (4, .int (nI j)), (3, .int (nI i)), (0, .ref (ga 9)), (1, .ref (ta 0)), (2, .ref (a 15))]) hx hb dX0_gather_70 hl (by decide) rfl (fun ls hl => ?_)
                refine lv_iload hx hb dX0_gather_72 (lv_at hl 0 rfl) ?_
                refine lv_if_eq (tgt := 112) hx hb dX0_gather_74 (by decide) (fun c15 => ?_) (fun c15 => absurd (by decide) c15)
                refine lv_aload_n hx hb dX0_gather_112 rfl (lv_at hl 5 rfl) ?_
                refine lv_dup hx hb dX0_gather_113 rfl ?_
                refine va_get (D := G.1) (ci := 0) (v := .int x7) (C := RX0) (T := TX0) (N := 9) hx hb hts inX0 hown hK.1 hP 25 rfl rfl 4 (by decide) (hts _ mf_X0_25) (fun _ h9 => h9) rfl dX0_gather_114 ?_
                rw [show x7 = nI (rkG (mayA (r 8) (r 10) rw cl) (12 * i + j)) from hc]
                refine lv_iload hx hb dX0_gather_117 (lv_at hl 0 rfl) ?_
                refine lv_if_eq (tgt := 126) hx hb dX0_gather_119 (by decide) (fun c16 => ?_) (fun c16 => absurd (by decide) c16)
                refine lv_iconst (v := 0) hx hb dX0_gather_126 (by decide) ?_
                refine lv_iadd hx hb dX0_gather_127 ?_
                refine lv_topi (fun v17 ev17 => ?_)
                obtain rfl : v17 = nI ((rkG (mayA (r 8) (r 10) rw cl) (12 * i + j)) + 0) := nI_plus ev17 rfl rfl
                refine va_put (D := G.1) (ci := 0) (v := .int (nI ((rkG (mayA (r 8) (r 10) rw cl) (12 * i + j)) + 0))) (C := RX0) (T := TX0) (N := 9) hx hb hts inX0 tyX0 tyX0_ok nmX0 hown hK.1 hP (hDD _ _ _ _ _ _ _ _ _ _ _ _ _ _ _ _ _) hS 25 rfl rfl 4 (by decide) (hts _ mf_X0_25) (fun _ h9 => h9) rfl (tyX0_ok 4 (by decide)) (rfl) (rfl) (Nat.le_of_ble_eq_true rfl) dX0_gather_128 (fun H locs hP _ hS => ?_)
                have hP : PP G (xM G x xa ta a b ga ua la lb lc tg gg xf tf f qf (upd gf 4 (nI ((rkG (mayA (r 8) (r 10) rw cl) (12 * i + j)) + 0))) uf lf mf nf tr r q (up2 (up2 gr 1 x8) 2 x9) ur lr mr nr) H := hP
                obtain ⟨v18, ev18⟩ : ∃ y9 : Int32, y9 = (nI j) + Int32.ofInt (1) := ⟨_, rfl⟩
                refine lv_iinc (v := v18) (lv' := [(4, .int v18), (7, .int 0), (6, .int (r 8 (i * 12 + j))), (5, .int (nI (i * 12 + j))), (3, .int (nI i)), (0, .ref (ga 9)), (1, .ref (ta 0)), (2, .ref (a 15))]) hx hb dX0_gather_131 hl (k := 3) rfl ev18.symm (by decide) rfl (fun ls hl => ?_)
                obtain rfl : v18 = nI (j + 1) := nI_plus (i := j) (j := 1) ev18 rfl (by decide)
                refine lv_goto (tgt := 18) hx hb dX0_gather_134 (by decide) ?_
                exact ih18k6 (j + 1) (nI ((rkG (mayA (r 8) (r 10) rw cl) (12 * i + j)) + 0)) x8 x9 (by omega) (by omega) (by rw [rk_n (by omega) (fun h9 => h9.2.2.1 c14)]; rfl) (GCH_f hM12 (by omega) hg (fun h9 => absurd h9 (fun h9 => h9.2.2.1 c14))) _ _ _ hP hS (lv_sub hl [0, 4, 5, 6, 7] rfl)
              · refine lv_iload hx hb dX0_gather_49 (lv_at hl 0 rfl) ?_
                refine lv_iconst (v := 4) hx hb dX0_gather_51 (by decide) ?_
                refine lv_icmp_eq (tgt := 69) hx hb dX0_gather_52 (by decide) (fun c19 => ?_) (fun c19 => ?_)
                · refine lv_iconst (v := 0) hx hb dX0_gather_69 (by decide) ?_
                  refine lv_istore (lv' := [(7, .int 0), (6, .int (r 8 (i * 12 + j))), (5, .int (nI (i * 12 + j))), (4, .int (nI j)), (3, .int (nI i)), (0, .ref (ga 9)), (1, .ref (ta 0)), (2, .ref (a 15))]) hx hb dX0_gather_70 hl (by decide) rfl (fun ls hl => ?_)
                  refine lv_iload hx hb dX0_gather_72 (lv_at hl 0 rfl) ?_
                  refine lv_if_eq (tgt := 112) hx hb dX0_gather_74 (by decide) (fun c20 => ?_) (fun c20 => absurd (by decide) c20)
                  refine lv_aload_n hx hb dX0_gather_112 rfl (lv_at hl 5 rfl) ?_
                  refine lv_dup hx hb dX0_gather_113 rfl ?_
                  refine va_get (D := G.1) (ci := 0) (v := .int x7) (C := RX0) (T := TX0) (N := 9) hx hb hts inX0 hown hK.1 hP 25 rfl rfl 4 (by decide) (hts _ mf_X0_25) (fun _ h9 => h9) rfl dX0_gather_114 ?_
                  rw [show x7 = nI (rkG (mayA (r 8) (r 10) rw cl) (12 * i + j)) from hc]
                  refine lv_iload hx hb dX0_gather_117 (lv_at hl 0 rfl) ?_
                  refine lv_if_eq (tgt := 126) hx hb dX0_gather_119 (by decide) (fun c21 => ?_) (fun c21 => absurd (by decide) c21)
                  refine lv_iconst (v := 0) hx hb dX0_gather_126 (by decide) ?_
                  refine lv_iadd hx hb dX0_gather_127 ?_
                  refine lv_topi (fun v22 ev22 => ?_)
                  obtain rfl : v22 = nI ((rkG (mayA (r 8) (r 10) rw cl) (12 * i + j)) + 0) := nI_plus ev22 rfl rfl
                  refine va_put (D := G.1) (ci := 0) (v := .int (nI ((rkG (mayA (r 8) (r 10) rw cl) (12 * i + j)) + 0))) (C := RX0) (T := TX0) (N := 9) hx hb hts inX0 tyX0 tyX0_ok nmX0 hown hK.1 hP (hDD _ _ _ _ _ _ _ _ _ _ _ _ _ _ _ _ _) hS 25 rfl rfl 4 (by decide) (hts _ mf_X0_25) (fun _ h9 => h9) rfl (tyX0_ok 4 (by decide)) (rfl) (rfl) (Nat.le_of_ble_eq_true rfl) dX0_gather_128 (fun H locs hP _ hS => ?_)
                  have hP : PP G (xM G x xa ta a b ga ua la lb lc tg gg xf tf f qf (upd gf 4 (nI ((rkG (mayA (r 8) (r 10) rw cl) (12 * i + j)) + 0))) uf lf mf nf tr r q (up2 (up2 gr 1 x8) 2 x9) ur lr mr nr) H := hP
                  obtain ⟨v23, ev23⟩ : ∃ y9 : Int32, y9 = (nI j) + Int32.ofInt (1) := ⟨_, rfl⟩
                  refine lv_iinc (v := v23) (lv' := [(4, .int v23), (7, .int 0), (6, .int (r 8 (i * 12 + j))), (5, .int (nI (i * 12 + j))), (3, .int (nI i)), (0, .ref (ga 9)), (1, .ref (ta 0)), (2, .ref (a 15))]) hx hb dX0_gather_131 hl (k := 3) rfl ev23.symm (by decide) rfl (fun ls hl => ?_)
                  obtain rfl : v23 = nI (j + 1) := nI_plus (i := j) (j := 1) ev23 rfl (by decide)
                  refine lv_goto (tgt := 18) hx hb dX0_gather_134 (by decide) ?_
                  exact ih18k6 (j + 1) (nI ((rkG (mayA (r 8) (r 10) rw cl) (12 * i + j)) + 0)) x8 x9 (by omega) (by omega) (by rw [rk_n (by omega) (fun h9 => h9.2.2.2.1 c19)]; rfl) (GCH_f hM12 (by omega) hg (fun h9 => absurd h9 (fun h9 => h9.2.2.2.1 c19))) _ _ _ hP hS (lv_sub hl [0, 4, 5, 6, 7] rfl)
                · refine lv_aload_n hx hb dX0_gather_55 rfl (lv_at hl 6 rfl) ?_
                  refine va_get (D := G.1) (ci := 2) (v := .ref (a 10)) (C := RX2) (T := TX2) (N := 15) hx hb hts inX2 hown hK.1 hP 11 rfl rfl 10 (by decide) (hts _ mf_X0_52) (fun _ h9 => h9) rfl dX0_gather_56 ?_
                  refine lv_iload hx hb dX0_gather_59 (lv_at hl 1 rfl) ?_
                  refine xiald (f := (r 10)) hx hb hK hP 16 ((i * 12 + j)) (rfl) (by omega) (by decide) rfl dX0_gather_61 ?_
                  refine lv_topi (fun v24 ev24 => ?_)
                  obtain rfl : v24 = (r 10 (i * 12 + j)) := ev24.trans (rfl)
                  refine lv_if_ne (tgt := 69) hx hb dX0_gather_62 (by decide) (fun c25 => ?_) (fun c25 => ?_)
                  · refine lv_iconst (v := 0) hx hb dX0_gather_69 (by decide) ?_
                    refine lv_istore (lv' := [(7, .int 0), (6, .int (r 8 (i * 12 + j))), (5, .int (nI (i * 12 + j))), (4, .int (nI j)), (3, .int (nI i)), (0, .ref (ga 9)), (1, .ref (ta 0)), (2, .ref (a 15))]) hx hb dX0_gather_70 hl (by decide) rfl (fun ls hl => ?_)
                    refine lv_iload hx hb dX0_gather_72 (lv_at hl 0 rfl) ?_
                    refine lv_if_eq (tgt := 112) hx hb dX0_gather_74 (by decide) (fun c26 => ?_) (fun c26 => absurd (by decide) c26)
                    refine lv_aload_n hx hb dX0_gather_112 rfl (lv_at hl 5 rfl) ?_
                    refine lv_dup hx hb dX0_gather_113 rfl ?_
                    refine va_get (D := G.1) (ci := 0) (v := .int x7) (C := RX0) (T := TX0) (N := 9) hx hb hts inX0 hown hK.1 hP 25 rfl rfl 4 (by decide) (hts _ mf_X0_25) (fun _ h9 => h9) rfl dX0_gather_114 ?_
                    rw [show x7 = nI (rkG (mayA (r 8) (r 10) rw cl) (12 * i + j)) from hc]
                    refine lv_iload hx hb dX0_gather_117 (lv_at hl 0 rfl) ?_
                    refine lv_if_eq (tgt := 126) hx hb dX0_gather_119 (by decide) (fun c27 => ?_) (fun c27 => absurd (by decide) c27)
                    refine lv_iconst (v := 0) hx hb dX0_gather_126 (by decide) ?_
                    refine lv_iadd hx hb dX0_gather_127 ?_
                    refine lv_topi (fun v28 ev28 => ?_)
                    obtain rfl : v28 = nI ((rkG (mayA (r 8) (r 10) rw cl) (12 * i + j)) + 0) := nI_plus ev28 rfl rfl
                    refine va_put (D := G.1) (ci := 0) (v := .int (nI ((rkG (mayA (r 8) (r 10) rw cl) (12 * i + j)) + 0))) (C := RX0) (T := TX0) (N := 9) hx hb hts inX0 tyX0 tyX0_ok nmX0 hown hK.1 hP (hDD _ _ _ _ _ _ _ _ _ _ _ _ _ _ _ _ _) hS 25 rfl rfl 4 (by decide) (hts _ mf_X0_25) (fun _ h9 => h9) rfl (tyX0_ok 4 (by decide)) (rfl) (rfl) (Nat.le_of_ble_eq_true rfl) dX0_gather_128 (fun H locs hP _ hS => ?_)
                    have hP : PP G (xM G x xa ta a b ga ua la lb lc tg gg xf tf f qf (upd gf 4 (nI ((rkG (mayA (r 8) (r 10) rw cl) (12 * i + j)) + 0))) uf lf mf nf tr r q (up2 (up2 gr 1 x8) 2 x9) ur lr mr nr) H := hP
                    obtain ⟨v29, ev29⟩ : ∃ y9 : Int32, y9 = (nI j) + Int32.ofInt (1) := ⟨_, rfl⟩
                    refine lv_iinc (v := v29) (lv' := [(4, .int v29), (7, .int 0), (6, .int (r 8 (i * 12 + j))), (5, .int (nI (i * 12 + j))), (3, .int (nI i)), (0, .ref (ga 9)), (1, .ref (ta 0)), (2, .ref (a 15))]) hx hb dX0_gather_131 hl (k := 3) rfl ev29.symm (by decide) rfl (fun ls hl => ?_)
                    obtain rfl : v29 = nI (j + 1) := nI_plus (i := j) (j := 1) ev29 rfl (by decide)
                    refine lv_goto (tgt := 18) hx hb dX0_gather_134 (by decide) ?_
                    exact ih18k6 (j + 1) (nI ((rkG (mayA (r 8) (r 10) rw cl) (12 * i + j)) + 0)) x8 x9 (by omega) (by omega) (by rw [rk_n (by omega) (fun h9 => c25 h9.2.2.2.2)]; rfl) (GCH_f hM12 (by omega) hg (fun h9 => absurd h9 (fun h9 => c25 h9.2.2.2.2))) _ _ _ hP hS (lv_sub hl [0, 4, 5, 6, 7] rfl)
                  · have hM : (mayA (r 8) (r 10) rw cl) i j := ⟨b12, b24, c14, c19, c25⟩
                    refine lv_iconst (v := 1) hx hb dX0_gather_65 (by decide) ?_
                    refine lv_goto (tgt := 70) hx hb dX0_gather_66 (by decide) ?_
                    refine lv_istore (lv' := [(7, .int 1), (6, .int (r 8 (i * 12 + j))), (5, .int (nI (i * 12 + j))), (4, .int (nI j)), (3, .int (nI i)), (0, .ref (ga 9)), (1, .ref (ta 0)), (2, .ref (a 15))]) hx hb dX0_gather_70 hl (by decide) rfl (fun ls hl => ?_)
                    refine lv_iload hx hb dX0_gather_72 (lv_at hl 0 rfl) ?_
                    refine lv_if_eq (tgt := 112) hx hb dX0_gather_74 (by decide) (fun c30 => absurd c30 (by decide)) (fun c30 => ?_)
                    refine lv_aload_n hx hb dX0_gather_77 rfl (lv_at hl 5 rfl) ?_
                    refine va_get (D := G.1) (ci := 0) (v := .int x7) (C := RX0) (T := TX0) (N := 9) hx hb hts inX0 hown hK.1 hP 25 rfl rfl 4 (by decide) (hts _ mf_X0_25) (fun _ h9 => h9) rfl dX0_gather_78 ?_
                    rw [show x7 = nI (rkG (mayA (r 8) (r 10) rw cl) (12 * i + j)) from hc]
                    refine lv_bipush (v := 8) hx hb dX0_gather_81 (by decide) ?_
                    refine lv_icmp_ge (tgt := 112) hx hb dX0_gather_83 (by decide) (fun c31 => ?_) (fun c31 => ?_)
                    · have b83 := qge_t (a := (rkG (mayA (r 8) (r 10) rw cl) (12 * i + j))) (b := 8) (by omega) (by omega) c31
                      refine lv_aload_n hx hb dX0_gather_112 rfl (lv_at hl 5 rfl) ?_
                      refine lv_dup hx hb dX0_gather_113 rfl ?_
                      refine va_get (D := G.1) (ci := 0) (v := .int x7) (C := RX0) (T := TX0) (N := 9) hx hb hts inX0 hown hK.1 hP 25 rfl rfl 4 (by decide) (hts _ mf_X0_25) (fun _ h9 => h9) rfl dX0_gather_114 ?_
                      rw [show x7 = nI (rkG (mayA (r 8) (r 10) rw cl) (12 * i + j)) from hc]
                      refine lv_iload hx hb dX0_gather_117 (lv_at hl 0 rfl) ?_
                      refine lv_if_eq (tgt := 126) hx hb dX0_gather_119 (by decide) (fun c32 => absurd c32 (by decide)) (fun c32 => ?_)
                      refine lv_iconst (v := 1) hx hb dX0_gather_122 (by decide) ?_
                      refine lv_goto (tgt := 127) hx hb dX0_gather_123 (by decide) ?_
                      refine lv_iadd hx hb dX0_gather_127 ?_
                      refine lv_topi (fun v33 ev33 => ?_)
                      obtain rfl : v33 = nI ((rkG (mayA (r 8) (r 10) rw cl) (12 * i + j)) + 1) := nI_plus ev33 rfl rfl
                      refine va_put (D := G.1) (ci := 0) (v := .int (nI ((rkG (mayA (r 8) (r 10) rw cl) (12 * i + j)) + 1))) (C := RX0) (T := TX0) (N := 9) hx hb hts inX0 tyX0 tyX0_ok nmX0 hown hK.1 hP (hDD _ _ _ _ _ _ _ _ _ _ _ _ _ _ _ _ _) hS 25 rfl rfl 4 (by decide) (hts _ mf_X0_25) (fun _ h9 => h9) rfl (tyX0_ok 4 (by decide)) (rfl) (rfl) (Nat.le_of_ble_eq_true rfl) dX0_gather_128 (fun H locs hP _ hS => ?_)
                      have hP : PP G (xM G x xa ta a b ga ua la lb lc tg gg xf tf f qf (upd gf 4 (nI ((rkG (mayA (r 8) (r 10) rw cl) (12 * i + j)) + 1))) uf lf mf nf tr r q (up2 (up2 gr 1 x8) 2 x9) ur lr mr nr) H := hP
                      obtain ⟨v34, ev34⟩ : ∃ y9 : Int32, y9 = (nI j) + Int32.ofInt (1) := ⟨_, rfl⟩
                      refine lv_iinc (v := v34) (lv' := [(4, .int v34), (7, .int 1), (6, .int (r 8 (i * 12 + j))), (5, .int (nI (i * 12 + j))), (3, .int (nI i)), (0, .ref (ga 9)), (1, .ref (ta 0)), (2, .ref (a 15))]) hx hb dX0_gather_131 hl (k := 3) rfl ev34.symm (by decide) rfl (fun ls hl => ?_)
                      obtain rfl : v34 = nI (j + 1) := nI_plus (i := j) (j := 1) ev34 rfl (by decide)
                      refine lv_goto (tgt := 18) hx hb dX0_gather_134 (by decide) ?_
                      exact ih18k6 (j + 1) (nI ((rkG (mayA (r 8) (r 10) rw cl) (12 * i + j)) + 1)) x8 x9 (by omega) (by omega) (by rw [rk_y (by omega) hM]) (GCH_f hM12 (by omega) hg (fun _ => b83)) _ _ _ hP hS (lv_sub hl [0, 4, 5, 6, 7] rfl)
                    · have b83 := qge_f (a := (rkG (mayA (r 8) (r 10) rw cl) (12 * i + j))) (b := 8) (by omega) (by omega) c31
                      refine lv_aload_n hx hb dX0_gather_86 rfl (lv_at hl 5 rfl) ?_
                      refine va_get (D := G.1) (ci := 0) (v := .ref (ga 1)) (C := RX0) (T := TX0) (N := 9) hx hb hts inX0 hown hK.1 hP 25 rfl rfl 1 (by decide) (hts _ mf_X0_15) (fun _ h9 => h9) rfl dX0_gather_87 ?_
                      refine lv_aload_n hx hb dX0_gather_90 rfl (lv_at hl 5 rfl) ?_
                      refine va_get (D := G.1) (ci := 0) (v := .int x7) (C := RX0) (T := TX0) (N := 9) hx hb hts inX0 hown hK.1 hP 25 rfl rfl 4 (by decide) (hts _ mf_X0_25) (fun _ h9 => h9) rfl dX0_gather_91 ?_
                      rw [show x7 = nI (rkG (mayA (r 8) (r 10) rw cl) (12 * i + j)) from hc]
                      refine lv_iload hx hb dX0_gather_94 (lv_at hl 2 rfl) ?_
                      refine xiast (f := x8) (x := (nI (i * 12 + j))) hx hb hK hP (hDD _ _ _ _ _ _ _ _ _ _ _ _ _ _ _ _ _) hS 27 ((rkG (mayA (r 8) (r 10) rw cl) (12 * i + j))) (rfl) (by omega) (by decide) rfl dX0_gather_96 (fun H locs hP _ hS => ?_)
                      have hP : PP G (xM G x xa ta a b ga ua la lb lc tg gg xf tf f qf (upd gf 4 x7) uf lf mf nf tr r q (up2 (up2 gr 1 (upd x8 ((rkG (mayA (r 8) (r 10) rw cl) (12 * i + j))) ((nI (i * 12 + j))))) 2 x9) ur lr mr nr) H := hP
                      refine lv_aload_n hx hb dX0_gather_97 rfl (lv_at hl 5 rfl) ?_
                      refine va_get (D := G.1) (ci := 0) (v := .ref (ga 2)) (C := RX0) (T := TX0) (N := 9) hx hb hts inX0 hown hK.1 hP 25 rfl rfl 2 (by decide) (hts _ mf_X0_19) (fun _ h9 => h9) rfl dX0_gather_98 ?_
                      refine lv_aload_n hx hb dX0_gather_101 rfl (lv_at hl 5 rfl) ?_
                      refine va_get (D := G.1) (ci := 0) (v := .int x7) (C := RX0) (T := TX0) (N := 9) hx hb hts inX0 hown hK.1 hP 25 rfl rfl 4 (by decide) (hts _ mf_X0_25) (fun _ h9 => h9) rfl dX0_gather_102 ?_
                      rw [show x7 = nI (rkG (mayA (r 8) (r 10) rw cl) (12 * i + j)) from hc]
                      refine lv_aload_n hx hb dX0_gather_105 rfl (lv_at hl 6 rfl) ?_
                      refine lv_iload hx hb dX0_gather_106 (lv_at hl 2 rfl) ?_
                      refine rdV (rest := [.int (nI (rkG (mayA (r 8) (r 10) rw cl) (12 * i + j))), .ref (ga 2)]) (q0 := 0) ⟨hx, hb, hml, hown, hts⟩ (c_X4_priceOf l G ta tf tr (i * 12 + j) (by omega)) mi_yX4_priceOf mv_yX4_priceOf ml_X0_98 ⟨rfl, rfl, Nat.le_of_ble_eq_true rfl, Nat.le_of_ble_eq_true rfl⟩ hK (blk_sub (ws' := tW G ta tf tr) (xBlk G x xa ta a b ga ua la lb lc tg gg xf tf f qf (upd gf 4 x7) uf lf mf nf tr r q (up2 (up2 gr 1 (upd x8 ((rkG (mayA (r 8) (r 10) rw cl) (12 * i + j))) ((nI (i * 12 + j))))) 2 x9) ur lr mr nr) (i := 1) hP rfl (by decide)) rfl rfl rfl hl.1 rfl (Nat.le_of_ble_eq_true rfl) dX0_gather_108 ⟨Nat.zero_le _, Nat.zero_le _⟩ hS hA hP (fun r35 H locs hr35 hP hS => ?_)
                      obtain rfl := hr35
                      refine xiast (f := x9) (x := (if (tr 9) 5 = 0 then 1 else (tr 6) (i * 12 + j) + 1)) hx hb hK hP (hDD _ _ _ _ _ _ _ _ _ _ _ _ _ _ _ _ _) hS 28 ((rkG (mayA (r 8) (r 10) rw cl) (12 * i + j))) (rfl) (by omega) (by decide) rfl dX0_gather_111 (fun H locs hP _ hS => ?_)
                      have hP : PP G (xM G x xa ta a b ga ua la lb lc tg gg xf tf f qf (upd gf 4 x7) uf lf mf nf tr r q (up2 (up2 gr 1 (upd x8 ((rkG (mayA (r 8) (r 10) rw cl) (12 * i + j))) ((nI (i * 12 + j))))) 2 (upd x9 ((rkG (mayA (r 8) (r 10) rw cl) (12 * i + j))) ((if (tr 9) 5 = 0 then 1 else (tr 6) (i * 12 + j) + 1)))) ur lr mr nr) H := hP
                      refine lv_aload_n hx hb dX0_gather_112 rfl (lv_at hl 5 rfl) ?_
                      refine lv_dup hx hb dX0_gather_113 rfl ?_
                      refine va_get (D := G.1) (ci := 0) (v := .int x7) (C := RX0) (T := TX0) (N := 9) hx hb hts inX0 hown hK.1 hP 25 rfl rfl 4 (by decide) (hts _ mf_X0_25) (fun _ h9 => h9) rfl dX0_gather_114 ?_
                      rw [show x7 = nI (rkG (mayA (r 8) (r 10) rw cl) (12 * i + j)) from hc]
                      refine lv_iload hx hb dX0_gather_117 (lv_at hl 0 rfl) ?_
                      refine lv_if_eq (tgt := 126) hx hb dX0_gather_119 (by decide) (fun c36 => absurd c36 (by decide)) (fun c36 => ?_)
                      refine lv_iconst (v := 1) hx hb dX0_gather_122 (by decide) ?_
                      refine lv_goto (tgt := 127) hx hb dX0_gather_123 (by decide) ?_
                      refine lv_iadd hx hb dX0_gather_127 ?_
                      refine lv_topi (fun v37 ev37 => ?_)
                      obtain rfl : v37 = nI ((rkG (mayA (r 8) (r 10) rw cl) (12 * i + j)) + 1) := nI_plus ev37 rfl rfl
                      refine va_put (D := G.1) (ci := 0) (v := .int (nI ((rkG (mayA (r 8) (r 10) rw cl) (12 * i + j)) + 1))) (C := RX0) (T := TX0) (N := 9) hx hb hts inX0 tyX0 tyX0_ok nmX0 hown hK.1 hP (hDD _ _ _ _ _ _ _ _ _ _ _ _ _ _ _ _ _) hS 25 rfl rfl 4 (by decide) (hts _ mf_X0_25) (fun _ h9 => h9) rfl (tyX0_ok 4 (by decide)) (rfl) (rfl) (Nat.le_of_ble_eq_true rfl) dX0_gather_128 (fun H locs hP _ hS => ?_)
                      have hP : PP G (xM G x xa ta a b ga ua la lb lc tg gg xf tf f qf (upd gf 4 (nI ((rkG (mayA (r 8) (r 10) rw cl) (12 * i + j)) + 1))) uf lf mf nf tr r q (up2 (up2 gr 1 (upd x8 ((rkG (mayA (r 8) (r 10) rw cl) (12 * i + j))) ((nI (i * 12 + j))))) 2 (upd x9 ((rkG (mayA (r 8) (r 10) rw cl) (12 * i + j))) ((if (tr 9) 5 = 0 then 1 else (tr 6) (i * 12 + j) + 1)))) ur lr mr nr) H := hP
                      obtain ⟨v38, ev38⟩ : ∃ y9 : Int32, y9 = (nI j) + Int32.ofInt (1) := ⟨_, rfl⟩
                      refine lv_iinc (v := v38) (lv' := [(4, .int v38), (7, .int 1), (6, .int (r 8 (i * 12 + j))), (5, .int (nI (i * 12 + j))), (3, .int (nI i)), (0, .ref (ga 9)), (1, .ref (ta 0)), (2, .ref (a 15))]) hx hb dX0_gather_131 hl (k := 3) rfl ev38.symm (by decide) rfl (fun ls hl => ?_)
                      obtain rfl : v38 = nI (j + 1) := nI_plus (i := j) (j := 1) ev38 rfl (by decide)
                      refine lv_goto (tgt := 18) hx hb dX0_gather_134 (by decide) ?_
                      exact ih18k6 (j + 1) (nI ((rkG (mayA (r 8) (r 10) rw cl) (12 * i + j)) + 1)) (upd x8 ((rkG (mayA (r 8) (r 10) rw cl) (12 * i + j))) ((nI (i * 12 + j)))) (upd x9 ((rkG (mayA (r 8) (r 10) rw cl) (12 * i + j))) ((if (tr 9) 5 = 0 then 1 else (tr 6) (i * 12 + j) + 1))) (by omega) (by omega) (by rw [rk_y (by omega) hM]) (GCH_t hM12 hg hM rfl) _ _ _ hP hS (lv_sub hl [0, 4, 5, 6, 7] rfl)
        exact loop18 (cl + 1) 0 x2 x3 x4 (by omega) (by omega) (hc) (hg) _ _ _ hP hS (lv_sub hl [0, 1, 2, 3, 4] rfl)
  exact loop7 (rw + 1) 0 0 (gr 1) (gr 2) (by omega) (by omega) (rfl) (fun x y _ h9 => absurd h9 (by omega)) _ _ _ hP hS (lv_sub hl [0, 1, 2, 3] rfl)
set_option maxHeartbeats 4000000 in
set_option maxRecDepth 100000 in
theorem x_X0_bitOf (l : Launch) (G : GG) (x : Nat) (xa ta a b ga ua la lb lc : Nat → Nat) (tg gg : Nat → Option Nat) (xf tf f qf gf uf lf mf nf : Nat → Int32) (tr r q gr ur lr mr nr : Nat → Nat → Int32) (k : Nat) (mm : Nat) (hm8 : mm < 9) (hg4 : (gf 4) = nI mm) (hk : k < mm) : RdI l yX0_bitOf cX0_bitOf 2 (some .int) ({ frames := 0, cells := 0, slots := 0, locals := 0 }) G (xM G x xa ta a b ga ua la lb lc tg gg xf tf f qf gf uf lf mf nf tr r q gr ur lr mr nr) [.ref (ga 9), .int (nI k)] (fun qz => qz = (1 : Int32) <<< (nI (mm - 1 - k) &&& 31)) := by
  refine rd_entry (by decide +kernel) (Nat.le_of_ble_eq_true rfl) ?_
  intro p e s m below meth c C0 hP hK ls hl
  have hS : va_S (fun q => s.heap.size ≤ q) s.heap s.heap [] := va_S.rf
  have hA : ∀ q, s.heap.size ≤ q → (fun q => s.heap.size ≤ q) q := fun _ h => h
  obtain ⟨hx, hb, hml, hown, hts, hr, hlocks, hin⟩ := C0
  have hown : s.vm.findClass RX0 = some m.cls := hown
  have hl : lv_has ls 2 [(0, .ref (ga 9)), (1, .int (nI k))] := hl
  refine lv_iconst (v := 1) hx hb dX0_bitOf_0 (by decide) ?_
  refine lv_aload_n hx hb dX0_bitOf_1 rfl (lv_at hl 0 rfl) ?_
  refine va_get (D := G.1) (ci := 0) (v := .int (gf 4)) (C := RX0) (T := TX0) (N := 9) hx hb hts inX0 hown hK.1 hP 25 rfl rfl 4 (by decide) (hts _ mf_X0_25) (fun _ h9 => h9) rfl dX0_bitOf_2 ?_
  rw [show (gf 4) = nI (mm) from hg4]
  refine lv_iconst (v := 1) hx hb dX0_bitOf_5 (by decide) ?_
  refine lv_isub hx hb dX0_bitOf_6 ?_
  refine lv_topi (fun v1 ev1 => ?_)
  obtain rfl : v1 = nI ((mm) - 1) := nI_minus ev1 rfl rfl (by omega)
  refine lv_iload_n hx hb dX0_bitOf_7 rfl (lv_at hl 1 rfl) ?_
  refine lv_isub hx hb dX0_bitOf_8 ?_
  refine lv_topi (fun v2 ev2 => ?_)
  obtain rfl : v2 = nI (((mm) - 1) - k) := nI_minus ev2 rfl rfl (by omega)
  refine lv_ishl hx hb dX0_bitOf_9 ?_
  refine lv_topi (fun v3 ev3 => ?_)
  exact rd_iret hx hb hr hlocks hS (ev3) dX0_bitOf_10
set_option maxHeartbeats 4000000 in
set_option maxRecDepth 100000 in
theorem x_X0_priceSets (l : Launch) (G : GG) (x : Nat) (xa ta a b ga ua la lb lc : Nat → Nat) (tg gg : Nat → Option Nat) (xf tf f qf gf uf lf mf nf : Nat → Int32) (tr r q gr ur lr mr nr : Nat → Nat → Int32) (sz : Nat) (mm : Nat) (cp : Nat → Nat) (hm8 : mm < 9) (hg4 : (gf 4) = nI mm) (hsz : sz ≤ 256) (hcp : ∀ k, k < mm → (gr 2) k = nI (cp k)) : WrV l yX0_priceSets cX0_priceSets 4 ({ frames := 1, cells := 0, slots := 0, locals := 21 }) G (xM G x xa ta a b ga ua la lb lc tg gg xf tf f qf gf uf lf mf nf tr r q gr ur lr mr nr) [.ref (ga 9), .int (nI sz)] (fun w => ∃ (n_gr_3 : Nat → Int32), w = xM G x xa ta a b ga ua la lb lc tg gg xf tf f qf gf uf lf mf nf tr r q (up2 gr 3 n_gr_3) ur lr mr nr ∧ (∀ s, s < sz → n_gr_3 s = nI (prc cp mm s))) := by
  refine wr_entryV (by decide +kernel) (Nat.le_of_ble_eq_true rfl) ?_
  intro p e s m below meth c A C0 hP hK hD hA ls hl
  have hS : va_S A s.heap s.heap [] := va_S.rf
  obtain ⟨hx, hb, hml, hown, hts, hr, hlocks, hin⟩ := C0
  have hown : s.vm.findClass RX0 = some m.cls := hown
  have hDD : ∀ xf' tf' f' qf' gf' uf' lf' mf' nf' tr' r' q' gr' ur' lr' mr' nr', va_D A (xM G x xa ta a b ga ua la lb lc tg gg xf' tf' f' qf' gf' uf' lf' mf' nf' tr' r' q' gr' ur' lr' mr' nr') := fun xf' tf' f' qf' gf' uf' lf' mf' nf' tr' r' q' gr' ur' lr' mr' nr' => D_same hD rfl
  have hl : lv_has ls 4 [(0, .ref (ga 9)), (1, .int (nI sz))] := hl
  refine lv_iconst (v := 0) hx hb dX0_priceSets_0 (by decide) ?_
  refine lv_istore_n (lv' := [(2, .int 0), (0, .ref (ga 9)), (1, .int (nI sz))]) hx hb dX0_priceSets_1 rfl hl (by decide) rfl (fun ls hl => ?_)
  have loop2 : ∀ (k1 s9 : Nat) (x2 : Nat → Int32), s9 ≤ sz → sz < s9 + k1 → (∀ s, s < s9 → x2 s = nI (prc cp mm s)) → ∀ (H : Heap) (locs : List Loc) (ls : Array Slot), PP G (xM G x xa ta a b ga ua la lb lc tg gg xf tf f qf gf uf lf mf nf tr r q (up2 gr 3 x2) ur lr mr nr) H → va_S A s.heap H locs → lv_has ls 4 [(2, .int (nI s9)), (0, .ref (ga 9)), (1, .int (nI sz))] → W p l e ({ frames := 1, cells := 0, slots := 0, locals := 21 }) s m ([.ref (ga 9), .int (nI sz)] : List Value).toArray below meth c H locs 0 0 (MQ below (QwV G (fun w => ∃ (n_gr_3 : Nat → Int32), w = xM G x xa ta a b ga ua la lb lc tg gg xf tf f qf gf uf lf mf nf tr r q (up2 gr 3 n_gr_3) ur lr mr nr ∧ (∀ s, s < sz → n_gr_3 s = nI (prc cp mm s))) A) ([.ref (ga 9), .int (nI sz)] : List Value).toArray s 0 0 A) (F0 m 2 ls []) := by
    intro k1
    induction k1 with
    | zero => intro s9 x2 h1 h2; exact absurd h1 (by omega)
    | succ k1 ih2k1 =>
      intro s9 x2 hi_s9 hk_s9 hp H locs ls hP hS hl
      refine lv_iload_n hx hb dX0_priceSets_2 rfl (lv_at hl 0 rfl) ?_
      refine lv_iload_n hx hb dX0_priceSets_3 rfl (lv_at hl 2 rfl) ?_
      refine lv_icmp_ge (tgt := 61) hx hb dX0_priceSets_4 (by decide) (fun c3 => ?_) (fun c3 => ?_)
      · have b4 := qge_t (a := s9) (b := sz) (by omega) (by omega) c3
        exact wr_vret hx hb hr hlocks hS hP ⟨x2, rfl, (fun s h9 => hp s (by omega))⟩ dX0_priceSets_61
      · have b4 := qge_f (a := s9) (b := sz) (by omega) (by omega) c3
        refine lv_aload_n hx hb dX0_priceSets_7 rfl (lv_at hl 1 rfl) ?_
        refine va_get (D := G.1) (ci := 0) (v := .ref (ga 3)) (C := RX0) (T := TX0) (N := 9) hx hb hts inX0 hown hK.1 hP 25 rfl rfl 3 (by decide) (hts _ mf_X0_22) (fun _ h9 => h9) rfl dX0_priceSets_8 ?_
        refine lv_iload_n hx hb dX0_priceSets_11 rfl (lv_at hl 0 rfl) ?_
        refine lv_iconst (v := 0) hx hb dX0_priceSets_12 (by decide) ?_
        refine xiast (f := x2) (x := 0) hx hb hK hP (hDD _ _ _ _ _ _ _ _ _ _ _ _ _ _ _ _ _) hS 29 (s9) (rfl) (by omega) (by decide) rfl dX0_priceSets_13 (fun H locs hP _ hS => ?_)
        have hP : PP G (xM G x xa ta a b ga ua la lb lc tg gg xf tf f qf gf uf lf mf nf tr r q (up2 gr 3 (upd x2 (s9) (0))) ur lr mr nr) H := hP
        refine lv_iconst (v := 0) hx hb dX0_priceSets_14 (by decide) ?_
        refine lv_istore_n (lv' := [(3, .int 0), (2, .int (nI s9)), (0, .ref (ga 9)), (1, .int (nI sz))]) hx hb dX0_priceSets_15 rfl hl (by decide) rfl (fun ls hl => ?_)
        have loop16 : ∀ (k4 k : Nat) (x5 : Nat → Int32), k ≤ mm → mm < k + k4 → (∀ s, s < s9 → x5 s = nI (prc cp mm s)) → (x5 s9 = nI (prS cp mm s9 k)) → ∀ (H : Heap) (locs : List Loc) (ls : Array Slot), PP G (xM G x xa ta a b ga ua la lb lc tg gg xf tf f qf gf uf lf mf nf tr r q (up2 gr 3 x5) ur lr mr nr) H → va_S A s.heap H locs → lv_has ls 4 [(3, .int (nI k)), (2, .int (nI s9)), (0, .ref (ga 9)), (1, .int (nI sz))] → W p l e ({ frames := 1, cells := 0, slots := 0, locals := 21 }) s m ([.ref (ga 9), .int (nI sz)] : List Value).toArray below meth c H locs 0 0 (MQ below (QwV G (fun w => ∃ (n_gr_3 : Nat → Int32), w = xM G x xa ta a b ga ua la lb lc tg gg xf tf f qf gf uf lf mf nf tr r q (up2 gr 3 n_gr_3) ur lr mr nr ∧ (∀ s, s < sz → n_gr_3 s = nI (prc cp mm s))) A) ([.ref (ga 9), .int (nI sz)] : List Value).toArray s 0 0 A) (F0 m 16 ls []) := by
          intro k4
          induction k4 with
          | zero => intro k x5 h1 h2; exact absurd h1 (by omega)
          | succ k4 ih16k4 =>
            intro k x5 hi_k hk_k hp2 hp3 H locs ls hP hS hl
            refine lv_iload_n hx hb dX0_priceSets_16 rfl (lv_at hl 0 rfl) ?_
            refine lv_aload_n hx hb dX0_priceSets_17 rfl (lv_at hl 2 rfl) ?_
            refine va_get (D := G.1) (ci := 0) (v := .int (gf 4)) (C := RX0) (T := TX0) (N := 9) hx hb hts inX0 hown hK.1 hP 25 rfl rfl 4 (by decide) (hts _ mf_X0_25) (fun _ h9 => h9) rfl dX0_priceSets_18 ?_
            rw [show (gf 4) = nI (mm) from hg4]
            refine lv_icmp_ge (tgt := 55) hx hb dX0_priceSets_21 (by decide) (fun c6 => ?_) (fun c6 => ?_)
            · have b21 := qge_t (a := k) (b := (mm)) (by omega) (by omega) c6
              obtain ⟨v7, ev7⟩ : ∃ y9 : Int32, y9 = (nI s9) + Int32.ofInt (1) := ⟨_, rfl⟩
              refine lv_iinc (v := v7) (lv' := [(2, .int v7), (3, .int (nI k)), (0, .ref (ga 9)), (1, .int (nI sz))]) hx hb dX0_priceSets_55 hl (k := 1) rfl ev7.symm (by decide) rfl (fun ls hl => ?_)
              obtain rfl : v7 = nI (s9 + 1) := nI_plus (i := s9) (j := 1) ev7 rfl (by decide)
              refine lv_goto (tgt := 2) hx hb dX0_priceSets_58 (by decide) ?_
              exact ih2k1 (s9 + 1) x5 (by omega) (by omega) (fun s h9 => (Decidable.em (s = s9)).elim (fun e9 => by rw [e9, hp3, show k = mm by omega]; rfl) (fun e9 => hp2 s (by omega))) _ _ _ hP hS (lv_sub hl [0, 2, 3] rfl)
            · have b21 := qge_f (a := k) (b := (mm)) (by omega) (by omega) c6
              refine lv_iload_n hx hb dX0_priceSets_24 rfl (lv_at hl 1 rfl) ?_
              refine lv_aload_n hx hb dX0_priceSets_25 rfl (lv_at hl 2 rfl) ?_
              refine lv_iload_n hx hb dX0_priceSets_26 rfl (lv_at hl 0 rfl) ?_
              refine rdV (rest := [.int (nI s9)]) (q0 := 25) ⟨hx, hb, hml, hown, hts⟩ (x_X0_bitOf l G x xa ta a b ga ua la lb lc tg gg xf tf f qf gf uf lf mf nf tr r q (up2 gr 3 x5) ur lr mr nr k mm (by omega) hg4 (by omega)) mi_yX0_bitOf mv_yX0_bitOf ml_X0_110 ⟨rfl, rfl, Nat.le_of_ble_eq_true rfl, Nat.le_of_ble_eq_true rfl⟩ hK (hP) rfl rfl rfl hl.1 rfl (Nat.le_of_ble_eq_true rfl) dX0_priceSets_27 ⟨Nat.zero_le _, Nat.zero_le _⟩ hS hA hP (fun r8 H locs hr8 hP hS => ?_)
              obtain rfl := hr8
              refine lv_topi (fun v9 ev9 => ?_)
              refine lv_iand hx hb dX0_priceSets_30 ?_
              refine lv_topi (fun v10 ev10 => ?_)
              refine lv_if_eq (tgt := 49) hx hb dX0_priceSets_31 (by decide) (fun c11 => ?_) (fun c11 => ?_)
              · have hbt := bt_n (s := s9) (v := mm - 1 - k) (by omega) ev10 ev9 c11
                obtain ⟨v12, ev12⟩ : ∃ y9 : Int32, y9 = (nI k) + Int32.ofInt (1) := ⟨_, rfl⟩
                refine lv_iinc (v := v12) (lv' := [(3, .int v12), (2, .int (nI s9)), (0, .ref (ga 9)), (1, .int (nI sz))]) hx hb dX0_priceSets_49 hl (k := 0) rfl ev12.symm (by decide) rfl (fun ls hl => ?_)
                obtain rfl : v12 = nI (k + 1) := nI_plus (i := k) (j := 1) ev12 rfl (by decide)
                refine lv_goto (tgt := 16) hx hb dX0_priceSets_52 (by decide) ?_
                exact ih16k4 (k + 1) x5 (by omega) (by omega) (hp2) (by rw [hp3]; show _ = nI (prS cp mm s9 k + _); rw [hbt, if_neg (by decide)]; rfl) _ _ _ hP hS (lv_sub hl [0, 1, 2, 3] rfl)
              · have hbt := bt_y (s := s9) (v := mm - 1 - k) (by omega) ev10 ev9 c11
                refine lv_aload_n hx hb dX0_priceSets_34 rfl (lv_at hl 2 rfl) ?_
                refine va_get (D := G.1) (ci := 0) (v := .ref (ga 3)) (C := RX0) (T := TX0) (N := 9) hx hb hts inX0 hown hK.1 hP 25 rfl rfl 3 (by decide) (hts _ mf_X0_22) (fun _ h9 => h9) rfl dX0_priceSets_35 ?_
                refine lv_iload_n hx hb dX0_priceSets_38 rfl (lv_at hl 1 rfl) ?_
                refine lv_dup2_11 hx hb dX0_priceSets_39 rfl rfl ?_
                refine xiald (f := x5) hx hb hK hP 29 (s9) (rfl) (by omega) (by decide) rfl dX0_priceSets_40 ?_
                refine lv_topi (fun v13 ev13 => ?_)
                obtain rfl : v13 = nI (prS cp mm s9 k) := ev13.trans (hp3)
                refine lv_aload_n hx hb dX0_priceSets_41 rfl (lv_at hl 2 rfl) ?_
                refine va_get (D := G.1) (ci := 0) (v := .ref (ga 2)) (C := RX0) (T := TX0) (N := 9) hx hb hts inX0 hown hK.1 hP 25 rfl rfl 2 (by decide) (hts _ mf_X0_19) (fun _ h9 => h9) rfl dX0_priceSets_42 ?_
                refine lv_iload_n hx hb dX0_priceSets_45 rfl (lv_at hl 0 rfl) ?_
                refine xiald (f := (gr 2)) hx hb hK hP 28 (k) (rfl) (by omega) (by decide) rfl dX0_priceSets_46 ?_
                refine lv_topi (fun v14 ev14 => ?_)
                obtain rfl : v14 = nI (cp k) := ev14.trans (hcp k (by omega))
                refine lv_iadd hx hb dX0_priceSets_47 ?_
                refine lv_topi (fun v15 ev15 => ?_)
                obtain rfl : v15 = nI ((prS cp mm s9 k) + (cp k)) := nI_plus ev15 rfl rfl
                refine xiast (f := x5) (x := (nI ((prS cp mm s9 k) + (cp k)))) hx hb hK hP (hDD _ _ _ _ _ _ _ _ _ _ _ _ _ _ _ _ _) hS 29 (s9) (rfl) (by omega) (by decide) rfl dX0_priceSets_48 (fun H locs hP _ hS => ?_)
                have hP : PP G (xM G x xa ta a b ga ua la lb lc tg gg xf tf f qf gf uf lf mf nf tr r q (up2 gr 3 (upd x5 (s9) ((nI ((prS cp mm s9 k) + (cp k)))))) ur lr mr nr) H := hP
                obtain ⟨v16, ev16⟩ : ∃ y9 : Int32, y9 = (nI k) + Int32.ofInt (1) := ⟨_, rfl⟩
                refine lv_iinc (v := v16) (lv' := [(3, .int v16), (2, .int (nI s9)), (0, .ref (ga 9)), (1, .int (nI sz))]) hx hb dX0_priceSets_49 hl (k := 0) rfl ev16.symm (by decide) rfl (fun ls hl => ?_)
                obtain rfl : v16 = nI (k + 1) := nI_plus (i := k) (j := 1) ev16 rfl (by decide)
                refine lv_goto (tgt := 16) hx hb dX0_priceSets_52 (by decide) ?_
                exact ih16k4 (k + 1) (upd x5 (s9) ((nI ((prS cp mm s9 k) + (cp k))))) (by omega) (by omega) (fun s h9 => by rw [pk_un (by omega)]; exact hp2 s h9) (by rw [pk_us]; show _ = nI (prS cp mm s9 k + _); rw [hbt, if_pos rfl]) _ _ _ hP hS (lv_sub hl [0, 1, 2, 3] rfl)
        exact loop16 (mm + 1) 0 (upd x2 (s9) (0)) (by omega) (by omega) (fun s h9 => by rw [pk_un (by omega)]; exact hp s h9) (pk_us) _ _ _ hP hS (lv_sub hl [0, 1, 2, 3] rfl)
  exact loop2 (sz + 1) 0 (gr 3) (by omega) (by omega) (fun s h9 => absurd h9 (by omega)) _ _ _ hP hS (lv_sub hl [0, 1, 2] rfl)
set_option maxHeartbeats 4000000 in
set_option maxRecDepth 100000 in
theorem x_X0_isBefore (l : Launch) (G : GG) (x : Nat) (xa ta a b ga ua la lb lc : Nat → Nat) (tg gg : Nat → Option Nat) (xf tf f qf gf uf lf mf nf : Nat → Int32) (tr r q gr ur lr mr nr : Nat → Nat → Int32) (one : Int32) (sq : Nat) (mm : Nat) (cp : Nat → Nat) (hps : ∀ s, s < 2 ^ mm → (gr 3) s = nI (prc cp mm s)) (hpb : ∀ s, prc cp mm s ≤ 9000009) (hm8 : mm < 9) (hone : one = -1 ∨ ∃ o, o < 2 ^ mm ∧ one = nI o) (hs9 : sq < 2 ^ mm) : RdI l yX0_isBefore cX0_isBefore 3 (some .boolean) ({ frames := 0, cells := 0, slots := 0, locals := 0 }) G (xM G x xa ta a b ga ua la lb lc tg gg xf tf f qf gf uf lf mf nf tr r q gr ur lr mr nr) [.ref (ga 9), .int one, .int (nI sq)] (fun qz => ((qz = 1 ∧ (AFT cp mm one sq)) ∨ (qz = 0 ∧ ¬ (AFT cp mm one sq)))) := by
  refine rd_entry (by decide +kernel) (Nat.le_of_ble_eq_true rfl) ?_
  intro p e s m below meth c C0 hP hK ls hl
  have hS : va_S (fun q => s.heap.size ≤ q) s.heap s.heap [] := va_S.rf
  have hA : ∀ q, s.heap.size ≤ q → (fun q => s.heap.size ≤ q) q := fun _ h => h
  obtain ⟨hx, hb, hml, hown, hts, hr, hlocks, hin⟩ := C0
  have hown : s.vm.findClass RX0 = some m.cls := hown
  have hl : lv_has ls 3 [(0, .ref (ga 9)), (1, .int one), (2, .int (nI sq))] := hl
  have h256 := p2_le mm hm8
  refine lv_iload_n hx hb dX0_isBefore_0 rfl (lv_at hl 1 rfl) ?_
  refine lv_iconst (v := -1) hx hb dX0_isBefore_1 (by decide) ?_
  refine lv_icmp_eq (tgt := 20) hx hb dX0_isBefore_2 (by decide) (fun c1 => ?_) (fun c1 => ?_)
  · refine lv_iload_n hx hb dX0_isBefore_20 rfl (lv_at hl 1 rfl) ?_
    refine lv_iconst (v := -1) hx hb dX0_isBefore_21 (by decide) ?_
    refine lv_icmp_eq (tgt := 40) hx hb dX0_isBefore_22 (by decide) (fun c2 => ?_) (fun c2 => ?_)
    · refine lv_iconst (v := 1) hx hb dX0_isBefore_40 (by decide) ?_
      refine lv_goto (tgt := 45) hx hb dX0_isBefore_41 (by decide) ?_
      exact rd_zret hx hb hr hlocks (Or.inr rfl) hS (Or.inl ⟨rfl, Or.inl c1⟩) dX0_isBefore_45
    · exact absurd c1 c2
  · obtain ⟨o, ho, eo⟩ := hone.resolve_left c1
    subst eo
    have hb1 := hpb o
    have hb2_ := hpb sq
    refine lv_aload_n hx hb dX0_isBefore_5 rfl (lv_at hl 0 rfl) ?_
    refine va_get (D := G.1) (ci := 0) (v := .ref (ga 3)) (C := RX0) (T := TX0) (N := 9) hx hb hts inX0 hown hK.1 hP 25 rfl rfl 3 (by decide) (hts _ mf_X0_22) (fun _ h9 => h9) rfl dX0_isBefore_6 ?_
    refine lv_iload_n hx hb dX0_isBefore_9 rfl (lv_at hl 1 rfl) ?_
    refine xiald (f := (gr 3)) hx hb hK hP 29 (o) (rfl) (by omega) (by decide) rfl dX0_isBefore_10 ?_
    refine lv_topi (fun v3 ev3 => ?_)
    obtain rfl : v3 = nI (prc cp mm o) := ev3.trans (hps o ho)
    refine lv_aload_n hx hb dX0_isBefore_11 rfl (lv_at hl 0 rfl) ?_
    refine va_get (D := G.1) (ci := 0) (v := .ref (ga 3)) (C := RX0) (T := TX0) (N := 9) hx hb hts inX0 hown hK.1 hP 25 rfl rfl 3 (by decide) (hts _ mf_X0_22) (fun _ h9 => h9) rfl dX0_isBefore_12 ?_
    refine lv_iload_n hx hb dX0_isBefore_15 rfl (lv_at hl 2 rfl) ?_
    refine xiald (f := (gr 3)) hx hb hK hP 29 (sq) (rfl) (by omega) (by decide) rfl dX0_isBefore_16 ?_
    refine lv_topi (fun v4 ev4 => ?_)
    obtain rfl : v4 = nI (prc cp mm sq) := ev4.trans (hps sq hs9)
    refine lv_icmp_eq (tgt := 46) hx hb dX0_isBefore_17 (by decide) (fun c5 => ?_) (fun c5 => ?_)
    · have b17 := qeq_t (a := (prc cp mm o)) (b := (prc cp mm sq)) (by omega) (by omega) c5
      refine lv_iload_n hx hb dX0_isBefore_46 rfl (lv_at hl 1 rfl) ?_
      refine lv_iload_n hx hb dX0_isBefore_47 rfl (lv_at hl 2 rfl) ?_
      refine lv_icmp_le (tgt := 55) hx hb dX0_isBefore_48 (by decide) (fun c6 => ?_) (fun c6 => ?_)
      · have b48 := qle_t (a := o) (b := sq) (by omega) (by omega) c6
        refine lv_iconst (v := 0) hx hb dX0_isBefore_55 (by decide) ?_
        exact rd_zret hx hb hr hlocks (Or.inl rfl) hS (Or.inr ⟨rfl, fun h9 => h9.elim c1 (fun ⟨o9, h8, e9, z9⟩ => by have e8 := (nI_eq (by omega) (by omega)).mp e9; subst e8; unfold BEF at z9; omega)⟩) dX0_isBefore_56
      · have b48 := qle_f (a := o) (b := sq) (by omega) (by omega) c6
        refine lv_iconst (v := 1) hx hb dX0_isBefore_51 (by decide) ?_
        refine lv_goto (tgt := 56) hx hb dX0_isBefore_52 (by decide) ?_
        exact rd_zret hx hb hr hlocks (Or.inr rfl) hS (Or.inl ⟨rfl, Or.inr ⟨o, by omega, rfl, by unfold BEF; omega⟩⟩) dX0_isBefore_56
    · have b17 := qeq_f (a := (prc cp mm o)) (b := (prc cp mm sq)) (by omega) (by omega) c5
      refine lv_iload_n hx hb dX0_isBefore_20 rfl (lv_at hl 1 rfl) ?_
      refine lv_iconst (v := -1) hx hb dX0_isBefore_21 (by decide) ?_
      refine lv_icmp_eq (tgt := 40) hx hb dX0_isBefore_22 (by decide) (fun c7 => ?_) (fun c7 => ?_)
      · exact absurd c7 c1
      · refine lv_aload_n hx hb dX0_isBefore_25 rfl (lv_at hl 0 rfl) ?_
        refine va_get (D := G.1) (ci := 0) (v := .ref (ga 3)) (C := RX0) (T := TX0) (N := 9) hx hb hts inX0 hown hK.1 hP 25 rfl rfl 3 (by decide) (hts _ mf_X0_22) (fun _ h9 => h9) rfl dX0_isBefore_26 ?_
        refine lv_iload_n hx hb dX0_isBefore_29 rfl (lv_at hl 1 rfl) ?_
        refine xiald (f := (gr 3)) hx hb hK hP 29 (o) (rfl) (by omega) (by decide) rfl dX0_isBefore_30 ?_
        refine lv_topi (fun v8 ev8 => ?_)
        obtain rfl : v8 = nI (prc cp mm o) := ev8.trans (hps o ho)
        refine lv_aload_n hx hb dX0_isBefore_31 rfl (lv_at hl 0 rfl) ?_
        refine va_get (D := G.1) (ci := 0) (v := .ref (ga 3)) (C := RX0) (T := TX0) (N := 9) hx hb hts inX0 hown hK.1 hP 25 rfl rfl 3 (by decide) (hts _ mf_X0_22) (fun _ h9 => h9) rfl dX0_isBefore_32 ?_
        refine lv_iload_n hx hb dX0_isBefore_35 rfl (lv_at hl 2 rfl) ?_
        refine xiald (f := (gr 3)) hx hb hK hP 29 (sq) (rfl) (by omega) (by decide) rfl dX0_isBefore_36 ?_
        refine lv_topi (fun v9 ev9 => ?_)
        obtain rfl : v9 = nI (prc cp mm sq) := ev9.trans (hps sq hs9)
        refine lv_icmp_ge (tgt := 44) hx hb dX0_isBefore_37 (by decide) (fun c10 => ?_) (fun c10 => ?_)
        · have b37 := qge_t (a := (prc cp mm o)) (b := (prc cp mm sq)) (by omega) (by omega) c10
          refine lv_iconst (v := 0) hx hb dX0_isBefore_44 (by decide) ?_
          exact rd_zret hx hb hr hlocks (Or.inl rfl) hS (Or.inr ⟨rfl, fun h9 => h9.elim c1 (fun ⟨o9, h8, e9, z9⟩ => by have e8 := (nI_eq (by omega) (by omega)).mp e9; subst e8; unfold BEF at z9; omega)⟩) dX0_isBefore_45
        · have b37 := qge_f (a := (prc cp mm o)) (b := (prc cp mm sq)) (by omega) (by omega) c10
          refine lv_iconst (v := 1) hx hb dX0_isBefore_40 (by decide) ?_
          refine lv_goto (tgt := 45) hx hb dX0_isBefore_41 (by decide) ?_
          exact rd_zret hx hb hr hlocks (Or.inr rfl) hS (Or.inl ⟨rfl, Or.inr ⟨o, by omega, rfl, by unfold BEF; omega⟩⟩) dX0_isBefore_45
set_option maxHeartbeats 4000000 in
set_option maxRecDepth 100000 in
theorem x_X0_nextSet (l : Launch) (G : GG) (x : Nat) (xa ta a b ga ua la lb lc : Nat → Nat) (tg gg : Nat → Option Nat) (xf tf f qf gf uf lf mf nf : Nat → Int32) (tr r q gr ur lr mr nr : Nat → Nat → Int32) (sz : Nat) (lz : Int32) (mm : Nat) (cp : Nat → Nat) (hps : ∀ s, s < 2 ^ mm → (gr 3) s = nI (prc cp mm s)) (hpb : ∀ s, prc cp mm s ≤ 9000009) (hm8 : mm < 9) (hsz : sz = 2 ^ mm) (hla : lz = -1 ∨ ∃ o, o < 2 ^ mm ∧ lz = nI o) : RdI l yX0_nextSet cX0_nextSet 5 (some .int) ({ frames := 1, cells := 0, slots := 0, locals := 22 }) G (xM G x xa ta a b ga ua la lb lc tg gg xf tf f qf gf uf lf mf nf tr r q gr ur lr mr nr) [.ref (ga 9), .int (nI sz), .int lz] (fun qz => ((qz = -1 ∧ ∀ s, s < 2 ^ mm → ¬ AFT cp mm lz s) ∨ ∃ bz, bz < 2 ^ mm ∧ qz = nI bz ∧ AFT cp mm lz bz ∧ ∀ s, s < 2 ^ mm → AFT cp mm lz s → s = bz ∨ BEF cp mm bz s)) := by
  refine rd_entry (by decide +kernel) (Nat.le_of_ble_eq_true rfl) ?_
  intro p e s m below meth c C0 hP hK ls hl
  have hS : va_S (fun q => s.heap.size ≤ q) s.heap s.heap [] := va_S.rf
  have hA : ∀ q, s.heap.size ≤ q → (fun q => s.heap.size ≤ q) q := fun _ h => h
  obtain ⟨hx, hb, hml, hown, hts, hr, hlocks, hin⟩ := C0
  have hown : s.vm.findClass RX0 = some m.cls := hown
  have hl : lv_has ls 5 [(0, .ref (ga 9)), (1, .int (nI sz)), (2, .int lz)] := hl
  have h256 := p2_le mm hm8
  refine lv_iconst (v := -1) hx hb dX0_nextSet_0 (by decide) ?_
  refine lv_istore_n (lv' := [(3, .int (-1)), (0, .ref (ga 9)), (1, .int (nI sz)), (2, .int lz)]) hx hb dX0_nextSet_1 rfl hl (by decide) rfl (fun ls hl => ?_)
  refine lv_iload_n hx hb dX0_nextSet_2 rfl (lv_at hl 2 rfl) ?_
  refine lv_iconst (v := 1) hx hb dX0_nextSet_3 (by decide) ?_
  refine lv_isub hx hb dX0_nextSet_4 ?_
  refine lv_topi (fun v1 ev1 => ?_)
  refine lv_istore (lv' := [(4, .int v1), (3, .int (-1)), (0, .ref (ga 9)), (1, .int (nI sz)), (2, .int lz)]) hx hb dX0_nextSet_5 hl (by decide) rfl (fun ls hl => ?_)
  have loop7 : ∀ (k2 : Nat) (z4 : Int32) (z5 : Int32) (n : Nat) (bb : Nat), n < k2 → (n ≤ 2 ^ mm) → ((z4 : Int32) = nI n - 1) → ((z5 : Int32) = -1 ∨ (z5 : Int32) = nI bb) → (NXT cp mm (AFT cp mm lz) n (¬ (z5 : Int32) = -1) bb) → ∀ (H : Heap) (locs : List Loc) (ls : Array Slot), PP G (xM G x xa ta a b ga ua la lb lc tg gg xf tf f qf gf uf lf mf nf tr r q gr ur lr mr nr) H → va_S (fun q => s.heap.size ≤ q) s.heap H locs → lv_has ls 5 [(4, .int z4), (3, .int z5), (0, .ref (ga 9)), (2, .int lz)] → W p l e ({ frames := 1, cells := 0, slots := 0, locals := 22 }) s m ([.ref (ga 9), .int (nI sz), .int lz] : List Value).toArray below meth c H locs 0 0 (MQ below (QrI (fun qz => ((qz = -1 ∧ ∀ s, s < 2 ^ mm → ¬ AFT cp mm lz s) ∨ ∃ bz, bz < 2 ^ mm ∧ qz = nI bz ∧ AFT cp mm lz bz ∧ ∀ s, s < 2 ^ mm → AFT cp mm lz s → s = bz ∨ BEF cp mm bz s)) (fun q => s.heap.size ≤ q)) ([.ref (ga 9), .int (nI sz), .int lz] : List Value).toArray s 0 0 (fun q => s.heap.size ≤ q)) (F0 m 7 ls []) := by
    intro k2
    induction k2 with
    | zero => intro z4 z5 n bb h1; exact absurd h1 (Nat.not_lt_zero _)
    | succ k2 ih7k2 =>
      intro  z4 z5 n bb hm_k2 hnl h4 h3 hn H locs ls hP hS hl
      refine lv_iload hx hb dX0_nextSet_7 (lv_at hl 0 rfl) ?_
      refine lv_if_lt (tgt := 52) hx hb dX0_nextSet_9 (by decide) (fun c6 => ?_) (fun c6 => ?_)
      · have hn0 := m1_0 (by omega) h4 c6
        refine lv_iload_n hx hb dX0_nextSet_52 rfl (lv_at hl 1 rfl) ?_
        exact rd_iret hx hb hr hlocks hS ((hn.elim (fun z9 => Or.inl ⟨Classical.byContradiction z9.1, fun s h9 => z9.2 s h9 (by omega)⟩) (fun z9 => Or.inr ⟨bb, z9.2.1, h3.resolve_left z9.1, z9.2.2.2.1, fun s h8 h9 => z9.2.2.2.2 s h8 (by omega) h9⟩))) dX0_nextSet_53
      · obtain ⟨pz, hnp, ez⟩ := m1_p h4 c6
        subst hnp
        subst ez
        have hb2_ := hpb pz
        have hps9 := hps pz (by omega)
        refine lv_aload_n hx hb dX0_nextSet_12 rfl (lv_at hl 2 rfl) ?_
        refine lv_iload_n hx hb dX0_nextSet_13 rfl (lv_at hl 3 rfl) ?_
        refine lv_iload hx hb dX0_nextSet_14 (lv_at hl 0 rfl) ?_
        refine rdV (rest := []) (q0 := 25) ⟨hx, hb, hml, hown, hts⟩ (x_X0_isBefore l G x xa ta a b ga ua la lb lc tg gg xf tf f qf gf uf lf mf nf tr r q gr ur lr mr nr lz pz mm cp hps hpb (by omega) hla (by omega)) mi_yX0_isBefore mv_yX0_isBefore ml_X0_123 ⟨rfl, rfl, Nat.le_of_ble_eq_true rfl, Nat.le_of_ble_eq_true rfl⟩ hK (hP) rfl rfl rfl hl.1 rfl (Nat.le_of_ble_eq_true rfl) dX0_nextSet_16 ⟨Nat.zero_le _, Nat.zero_le _⟩ hS hA hP (fun r7 H locs hr7 hP hS => ?_)
        have hr7 : ((r7 = 1 ∧ (AFT cp mm lz pz)) ∨ (r7 = 0 ∧ ¬ (AFT cp mm lz pz))) := hr7
        refine lv_if_eq (tgt := 46) hx hb dX0_nextSet_19 (by decide) (fun c8 => ?_) (fun c8 => ?_)
        · have b19 := bF hr7 c8
          obtain ⟨v9, ev9⟩ : ∃ y9 : Int32, y9 = (nI pz) + Int32.ofInt (-1) := ⟨_, rfl⟩
          refine lv_iinc (v := v9) (lv' := [(4, .int v9), (3, .int z5), (0, .ref (ga 9)), (2, .int lz)]) hx hb dX0_nextSet_46 hl (k := 0) rfl ev9.symm (by decide) rfl (fun ls hl => ?_)
          refine lv_goto (tgt := 7) hx hb dX0_nextSet_49 (by decide) ?_
          exact ih7k2 v9 z5 pz bb (by omega) (by omega) (m1_d ev9) (h3) (NXT_n hn b19) _ _ _ hP hS (lv_sub hl [0, 1, 2, 3] rfl)
        · have b19 := bT hr7 c8
          refine lv_iload_n hx hb dX0_nextSet_22 rfl (lv_at hl 1 rfl) ?_
          refine lv_iconst (v := -1) hx hb dX0_nextSet_23 (by decide) ?_
          refine lv_icmp_eq (tgt := 43) hx hb dX0_nextSet_24 (by decide) (fun c10 => ?_) (fun c10 => ?_)
          · refine lv_iload hx hb dX0_nextSet_43 (lv_at hl 0 rfl) ?_
            refine lv_istore_n (lv' := [(3, .int (nI pz)), (4, .int (nI pz)), (0, .ref (ga 9)), (2, .int lz)]) hx hb dX0_nextSet_45 rfl hl (by decide) rfl (fun ls hl => ?_)
            obtain ⟨v11, ev11⟩ : ∃ y9 : Int32, y9 = (nI pz) + Int32.ofInt (-1) := ⟨_, rfl⟩
            refine lv_iinc (v := v11) (lv' := [(4, .int v11), (3, .int (nI pz)), (0, .ref (ga 9)), (2, .int lz)]) hx hb dX0_nextSet_46 hl (k := 1) rfl ev11.symm (by decide) rfl (fun ls hl => ?_)
            refine lv_goto (tgt := 7) hx hb dX0_nextSet_49 (by decide) ?_
            exact ih7k2 v11 (nI pz) pz pz (by omega) (by omega) (m1_d ev11) (Or.inr rfl) (NXT_t hn (by omega) b19 (fun h9 => absurd c10 h9) (nI_nm1 (by omega))) _ _ _ hP hS (lv_sub hl [0, 1, 2, 3] rfl)
          · have e3 := h3.resolve_left c10
            have hbb : bb < 2 ^ mm := (hn.resolve_left (fun z9 => z9.1 c10)).2.1
            subst e3
            have hb1 := hpb bb
            refine lv_aload_n hx hb dX0_nextSet_27 rfl (lv_at hl 2 rfl) ?_
            refine va_get (D := G.1) (ci := 0) (v := .ref (ga 3)) (C := RX0) (T := TX0) (N := 9) hx hb hts inX0 hown hK.1 hP 25 rfl rfl 3 (by decide) (hts _ mf_X0_22) (fun _ h9 => h9) rfl dX0_nextSet_28 ?_
            refine lv_iload hx hb dX0_nextSet_31 (lv_at hl 0 rfl) ?_
            refine xiald (f := (gr 3)) hx hb hK hP 29 (pz) (rfl) (by omega) (by decide) rfl dX0_nextSet_33 ?_
            refine lv_topi (fun v12 ev12 => ?_)
            obtain rfl : v12 = nI (prc cp mm pz) := ev12.trans (hps9)
            refine lv_aload_n hx hb dX0_nextSet_34 rfl (lv_at hl 2 rfl) ?_
            refine va_get (D := G.1) (ci := 0) (v := .ref (ga 3)) (C := RX0) (T := TX0) (N := 9) hx hb hts inX0 hown hK.1 hP 25 rfl rfl 3 (by decide) (hts _ mf_X0_22) (fun _ h9 => h9) rfl dX0_nextSet_35 ?_
            refine lv_iload_n hx hb dX0_nextSet_38 rfl (lv_at hl 1 rfl) ?_
            refine xiald (f := (gr 3)) hx hb hK hP 29 (bb) (rfl) (by omega) (by decide) rfl dX0_nextSet_39 ?_
            refine lv_topi (fun v13 ev13 => ?_)
            obtain rfl : v13 = nI (prc cp mm bb) := ev13.trans (hps bb hbb)
            refine lv_icmp_ge (tgt := 46) hx hb dX0_nextSet_40 (by decide) (fun c14 => ?_) (fun c14 => ?_)
            · have b40 := qge_t (a := (prc cp mm pz)) (b := (prc cp mm bb)) (by omega) (by omega) c14
              obtain ⟨v15, ev15⟩ : ∃ y9 : Int32, y9 = (nI pz) + Int32.ofInt (-1) := ⟨_, rfl⟩
              refine lv_iinc (v := v15) (lv' := [(4, .int v15), (3, .int (nI bb)), (0, .ref (ga 9)), (2, .int lz)]) hx hb dX0_nextSet_46 hl (k := 0) rfl ev15.symm (by decide) rfl (fun ls hl => ?_)
              refine lv_goto (tgt := 7) hx hb dX0_nextSet_49 (by decide) ?_
              exact ih7k2 v15 (nI bb) pz bb (by omega) (by omega) (m1_d ev15) (Or.inr rfl) (NXT_k hn (nI_nm1 (by omega)) b40) _ _ _ hP hS (lv_sub hl [0, 1, 2, 3] rfl)
            · have b40 := qge_f (a := (prc cp mm pz)) (b := (prc cp mm bb)) (by omega) (by omega) c14
              refine lv_iload hx hb dX0_nextSet_43 (lv_at hl 0 rfl) ?_
              refine lv_istore_n (lv' := [(3, .int (nI pz)), (4, .int (nI pz)), (0, .ref (ga 9)), (2, .int lz)]) hx hb dX0_nextSet_45 rfl hl (by decide) rfl (fun ls hl => ?_)
              obtain ⟨v16, ev16⟩ : ∃ y9 : Int32, y9 = (nI pz) + Int32.ofInt (-1) := ⟨_, rfl⟩
              refine lv_iinc (v := v16) (lv' := [(4, .int v16), (3, .int (nI pz)), (0, .ref (ga 9)), (2, .int lz)]) hx hb dX0_nextSet_46 hl (k := 1) rfl ev16.symm (by decide) rfl (fun ls hl => ?_)
              refine lv_goto (tgt := 7) hx hb dX0_nextSet_49 (by decide) ?_
              exact ih7k2 v16 (nI pz) pz pz (by omega) (by omega) (m1_d ev16) (Or.inr rfl) (NXT_t hn (by omega) b19 (fun _ => b40) (nI_nm1 (by omega))) _ _ _ hP hS (lv_sub hl [0, 1, 2, 3] rfl)
  exact loop7 (sz + 1) v1 (-1) sz 0 (by omega) (by omega) (ev1) (Or.inl rfl) (Or.inl ⟨fun h9 => h9 rfl, fun s h8 h9 => absurd h8 (by omega)⟩) _ _ _ hP hS (lv_sub hl [0, 1, 2, 4] rfl)
