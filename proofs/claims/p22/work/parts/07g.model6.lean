theorem mf_X7_86 : Cond.fieldLink RX7 86 "CellKeeperModel" "choice" "[I" ∈ TB := TB_t4 130 rfl rfl
theorem ml_X7_251 : Cond.methodLink RX7 251 yX7_costOfSet ∈ TB := TB_t6 3 rfl rfl
theorem mcode_yX7_costOfSet : Cond.code yX7_costOfSet cX7_costOfSet 6 (some .int) ∈ TB := TB_t6 6 rfl rfl
theorem mi_yX7_costOfSet : MI yX7_costOfSet cX7_costOfSet 6 (some .int) 3 := ⟨mz_RX7, mcode_yX7_costOfSet, by decide +kernel, by decide +kernel, by decide +kernel⟩
theorem mim_yX7_costOfSet : Cond.instanceMethod yX7_costOfSet ∈ TB := TB_t6 5 rfl rfl
theorem msel_yX7_costOfSet : Cond.selects yX7_costOfSet.cls yX7_costOfSet yX7_costOfSet ∈ TB := TB_s (n := 43) 72 (by decide +kernel)
theorem mv_yX7_costOfSet : Cond.instanceMethod yX7_costOfSet ∈ TB ∧ Cond.selects yX7_costOfSet.cls yX7_costOfSet yX7_costOfSet ∈ TB := ⟨mim_yX7_costOfSet, msel_yX7_costOfSet⟩
theorem ml_X7_248 : Cond.methodLink RX7 248 yX7_bestOf ∈ TB := TB_t5 239 rfl rfl
theorem mcode_yX7_bestOf : Cond.code yX7_bestOf cX7_bestOf 10 (some .int) ∈ TB := TB_t6 2 rfl rfl
theorem mi_yX7_bestOf : MI yX7_bestOf cX7_bestOf 10 (some .int) 2 := ⟨mz_RX7, mcode_yX7_bestOf, by decide +kernel, by decide +kernel, by decide +kernel⟩
theorem mim_yX7_bestOf : Cond.instanceMethod yX7_bestOf ∈ TB := TB_t6 1 rfl rfl
theorem msel_yX7_bestOf : Cond.selects yX7_bestOf.cls yX7_bestOf yX7_bestOf ∈ TB := TB_s (n := 43) 71 (by decide +kernel)
theorem mv_yX7_bestOf : Cond.instanceMethod yX7_bestOf ∈ TB ∧ Cond.selects yX7_bestOf.cls yX7_bestOf yX7_bestOf ∈ TB := ⟨mim_yX7_bestOf, msel_yX7_bestOf⟩
theorem kcX7_costOfSet_0 : CHb cX7_costOfSet 0 [3, 54, 4, 3, 54, 5, 21, 5, 28, 162, 0, 44, 21, 4, 29, 28, 4, 100, 21, 5, 100, 122, 4, 126, 4, 160, 0, 18, 42, 27, 42, 180, 0, 86, 21, 5, 46, 182, 0, 242, 167, 0, 4, 3, 96, 54, 4, 132, 5, 1, 167, 255, 212, 21, 4, 172] := CHb_of (by decide +kernel)
theorem dX7_costOfSet_0 : decode cX7_costOfSet 0 = .ok (.iconst 0, 1) := dw_3 (kcX7_costOfSet_0 0 3 rfl)
theorem dX7_costOfSet_1 : decode cX7_costOfSet 1 = .ok (.istore 4, 2) := dw_54 (kcX7_costOfSet_0 1 54 rfl) (kcX7_costOfSet_0 2 4 rfl)
theorem dX7_costOfSet_3 : decode cX7_costOfSet 3 = .ok (.iconst 0, 1) := dw_3 (kcX7_costOfSet_0 3 3 rfl)
theorem dX7_costOfSet_4 : decode cX7_costOfSet 4 = .ok (.istore 5, 2) := dw_54 (kcX7_costOfSet_0 4 54 rfl) (kcX7_costOfSet_0 5 5 rfl)
theorem dX7_costOfSet_6 : decode cX7_costOfSet 6 = .ok (.iload 5, 2) := dw_21 (kcX7_costOfSet_0 6 21 rfl) (kcX7_costOfSet_0 7 5 rfl)
theorem dX7_costOfSet_8 : decode cX7_costOfSet 8 = .ok (.iload_n 2, 1) := dw_28 (kcX7_costOfSet_0 8 28 rfl)
theorem dX7_costOfSet_9 : decode cX7_costOfSet 9 = .ok (.if_icmp .ge 44, 3) := dw_162 (kcX7_costOfSet_0 9 162 rfl) (kcX7_costOfSet_0 10 0 rfl) (kcX7_costOfSet_0 11 44 rfl) rfl
theorem dX7_costOfSet_12 : decode cX7_costOfSet 12 = .ok (.iload 4, 2) := dw_21 (kcX7_costOfSet_0 12 21 rfl) (kcX7_costOfSet_0 13 4 rfl)
theorem dX7_costOfSet_14 : decode cX7_costOfSet 14 = .ok (.iload_n 3, 1) := dw_29 (kcX7_costOfSet_0 14 29 rfl)
theorem dX7_costOfSet_15 : decode cX7_costOfSet 15 = .ok (.iload_n 2, 1) := dw_28 (kcX7_costOfSet_0 15 28 rfl)
theorem dX7_costOfSet_16 : decode cX7_costOfSet 16 = .ok (.iconst 1, 1) := dw_4 (kcX7_costOfSet_0 16 4 rfl)
theorem dX7_costOfSet_17 : decode cX7_costOfSet 17 = .ok (.isub, 1) := dw_100 (kcX7_costOfSet_0 17 100 rfl)
theorem dX7_costOfSet_18 : decode cX7_costOfSet 18 = .ok (.iload 5, 2) := dw_21 (kcX7_costOfSet_0 18 21 rfl) (kcX7_costOfSet_0 19 5 rfl)
theorem dX7_costOfSet_20 : decode cX7_costOfSet 20 = .ok (.isub, 1) := dw_100 (kcX7_costOfSet_0 20 100 rfl)
theorem dX7_costOfSet_21 : decode cX7_costOfSet 21 = .ok (.ishr, 1) := dw_122 (kcX7_costOfSet_0 21 122 rfl)
theorem dX7_costOfSet_22 : decode cX7_costOfSet 22 = .ok (.iconst 1, 1) := dw_4 (kcX7_costOfSet_0 22 4 rfl)
theorem dX7_costOfSet_23 : decode cX7_costOfSet 23 = .ok (.iand, 1) := dw_126 (kcX7_costOfSet_0 23 126 rfl)
theorem dX7_costOfSet_24 : decode cX7_costOfSet 24 = .ok (.iconst 1, 1) := dw_4 (kcX7_costOfSet_0 24 4 rfl)
theorem dX7_costOfSet_25 : decode cX7_costOfSet 25 = .ok (.if_icmp .ne 18, 3) := dw_160 (kcX7_costOfSet_0 25 160 rfl) (kcX7_costOfSet_0 26 0 rfl) (kcX7_costOfSet_0 27 18 rfl) rfl
theorem dX7_costOfSet_43 : decode cX7_costOfSet 43 = .ok (.iconst 0, 1) := dw_3 (kcX7_costOfSet_0 43 3 rfl)
theorem dX7_costOfSet_44 : decode cX7_costOfSet 44 = .ok (.iadd, 1) := dw_96 (kcX7_costOfSet_0 44 96 rfl)
theorem dX7_costOfSet_45 : decode cX7_costOfSet 45 = .ok (.istore 4, 2) := dw_54 (kcX7_costOfSet_0 45 54 rfl) (kcX7_costOfSet_0 46 4 rfl)
theorem dX7_costOfSet_47 : decode cX7_costOfSet 47 = .ok (.iinc 5 1, 3) := dw_132 (kcX7_costOfSet_0 47 132 rfl) (kcX7_costOfSet_0 48 5 rfl) (kcX7_costOfSet_0 49 1 rfl) rfl
theorem dX7_costOfSet_50 : decode cX7_costOfSet 50 = .ok (.goto (-44), 3) := dw_167 (kcX7_costOfSet_0 50 167 rfl) (kcX7_costOfSet_0 51 255 rfl) (kcX7_costOfSet_0 52 212 rfl) rfl
theorem dX7_costOfSet_28 : decode cX7_costOfSet 28 = .ok (.aload_n 0, 1) := dw_42 (kcX7_costOfSet_0 28 42 rfl)
theorem dX7_costOfSet_29 : decode cX7_costOfSet 29 = .ok (.iload_n 1, 1) := dw_27 (kcX7_costOfSet_0 29 27 rfl)
theorem dX7_costOfSet_30 : decode cX7_costOfSet 30 = .ok (.aload_n 0, 1) := dw_42 (kcX7_costOfSet_0 30 42 rfl)
theorem dX7_costOfSet_31 : decode cX7_costOfSet 31 = .ok (.getfield 86, 3) := dw_180 (kcX7_costOfSet_0 31 180 rfl) (kcX7_costOfSet_0 32 0 rfl) (kcX7_costOfSet_0 33 86 rfl) rfl
theorem dX7_costOfSet_34 : decode cX7_costOfSet 34 = .ok (.iload 5, 2) := dw_21 (kcX7_costOfSet_0 34 21 rfl) (kcX7_costOfSet_0 35 5 rfl)
theorem dX7_costOfSet_36 : decode cX7_costOfSet 36 = .ok (.iaload, 1) := dw_46 (kcX7_costOfSet_0 36 46 rfl)
theorem dX7_costOfSet_37 : decode cX7_costOfSet 37 = .ok (.invokevirtual 242, 3) := dw_182 (kcX7_costOfSet_0 37 182 rfl) (kcX7_costOfSet_0 38 0 rfl) (kcX7_costOfSet_0 39 242 rfl) rfl
theorem dX7_costOfSet_40 : decode cX7_costOfSet 40 = .ok (.goto 4, 3) := dw_167 (kcX7_costOfSet_0 40 167 rfl) (kcX7_costOfSet_0 41 0 rfl) (kcX7_costOfSet_0 42 4 rfl) rfl
theorem dX7_costOfSet_53 : decode cX7_costOfSet 53 = .ok (.iload 4, 2) := dw_21 (kcX7_costOfSet_0 53 21 rfl) (kcX7_costOfSet_0 54 4 rfl)
theorem dX7_costOfSet_55 : decode cX7_costOfSet 55 = .ok (.ireturn, 1) := dw_172 (kcX7_costOfSet_0 55 172 rfl)
theorem kcX7_bestOf_0 : CHb cX7_bestOf 0 [2, 62, 3, 54, 4, 2, 54, 5, 3, 54, 6, 4, 28, 120, 4, 100, 54, 7, 21, 7, 155, 0, 74, 42, 27, 28, 21, 7, 182, 0, 251, 54, 8, 21, 8, 29, 163, 0, 16, 21, 8, 29, 160, 0, 14, 21, 7, 21, 4, 162, 0, 7, 4, 167, 0, 4, 3, 54, 9, 21, 9, 153, 0, 27] := CHb_of (by decide +kernel)
theorem dX7_bestOf_0 : decode cX7_bestOf 0 = .ok (.iconst (-1), 1) := dw_2 (kcX7_bestOf_0 0 2 rfl)
theorem dX7_bestOf_1 : decode cX7_bestOf 1 = .ok (.istore_n 3, 1) := dw_62 (kcX7_bestOf_0 1 62 rfl)
theorem dX7_bestOf_2 : decode cX7_bestOf 2 = .ok (.iconst 0, 1) := dw_3 (kcX7_bestOf_0 2 3 rfl)
theorem dX7_bestOf_3 : decode cX7_bestOf 3 = .ok (.istore 4, 2) := dw_54 (kcX7_bestOf_0 3 54 rfl) (kcX7_bestOf_0 4 4 rfl)
theorem dX7_bestOf_5 : decode cX7_bestOf 5 = .ok (.iconst (-1), 1) := dw_2 (kcX7_bestOf_0 5 2 rfl)
theorem dX7_bestOf_6 : decode cX7_bestOf 6 = .ok (.istore 5, 2) := dw_54 (kcX7_bestOf_0 6 54 rfl) (kcX7_bestOf_0 7 5 rfl)
theorem dX7_bestOf_8 : decode cX7_bestOf 8 = .ok (.iconst 0, 1) := dw_3 (kcX7_bestOf_0 8 3 rfl)
theorem dX7_bestOf_9 : decode cX7_bestOf 9 = .ok (.istore 6, 2) := dw_54 (kcX7_bestOf_0 9 54 rfl) (kcX7_bestOf_0 10 6 rfl)
theorem dX7_bestOf_11 : decode cX7_bestOf 11 = .ok (.iconst 1, 1) := dw_4 (kcX7_bestOf_0 11 4 rfl)
theorem dX7_bestOf_12 : decode cX7_bestOf 12 = .ok (.iload_n 2, 1) := dw_28 (kcX7_bestOf_0 12 28 rfl)
theorem dX7_bestOf_13 : decode cX7_bestOf 13 = .ok (.ishl, 1) := dw_120 (kcX7_bestOf_0 13 120 rfl)
theorem dX7_bestOf_14 : decode cX7_bestOf 14 = .ok (.iconst 1, 1) := dw_4 (kcX7_bestOf_0 14 4 rfl)
theorem dX7_bestOf_15 : decode cX7_bestOf 15 = .ok (.isub, 1) := dw_100 (kcX7_bestOf_0 15 100 rfl)
theorem dX7_bestOf_16 : decode cX7_bestOf 16 = .ok (.istore 7, 2) := dw_54 (kcX7_bestOf_0 16 54 rfl) (kcX7_bestOf_0 17 7 rfl)
theorem dX7_bestOf_18 : decode cX7_bestOf 18 = .ok (.iload 7, 2) := dw_21 (kcX7_bestOf_0 18 21 rfl) (kcX7_bestOf_0 19 7 rfl)
theorem dX7_bestOf_20 : decode cX7_bestOf 20 = .ok (.ifCond .lt 74, 3) := dw_155 (kcX7_bestOf_0 20 155 rfl) (kcX7_bestOf_0 21 0 rfl) (kcX7_bestOf_0 22 74 rfl) rfl
theorem dX7_bestOf_23 : decode cX7_bestOf 23 = .ok (.aload_n 0, 1) := dw_42 (kcX7_bestOf_0 23 42 rfl)
theorem dX7_bestOf_24 : decode cX7_bestOf 24 = .ok (.iload_n 1, 1) := dw_27 (kcX7_bestOf_0 24 27 rfl)
theorem dX7_bestOf_25 : decode cX7_bestOf 25 = .ok (.iload_n 2, 1) := dw_28 (kcX7_bestOf_0 25 28 rfl)
theorem dX7_bestOf_26 : decode cX7_bestOf 26 = .ok (.iload 7, 2) := dw_21 (kcX7_bestOf_0 26 21 rfl) (kcX7_bestOf_0 27 7 rfl)
theorem dX7_bestOf_28 : decode cX7_bestOf 28 = .ok (.invokevirtual 251, 3) := dw_182 (kcX7_bestOf_0 28 182 rfl) (kcX7_bestOf_0 29 0 rfl) (kcX7_bestOf_0 30 251 rfl) rfl
theorem dX7_bestOf_31 : decode cX7_bestOf 31 = .ok (.istore 8, 2) := dw_54 (kcX7_bestOf_0 31 54 rfl) (kcX7_bestOf_0 32 8 rfl)
theorem dX7_bestOf_33 : decode cX7_bestOf 33 = .ok (.iload 8, 2) := dw_21 (kcX7_bestOf_0 33 21 rfl) (kcX7_bestOf_0 34 8 rfl)
theorem dX7_bestOf_35 : decode cX7_bestOf 35 = .ok (.iload_n 3, 1) := dw_29 (kcX7_bestOf_0 35 29 rfl)
theorem dX7_bestOf_36 : decode cX7_bestOf 36 = .ok (.if_icmp .gt 16, 3) := dw_163 (kcX7_bestOf_0 36 163 rfl) (kcX7_bestOf_0 37 0 rfl) (kcX7_bestOf_0 38 16 rfl) rfl
theorem dX7_bestOf_52 : decode cX7_bestOf 52 = .ok (.iconst 1, 1) := dw_4 (kcX7_bestOf_0 52 4 rfl)
theorem dX7_bestOf_53 : decode cX7_bestOf 53 = .ok (.goto 4, 3) := dw_167 (kcX7_bestOf_0 53 167 rfl) (kcX7_bestOf_0 54 0 rfl) (kcX7_bestOf_0 55 4 rfl) rfl
theorem dX7_bestOf_57 : decode cX7_bestOf 57 = .ok (.istore 9, 2) := dw_54 (kcX7_bestOf_0 57 54 rfl) (kcX7_bestOf_0 58 9 rfl)
theorem dX7_bestOf_59 : decode cX7_bestOf 59 = .ok (.iload 9, 2) := dw_21 (kcX7_bestOf_0 59 21 rfl) (kcX7_bestOf_0 60 9 rfl)
theorem dX7_bestOf_61 : decode cX7_bestOf 61 = .ok (.ifCond .eq 27, 3) := dw_153 (kcX7_bestOf_0 61 153 rfl) (kcX7_bestOf_0 62 0 rfl) (kcX7_bestOf_0 63 27 rfl) rfl
theorem kcX7_bestOf_1 : CHb cX7_bestOf 64 [21, 5, 2, 159, 0, 13, 21, 8, 21, 6, 161, 0, 6, 167, 0, 11, 21, 7, 54, 5, 21, 8, 54, 6, 132, 7, 255, 167, 255, 183, 21, 5, 2, 160, 0, 6, 167, 0, 73, 3, 54, 7, 21, 7, 28, 162, 0, 41, 42, 180, 0, 38, 42, 180, 0, 86, 21, 7, 46, 21, 5, 28, 4, 100] := CHb_of (by decide +kernel)
theorem dX7_bestOf_64 : decode cX7_bestOf 64 = .ok (.iload 5, 2) := dw_21 (kcX7_bestOf_1 0 21 rfl) (kcX7_bestOf_1 1 5 rfl)
theorem dX7_bestOf_66 : decode cX7_bestOf 66 = .ok (.iconst (-1), 1) := dw_2 (kcX7_bestOf_1 2 2 rfl)
theorem dX7_bestOf_67 : decode cX7_bestOf 67 = .ok (.if_icmp .eq 13, 3) := dw_159 (kcX7_bestOf_1 3 159 rfl) (kcX7_bestOf_1 4 0 rfl) (kcX7_bestOf_1 5 13 rfl) rfl
theorem dX7_bestOf_80 : decode cX7_bestOf 80 = .ok (.iload 7, 2) := dw_21 (kcX7_bestOf_1 16 21 rfl) (kcX7_bestOf_1 17 7 rfl)
theorem dX7_bestOf_82 : decode cX7_bestOf 82 = .ok (.istore 5, 2) := dw_54 (kcX7_bestOf_1 18 54 rfl) (kcX7_bestOf_1 19 5 rfl)
theorem dX7_bestOf_84 : decode cX7_bestOf 84 = .ok (.iload 8, 2) := dw_21 (kcX7_bestOf_1 20 21 rfl) (kcX7_bestOf_1 21 8 rfl)
theorem dX7_bestOf_86 : decode cX7_bestOf 86 = .ok (.istore 6, 2) := dw_54 (kcX7_bestOf_1 22 54 rfl) (kcX7_bestOf_1 23 6 rfl)
theorem dX7_bestOf_88 : decode cX7_bestOf 88 = .ok (.iinc 7 (-1), 3) := dw_132 (kcX7_bestOf_1 24 132 rfl) (kcX7_bestOf_1 25 7 rfl) (kcX7_bestOf_1 26 255 rfl) rfl
theorem dX7_bestOf_91 : decode cX7_bestOf 91 = .ok (.goto (-73), 3) := dw_167 (kcX7_bestOf_1 27 167 rfl) (kcX7_bestOf_1 28 255 rfl) (kcX7_bestOf_1 29 183 rfl) rfl
theorem dX7_bestOf_70 : decode cX7_bestOf 70 = .ok (.iload 8, 2) := dw_21 (kcX7_bestOf_1 6 21 rfl) (kcX7_bestOf_1 7 8 rfl)
theorem dX7_bestOf_72 : decode cX7_bestOf 72 = .ok (.iload 6, 2) := dw_21 (kcX7_bestOf_1 8 21 rfl) (kcX7_bestOf_1 9 6 rfl)
theorem dX7_bestOf_74 : decode cX7_bestOf 74 = .ok (.if_icmp .lt 6, 3) := dw_161 (kcX7_bestOf_1 10 161 rfl) (kcX7_bestOf_1 11 0 rfl) (kcX7_bestOf_1 12 6 rfl) rfl
theorem dX7_bestOf_77 : decode cX7_bestOf 77 = .ok (.goto 11, 3) := dw_167 (kcX7_bestOf_1 13 167 rfl) (kcX7_bestOf_1 14 0 rfl) (kcX7_bestOf_1 15 11 rfl) rfl
theorem dX7_bestOf_39 : decode cX7_bestOf 39 = .ok (.iload 8, 2) := dw_21 (kcX7_bestOf_0 39 21 rfl) (kcX7_bestOf_0 40 8 rfl)
theorem dX7_bestOf_41 : decode cX7_bestOf 41 = .ok (.iload_n 3, 1) := dw_29 (kcX7_bestOf_0 41 29 rfl)
theorem dX7_bestOf_42 : decode cX7_bestOf 42 = .ok (.if_icmp .ne 14, 3) := dw_160 (kcX7_bestOf_0 42 160 rfl) (kcX7_bestOf_0 43 0 rfl) (kcX7_bestOf_0 44 14 rfl) rfl
theorem dX7_bestOf_56 : decode cX7_bestOf 56 = .ok (.iconst 0, 1) := dw_3 (kcX7_bestOf_0 56 3 rfl)
theorem dX7_bestOf_45 : decode cX7_bestOf 45 = .ok (.iload 7, 2) := dw_21 (kcX7_bestOf_0 45 21 rfl) (kcX7_bestOf_0 46 7 rfl)
theorem dX7_bestOf_47 : decode cX7_bestOf 47 = .ok (.iload 4, 2) := dw_21 (kcX7_bestOf_0 47 21 rfl) (kcX7_bestOf_0 48 4 rfl)
theorem dX7_bestOf_49 : decode cX7_bestOf 49 = .ok (.if_icmp .ge 7, 3) := dw_162 (kcX7_bestOf_0 49 162 rfl) (kcX7_bestOf_0 50 0 rfl) (kcX7_bestOf_0 51 7 rfl) rfl
theorem dX7_bestOf_94 : decode cX7_bestOf 94 = .ok (.iload 5, 2) := dw_21 (kcX7_bestOf_1 30 21 rfl) (kcX7_bestOf_1 31 5 rfl)
theorem dX7_bestOf_96 : decode cX7_bestOf 96 = .ok (.iconst (-1), 1) := dw_2 (kcX7_bestOf_1 32 2 rfl)
theorem dX7_bestOf_97 : decode cX7_bestOf 97 = .ok (.if_icmp .ne 6, 3) := dw_160 (kcX7_bestOf_1 33 160 rfl) (kcX7_bestOf_1 34 0 rfl) (kcX7_bestOf_1 35 6 rfl) rfl
theorem dX7_bestOf_103 : decode cX7_bestOf 103 = .ok (.iconst 0, 1) := dw_3 (kcX7_bestOf_1 39 3 rfl)
theorem dX7_bestOf_104 : decode cX7_bestOf 104 = .ok (.istore 7, 2) := dw_54 (kcX7_bestOf_1 40 54 rfl) (kcX7_bestOf_1 41 7 rfl)
theorem dX7_bestOf_106 : decode cX7_bestOf 106 = .ok (.iload 7, 2) := dw_21 (kcX7_bestOf_1 42 21 rfl) (kcX7_bestOf_1 43 7 rfl)
theorem dX7_bestOf_108 : decode cX7_bestOf 108 = .ok (.iload_n 2, 1) := dw_28 (kcX7_bestOf_1 44 28 rfl)
theorem dX7_bestOf_109 : decode cX7_bestOf 109 = .ok (.if_icmp .ge 41, 3) := dw_162 (kcX7_bestOf_1 45 162 rfl) (kcX7_bestOf_1 46 0 rfl) (kcX7_bestOf_1 47 41 rfl) rfl
theorem dX7_bestOf_112 : decode cX7_bestOf 112 = .ok (.aload_n 0, 1) := dw_42 (kcX7_bestOf_1 48 42 rfl)
theorem dX7_bestOf_113 : decode cX7_bestOf 113 = .ok (.getfield 38, 3) := dw_180 (kcX7_bestOf_1 49 180 rfl) (kcX7_bestOf_1 50 0 rfl) (kcX7_bestOf_1 51 38 rfl) rfl
theorem dX7_bestOf_116 : decode cX7_bestOf 116 = .ok (.aload_n 0, 1) := dw_42 (kcX7_bestOf_1 52 42 rfl)
theorem dX7_bestOf_117 : decode cX7_bestOf 117 = .ok (.getfield 86, 3) := dw_180 (kcX7_bestOf_1 53 180 rfl) (kcX7_bestOf_1 54 0 rfl) (kcX7_bestOf_1 55 86 rfl) rfl
theorem dX7_bestOf_120 : decode cX7_bestOf 120 = .ok (.iload 7, 2) := dw_21 (kcX7_bestOf_1 56 21 rfl) (kcX7_bestOf_1 57 7 rfl)
theorem dX7_bestOf_122 : decode cX7_bestOf 122 = .ok (.iaload, 1) := dw_46 (kcX7_bestOf_1 58 46 rfl)
theorem dX7_bestOf_123 : decode cX7_bestOf 123 = .ok (.iload 5, 2) := dw_21 (kcX7_bestOf_1 59 21 rfl) (kcX7_bestOf_1 60 5 rfl)
theorem dX7_bestOf_125 : decode cX7_bestOf 125 = .ok (.iload_n 2, 1) := dw_28 (kcX7_bestOf_1 61 28 rfl)
theorem dX7_bestOf_126 : decode cX7_bestOf 126 = .ok (.iconst 1, 1) := dw_4 (kcX7_bestOf_1 62 4 rfl)
theorem dX7_bestOf_127 : decode cX7_bestOf 127 = .ok (.isub, 1) := dw_100 (kcX7_bestOf_1 63 100 rfl)
theorem kcX7_bestOf_2 : CHb cX7_bestOf 128 [21, 7, 100, 122, 4, 126, 4, 160, 0, 7, 4, 167, 0, 4, 3, 84, 132, 7, 1, 167, 255, 215, 42, 27, 3, 182, 0, 230, 2, 160, 0, 6, 21, 5, 172, 21, 6, 62, 21, 5, 54, 4, 167, 255, 91, 2, 172] := CHb_of (by decide +kernel)
theorem dX7_bestOf_128 : decode cX7_bestOf 128 = .ok (.iload 7, 2) := dw_21 (kcX7_bestOf_2 0 21 rfl) (kcX7_bestOf_2 1 7 rfl)
theorem dX7_bestOf_130 : decode cX7_bestOf 130 = .ok (.isub, 1) := dw_100 (kcX7_bestOf_2 2 100 rfl)
theorem dX7_bestOf_131 : decode cX7_bestOf 131 = .ok (.ishr, 1) := dw_122 (kcX7_bestOf_2 3 122 rfl)
theorem dX7_bestOf_132 : decode cX7_bestOf 132 = .ok (.iconst 1, 1) := dw_4 (kcX7_bestOf_2 4 4 rfl)
theorem dX7_bestOf_133 : decode cX7_bestOf 133 = .ok (.iand, 1) := dw_126 (kcX7_bestOf_2 5 126 rfl)
theorem dX7_bestOf_134 : decode cX7_bestOf 134 = .ok (.iconst 1, 1) := dw_4 (kcX7_bestOf_2 6 4 rfl)
theorem dX7_bestOf_135 : decode cX7_bestOf 135 = .ok (.if_icmp .ne 7, 3) := dw_160 (kcX7_bestOf_2 7 160 rfl) (kcX7_bestOf_2 8 0 rfl) (kcX7_bestOf_2 9 7 rfl) rfl
theorem dX7_bestOf_142 : decode cX7_bestOf 142 = .ok (.iconst 0, 1) := dw_3 (kcX7_bestOf_2 14 3 rfl)
theorem dX7_bestOf_138 : decode cX7_bestOf 138 = .ok (.iconst 1, 1) := dw_4 (kcX7_bestOf_2 10 4 rfl)
theorem dX7_bestOf_139 : decode cX7_bestOf 139 = .ok (.goto 4, 3) := dw_167 (kcX7_bestOf_2 11 167 rfl) (kcX7_bestOf_2 12 0 rfl) (kcX7_bestOf_2 13 4 rfl) rfl
theorem dX7_bestOf_143 : decode cX7_bestOf 143 = .ok (.bastore, 1) := dw_84 (kcX7_bestOf_2 15 84 rfl)
theorem dX7_bestOf_144 : decode cX7_bestOf 144 = .ok (.iinc 7 1, 3) := dw_132 (kcX7_bestOf_2 16 132 rfl) (kcX7_bestOf_2 17 7 rfl) (kcX7_bestOf_2 18 1 rfl) rfl
theorem dX7_bestOf_147 : decode cX7_bestOf 147 = .ok (.goto (-41), 3) := dw_167 (kcX7_bestOf_2 19 167 rfl) (kcX7_bestOf_2 20 255 rfl) (kcX7_bestOf_2 21 215 rfl) rfl
theorem dX7_bestOf_150 : decode cX7_bestOf 150 = .ok (.aload_n 0, 1) := dw_42 (kcX7_bestOf_2 22 42 rfl)
theorem dX7_bestOf_151 : decode cX7_bestOf 151 = .ok (.iload_n 1, 1) := dw_27 (kcX7_bestOf_2 23 27 rfl)
theorem dX7_bestOf_152 : decode cX7_bestOf 152 = .ok (.iconst 0, 1) := dw_3 (kcX7_bestOf_2 24 3 rfl)
theorem dX7_bestOf_153 : decode cX7_bestOf 153 = .ok (.invokevirtual 230, 3) := dw_182 (kcX7_bestOf_2 25 182 rfl) (kcX7_bestOf_2 26 0 rfl) (kcX7_bestOf_2 27 230 rfl) rfl
theorem dX7_bestOf_156 : decode cX7_bestOf 156 = .ok (.iconst (-1), 1) := dw_2 (kcX7_bestOf_2 28 2 rfl)
theorem dX7_bestOf_157 : decode cX7_bestOf 157 = .ok (.if_icmp .ne 6, 3) := dw_160 (kcX7_bestOf_2 29 160 rfl) (kcX7_bestOf_2 30 0 rfl) (kcX7_bestOf_2 31 6 rfl) rfl
theorem dX7_bestOf_163 : decode cX7_bestOf 163 = .ok (.iload 6, 2) := dw_21 (kcX7_bestOf_2 35 21 rfl) (kcX7_bestOf_2 36 6 rfl)
theorem dX7_bestOf_165 : decode cX7_bestOf 165 = .ok (.istore_n 3, 1) := dw_62 (kcX7_bestOf_2 37 62 rfl)
theorem dX7_bestOf_166 : decode cX7_bestOf 166 = .ok (.iload 5, 2) := dw_21 (kcX7_bestOf_2 38 21 rfl) (kcX7_bestOf_2 39 5 rfl)
theorem dX7_bestOf_168 : decode cX7_bestOf 168 = .ok (.istore 4, 2) := dw_54 (kcX7_bestOf_2 40 54 rfl) (kcX7_bestOf_2 41 4 rfl)
theorem dX7_bestOf_170 : decode cX7_bestOf 170 = .ok (.goto (-165), 3) := dw_167 (kcX7_bestOf_2 42 167 rfl) (kcX7_bestOf_2 43 255 rfl) (kcX7_bestOf_2 44 91 rfl) rfl
theorem dX7_bestOf_160 : decode cX7_bestOf 160 = .ok (.iload 5, 2) := dw_21 (kcX7_bestOf_2 32 21 rfl) (kcX7_bestOf_2 33 5 rfl)
theorem dX7_bestOf_162 : decode cX7_bestOf 162 = .ok (.ireturn, 1) := dw_172 (kcX7_bestOf_2 34 172 rfl)
theorem dX7_bestOf_100 : decode cX7_bestOf 100 = .ok (.goto 73, 3) := dw_167 (kcX7_bestOf_1 36 167 rfl) (kcX7_bestOf_1 37 0 rfl) (kcX7_bestOf_1 38 73 rfl) rfl
theorem dX7_bestOf_173 : decode cX7_bestOf 173 = .ok (.iconst (-1), 1) := dw_2 (kcX7_bestOf_2 45 2 rfl)
theorem dX7_bestOf_174 : decode cX7_bestOf 174 = .ok (.ireturn, 1) := dw_172 (kcX7_bestOf_2 46 172 rfl)
theorem kcX7_fewest_0 : CHb cX7_fewest 0 [42, 42, 27, 182, 0, 120, 153, 0, 7, 3, 167, 0, 4, 4, 181, 0, 116, 42, 180, 0, 116, 158, 0, 5, 2, 172, 3, 61, 3, 62, 29, 42, 180, 0, 13, 27, 46, 162, 0, 88, 3, 54, 4, 21, 4, 42, 180, 0, 17, 27, 46, 162, 0, 68, 42, 27, 29, 182, 0, 161, 153, 0, 59, 27] := CHb_of (by decide +kernel)
theorem dX7_fewest_0 : decode cX7_fewest 0 = .ok (.aload_n 0, 1) := dw_42 (kcX7_fewest_0 0 42 rfl)
theorem dX7_fewest_1 : decode cX7_fewest 1 = .ok (.aload_n 0, 1) := dw_42 (kcX7_fewest_0 1 42 rfl)
theorem dX7_fewest_2 : decode cX7_fewest 2 = .ok (.iload_n 1, 1) := dw_27 (kcX7_fewest_0 2 27 rfl)
theorem dX7_fewest_3 : decode cX7_fewest 3 = .ok (.invokevirtual 120, 3) := dw_182 (kcX7_fewest_0 3 182 rfl) (kcX7_fewest_0 4 0 rfl) (kcX7_fewest_0 5 120 rfl) rfl
theorem dX7_fewest_6 : decode cX7_fewest 6 = .ok (.ifCond .eq 7, 3) := dw_153 (kcX7_fewest_0 6 153 rfl) (kcX7_fewest_0 7 0 rfl) (kcX7_fewest_0 8 7 rfl) rfl
theorem dX7_fewest_13 : decode cX7_fewest 13 = .ok (.iconst 1, 1) := dw_4 (kcX7_fewest_0 13 4 rfl)
theorem dX7_fewest_14 : decode cX7_fewest 14 = .ok (.putfield 116, 3) := dw_181 (kcX7_fewest_0 14 181 rfl) (kcX7_fewest_0 15 0 rfl) (kcX7_fewest_0 16 116 rfl) rfl
theorem dX7_fewest_17 : decode cX7_fewest 17 = .ok (.aload_n 0, 1) := dw_42 (kcX7_fewest_0 17 42 rfl)
theorem dX7_fewest_18 : decode cX7_fewest 18 = .ok (.getfield 116, 3) := dw_180 (kcX7_fewest_0 18 180 rfl) (kcX7_fewest_0 19 0 rfl) (kcX7_fewest_0 20 116 rfl) rfl
theorem dX7_fewest_21 : decode cX7_fewest 21 = .ok (.ifCond .le 5, 3) := dw_158 (kcX7_fewest_0 21 158 rfl) (kcX7_fewest_0 22 0 rfl) (kcX7_fewest_0 23 5 rfl) rfl
theorem dX7_fewest_24 : decode cX7_fewest 24 = .ok (.iconst (-1), 1) := dw_2 (kcX7_fewest_0 24 2 rfl)
theorem dX7_fewest_25 : decode cX7_fewest 25 = .ok (.ireturn, 1) := dw_172 (kcX7_fewest_0 25 172 rfl)
theorem dX7_fewest_9 : decode cX7_fewest 9 = .ok (.iconst 0, 1) := dw_3 (kcX7_fewest_0 9 3 rfl)
theorem dX7_fewest_10 : decode cX7_fewest 10 = .ok (.goto 4, 3) := dw_167 (kcX7_fewest_0 10 167 rfl) (kcX7_fewest_0 11 0 rfl) (kcX7_fewest_0 12 4 rfl) rfl
theorem dX7_fewest_26 : decode cX7_fewest 26 = .ok (.iconst 0, 1) := dw_3 (kcX7_fewest_0 26 3 rfl)
theorem dX7_fewest_27 : decode cX7_fewest 27 = .ok (.istore_n 2, 1) := dw_61 (kcX7_fewest_0 27 61 rfl)
theorem dX7_fewest_28 : decode cX7_fewest 28 = .ok (.iconst 0, 1) := dw_3 (kcX7_fewest_0 28 3 rfl)
theorem dX7_fewest_29 : decode cX7_fewest 29 = .ok (.istore_n 3, 1) := dw_62 (kcX7_fewest_0 29 62 rfl)
theorem dX7_fewest_30 : decode cX7_fewest 30 = .ok (.iload_n 3, 1) := dw_29 (kcX7_fewest_0 30 29 rfl)
theorem dX7_fewest_31 : decode cX7_fewest 31 = .ok (.aload_n 0, 1) := dw_42 (kcX7_fewest_0 31 42 rfl)
theorem dX7_fewest_32 : decode cX7_fewest 32 = .ok (.getfield 13, 3) := dw_180 (kcX7_fewest_0 32 180 rfl) (kcX7_fewest_0 33 0 rfl) (kcX7_fewest_0 34 13 rfl) rfl
theorem dX7_fewest_35 : decode cX7_fewest 35 = .ok (.iload_n 1, 1) := dw_27 (kcX7_fewest_0 35 27 rfl)
theorem dX7_fewest_36 : decode cX7_fewest 36 = .ok (.iaload, 1) := dw_46 (kcX7_fewest_0 36 46 rfl)
theorem dX7_fewest_37 : decode cX7_fewest 37 = .ok (.if_icmp .ge 88, 3) := dw_162 (kcX7_fewest_0 37 162 rfl) (kcX7_fewest_0 38 0 rfl) (kcX7_fewest_0 39 88 rfl) rfl
theorem dX7_fewest_40 : decode cX7_fewest 40 = .ok (.iconst 0, 1) := dw_3 (kcX7_fewest_0 40 3 rfl)
theorem dX7_fewest_41 : decode cX7_fewest 41 = .ok (.istore 4, 2) := dw_54 (kcX7_fewest_0 41 54 rfl) (kcX7_fewest_0 42 4 rfl)
theorem dX7_fewest_43 : decode cX7_fewest 43 = .ok (.iload 4, 2) := dw_21 (kcX7_fewest_0 43 21 rfl) (kcX7_fewest_0 44 4 rfl)
theorem dX7_fewest_45 : decode cX7_fewest 45 = .ok (.aload_n 0, 1) := dw_42 (kcX7_fewest_0 45 42 rfl)
theorem dX7_fewest_46 : decode cX7_fewest 46 = .ok (.getfield 17, 3) := dw_180 (kcX7_fewest_0 46 180 rfl) (kcX7_fewest_0 47 0 rfl) (kcX7_fewest_0 48 17 rfl) rfl
theorem dX7_fewest_49 : decode cX7_fewest 49 = .ok (.iload_n 1, 1) := dw_27 (kcX7_fewest_0 49 27 rfl)
theorem dX7_fewest_50 : decode cX7_fewest 50 = .ok (.iaload, 1) := dw_46 (kcX7_fewest_0 50 46 rfl)
theorem dX7_fewest_51 : decode cX7_fewest 51 = .ok (.if_icmp .ge 68, 3) := dw_162 (kcX7_fewest_0 51 162 rfl) (kcX7_fewest_0 52 0 rfl) (kcX7_fewest_0 53 68 rfl) rfl
theorem kcX7_fewest_1 : CHb cX7_fewest 64 [29, 21, 4, 184, 0, 147, 54, 5, 42, 180, 0, 23, 21, 5, 46, 7, 159, 0, 33, 42, 27, 21, 5, 182, 0, 175, 158, 0, 6, 167, 0, 20, 28, 16, 12, 162, 0, 11, 42, 180, 0, 86, 28, 21, 5, 79, 132, 2, 1, 132, 4, 1, 167, 255, 183, 132, 3, 1, 167, 255, 164, 28, 16, 8] := CHb_of (by decide +kernel)
theorem dX7_fewest_119 : decode cX7_fewest 119 = .ok (.iinc 3 1, 3) := dw_132 (kcX7_fewest_1 55 132 rfl) (kcX7_fewest_1 56 3 rfl) (kcX7_fewest_1 57 1 rfl) rfl
theorem dX7_fewest_122 : decode cX7_fewest 122 = .ok (.goto (-92), 3) := dw_167 (kcX7_fewest_1 58 167 rfl) (kcX7_fewest_1 59 255 rfl) (kcX7_fewest_1 60 164 rfl) rfl
theorem dX7_fewest_54 : decode cX7_fewest 54 = .ok (.aload_n 0, 1) := dw_42 (kcX7_fewest_0 54 42 rfl)
theorem dX7_fewest_55 : decode cX7_fewest 55 = .ok (.iload_n 1, 1) := dw_27 (kcX7_fewest_0 55 27 rfl)
theorem dX7_fewest_56 : decode cX7_fewest 56 = .ok (.iload_n 3, 1) := dw_29 (kcX7_fewest_0 56 29 rfl)
theorem dX7_fewest_57 : decode cX7_fewest 57 = .ok (.invokevirtual 161, 3) := dw_182 (kcX7_fewest_0 57 182 rfl) (kcX7_fewest_0 58 0 rfl) (kcX7_fewest_0 59 161 rfl) rfl
theorem dX7_fewest_60 : decode cX7_fewest 60 = .ok (.ifCond .eq 59, 3) := dw_153 (kcX7_fewest_0 60 153 rfl) (kcX7_fewest_0 61 0 rfl) (kcX7_fewest_0 62 59 rfl) rfl
theorem dX7_fewest_63 : decode cX7_fewest 63 = .ok (.iload_n 1, 1) := dw_27 (kcX7_fewest_0 63 27 rfl)
theorem dX7_fewest_64 : decode cX7_fewest 64 = .ok (.iload_n 3, 1) := dw_29 (kcX7_fewest_1 0 29 rfl)
theorem dX7_fewest_65 : decode cX7_fewest 65 = .ok (.iload 4, 2) := dw_21 (kcX7_fewest_1 1 21 rfl) (kcX7_fewest_1 2 4 rfl)
theorem dX7_fewest_67 : decode cX7_fewest 67 = .ok (.invokestatic 147, 3) := dw_184 (kcX7_fewest_1 3 184 rfl) (kcX7_fewest_1 4 0 rfl) (kcX7_fewest_1 5 147 rfl) rfl
theorem dX7_fewest_70 : decode cX7_fewest 70 = .ok (.istore 5, 2) := dw_54 (kcX7_fewest_1 6 54 rfl) (kcX7_fewest_1 7 5 rfl)
theorem dX7_fewest_72 : decode cX7_fewest 72 = .ok (.aload_n 0, 1) := dw_42 (kcX7_fewest_1 8 42 rfl)
theorem dX7_fewest_73 : decode cX7_fewest 73 = .ok (.getfield 23, 3) := dw_180 (kcX7_fewest_1 9 180 rfl) (kcX7_fewest_1 10 0 rfl) (kcX7_fewest_1 11 23 rfl) rfl
theorem dX7_fewest_76 : decode cX7_fewest 76 = .ok (.iload 5, 2) := dw_21 (kcX7_fewest_1 12 21 rfl) (kcX7_fewest_1 13 5 rfl)
theorem dX7_fewest_78 : decode cX7_fewest 78 = .ok (.iaload, 1) := dw_46 (kcX7_fewest_1 14 46 rfl)
theorem dX7_fewest_79 : decode cX7_fewest 79 = .ok (.iconst 4, 1) := dw_7 (kcX7_fewest_1 15 7 rfl)
theorem dX7_fewest_80 : decode cX7_fewest 80 = .ok (.if_icmp .eq 33, 3) := dw_159 (kcX7_fewest_1 16 159 rfl) (kcX7_fewest_1 17 0 rfl) (kcX7_fewest_1 18 33 rfl) rfl
theorem dX7_fewest_113 : decode cX7_fewest 113 = .ok (.iinc 4 1, 3) := dw_132 (kcX7_fewest_1 49 132 rfl) (kcX7_fewest_1 50 4 rfl) (kcX7_fewest_1 51 1 rfl) rfl
theorem dX7_fewest_116 : decode cX7_fewest 116 = .ok (.goto (-73), 3) := dw_167 (kcX7_fewest_1 52 167 rfl) (kcX7_fewest_1 53 255 rfl) (kcX7_fewest_1 54 183 rfl) rfl
theorem dX7_fewest_83 : decode cX7_fewest 83 = .ok (.aload_n 0, 1) := dw_42 (kcX7_fewest_1 19 42 rfl)
theorem dX7_fewest_84 : decode cX7_fewest 84 = .ok (.iload_n 1, 1) := dw_27 (kcX7_fewest_1 20 27 rfl)
theorem dX7_fewest_85 : decode cX7_fewest 85 = .ok (.iload 5, 2) := dw_21 (kcX7_fewest_1 21 21 rfl) (kcX7_fewest_1 22 5 rfl)
theorem dX7_fewest_87 : decode cX7_fewest 87 = .ok (.invokevirtual 175, 3) := dw_182 (kcX7_fewest_1 23 182 rfl) (kcX7_fewest_1 24 0 rfl) (kcX7_fewest_1 25 175 rfl) rfl
theorem dX7_fewest_90 : decode cX7_fewest 90 = .ok (.ifCond .le 6, 3) := dw_158 (kcX7_fewest_1 26 158 rfl) (kcX7_fewest_1 27 0 rfl) (kcX7_fewest_1 28 6 rfl) rfl
theorem dX7_fewest_96 : decode cX7_fewest 96 = .ok (.iload_n 2, 1) := dw_28 (kcX7_fewest_1 32 28 rfl)
theorem dX7_fewest_97 : decode cX7_fewest 97 = .ok (.bipush 12, 2) := dw_16 (kcX7_fewest_1 33 16 rfl) (kcX7_fewest_1 34 12 rfl) rfl
theorem dX7_fewest_99 : decode cX7_fewest 99 = .ok (.if_icmp .ge 11, 3) := dw_162 (kcX7_fewest_1 35 162 rfl) (kcX7_fewest_1 36 0 rfl) (kcX7_fewest_1 37 11 rfl) rfl
theorem dX7_fewest_110 : decode cX7_fewest 110 = .ok (.iinc 2 1, 3) := dw_132 (kcX7_fewest_1 46 132 rfl) (kcX7_fewest_1 47 2 rfl) (kcX7_fewest_1 48 1 rfl) rfl
theorem dX7_fewest_102 : decode cX7_fewest 102 = .ok (.aload_n 0, 1) := dw_42 (kcX7_fewest_1 38 42 rfl)
theorem dX7_fewest_103 : decode cX7_fewest 103 = .ok (.getfield 86, 3) := dw_180 (kcX7_fewest_1 39 180 rfl) (kcX7_fewest_1 40 0 rfl) (kcX7_fewest_1 41 86 rfl) rfl
theorem dX7_fewest_106 : decode cX7_fewest 106 = .ok (.iload_n 2, 1) := dw_28 (kcX7_fewest_1 42 28 rfl)
theorem dX7_fewest_107 : decode cX7_fewest 107 = .ok (.iload 5, 2) := dw_21 (kcX7_fewest_1 43 21 rfl) (kcX7_fewest_1 44 5 rfl)
theorem dX7_fewest_109 : decode cX7_fewest 109 = .ok (.iastore, 1) := dw_79 (kcX7_fewest_1 45 79 rfl)
theorem dX7_fewest_93 : decode cX7_fewest 93 = .ok (.goto 20, 3) := dw_167 (kcX7_fewest_1 29 167 rfl) (kcX7_fewest_1 30 0 rfl) (kcX7_fewest_1 31 20 rfl) rfl
theorem dX7_fewest_125 : decode cX7_fewest 125 = .ok (.iload_n 2, 1) := dw_28 (kcX7_fewest_1 61 28 rfl)
theorem dX7_fewest_126 : decode cX7_fewest 126 = .ok (.bipush 8, 2) := dw_16 (kcX7_fewest_1 62 16 rfl) (kcX7_fewest_1 63 8 rfl) rfl
theorem kcX7_fewest_2 : CHb cX7_fewest 128 [164, 0, 9, 42, 16, 8, 181, 0, 116, 42, 180, 0, 116, 158, 0, 5, 2, 172, 3, 62, 29, 17, 0, 144, 162, 0, 40, 42, 180, 0, 83, 29, 42, 180, 0, 38, 17, 0, 144, 27, 104, 29, 96, 51, 84, 42, 180, 0, 38, 17, 0, 144, 27, 104, 29, 96, 3, 84, 132, 3, 1, 167, 255, 215] := CHb_of (by decide +kernel)
theorem dX7_fewest_128 : decode cX7_fewest 128 = .ok (.if_icmp .le 9, 3) := dw_164 (kcX7_fewest_2 0 164 rfl) (kcX7_fewest_2 1 0 rfl) (kcX7_fewest_2 2 9 rfl) rfl
theorem dX7_fewest_137 : decode cX7_fewest 137 = .ok (.aload_n 0, 1) := dw_42 (kcX7_fewest_2 9 42 rfl)
theorem dX7_fewest_138 : decode cX7_fewest 138 = .ok (.getfield 116, 3) := dw_180 (kcX7_fewest_2 10 180 rfl) (kcX7_fewest_2 11 0 rfl) (kcX7_fewest_2 12 116 rfl) rfl
theorem dX7_fewest_141 : decode cX7_fewest 141 = .ok (.ifCond .le 5, 3) := dw_158 (kcX7_fewest_2 13 158 rfl) (kcX7_fewest_2 14 0 rfl) (kcX7_fewest_2 15 5 rfl) rfl
theorem dX7_fewest_146 : decode cX7_fewest 146 = .ok (.iconst 0, 1) := dw_3 (kcX7_fewest_2 18 3 rfl)
theorem dX7_fewest_147 : decode cX7_fewest 147 = .ok (.istore_n 3, 1) := dw_62 (kcX7_fewest_2 19 62 rfl)
theorem dX7_fewest_148 : decode cX7_fewest 148 = .ok (.iload_n 3, 1) := dw_29 (kcX7_fewest_2 20 29 rfl)
theorem dX7_fewest_149 : decode cX7_fewest 149 = .ok (.sipush 144, 3) := dw_17 (kcX7_fewest_2 21 17 rfl) (kcX7_fewest_2 22 0 rfl) (kcX7_fewest_2 23 144 rfl) rfl
theorem dX7_fewest_152 : decode cX7_fewest 152 = .ok (.if_icmp .ge 40, 3) := dw_162 (kcX7_fewest_2 24 162 rfl) (kcX7_fewest_2 25 0 rfl) (kcX7_fewest_2 26 40 rfl) rfl
theorem dX7_fewest_155 : decode cX7_fewest 155 = .ok (.aload_n 0, 1) := dw_42 (kcX7_fewest_2 27 42 rfl)
theorem dX7_fewest_156 : decode cX7_fewest 156 = .ok (.getfield 83, 3) := dw_180 (kcX7_fewest_2 28 180 rfl) (kcX7_fewest_2 29 0 rfl) (kcX7_fewest_2 30 83 rfl) rfl
theorem dX7_fewest_159 : decode cX7_fewest 159 = .ok (.iload_n 3, 1) := dw_29 (kcX7_fewest_2 31 29 rfl)
theorem dX7_fewest_160 : decode cX7_fewest 160 = .ok (.aload_n 0, 1) := dw_42 (kcX7_fewest_2 32 42 rfl)
theorem dX7_fewest_161 : decode cX7_fewest 161 = .ok (.getfield 38, 3) := dw_180 (kcX7_fewest_2 33 180 rfl) (kcX7_fewest_2 34 0 rfl) (kcX7_fewest_2 35 38 rfl) rfl
theorem dX7_fewest_164 : decode cX7_fewest 164 = .ok (.sipush 144, 3) := dw_17 (kcX7_fewest_2 36 17 rfl) (kcX7_fewest_2 37 0 rfl) (kcX7_fewest_2 38 144 rfl) rfl
theorem dX7_fewest_167 : decode cX7_fewest 167 = .ok (.iload_n 1, 1) := dw_27 (kcX7_fewest_2 39 27 rfl)
theorem dX7_fewest_168 : decode cX7_fewest 168 = .ok (.imul, 1) := dw_104 (kcX7_fewest_2 40 104 rfl)
theorem dX7_fewest_169 : decode cX7_fewest 169 = .ok (.iload_n 3, 1) := dw_29 (kcX7_fewest_2 41 29 rfl)
theorem dX7_fewest_170 : decode cX7_fewest 170 = .ok (.iadd, 1) := dw_96 (kcX7_fewest_2 42 96 rfl)
theorem dX7_fewest_171 : decode cX7_fewest 171 = .ok (.baload, 1) := dw_51 (kcX7_fewest_2 43 51 rfl)
theorem dX7_fewest_172 : decode cX7_fewest 172 = .ok (.bastore, 1) := dw_84 (kcX7_fewest_2 44 84 rfl)
theorem dX7_fewest_173 : decode cX7_fewest 173 = .ok (.aload_n 0, 1) := dw_42 (kcX7_fewest_2 45 42 rfl)
theorem dX7_fewest_174 : decode cX7_fewest 174 = .ok (.getfield 38, 3) := dw_180 (kcX7_fewest_2 46 180 rfl) (kcX7_fewest_2 47 0 rfl) (kcX7_fewest_2 48 38 rfl) rfl
theorem dX7_fewest_177 : decode cX7_fewest 177 = .ok (.sipush 144, 3) := dw_17 (kcX7_fewest_2 49 17 rfl) (kcX7_fewest_2 50 0 rfl) (kcX7_fewest_2 51 144 rfl) rfl
theorem dX7_fewest_180 : decode cX7_fewest 180 = .ok (.iload_n 1, 1) := dw_27 (kcX7_fewest_2 52 27 rfl)
theorem dX7_fewest_181 : decode cX7_fewest 181 = .ok (.imul, 1) := dw_104 (kcX7_fewest_2 53 104 rfl)
theorem dX7_fewest_182 : decode cX7_fewest 182 = .ok (.iload_n 3, 1) := dw_29 (kcX7_fewest_2 54 29 rfl)
theorem dX7_fewest_183 : decode cX7_fewest 183 = .ok (.iadd, 1) := dw_96 (kcX7_fewest_2 55 96 rfl)
theorem dX7_fewest_184 : decode cX7_fewest 184 = .ok (.iconst 0, 1) := dw_3 (kcX7_fewest_2 56 3 rfl)
theorem dX7_fewest_185 : decode cX7_fewest 185 = .ok (.bastore, 1) := dw_84 (kcX7_fewest_2 57 84 rfl)
theorem dX7_fewest_186 : decode cX7_fewest 186 = .ok (.iinc 3 1, 3) := dw_132 (kcX7_fewest_2 58 132 rfl) (kcX7_fewest_2 59 3 rfl) (kcX7_fewest_2 60 1 rfl) rfl
theorem dX7_fewest_189 : decode cX7_fewest 189 = .ok (.goto (-41), 3) := dw_167 (kcX7_fewest_2 61 167 rfl) (kcX7_fewest_2 62 255 rfl) (kcX7_fewest_2 63 215 rfl) rfl
theorem kcX7_fewest_3 : CHb cX7_fewest 192 [42, 27, 28, 182, 0, 248, 62, 29, 2, 159, 0, 11, 42, 27, 28, 29, 182, 0, 251, 172, 3, 54, 4, 21, 4, 17, 0, 144, 162, 0, 29, 42, 180, 0, 38, 17, 0, 144, 27, 104, 21, 4, 96, 42, 180, 0, 83, 21, 4, 51, 84, 132, 4, 1, 167, 255, 225, 42, 16, 10, 181, 0, 116, 2] := CHb_of (by decide +kernel)
theorem dX7_fewest_192 : decode cX7_fewest 192 = .ok (.aload_n 0, 1) := dw_42 (kcX7_fewest_3 0 42 rfl)
theorem dX7_fewest_193 : decode cX7_fewest 193 = .ok (.iload_n 1, 1) := dw_27 (kcX7_fewest_3 1 27 rfl)
theorem dX7_fewest_194 : decode cX7_fewest 194 = .ok (.iload_n 2, 1) := dw_28 (kcX7_fewest_3 2 28 rfl)
theorem dX7_fewest_195 : decode cX7_fewest 195 = .ok (.invokevirtual 248, 3) := dw_182 (kcX7_fewest_3 3 182 rfl) (kcX7_fewest_3 4 0 rfl) (kcX7_fewest_3 5 248 rfl) rfl
theorem dX7_fewest_198 : decode cX7_fewest 198 = .ok (.istore_n 3, 1) := dw_62 (kcX7_fewest_3 6 62 rfl)
theorem dX7_fewest_199 : decode cX7_fewest 199 = .ok (.iload_n 3, 1) := dw_29 (kcX7_fewest_3 7 29 rfl)
theorem dX7_fewest_200 : decode cX7_fewest 200 = .ok (.iconst (-1), 1) := dw_2 (kcX7_fewest_3 8 2 rfl)
theorem dX7_fewest_201 : decode cX7_fewest 201 = .ok (.if_icmp .eq 11, 3) := dw_159 (kcX7_fewest_3 9 159 rfl) (kcX7_fewest_3 10 0 rfl) (kcX7_fewest_3 11 11 rfl) rfl
theorem dX7_fewest_212 : decode cX7_fewest 212 = .ok (.iconst 0, 1) := dw_3 (kcX7_fewest_3 20 3 rfl)
theorem dX7_fewest_213 : decode cX7_fewest 213 = .ok (.istore 4, 2) := dw_54 (kcX7_fewest_3 21 54 rfl) (kcX7_fewest_3 22 4 rfl)
theorem dX7_fewest_215 : decode cX7_fewest 215 = .ok (.iload 4, 2) := dw_21 (kcX7_fewest_3 23 21 rfl) (kcX7_fewest_3 24 4 rfl)
theorem dX7_fewest_217 : decode cX7_fewest 217 = .ok (.sipush 144, 3) := dw_17 (kcX7_fewest_3 25 17 rfl) (kcX7_fewest_3 26 0 rfl) (kcX7_fewest_3 27 144 rfl) rfl
theorem dX7_fewest_220 : decode cX7_fewest 220 = .ok (.if_icmp .ge 29, 3) := dw_162 (kcX7_fewest_3 28 162 rfl) (kcX7_fewest_3 29 0 rfl) (kcX7_fewest_3 30 29 rfl) rfl
theorem dX7_fewest_223 : decode cX7_fewest 223 = .ok (.aload_n 0, 1) := dw_42 (kcX7_fewest_3 31 42 rfl)
theorem dX7_fewest_224 : decode cX7_fewest 224 = .ok (.getfield 38, 3) := dw_180 (kcX7_fewest_3 32 180 rfl) (kcX7_fewest_3 33 0 rfl) (kcX7_fewest_3 34 38 rfl) rfl
theorem dX7_fewest_227 : decode cX7_fewest 227 = .ok (.sipush 144, 3) := dw_17 (kcX7_fewest_3 35 17 rfl) (kcX7_fewest_3 36 0 rfl) (kcX7_fewest_3 37 144 rfl) rfl
theorem dX7_fewest_230 : decode cX7_fewest 230 = .ok (.iload_n 1, 1) := dw_27 (kcX7_fewest_3 38 27 rfl)
theorem dX7_fewest_231 : decode cX7_fewest 231 = .ok (.imul, 1) := dw_104 (kcX7_fewest_3 39 104 rfl)
theorem dX7_fewest_232 : decode cX7_fewest 232 = .ok (.iload 4, 2) := dw_21 (kcX7_fewest_3 40 21 rfl) (kcX7_fewest_3 41 4 rfl)
theorem dX7_fewest_234 : decode cX7_fewest 234 = .ok (.iadd, 1) := dw_96 (kcX7_fewest_3 42 96 rfl)
theorem dX7_fewest_235 : decode cX7_fewest 235 = .ok (.aload_n 0, 1) := dw_42 (kcX7_fewest_3 43 42 rfl)
theorem dX7_fewest_236 : decode cX7_fewest 236 = .ok (.getfield 83, 3) := dw_180 (kcX7_fewest_3 44 180 rfl) (kcX7_fewest_3 45 0 rfl) (kcX7_fewest_3 46 83 rfl) rfl
theorem dX7_fewest_239 : decode cX7_fewest 239 = .ok (.iload 4, 2) := dw_21 (kcX7_fewest_3 47 21 rfl) (kcX7_fewest_3 48 4 rfl)
theorem dX7_fewest_241 : decode cX7_fewest 241 = .ok (.baload, 1) := dw_51 (kcX7_fewest_3 49 51 rfl)
theorem dX7_fewest_242 : decode cX7_fewest 242 = .ok (.bastore, 1) := dw_84 (kcX7_fewest_3 50 84 rfl)
theorem dX7_fewest_243 : decode cX7_fewest 243 = .ok (.iinc 4 1, 3) := dw_132 (kcX7_fewest_3 51 132 rfl) (kcX7_fewest_3 52 4 rfl) (kcX7_fewest_3 53 1 rfl) rfl
theorem dX7_fewest_246 : decode cX7_fewest 246 = .ok (.goto (-31), 3) := dw_167 (kcX7_fewest_3 54 167 rfl) (kcX7_fewest_3 55 255 rfl) (kcX7_fewest_3 56 225 rfl) rfl
theorem dX7_fewest_249 : decode cX7_fewest 249 = .ok (.aload_n 0, 1) := dw_42 (kcX7_fewest_3 57 42 rfl)
theorem dX7_fewest_250 : decode cX7_fewest 250 = .ok (.bipush 10, 2) := dw_16 (kcX7_fewest_3 58 16 rfl) (kcX7_fewest_3 59 10 rfl) rfl
theorem dX7_fewest_252 : decode cX7_fewest 252 = .ok (.putfield 116, 3) := dw_181 (kcX7_fewest_3 60 181 rfl) (kcX7_fewest_3 61 0 rfl) (kcX7_fewest_3 62 116 rfl) rfl
theorem dX7_fewest_255 : decode cX7_fewest 255 = .ok (.iconst (-1), 1) := dw_2 (kcX7_fewest_3 63 2 rfl)
theorem kcX7_fewest_4 : CHb cX7_fewest 256 [172] := CHb_of (by decide +kernel)
theorem dX7_fewest_256 : decode cX7_fewest 256 = .ok (.ireturn, 1) := dw_172 (kcX7_fewest_4 0 172 rfl)
theorem dX7_fewest_204 : decode cX7_fewest 204 = .ok (.aload_n 0, 1) := dw_42 (kcX7_fewest_3 12 42 rfl)
theorem dX7_fewest_205 : decode cX7_fewest 205 = .ok (.iload_n 1, 1) := dw_27 (kcX7_fewest_3 13 27 rfl)
theorem dX7_fewest_206 : decode cX7_fewest 206 = .ok (.iload_n 2, 1) := dw_28 (kcX7_fewest_3 14 28 rfl)
theorem dX7_fewest_207 : decode cX7_fewest 207 = .ok (.iload_n 3, 1) := dw_29 (kcX7_fewest_3 15 29 rfl)
theorem dX7_fewest_208 : decode cX7_fewest 208 = .ok (.invokevirtual 251, 3) := dw_182 (kcX7_fewest_3 16 182 rfl) (kcX7_fewest_3 17 0 rfl) (kcX7_fewest_3 18 251 rfl) rfl
theorem dX7_fewest_211 : decode cX7_fewest 211 = .ok (.ireturn, 1) := dw_172 (kcX7_fewest_3 19 172 rfl)
theorem dX7_fewest_131 : decode cX7_fewest 131 = .ok (.aload_n 0, 1) := dw_42 (kcX7_fewest_2 3 42 rfl)
theorem dX7_fewest_132 : decode cX7_fewest 132 = .ok (.bipush 8, 2) := dw_16 (kcX7_fewest_2 4 16 rfl) (kcX7_fewest_2 5 8 rfl) rfl
theorem dX7_fewest_134 : decode cX7_fewest 134 = .ok (.putfield 116, 3) := dw_181 (kcX7_fewest_2 6 181 rfl) (kcX7_fewest_2 7 0 rfl) (kcX7_fewest_2 8 116 rfl) rfl
theorem dX7_fewest_144 : decode cX7_fewest 144 = .ok (.iconst (-1), 1) := dw_2 (kcX7_fewest_2 16 2 rfl)
theorem dX7_fewest_145 : decode cX7_fewest 145 = .ok (.ireturn, 1) := dw_172 (kcX7_fewest_2 17 172 rfl)
theorem sh_mn : ∀ mn, mn < 9 → ∃ sz, sz < 257 ∧ 1 ≤ sz ∧ (1 : Int32) <<< (nI mn &&& 31) = nI sz := by
  intro mn h
  rcases (show mn = 0 ∨ mn = 1 ∨ mn = 2 ∨ mn = 3 ∨ mn = 4 ∨ mn = 5 ∨ mn = 6 ∨ mn = 7 ∨ mn = 8 by omega) with rfl | rfl | rfl | rfl | rfl | rfl | rfl | rfl | rfl
  · exact ⟨1, by decide, by decide, by decide⟩
  · exact ⟨2, by decide, by decide, by decide⟩
  · exact ⟨4, by decide, by decide, by decide⟩
  · exact ⟨8, by decide, by decide, by decide⟩
  · exact ⟨16, by decide, by decide, by decide⟩
  · exact ⟨32, by decide, by decide, by decide⟩
  · exact ⟨64, by decide, by decide, by decide⟩
  · exact ⟨128, by decide, by decide, by decide⟩
  · exact ⟨256, by decide, by decide, by decide⟩
def csM (ru nu ch : Nat → Int32) (t mn : Nat) (s : Int32) : Nat → Int32
  | 0 => 0
  | k + 1 => csM ru nu ch t mn s k + (if (s >>> (nI (mn - 1 - k) &&& 31)) &&& 1 = 1 then coF ru nu t (ch k).toNatClampNeg else 0)
theorem csM_t {ru nu ch : Nat → Int32} {t mn k pk : Nat} {s : Int32} (h : (s >>> (nI (mn - 1 - k) &&& 31)) &&& 1 = 1) (e : ch k = nI pk) (hp : pk < 2147483648) : csM ru nu ch t mn s (k + 1) = csM ru nu ch t mn s k + coF ru nu t pk := by
  simp only [csM]; rw [if_pos h, e, nI_clamp hp]
theorem csM_f {ru nu ch : Nat → Int32} {t mn k : Nat} {s : Int32} (h : ¬ (s >>> (nI (mn - 1 - k) &&& 31)) &&& 1 = 1) : csM ru nu ch t mn s (k + 1) = csM ru nu ch t mn s k + 0 := by
  simp only [csM]; rw [if_neg h]
def cfM (ru nu ch : Nat → Int32) (t mn : Nat) (s : Nat) : Int32 := csM ru nu ch t mn (nI s) mn
noncomputable def cP (P : Nat → Prop) : Nat → Nat
  | 0 => 0
  | k + 1 => cP P k + @ite _ (P k) (Classical.propDecidable _) 1 0
theorem cP_bd (P : Nat → Prop) : ∀ N, cP P N ≤ N
  | 0 => Nat.le_refl 0
  | k + 1 => by have h := cP_bd P k; simp only [cP]; split <;> omega
theorem cP_le {P Q : Nat → Prop} (h : ∀ s, Q s → P s) : ∀ N, cP Q N ≤ cP P N
  | 0 => Nat.le_refl 0
  | k + 1 => by
    have h1 := cP_le h k
    simp only [cP]
    by_cases hq : Q k
    · rw [if_pos hq, if_pos (h k hq)]; omega
    · rw [if_neg hq]; split <;> omega
theorem cP_lt {P Q : Nat → Prop} {y : Nat} (h : ∀ s, Q s → P s) (hp : P y) (hq : ¬ Q y) : ∀ N, y < N → cP Q N < cP P N
  | 0, hy => absurd hy (Nat.not_lt_zero _)
  | k + 1, hy => by
    have h1 := cP_le h k
    simp only [cP]
    by_cases e : y = k
    · subst e; rw [if_neg hq, if_pos hp]; omega
    · have h2 := cP_lt h hp hq k (by omega)
      by_cases hq2 : Q k
      · rw [if_pos hq2, if_pos (h k hq2)]; omega
      · rw [if_neg hq2]; split <;> omega
def bhM (cf : Nat → Int32) (lc lz : Int32) (s : Nat) : Prop := lc < cf s ∨ (cf s = lc ∧ nI s < lz)
theorem bh_lt {cf : Nat → Int32} {lc lz : Int32} {y : Nat} (h : bhM cf lc lz y) (hy : y < 256) : cP (bhM cf (cf y) (nI y)) 256 < cP (bhM cf lc lz) 256 := by
  refine cP_lt (fun s hs => ?_) h (fun q => ?_) 256 hy
  · rcases hs with hs | ⟨hs, h2⟩
    · rcases h with h | ⟨h, _⟩
      · exact Or.inl (Int32.lt_trans h hs)
      · exact Or.inl (h ▸ hs)
    · rcases h with h | ⟨h, h3⟩
      · exact Or.inl (by rw [hs]; exact h)
      · exact Or.inr ⟨hs.trans h, Int32.lt_trans h2 h3⟩
  · rcases q with q | ⟨_, q⟩
    · exact Int32.lt_irrefl q
    · exact Int32.lt_irrefl q
theorem dec_s {v : Int32} {s : Nat} (h : v = nI s + Int32.ofInt (-1)) (hs : s < 256) : v = -1 ∨ ∃ z, z < 256 ∧ v = nI z ∧ z < s := by
  cases s with
  | zero => exact Or.inl (by rw [h]; decide)
  | succ k => exact Or.inr ⟨k, by omega, by rw [h]; exact pk_m1 k, by omega⟩
theorem nOK_x {n m p : Nat} {x : Nat → Int32} (h : nOK (min n 12) m x) (hn : n < 12) (hp : p ≤ m) : nOK (min (n + 1) 12) m (upd x n (nI p)) := fun j hj => by
  by_cases e : j = n
  · subst e; exact ⟨p, hp, pk_us⟩
  · rw [pk_un e]; exact h j (by omega)
theorem nOK_m {n k m : Nat} {x : Nat → Int32} (h : nOK n m x) (hk : k ≤ n) : nOK k m x := fun j hj => h j (by omega)
set_option maxHeartbeats 4000000 in
set_option maxRecDepth 100000 in
theorem m_X7_costOfSet (l : Launch) (G : GG) (y : Nat) (b : Nat → Nat) (f : Nat → Int32) (r : Nat → Nat → Int32) (t : Nat) (mn : Nat) (sv : Int32) (ht : t < 6) (hmn : mn ≤ 8) (hch : nOK mn 863 (r 30)) : RdI l yX7_costOfSet cX7_costOfSet 6 (some .int) ({ frames := 1, cells := 0, slots := 0, locals := 22 }) G (mM G y b f r) [.ref y, .int (nI t), .int (nI mn), .int sv] (fun q => q = csM (r 4) (r 6) (r 30) t mn sv mn) := by
  refine rd_entry (by decide +kernel) (Nat.le_of_ble_eq_true rfl) ?_
  intro p e s m below meth c C0 hP hK ls hl
  have hS : va_S (fun q => s.heap.size ≤ q) s.heap s.heap [] := va_S.rf
  have hA : ∀ q, s.heap.size ≤ q → (fun q => s.heap.size ≤ q) q := fun _ h => h
  obtain ⟨hx, hb, hml, hown, hts, hr, hlocks, hin⟩ := C0
  have hown : s.vm.findClass RX7 = some m.cls := hown
  have hl : lv_has ls 6 [(0, .ref y), (1, .int (nI t)), (2, .int (nI mn)), (3, .int sv)] := hl
  refine lv_iconst (v := 0) hx hb dX7_costOfSet_0 (by decide) ?_
  refine lv_istore (lv' := [(4, .int 0), (0, .ref y), (1, .int (nI t)), (2, .int (nI mn)), (3, .int sv)]) hx hb dX7_costOfSet_1 hl (by decide) rfl (fun ls hl => ?_)
  refine lv_iconst (v := 0) hx hb dX7_costOfSet_3 (by decide) ?_
  refine lv_istore (lv' := [(5, .int 0), (4, .int 0), (0, .ref y), (1, .int (nI t)), (2, .int (nI mn)), (3, .int sv)]) hx hb dX7_costOfSet_4 hl (by decide) rfl (fun ls hl => ?_)
  have loop6 : ∀ (k1 j : Nat) (z2 : Int32), j ≤ mn → mn < j + k1 → ((z2 : Int32) = csM (r 4) (r 6) (r 30) t mn sv j) → ∀ (H : Heap) (locs : List Loc) (ls : Array Slot), PP G (mM G y b f r) H → va_S (fun q => s.heap.size ≤ q) s.heap H locs → lv_has ls 6 [(5, .int (nI j)), (4, .int z2), (0, .ref y), (1, .int (nI t)), (2, .int (nI mn)), (3, .int sv)] → W p l e ({ frames := 1, cells := 0, slots := 0, locals := 22 }) s m ([.ref y, .int (nI t), .int (nI mn), .int sv] : List Value).toArray below meth c H locs 0 0 (MQ below (QrI (fun q => q = csM (r 4) (r 6) (r 30) t mn sv mn) (fun q => s.heap.size ≤ q)) ([.ref y, .int (nI t), .int (nI mn), .int sv] : List Value).toArray s 0 0 (fun q => s.heap.size ≤ q)) (F0 m 6 ls []) := by
    intro k1
    induction k1 with
    | zero => intro j z2 h1 h2; exact absurd h1 (by omega)
    | succ k1 ih6k1 =>
      intro j z2 hi_j hk_j hc4 H locs ls hP hS hl
      refine lv_iload hx hb dX7_costOfSet_6 (lv_at hl 0 rfl) ?_
      refine lv_iload_n hx hb dX7_costOfSet_8 rfl (lv_at hl 4 rfl) ?_
      refine lv_icmp_ge (tgt := 53) hx hb dX7_costOfSet_9 (by decide) (fun c3 => ?_) (fun c3 => ?_)
      · have b9 := qge_t (a := j) (b := mn) (by omega) (by omega) c3
        refine lv_iload hx hb dX7_costOfSet_53 (lv_at hl 1 rfl) ?_
        exact rd_iret hx hb hr hlocks hS ((hc4.trans (by rw [show j = mn by omega]))) dX7_costOfSet_55
      · have b9 := qge_f (a := j) (b := mn) (by omega) (by omega) c3
        refine lv_iload hx hb dX7_costOfSet_12 (lv_at hl 1 rfl) ?_
        refine lv_iload_n hx hb dX7_costOfSet_14 rfl (lv_at hl 5 rfl) ?_
        refine lv_iload_n hx hb dX7_costOfSet_15 rfl (lv_at hl 4 rfl) ?_
        refine lv_iconst (v := 1) hx hb dX7_costOfSet_16 (by decide) ?_
        refine lv_isub hx hb dX7_costOfSet_17 ?_
        refine lv_topi (fun v4 ev4 => ?_)
        obtain rfl : v4 = nI (mn - 1) := nI_minus ev4 rfl rfl (by omega)
        refine lv_iload hx hb dX7_costOfSet_18 (lv_at hl 0 rfl) ?_
        refine lv_isub hx hb dX7_costOfSet_20 ?_
        refine lv_topi (fun v5 ev5 => ?_)
        obtain rfl : v5 = nI ((mn - 1) - j) := nI_minus ev5 rfl rfl (by omega)
        refine lv_ishr hx hb dX7_costOfSet_21 ?_
        refine lv_topi (fun v6 ev6 => ?_)
        refine lv_iconst (v := 1) hx hb dX7_costOfSet_22 (by decide) ?_
        refine lv_iand hx hb dX7_costOfSet_23 ?_
        refine lv_topi (fun v7 ev7 => ?_)
        refine lv_iconst (v := 1) hx hb dX7_costOfSet_24 (by decide) ?_
        refine lv_icmp_ne (tgt := 43) hx hb dX7_costOfSet_25 (by decide) (fun c8 => ?_) (fun c8 => ?_)
        · refine lv_iconst (v := 0) hx hb dX7_costOfSet_43 (by decide) ?_
          refine lv_iadd hx hb dX7_costOfSet_44 ?_
          refine lv_topi (fun v9 ev9 => ?_)
          refine lv_istore (lv' := [(4, .int v9), (5, .int (nI j)), (0, .ref y), (1, .int (nI t)), (2, .int (nI mn)), (3, .int sv)]) hx hb dX7_costOfSet_45 hl (by decide) rfl (fun ls hl => ?_)
          obtain ⟨v10, ev10⟩ : ∃ y9 : Int32, y9 = (nI j) + Int32.ofInt (1) := ⟨_, rfl⟩
          refine lv_iinc (v := v10) (lv' := [(5, .int v10), (4, .int v9), (0, .ref y), (1, .int (nI t)), (2, .int (nI mn)), (3, .int sv)]) hx hb dX7_costOfSet_47 hl (k := 1) rfl ev10.symm (by decide) rfl (fun ls hl => ?_)
          obtain rfl : v10 = nI (j + 1) := nI_plus (i := j) (j := 1) ev10 rfl (by decide)
          refine lv_goto (tgt := 6) hx hb dX7_costOfSet_50 (by decide) ?_
          exact ih6k1 (j + 1) v9 (by omega) (by omega) (by rw [ev9, hc4]; exact (csM_f (by rw [← ev6, ← ev7]; exact c8)).symm) _ _ _ hP hS (lv_sub hl [0, 1, 2, 3, 4, 5] rfl)
        · refine lv_aload_n hx hb dX7_costOfSet_28 rfl (lv_at hl 2 rfl) ?_
          refine lv_iload_n hx hb dX7_costOfSet_29 rfl (lv_at hl 3 rfl) ?_
          refine lv_aload_n hx hb dX7_costOfSet_30 rfl (lv_at hl 2 rfl) ?_
          refine va_get (D := G.1) (ci := 7) (v := .ref (b 30)) (C := RX7) (T := TX7) (N := 43) hx hb hts inX7 hown hK.1 hP 0 rfl rfl 30 (by decide) (hts _ mf_X7_86) (fun _ h9 => h9) rfl dX7_costOfSet_31 ?_
          refine lv_iload hx hb dX7_costOfSet_34 (lv_at hl 0 rfl) ?_
          refine xiald (f := (r 30)) hx hb hK hP 26 (j) (rfl) (by omega) (by decide) rfl dX7_costOfSet_36 ?_
          refine lv_topi (fun v11 ev11 => ?_)
          obtain ⟨pk, hpk, epk⟩ := hch j (by omega)
          obtain rfl : v11 = nI (pk) := ev11.trans (epk)
          refine rdV (rest := [.int z2]) (q0 := 0) ⟨hx, hb, hml, hown, hts⟩ (m_X7_costOf l G y b f r t (pk)  (by omega) (by omega)) mi_yX7_costOf mv_yX7_costOf ml_X7_242 ⟨rfl, rfl, Nat.le_of_ble_eq_true rfl, Nat.le_of_ble_eq_true rfl⟩ hK (hP) rfl rfl rfl hl.1 rfl (Nat.le_of_ble_eq_true rfl) dX7_costOfSet_37 ⟨Nat.zero_le _, Nat.zero_le _⟩ hS hA hP (fun r12 H locs hr12 hP hS => ?_)
          obtain rfl := hr12
          refine lv_goto (tgt := 44) hx hb dX7_costOfSet_40 (by decide) ?_
          refine lv_iadd hx hb dX7_costOfSet_44 ?_
          refine lv_topi (fun v13 ev13 => ?_)
          refine lv_istore (lv' := [(4, .int v13), (5, .int (nI j)), (0, .ref y), (1, .int (nI t)), (2, .int (nI mn)), (3, .int sv)]) hx hb dX7_costOfSet_45 hl (by decide) rfl (fun ls hl => ?_)
          obtain ⟨v14, ev14⟩ : ∃ y9 : Int32, y9 = (nI j) + Int32.ofInt (1) := ⟨_, rfl⟩
          refine lv_iinc (v := v14) (lv' := [(5, .int v14), (4, .int v13), (0, .ref y), (1, .int (nI t)), (2, .int (nI mn)), (3, .int sv)]) hx hb dX7_costOfSet_47 hl (k := 1) rfl ev14.symm (by decide) rfl (fun ls hl => ?_)
          obtain rfl : v14 = nI (j + 1) := nI_plus (i := j) (j := 1) ev14 rfl (by decide)
          refine lv_goto (tgt := 6) hx hb dX7_costOfSet_50 (by decide) ?_
          exact ih6k1 (j + 1) v13 (by omega) (by omega) (by rw [ev13, hc4]; exact (csM_t (by rw [← ev6, ← ev7]; exact c8) epk (by omega)).symm) _ _ _ hP hS (lv_sub hl [0, 1, 2, 3, 4, 5] rfl)
  exact loop6 (mn + 1) 0 0 (by omega) (by omega) (rfl) _ _ _ hP hS (lv_sub hl [0, 1, 2, 3, 4, 5] rfl)
set_option maxHeartbeats 4000000 in
set_option maxRecDepth 100000 in
theorem m_X7_bestOf (l : Launch) (G : GG) (y : Nat) (b : Nat → Nat) (f : Nat → Int32) (r : Nat → Nat → Int32) (t : Nat) (mn : Nat) (rw : Nat) (cl : Nat) (bk : Nat) (ht : t < 6) (hrw : rw ≤ 12) (hcl : cl ≤ 12) (hbk : bk ≤ 12) (h2 : (r 2) t = nI rw) (h3 : (r 3) t = nI cl) (h12 : (r 12) t = nI bk) (hmn : mn ≤ 8) (hch : nOK mn 863 (r 30)) (hG : nOK 864 6 (r 7)) : WrI l yX7_bestOf cX7_bestOf 10 (some .int) ({ frames := 7, cells := 0, slots := 0, locals := 179 }) G (mM G y b f r) [.ref y, .int (nI t), .int (nI mn)] (fun q w => ∃ (n_f_20 : Int32) (n_f_21 : Int32) (n_r_10 : Nat → Int32) (n_r_15 : Nat → Int32) (n_r_16 : Nat → Int32) (n_r_17 : Nat → Int32) (n_r_18 : Nat → Int32) (n_r_19 : Nat → Int32) (n_r_22 : Nat → Int32) (n_r_23 : Nat → Int32), w = mM G y b (upd (upd f 20 n_f_20) 21 n_f_21) (up2 (up2 (up2 (up2 (up2 (up2 (up2 (up2 r 10 n_r_10) 15 n_r_15) 16 n_r_16) 17 n_r_17) 18 n_r_18) 19 n_r_19) 22 n_r_22) 23 n_r_23) ∧ (q = -1 ∨ ∃ z, z < 256 ∧ q = nI z)) := by
  refine wr_entryI (by decide +kernel) (Nat.le_of_ble_eq_true rfl) ?_
  intro p e s m below meth c A C0 hP hK hD hA ls hl
  have hS : va_S A s.heap s.heap [] := va_S.rf
  obtain ⟨hx, hb, hml, hown, hts, hr, hlocks, hin⟩ := C0
  have hown : s.vm.findClass RX7 = some m.cls := hown
  have hDD : ∀ f' r', va_D A (mM G y b f' r') := fun f' r' => D_same hD rfl
  have hl : lv_has ls 10 [(0, .ref y), (1, .int (nI t)), (2, .int (nI mn))] := hl
  refine lv_iconst (v := -1) hx hb dX7_bestOf_0 (by decide) ?_
  refine lv_istore_n (lv' := [(3, .int (-1)), (0, .ref y), (1, .int (nI t)), (2, .int (nI mn))]) hx hb dX7_bestOf_1 rfl hl (by decide) rfl (fun ls hl => ?_)
  refine lv_iconst (v := 0) hx hb dX7_bestOf_2 (by decide) ?_
  refine lv_istore (lv' := [(4, .int 0), (3, .int (-1)), (0, .ref y), (1, .int (nI t)), (2, .int (nI mn))]) hx hb dX7_bestOf_3 hl (by decide) rfl (fun ls hl => ?_)
  have loop5 : ∀ (k1 : Nat) (z3 : Int32) (z4 : Int32) (x5 : Int32) (x6 : Int32) (x7 : Nat → Int32) (x8 : Nat → Int32) (x9 : Nat → Int32) (x10 : Nat → Int32) (x11 : Nat → Int32) (x12 : Nat → Int32) (x13 : Nat → Int32) (x14 : Nat → Int32), cP (bhM (cfM (r 4) (r 6) (r 30) t mn) (z4 : Int32) (z3 : Int32)) 256 < k1 → ∀ (H : Heap) (locs : List Loc) (ls : Array Slot), PP G (mM G y b (upd (upd f 20 x5) 21 x6) (up2 (up2 (up2 (up2 (up2 (up2 (up2 (up2 r 10 x7) 15 x8) 16 x9) 17 x10) 18 x11) 19 x12) 22 x13) 23 x14)) H → va_S A s.heap H locs → lv_has ls 10 [(4, .int z3), (3, .int z4), (0, .ref y), (1, .int (nI t)), (2, .int (nI mn))] → W p l e ({ frames := 7, cells := 0, slots := 0, locals := 179 }) s m ([.ref y, .int (nI t), .int (nI mn)] : List Value).toArray below meth c H locs 0 0 (MQ below (QwI G (fun q w => ∃ (n_f_20 : Int32) (n_f_21 : Int32) (n_r_10 : Nat → Int32) (n_r_15 : Nat → Int32) (n_r_16 : Nat → Int32) (n_r_17 : Nat → Int32) (n_r_18 : Nat → Int32) (n_r_19 : Nat → Int32) (n_r_22 : Nat → Int32) (n_r_23 : Nat → Int32), w = mM G y b (upd (upd f 20 n_f_20) 21 n_f_21) (up2 (up2 (up2 (up2 (up2 (up2 (up2 (up2 r 10 n_r_10) 15 n_r_15) 16 n_r_16) 17 n_r_17) 18 n_r_18) 19 n_r_19) 22 n_r_22) 23 n_r_23) ∧ (q = -1 ∨ ∃ z, z < 256 ∧ q = nI z)) A) ([.ref y, .int (nI t), .int (nI mn)] : List Value).toArray s 0 0 A) (F0 m 5 ls []) := by
    intro k1
    induction k1 with
    | zero => intro z3 z4 x5 x6 x7 x8 x9 x10 x11 x12 x13 x14 h1; exact absurd h1 (Nat.not_lt_zero _)
    | succ k1 ih5k1 =>
      intro  z3 z4 x5 x6 x7 x8 x9 x10 x11 x12 x13 x14 hm_k1  H locs ls hP hS hl
      refine lv_iconst (v := -1) hx hb dX7_bestOf_5 (by decide) ?_
      refine lv_istore (lv' := [(5, .int (-1)), (4, .int z3), (3, .int z4), (0, .ref y), (1, .int (nI t)), (2, .int (nI mn))]) hx hb dX7_bestOf_6 hl (by decide) rfl (fun ls hl => ?_)
      refine lv_iconst (v := 0) hx hb dX7_bestOf_8 (by decide) ?_
      refine lv_istore (lv' := [(6, .int 0), (5, .int (-1)), (4, .int z3), (3, .int z4), (0, .ref y), (1, .int (nI t)), (2, .int (nI mn))]) hx hb dX7_bestOf_9 hl (by decide) rfl (fun ls hl => ?_)
      refine lv_iconst (v := 1) hx hb dX7_bestOf_11 (by decide) ?_
      refine lv_iload_n hx hb dX7_bestOf_12 rfl (lv_at hl 6 rfl) ?_
      refine lv_ishl hx hb dX7_bestOf_13 ?_
      refine lv_topi (fun v15 ev15 => ?_)
      obtain ⟨sz, hz1, hz2, hz3⟩ := sh_mn mn (by omega)
      obtain rfl : v15 = nI sz := ev15.trans hz3
      refine lv_iconst (v := 1) hx hb dX7_bestOf_14 (by decide) ?_
      refine lv_isub hx hb dX7_bestOf_15 ?_
      refine lv_topi (fun v16 ev16 => ?_)
      obtain rfl : v16 = nI (sz - 1) := nI_minus ev16 rfl rfl (by omega)
      refine lv_istore (lv' := [(7, .int (nI (sz - 1))), (6, .int 0), (5, .int (-1)), (4, .int z3), (3, .int z4), (0, .ref y), (1, .int (nI t)), (2, .int (nI mn))]) hx hb dX7_bestOf_16 hl (by decide) rfl (fun ls hl => ?_)
      have loop18 : ∀ (k17 : Nat) (z19 : Int32) (z20 : Int32) (z21 : Int32) (ms : Nat), ms < k17 → ((z19 : Int32) = -1 ∨ ∃ z, z < 256 ∧ (z19 : Int32) = nI z ∧ z < ms) → ((z21 : Int32) = -1 ∨ ∃ z, z < 256 ∧ (z21 : Int32) = nI z ∧ (z20 : Int32) = (cfM (r 4) (r 6) (r 30) t mn) z ∧ bhM (cfM (r 4) (r 6) (r 30) t mn) (z4 : Int32) (z3 : Int32) z) → ∀ (H : Heap) (locs : List Loc) (ls : Array Slot), PP G (mM G y b (upd (upd f 20 x5) 21 x6) (up2 (up2 (up2 (up2 (up2 (up2 (up2 (up2 r 10 x7) 15 x8) 16 x9) 17 x10) 18 x11) 19 x12) 22 x13) 23 x14)) H → va_S A s.heap H locs → lv_has ls 10 [(7, .int z19), (6, .int z20), (5, .int z21), (4, .int z3), (3, .int z4), (0, .ref y), (1, .int (nI t)), (2, .int (nI mn))] → W p l e ({ frames := 7, cells := 0, slots := 0, locals := 179 }) s m ([.ref y, .int (nI t), .int (nI mn)] : List Value).toArray below meth c H locs 0 0 (MQ below (QwI G (fun q w => ∃ (n_f_20 : Int32) (n_f_21 : Int32) (n_r_10 : Nat → Int32) (n_r_15 : Nat → Int32) (n_r_16 : Nat → Int32) (n_r_17 : Nat → Int32) (n_r_18 : Nat → Int32) (n_r_19 : Nat → Int32) (n_r_22 : Nat → Int32) (n_r_23 : Nat → Int32), w = mM G y b (upd (upd f 20 n_f_20) 21 n_f_21) (up2 (up2 (up2 (up2 (up2 (up2 (up2 (up2 r 10 n_r_10) 15 n_r_15) 16 n_r_16) 17 n_r_17) 18 n_r_18) 19 n_r_19) 22 n_r_22) 23 n_r_23) ∧ (q = -1 ∨ ∃ z, z < 256 ∧ q = nI z)) A) ([.ref y, .int (nI t), .int (nI mn)] : List Value).toArray s 0 0 A) (F0 m 18 ls []) := by
        intro k17
        induction k17 with
        | zero => intro z19 z20 z21 ms h1; exact absurd h1 (Nat.not_lt_zero _)
        | succ k17 ih18k17 =>
          intro  z19 z20 z21 ms hm_k17 hs7 hnx H locs ls hP hS hl
          refine lv_iload hx hb dX7_bestOf_18 (lv_at hl 0 rfl) ?_
          refine lv_if_lt (tgt := 94) hx hb dX7_bestOf_20 (by decide) (fun c22 => ?_) (fun c22 => ?_)
          · refine lv_iload hx hb dX7_bestOf_94 (lv_at hl 2 rfl) ?_
            refine lv_iconst (v := -1) hx hb dX7_bestOf_96 (by decide) ?_
            refine lv_icmp_ne (tgt := 103) hx hb dX7_bestOf_97 (by decide) (fun c23 => ?_) (fun c23 => ?_)
            · obtain ⟨s8, hs8, rfl, e6, hbh⟩ := hnx.resolve_left c23
              refine lv_iconst (v := 0) hx hb dX7_bestOf_103 (by decide) ?_
              refine lv_istore (lv' := [(7, .int 0), (6, .int z20), (5, .int (nI s8)), (4, .int z3), (3, .int z4), (0, .ref y), (1, .int (nI t)), (2, .int (nI mn))]) hx hb dX7_bestOf_104 hl (by decide) rfl (fun ls hl => ?_)
              have loop106 : ∀ (k24 j : Nat) (x25 : Nat → Int32), j ≤ mn → mn < j + k24 → ∀ (H : Heap) (locs : List Loc) (ls : Array Slot), PP G (mM G y b (upd (upd f 20 x5) 21 x6) (up2 (up2 (up2 (up2 (up2 (up2 (up2 (up2 r 10 x25) 15 x8) 16 x9) 17 x10) 18 x11) 19 x12) 22 x13) 23 x14)) H → va_S A s.heap H locs → lv_has ls 10 [(7, .int (nI j)), (6, .int z20), (5, .int (nI s8)), (0, .ref y), (1, .int (nI t)), (2, .int (nI mn))] → W p l e ({ frames := 7, cells := 0, slots := 0, locals := 179 }) s m ([.ref y, .int (nI t), .int (nI mn)] : List Value).toArray below meth c H locs 0 0 (MQ below (QwI G (fun q w => ∃ (n_f_20 : Int32) (n_f_21 : Int32) (n_r_10 : Nat → Int32) (n_r_15 : Nat → Int32) (n_r_16 : Nat → Int32) (n_r_17 : Nat → Int32) (n_r_18 : Nat → Int32) (n_r_19 : Nat → Int32) (n_r_22 : Nat → Int32) (n_r_23 : Nat → Int32), w = mM G y b (upd (upd f 20 n_f_20) 21 n_f_21) (up2 (up2 (up2 (up2 (up2 (up2 (up2 (up2 r 10 n_r_10) 15 n_r_15) 16 n_r_16) 17 n_r_17) 18 n_r_18) 19 n_r_19) 22 n_r_22) 23 n_r_23) ∧ (q = -1 ∨ ∃ z, z < 256 ∧ q = nI z)) A) ([.ref y, .int (nI t), .int (nI mn)] : List Value).toArray s 0 0 A) (F0 m 106 ls []) := by
                intro k24
                induction k24 with
                | zero => intro j x25 h1 h2; exact absurd h1 (by omega)
                | succ k24 ih106k24 =>
                  intro j x25 hi_j hk_j  H locs ls hP hS hl
                  refine lv_iload hx hb dX7_bestOf_106 (lv_at hl 0 rfl) ?_
                  refine lv_iload_n hx hb dX7_bestOf_108 rfl (lv_at hl 5 rfl) ?_
                  refine lv_icmp_ge (tgt := 150) hx hb dX7_bestOf_109 (by decide) (fun c26 => ?_) (fun c26 => ?_)
                  · have b109 := qge_t (a := j) (b := mn) (by omega) (by omega) c26
                    refine lv_aload_n hx hb dX7_bestOf_150 rfl (lv_at hl 3 rfl) ?_
                    refine lv_iload_n hx hb dX7_bestOf_151 rfl (lv_at hl 4 rfl) ?_
                    refine lv_iconst (v := 0) hx hb dX7_bestOf_152 (by decide) ?_
                    refine wrVIa (rest := []) (q0 := 0) ⟨hx, hb, hml, hown, hts⟩ (m_X7_unsafeFrom l G y b (upd (upd f 20 x5) 21 x6) (up2 (up2 (up2 (up2 (up2 (up2 (up2 (up2 r 10 x25) 15 x8) 16 x9) 17 x10) 18 x11) 19 x12) 22 x13) 23 x14) t 0 rw cl bk (by omega) (by omega) (by omega) (by omega) h2 h3 h12 (by omega) hG) mi_yX7_unsafeFrom mv_yX7_unsafeFrom ml_X7_230 ⟨rfl, rfl, Nat.le_of_ble_eq_true rfl, Nat.le_of_ble_eq_true rfl⟩ hK hP (hDD _ _) rfl rfl rfl hl.1 rfl (Nat.le_of_ble_eq_true rfl) dX7_bestOf_153 ⟨Nat.zero_le _, Nat.zero_le _⟩ hS hA (fun r27 w28 H locs hw28 hP hS => ?_)
                    obtain ⟨x29, x30, x31, x32, x33, x34, x35, x36, x37, rfl, hw28r⟩ := hw28
                    have hP : PP G (mM G y b (upd (upd f 20 x29) 21 x30) (up2 (up2 (up2 (up2 (up2 (up2 (up2 (up2 r 10 x25) 15 x31) 16 x32) 17 x33) 18 x34) 19 x35) 22 x36) 23 x37)) H := hP
                    have hw28r : (r27 = -1 ∨ ∃ n, 0 ≤ n ∧ n < 144 ∧ r27 = nI n) := hw28r
                    refine lv_iconst (v := -1) hx hb dX7_bestOf_156 (by decide) ?_
                    refine lv_icmp_ne (tgt := 163) hx hb dX7_bestOf_157 (by decide) (fun c38 => ?_) (fun c38 => ?_)
                    · refine lv_iload hx hb dX7_bestOf_163 (lv_at hl 1 rfl) ?_
                      refine lv_istore_n (lv' := [(3, .int z20), (7, .int (nI j)), (6, .int z20), (5, .int (nI s8)), (0, .ref y), (1, .int (nI t)), (2, .int (nI mn))]) hx hb dX7_bestOf_165 rfl hl (by decide) rfl (fun ls hl => ?_)
                      refine lv_iload hx hb dX7_bestOf_166 (lv_at hl 3 rfl) ?_
                      refine lv_istore (lv' := [(4, .int (nI s8)), (3, .int z20), (7, .int (nI j)), (6, .int z20), (5, .int (nI s8)), (0, .ref y), (1, .int (nI t)), (2, .int (nI mn))]) hx hb dX7_bestOf_168 hl (by decide) rfl (fun ls hl => ?_)
                      refine lv_goto (tgt := 5) hx hb dX7_bestOf_170 (by decide) ?_
                      exact ih5k1 (nI s8) z20 x29 x30 x25 x31 x32 x33 x34 x35 x36 x37 (by rw [e6]; exact Nat.lt_of_lt_of_le (bh_lt hbh hs8) (Nat.le_of_lt_succ hm_k1)) _ _ _ hP hS (lv_sub hl [0, 1, 5, 6, 7] rfl)
                    · refine lv_iload hx hb dX7_bestOf_160 (lv_at hl 2 rfl) ?_
                      exact wr_iret hx hb hr hlocks hS hP ⟨x29, x30, x25, x31, x32, x33, x34, x35, x36, x37, rfl, Or.inr ⟨s8, hs8, rfl⟩⟩ dX7_bestOf_162
                  · have b109 := qge_f (a := j) (b := mn) (by omega) (by omega) c26
                    refine lv_aload_n hx hb dX7_bestOf_112 rfl (lv_at hl 3 rfl) ?_
                    refine va_get (D := G.1) (ci := 7) (v := .ref (b 10)) (C := RX7) (T := TX7) (N := 43) hx hb hts inX7 hown hK.1 hP 0 rfl rfl 10 (by decide) (hts _ mf_X7_38) (fun _ h9 => h9) rfl dX7_bestOf_113 ?_
                    refine lv_aload_n hx hb dX7_bestOf_116 rfl (lv_at hl 3 rfl) ?_
                    refine va_get (D := G.1) (ci := 7) (v := .ref (b 30)) (C := RX7) (T := TX7) (N := 43) hx hb hts inX7 hown hK.1 hP 0 rfl rfl 30 (by decide) (hts _ mf_X7_86) (fun _ h9 => h9) rfl dX7_bestOf_117 ?_
                    refine lv_iload hx hb dX7_bestOf_120 (lv_at hl 0 rfl) ?_
                    refine xiald (f := (r 30)) hx hb hK hP 26 (j) (rfl) (by omega) (by decide) rfl dX7_bestOf_122 ?_
                    refine lv_topi (fun v39 ev39 => ?_)
                    obtain ⟨pk, hpk, epk⟩ := hch j (by omega)
                    obtain rfl : v39 = nI (pk) := ev39.trans (epk)
                    refine lv_iload hx hb dX7_bestOf_123 (lv_at hl 2 rfl) ?_
                    refine lv_iload_n hx hb dX7_bestOf_125 rfl (lv_at hl 5 rfl) ?_
                    refine lv_iconst (v := 1) hx hb dX7_bestOf_126 (by decide) ?_
                    refine lv_isub hx hb dX7_bestOf_127 ?_
                    refine lv_topi (fun v40 ev40 => ?_)
                    refine lv_iload hx hb dX7_bestOf_128 (lv_at hl 0 rfl) ?_
                    refine lv_isub hx hb dX7_bestOf_130 ?_
                    refine lv_topi (fun v41 ev41 => ?_)
                    refine lv_ishr hx hb dX7_bestOf_131 ?_
                    refine lv_topi (fun v42 ev42 => ?_)
                    refine lv_iconst (v := 1) hx hb dX7_bestOf_132 (by decide) ?_
                    refine lv_iand hx hb dX7_bestOf_133 ?_
                    refine lv_topi (fun v43 ev43 => ?_)
                    refine lv_iconst (v := 1) hx hb dX7_bestOf_134 (by decide) ?_
                    have j143_44 : ∀ (z44 : Int32) (gz44 : z44 = 0 ∨ z44 = 1) (H : Heap) (locs : List Loc) (ls : Array Slot), PP G (mM G y b (upd (upd f 20 x5) 21 x6) (up2 (up2 (up2 (up2 (up2 (up2 (up2 (up2 r 10 x25) 15 x8) 16 x9) 17 x10) 18 x11) 19 x12) 22 x13) 23 x14)) H → va_S A s.heap H locs → lv_has ls 10 [(7, .int (nI j)), (6, .int z20), (5, .int (nI s8)), (0, .ref y), (1, .int (nI t)), (2, .int (nI mn))] → W p l e ({ frames := 7, cells := 0, slots := 0, locals := 179 }) s m ([.ref y, .int (nI t), .int (nI mn)] : List Value).toArray below meth c H locs 0 0 (MQ below (QwI G (fun q w => ∃ (n_f_20 : Int32) (n_f_21 : Int32) (n_r_10 : Nat → Int32) (n_r_15 : Nat → Int32) (n_r_16 : Nat → Int32) (n_r_17 : Nat → Int32) (n_r_18 : Nat → Int32) (n_r_19 : Nat → Int32) (n_r_22 : Nat → Int32) (n_r_23 : Nat → Int32), w = mM G y b (upd (upd f 20 n_f_20) 21 n_f_21) (up2 (up2 (up2 (up2 (up2 (up2 (up2 (up2 r 10 n_r_10) 15 n_r_15) 16 n_r_16) 17 n_r_17) 18 n_r_18) 19 n_r_19) 22 n_r_22) 23 n_r_23) ∧ (q = -1 ∨ ∃ z, z < 256 ∧ q = nI z)) A) ([.ref y, .int (nI t), .int (nI mn)] : List Value).toArray s 0 0 A) (F0 m 143 ls [.int z44, .int (nI (pk)), .ref (b 10)]) := by
                      intro z44 gz44 H locs ls hP hS hl
                      refine xzast (f := x25) (x := z44) hx hb hK hP (hDD _ _) hS 10 ((pk)) (rfl) (by omega) (by decide) (gz44) rfl dX7_bestOf_143 (fun H locs hP _ hS => ?_)
                      have hP : PP G (mM G y b (upd (upd f 20 x5) 21 x6) (up2 (up2 (up2 (up2 (up2 (up2 (up2 (up2 r 10 (upd x25 ((pk)) (z44))) 15 x8) 16 x9) 17 x10) 18 x11) 19 x12) 22 x13) 23 x14)) H := hP
                      obtain ⟨v45, ev45⟩ : ∃ y9 : Int32, y9 = (nI j) + Int32.ofInt (1) := ⟨_, rfl⟩
                      refine lv_iinc (v := v45) (lv' := [(7, .int v45), (6, .int z20), (5, .int (nI s8)), (0, .ref y), (1, .int (nI t)), (2, .int (nI mn))]) hx hb dX7_bestOf_144 hl (k := 0) rfl ev45.symm (by decide) rfl (fun ls hl => ?_)
                      obtain rfl : v45 = nI (j + 1) := nI_plus (i := j) (j := 1) ev45 rfl (by decide)
                      refine lv_goto (tgt := 106) hx hb dX7_bestOf_147 (by decide) ?_
                      exact ih106k24 (j + 1) (upd x25 ((pk)) (z44)) (by omega) (by omega) _ _ _ hP hS (lv_sub hl [0, 1, 2, 3, 4, 5] rfl)
                    refine lv_icmp_ne (tgt := 142) hx hb dX7_bestOf_135 (by decide) (fun c46 => ?_) (fun c46 => ?_)
                    · refine lv_iconst (v := 0) hx hb dX7_bestOf_142 (by decide) ?_
                      exact j143_44 0 (Or.inl rfl) _ _ _ hP hS (lv_sub hl [0, 1, 2, 3, 4, 5] rfl)
                    · refine lv_iconst (v := 1) hx hb dX7_bestOf_138 (by decide) ?_
                      refine lv_goto (tgt := 143) hx hb dX7_bestOf_139 (by decide) ?_
                      exact j143_44 1 (Or.inr rfl) _ _ _ hP hS (lv_sub hl [0, 1, 2, 3, 4, 5] rfl)
              exact loop106 (mn + 1) 0 x7 (by omega) (by omega) _ _ _ hP hS (lv_sub hl [0, 1, 2, 5, 6, 7] rfl)
            · refine lv_goto (tgt := 173) hx hb dX7_bestOf_100 (by decide) ?_
              refine lv_iconst (v := -1) hx hb dX7_bestOf_173 (by decide) ?_
              exact wr_iret hx hb hr hlocks hS hP ⟨x5, x6, x7, x8, x9, x10, x11, x12, x13, x14, rfl, Or.inl rfl⟩ dX7_bestOf_174
          · obtain ⟨s9, hs9, rfl, hm9⟩ := hs7.resolve_left (fun e9 => c22 (by rw [e9]; decide))
            refine lv_aload_n hx hb dX7_bestOf_23 rfl (lv_at hl 5 rfl) ?_
            refine lv_iload_n hx hb dX7_bestOf_24 rfl (lv_at hl 6 rfl) ?_
            refine lv_iload_n hx hb dX7_bestOf_25 rfl (lv_at hl 7 rfl) ?_
            refine lv_iload hx hb dX7_bestOf_26 (lv_at hl 0 rfl) ?_
            refine rdV (rest := []) (q0 := 0) ⟨hx, hb, hml, hown, hts⟩ (m_X7_costOfSet l G y b (upd (upd f 20 x5) 21 x6) (up2 (up2 (up2 (up2 (up2 (up2 (up2 (up2 r 10 x7) 15 x8) 16 x9) 17 x10) 18 x11) 19 x12) 22 x13) 23 x14) t mn (nI s9)  (by omega) (by omega) hch) mi_yX7_costOfSet mv_yX7_costOfSet ml_X7_251 ⟨rfl, rfl, Nat.le_of_ble_eq_true rfl, Nat.le_of_ble_eq_true rfl⟩ hK (hP) rfl rfl rfl hl.1 rfl (Nat.le_of_ble_eq_true rfl) dX7_bestOf_28 ⟨Nat.zero_le _, Nat.zero_le _⟩ hS hA hP (fun r47 H locs hr47 hP hS => ?_)
            obtain rfl := hr47
            refine lv_istore (lv' := [(8, .int (csM (r 4) (r 6) (r 30) t mn (nI s9) mn)), (7, .int (nI s9)), (6, .int z20), (5, .int z21), (4, .int z3), (3, .int z4), (0, .ref y), (1, .int (nI t)), (2, .int (nI mn))]) hx hb dX7_bestOf_31 hl (by decide) rfl (fun ls hl => ?_)
            refine lv_iload hx hb dX7_bestOf_33 (lv_at hl 0 rfl) ?_
            refine lv_iload_n hx hb dX7_bestOf_35 rfl (lv_at hl 5 rfl) ?_
            refine lv_icmp_gt (tgt := 52) hx hb dX7_bestOf_36 (by decide) (fun c48 => ?_) (fun c48 => ?_)
            · refine lv_iconst (v := 1) hx hb dX7_bestOf_52 (by decide) ?_
              refine lv_goto (tgt := 57) hx hb dX7_bestOf_53 (by decide) ?_
              refine lv_istore (lv' := [(9, .int 1), (8, .int (csM (r 4) (r 6) (r 30) t mn (nI s9) mn)), (7, .int (nI s9)), (6, .int z20), (5, .int z21), (4, .int z3), (3, .int z4), (0, .ref y), (1, .int (nI t)), (2, .int (nI mn))]) hx hb dX7_bestOf_57 hl (by decide) rfl (fun ls hl => ?_)
              refine lv_iload hx hb dX7_bestOf_59 (lv_at hl 0 rfl) ?_
              refine lv_if_eq (tgt := 88) hx hb dX7_bestOf_61 (by decide) (fun c49 => absurd c49 (by decide)) (fun c49 => ?_)
              refine lv_iload hx hb dX7_bestOf_64 (lv_at hl 4 rfl) ?_
              refine lv_iconst (v := -1) hx hb dX7_bestOf_66 (by decide) ?_
              refine lv_icmp_eq (tgt := 80) hx hb dX7_bestOf_67 (by decide) (fun c50 => ?_) (fun c50 => ?_)
              · refine lv_iload hx hb dX7_bestOf_80 (lv_at hl 2 rfl) ?_
                refine lv_istore (lv' := [(5, .int (nI s9)), (9, .int 1), (8, .int (csM (r 4) (r 6) (r 30) t mn (nI s9) mn)), (7, .int (nI s9)), (6, .int z20), (4, .int z3), (3, .int z4), (0, .ref y), (1, .int (nI t)), (2, .int (nI mn))]) hx hb dX7_bestOf_82 hl (by decide) rfl (fun ls hl => ?_)
                refine lv_iload hx hb dX7_bestOf_84 (lv_at hl 2 rfl) ?_
                refine lv_istore (lv' := [(6, .int (csM (r 4) (r 6) (r 30) t mn (nI s9) mn)), (5, .int (nI s9)), (9, .int 1), (8, .int (csM (r 4) (r 6) (r 30) t mn (nI s9) mn)), (7, .int (nI s9)), (4, .int z3), (3, .int z4), (0, .ref y), (1, .int (nI t)), (2, .int (nI mn))]) hx hb dX7_bestOf_86 hl (by decide) rfl (fun ls hl => ?_)
                obtain ⟨v51, ev51⟩ : ∃ y9 : Int32, y9 = (nI s9) + Int32.ofInt (-1) := ⟨_, rfl⟩
                refine lv_iinc (v := v51) (lv' := [(7, .int v51), (6, .int (csM (r 4) (r 6) (r 30) t mn (nI s9) mn)), (5, .int (nI s9)), (9, .int 1), (8, .int (csM (r 4) (r 6) (r 30) t mn (nI s9) mn)), (4, .int z3), (3, .int z4), (0, .ref y), (1, .int (nI t)), (2, .int (nI mn))]) hx hb dX7_bestOf_88 hl (k := 4) rfl ev51.symm (by decide) rfl (fun ls hl => ?_)
                refine lv_goto (tgt := 18) hx hb dX7_bestOf_91 (by decide) ?_
                exact ih18k17 v51 (csM (r 4) (r 6) (r 30) t mn (nI s9) mn) (nI s9) s9 (by omega) (dec_s ev51 hs9) (Or.inr ⟨s9, hs9, rfl, rfl, Or.inl c48⟩) _ _ _ hP hS (lv_sub hl [0, 1, 2, 5, 6, 7, 8, 9] rfl)
              · refine lv_iload hx hb dX7_bestOf_70 (lv_at hl 1 rfl) ?_
                refine lv_iload hx hb dX7_bestOf_72 (lv_at hl 3 rfl) ?_
                refine lv_icmp_lt (tgt := 80) hx hb dX7_bestOf_74 (by decide) (fun c52 => ?_) (fun c52 => ?_)
                · refine lv_iload hx hb dX7_bestOf_80 (lv_at hl 2 rfl) ?_
                  refine lv_istore (lv' := [(5, .int (nI s9)), (9, .int 1), (8, .int (csM (r 4) (r 6) (r 30) t mn (nI s9) mn)), (7, .int (nI s9)), (6, .int z20), (4, .int z3), (3, .int z4), (0, .ref y), (1, .int (nI t)), (2, .int (nI mn))]) hx hb dX7_bestOf_82 hl (by decide) rfl (fun ls hl => ?_)
                  refine lv_iload hx hb dX7_bestOf_84 (lv_at hl 2 rfl) ?_
                  refine lv_istore (lv' := [(6, .int (csM (r 4) (r 6) (r 30) t mn (nI s9) mn)), (5, .int (nI s9)), (9, .int 1), (8, .int (csM (r 4) (r 6) (r 30) t mn (nI s9) mn)), (7, .int (nI s9)), (4, .int z3), (3, .int z4), (0, .ref y), (1, .int (nI t)), (2, .int (nI mn))]) hx hb dX7_bestOf_86 hl (by decide) rfl (fun ls hl => ?_)
                  obtain ⟨v53, ev53⟩ : ∃ y9 : Int32, y9 = (nI s9) + Int32.ofInt (-1) := ⟨_, rfl⟩
                  refine lv_iinc (v := v53) (lv' := [(7, .int v53), (6, .int (csM (r 4) (r 6) (r 30) t mn (nI s9) mn)), (5, .int (nI s9)), (9, .int 1), (8, .int (csM (r 4) (r 6) (r 30) t mn (nI s9) mn)), (4, .int z3), (3, .int z4), (0, .ref y), (1, .int (nI t)), (2, .int (nI mn))]) hx hb dX7_bestOf_88 hl (k := 4) rfl ev53.symm (by decide) rfl (fun ls hl => ?_)
                  refine lv_goto (tgt := 18) hx hb dX7_bestOf_91 (by decide) ?_
                  exact ih18k17 v53 (csM (r 4) (r 6) (r 30) t mn (nI s9) mn) (nI s9) s9 (by omega) (dec_s ev53 hs9) (Or.inr ⟨s9, hs9, rfl, rfl, Or.inl c48⟩) _ _ _ hP hS (lv_sub hl [0, 1, 2, 5, 6, 7, 8, 9] rfl)
                · refine lv_goto (tgt := 88) hx hb dX7_bestOf_77 (by decide) ?_
                  obtain ⟨v54, ev54⟩ : ∃ y9 : Int32, y9 = (nI s9) + Int32.ofInt (-1) := ⟨_, rfl⟩
                  refine lv_iinc (v := v54) (lv' := [(7, .int v54), (9, .int 1), (8, .int (csM (r 4) (r 6) (r 30) t mn (nI s9) mn)), (6, .int z20), (5, .int z21), (4, .int z3), (3, .int z4), (0, .ref y), (1, .int (nI t)), (2, .int (nI mn))]) hx hb dX7_bestOf_88 hl (k := 2) rfl ev54.symm (by decide) rfl (fun ls hl => ?_)
                  refine lv_goto (tgt := 18) hx hb dX7_bestOf_91 (by decide) ?_
                  exact ih18k17 v54 z20 z21 s9 (by omega) (dec_s ev54 hs9) (hnx) _ _ _ hP hS (lv_sub hl [0, 3, 4, 5, 6, 7, 8, 9] rfl)
            · refine lv_iload hx hb dX7_bestOf_39 (lv_at hl 0 rfl) ?_
              refine lv_iload_n hx hb dX7_bestOf_41 rfl (lv_at hl 5 rfl) ?_
              refine lv_icmp_ne (tgt := 56) hx hb dX7_bestOf_42 (by decide) (fun c55 => ?_) (fun c55 => ?_)
              · refine lv_iconst (v := 0) hx hb dX7_bestOf_56 (by decide) ?_
                refine lv_istore (lv' := [(9, .int 0), (8, .int (csM (r 4) (r 6) (r 30) t mn (nI s9) mn)), (7, .int (nI s9)), (6, .int z20), (5, .int z21), (4, .int z3), (3, .int z4), (0, .ref y), (1, .int (nI t)), (2, .int (nI mn))]) hx hb dX7_bestOf_57 hl (by decide) rfl (fun ls hl => ?_)
                refine lv_iload hx hb dX7_bestOf_59 (lv_at hl 0 rfl) ?_
                refine lv_if_eq (tgt := 88) hx hb dX7_bestOf_61 (by decide) (fun c56 => ?_) (fun c56 => absurd (by decide) c56)
                obtain ⟨v57, ev57⟩ : ∃ y9 : Int32, y9 = (nI s9) + Int32.ofInt (-1) := ⟨_, rfl⟩
                refine lv_iinc (v := v57) (lv' := [(7, .int v57), (9, .int 0), (8, .int (csM (r 4) (r 6) (r 30) t mn (nI s9) mn)), (6, .int z20), (5, .int z21), (4, .int z3), (3, .int z4), (0, .ref y), (1, .int (nI t)), (2, .int (nI mn))]) hx hb dX7_bestOf_88 hl (k := 2) rfl ev57.symm (by decide) rfl (fun ls hl => ?_)
                refine lv_goto (tgt := 18) hx hb dX7_bestOf_91 (by decide) ?_
                exact ih18k17 v57 z20 z21 s9 (by omega) (dec_s ev57 hs9) (hnx) _ _ _ hP hS (lv_sub hl [0, 3, 4, 5, 6, 7, 8, 9] rfl)
              · refine lv_iload hx hb dX7_bestOf_45 (lv_at hl 1 rfl) ?_
                refine lv_iload hx hb dX7_bestOf_47 (lv_at hl 4 rfl) ?_
                refine lv_icmp_ge (tgt := 56) hx hb dX7_bestOf_49 (by decide) (fun c58 => ?_) (fun c58 => ?_)
                · refine lv_iconst (v := 0) hx hb dX7_bestOf_56 (by decide) ?_
                  refine lv_istore (lv' := [(9, .int 0), (8, .int (csM (r 4) (r 6) (r 30) t mn (nI s9) mn)), (7, .int (nI s9)), (6, .int z20), (5, .int z21), (4, .int z3), (3, .int z4), (0, .ref y), (1, .int (nI t)), (2, .int (nI mn))]) hx hb dX7_bestOf_57 hl (by decide) rfl (fun ls hl => ?_)
                  refine lv_iload hx hb dX7_bestOf_59 (lv_at hl 0 rfl) ?_
                  refine lv_if_eq (tgt := 88) hx hb dX7_bestOf_61 (by decide) (fun c59 => ?_) (fun c59 => absurd (by decide) c59)
                  obtain ⟨v60, ev60⟩ : ∃ y9 : Int32, y9 = (nI s9) + Int32.ofInt (-1) := ⟨_, rfl⟩
                  refine lv_iinc (v := v60) (lv' := [(7, .int v60), (9, .int 0), (8, .int (csM (r 4) (r 6) (r 30) t mn (nI s9) mn)), (6, .int z20), (5, .int z21), (4, .int z3), (3, .int z4), (0, .ref y), (1, .int (nI t)), (2, .int (nI mn))]) hx hb dX7_bestOf_88 hl (k := 2) rfl ev60.symm (by decide) rfl (fun ls hl => ?_)
                  refine lv_goto (tgt := 18) hx hb dX7_bestOf_91 (by decide) ?_
                  exact ih18k17 v60 z20 z21 s9 (by omega) (dec_s ev60 hs9) (hnx) _ _ _ hP hS (lv_sub hl [0, 3, 4, 5, 6, 7, 8, 9] rfl)
                · refine lv_iconst (v := 1) hx hb dX7_bestOf_52 (by decide) ?_
                  refine lv_goto (tgt := 57) hx hb dX7_bestOf_53 (by decide) ?_
                  refine lv_istore (lv' := [(9, .int 1), (8, .int (csM (r 4) (r 6) (r 30) t mn (nI s9) mn)), (7, .int (nI s9)), (6, .int z20), (5, .int z21), (4, .int z3), (3, .int z4), (0, .ref y), (1, .int (nI t)), (2, .int (nI mn))]) hx hb dX7_bestOf_57 hl (by decide) rfl (fun ls hl => ?_)
                  refine lv_iload hx hb dX7_bestOf_59 (lv_at hl 0 rfl) ?_
                  refine lv_if_eq (tgt := 88) hx hb dX7_bestOf_61 (by decide) (fun c61 => absurd c61 (by decide)) (fun c61 => ?_)
                  refine lv_iload hx hb dX7_bestOf_64 (lv_at hl 4 rfl) ?_
                  refine lv_iconst (v := -1) hx hb dX7_bestOf_66 (by decide) ?_
                  refine lv_icmp_eq (tgt := 80) hx hb dX7_bestOf_67 (by decide) (fun c62 => ?_) (fun c62 => ?_)
                  · refine lv_iload hx hb dX7_bestOf_80 (lv_at hl 2 rfl) ?_
                    refine lv_istore (lv' := [(5, .int (nI s9)), (9, .int 1), (8, .int (csM (r 4) (r 6) (r 30) t mn (nI s9) mn)), (7, .int (nI s9)), (6, .int z20), (4, .int z3), (3, .int z4), (0, .ref y), (1, .int (nI t)), (2, .int (nI mn))]) hx hb dX7_bestOf_82 hl (by decide) rfl (fun ls hl => ?_)
                    refine lv_iload hx hb dX7_bestOf_84 (lv_at hl 2 rfl) ?_
                    refine lv_istore (lv' := [(6, .int (csM (r 4) (r 6) (r 30) t mn (nI s9) mn)), (5, .int (nI s9)), (9, .int 1), (8, .int (csM (r 4) (r 6) (r 30) t mn (nI s9) mn)), (7, .int (nI s9)), (4, .int z3), (3, .int z4), (0, .ref y), (1, .int (nI t)), (2, .int (nI mn))]) hx hb dX7_bestOf_86 hl (by decide) rfl (fun ls hl => ?_)
                    obtain ⟨v63, ev63⟩ : ∃ y9 : Int32, y9 = (nI s9) + Int32.ofInt (-1) := ⟨_, rfl⟩
                    refine lv_iinc (v := v63) (lv' := [(7, .int v63), (6, .int (csM (r 4) (r 6) (r 30) t mn (nI s9) mn)), (5, .int (nI s9)), (9, .int 1), (8, .int (csM (r 4) (r 6) (r 30) t mn (nI s9) mn)), (4, .int z3), (3, .int z4), (0, .ref y), (1, .int (nI t)), (2, .int (nI mn))]) hx hb dX7_bestOf_88 hl (k := 4) rfl ev63.symm (by decide) rfl (fun ls hl => ?_)
                    refine lv_goto (tgt := 18) hx hb dX7_bestOf_91 (by decide) ?_
                    exact ih18k17 v63 (csM (r 4) (r 6) (r 30) t mn (nI s9) mn) (nI s9) s9 (by omega) (dec_s ev63 hs9) (Or.inr ⟨s9, hs9, rfl, rfl, Or.inr ⟨c55, n_le c58⟩⟩) _ _ _ hP hS (lv_sub hl [0, 1, 2, 5, 6, 7, 8, 9] rfl)
                  · refine lv_iload hx hb dX7_bestOf_70 (lv_at hl 1 rfl) ?_
                    refine lv_iload hx hb dX7_bestOf_72 (lv_at hl 3 rfl) ?_
                    refine lv_icmp_lt (tgt := 80) hx hb dX7_bestOf_74 (by decide) (fun c64 => ?_) (fun c64 => ?_)
                    · refine lv_iload hx hb dX7_bestOf_80 (lv_at hl 2 rfl) ?_
                      refine lv_istore (lv' := [(5, .int (nI s9)), (9, .int 1), (8, .int (csM (r 4) (r 6) (r 30) t mn (nI s9) mn)), (7, .int (nI s9)), (6, .int z20), (4, .int z3), (3, .int z4), (0, .ref y), (1, .int (nI t)), (2, .int (nI mn))]) hx hb dX7_bestOf_82 hl (by decide) rfl (fun ls hl => ?_)
                      refine lv_iload hx hb dX7_bestOf_84 (lv_at hl 2 rfl) ?_
                      refine lv_istore (lv' := [(6, .int (csM (r 4) (r 6) (r 30) t mn (nI s9) mn)), (5, .int (nI s9)), (9, .int 1), (8, .int (csM (r 4) (r 6) (r 30) t mn (nI s9) mn)), (7, .int (nI s9)), (4, .int z3), (3, .int z4), (0, .ref y), (1, .int (nI t)), (2, .int (nI mn))]) hx hb dX7_bestOf_86 hl (by decide) rfl (fun ls hl => ?_)
                      obtain ⟨v65, ev65⟩ : ∃ y9 : Int32, y9 = (nI s9) + Int32.ofInt (-1) := ⟨_, rfl⟩
                      refine lv_iinc (v := v65) (lv' := [(7, .int v65), (6, .int (csM (r 4) (r 6) (r 30) t mn (nI s9) mn)), (5, .int (nI s9)), (9, .int 1), (8, .int (csM (r 4) (r 6) (r 30) t mn (nI s9) mn)), (4, .int z3), (3, .int z4), (0, .ref y), (1, .int (nI t)), (2, .int (nI mn))]) hx hb dX7_bestOf_88 hl (k := 4) rfl ev65.symm (by decide) rfl (fun ls hl => ?_)
                      refine lv_goto (tgt := 18) hx hb dX7_bestOf_91 (by decide) ?_
                      exact ih18k17 v65 (csM (r 4) (r 6) (r 30) t mn (nI s9) mn) (nI s9) s9 (by omega) (dec_s ev65 hs9) (Or.inr ⟨s9, hs9, rfl, rfl, Or.inr ⟨c55, n_le c58⟩⟩) _ _ _ hP hS (lv_sub hl [0, 1, 2, 5, 6, 7, 8, 9] rfl)
                    · refine lv_goto (tgt := 88) hx hb dX7_bestOf_77 (by decide) ?_
                      obtain ⟨v66, ev66⟩ : ∃ y9 : Int32, y9 = (nI s9) + Int32.ofInt (-1) := ⟨_, rfl⟩
                      refine lv_iinc (v := v66) (lv' := [(7, .int v66), (9, .int 1), (8, .int (csM (r 4) (r 6) (r 30) t mn (nI s9) mn)), (6, .int z20), (5, .int z21), (4, .int z3), (3, .int z4), (0, .ref y), (1, .int (nI t)), (2, .int (nI mn))]) hx hb dX7_bestOf_88 hl (k := 2) rfl ev66.symm (by decide) rfl (fun ls hl => ?_)
                      refine lv_goto (tgt := 18) hx hb dX7_bestOf_91 (by decide) ?_
                      exact ih18k17 v66 z20 z21 s9 (by omega) (dec_s ev66 hs9) (hnx) _ _ _ hP hS (lv_sub hl [0, 3, 4, 5, 6, 7, 8, 9] rfl)
      exact loop18 257 (nI (sz - 1)) 0 (-1) 256 (by omega) (Or.inr ⟨sz - 1, by omega, rfl, by omega⟩) (Or.inl rfl) _ _ _ hP hS (lv_sub hl [0, 1, 2, 3, 4, 5, 6, 7] rfl)
  exact loop5 257 0 (-1) (f 20) (f 21) (r 10) (r 15) (r 16) (r 17) (r 18) (r 19) (r 22) (r 23) (Nat.lt_succ_of_le (cP_bd _ _)) _ _ _ hP hS (lv_sub hl [0, 1, 2, 3, 4] rfl)
set_option maxHeartbeats 4000000 in
set_option maxRecDepth 100000 in
theorem m_X7_fewest (l : Launch) (G : GG) (y : Nat) (b : Nat → Nat) (f : Nat → Int32) (r : Nat → Nat → Int32) (tb : Int32) (hM2 : nOK 6 12 (r 2)) (hM3 : nOK 6 12 (r 3)) (hM12 : nOK 6 12 (r 12)) (hG : nOK 864 6 (r 7)) : WrI l yX7_fewest cX7_fewest 6 (some .int) ({ frames := 8, cells := 0, slots := 0, locals := 208 }) G (mM G y b f r) [.ref y, .int tb] (fun q w => ∃ (n_f_0 : Int32) (n_f_20 : Int32) (n_f_21 : Int32) (n_r_10 : Nat → Int32) (n_r_15 : Nat → Int32) (n_r_16 : Nat → Int32) (n_r_17 : Nat → Int32) (n_r_18 : Nat → Int32) (n_r_19 : Nat → Int32) (n_r_22 : Nat → Int32) (n_r_23 : Nat → Int32) (n_r_29 : Nat → Int32) (n_r_30 : Nat → Int32), w = mM G y b (upd (upd (upd f 0 n_f_0) 20 n_f_20) 21 n_f_21) (up2 (up2 (up2 (up2 (up2 (up2 (up2 (up2 (up2 (up2 r 10 n_r_10) 15 n_r_15) 16 n_r_16) 17 n_r_17) 18 n_r_18) 19 n_r_19) 22 n_r_22) 23 n_r_23) 29 n_r_29) 30 n_r_30)) := by
  refine wr_entryI (by decide +kernel) (Nat.le_of_ble_eq_true rfl) ?_
  intro p e s m below meth c A C0 hP hK hD hA ls hl
  have hS : va_S A s.heap s.heap [] := va_S.rf
  obtain ⟨hx, hb, hml, hown, hts, hr, hlocks, hin⟩ := C0
  have hown : s.vm.findClass RX7 = some m.cls := hown
  have hDD : ∀ f' r', va_D A (mM G y b f' r') := fun f' r' => D_same hD rfl
  have hl : lv_has ls 6 [(0, .ref y), (1, .int tb)] := hl
  refine lv_aload_n hx hb dX7_fewest_0 rfl (lv_at hl 0 rfl) ?_
  refine lv_aload_n hx hb dX7_fewest_1 rfl (lv_at hl 0 rfl) ?_
  refine lv_iload_n hx hb dX7_fewest_2 rfl (lv_at hl 1 rfl) ?_
  refine rdV (rest := [.ref y]) (q0 := 0) ⟨hx, hb, hml, hown, hts⟩ (m_X7_isTable l G y b f r tb  ) mi_yX7_isTable mv_yX7_isTable ml_X7_120 ⟨rfl, rfl, Nat.le_of_ble_eq_true rfl, Nat.le_of_ble_eq_true rfl⟩ hK (hP) rfl rfl rfl hl.1 rfl (Nat.le_of_ble_eq_true rfl) dX7_fewest_3 ⟨Nat.zero_le _, Nat.zero_le _⟩ hS hA hP (fun r1 H locs hr1 hP hS => ?_)
  have hr1 : ((r1 = 1 ∧ (opn (r 1) tb)) ∨ (r1 = 0 ∧ ¬ (opn (r 1) tb))) := hr1
  refine lv_if_eq (tgt := 13) hx hb dX7_fewest_6 (by decide) (fun c2 => ?_) (fun c2 => ?_)
  · have b6 := bF hr1 c2
    refine lv_iconst (v := 1) hx hb dX7_fewest_13 (by decide) ?_
    refine va_put (D := G.1) (ci := 7) (v := .int 1) (C := RX7) (T := TX7) (N := 43) hx hb hts inX7 tyX7 tyX7_ok nmX7 hown hK.1 hP (hDD _ _) hS 0 rfl rfl 0 (by decide) (hts _ mf_X7_116) (fun _ h9 => h9) rfl (tyX7_ok 0 (by decide)) (rfl) (rfl) (Nat.le_of_ble_eq_true rfl) dX7_fewest_14 (fun H locs hP _ hS => ?_)
    have hP : PP G (mM G y b (upd f 0 1) r) H := hP
    refine lv_aload_n hx hb dX7_fewest_17 rfl (lv_at hl 0 rfl) ?_
    refine va_get (D := G.1) (ci := 7) (v := .int 1) (C := RX7) (T := TX7) (N := 43) hx hb hts inX7 hown hK.1 hP 0 rfl rfl 0 (by decide) (hts _ mf_X7_116) (fun _ h9 => h9) rfl dX7_fewest_18 ?_
    refine lv_if_le (tgt := 26) hx hb dX7_fewest_21 (by decide) (fun c3 => absurd c3 (by decide)) (fun c3 => ?_)
    refine lv_iconst (v := -1) hx hb dX7_fewest_24 (by decide) ?_
    exact wr_iret hx hb hr hlocks hS hP ⟨1, (f 20), (f 21), (r 10), (r 15), (r 16), (r 17), (r 18), (r 19), (r 22), (r 23), (r 29), (r 30), rfl⟩ dX7_fewest_25
  · have b6 := bT hr1 c2
    obtain ⟨t, ht, rfl, hop⟩ := b6
    obtain ⟨rw, hrw, h2⟩ := hM2 t ht
    obtain ⟨cl, hcl, h3⟩ := hM3 t ht
    obtain ⟨bk, hbk, h12⟩ := hM12 t ht
    refine lv_iconst (v := 0) hx hb dX7_fewest_9 (by decide) ?_
    refine lv_goto (tgt := 14) hx hb dX7_fewest_10 (by decide) ?_
    refine va_put (D := G.1) (ci := 7) (v := .int 0) (C := RX7) (T := TX7) (N := 43) hx hb hts inX7 tyX7 tyX7_ok nmX7 hown hK.1 hP (hDD _ _) hS 0 rfl rfl 0 (by decide) (hts _ mf_X7_116) (fun _ h9 => h9) rfl (tyX7_ok 0 (by decide)) (rfl) (rfl) (Nat.le_of_ble_eq_true rfl) dX7_fewest_14 (fun H locs hP _ hS => ?_)
    have hP : PP G (mM G y b (upd f 0 0) r) H := hP
    refine lv_aload_n hx hb dX7_fewest_17 rfl (lv_at hl 0 rfl) ?_
    refine va_get (D := G.1) (ci := 7) (v := .int 0) (C := RX7) (T := TX7) (N := 43) hx hb hts inX7 hown hK.1 hP 0 rfl rfl 0 (by decide) (hts _ mf_X7_116) (fun _ h9 => h9) rfl dX7_fewest_18 ?_
    refine lv_if_le (tgt := 26) hx hb dX7_fewest_21 (by decide) (fun c4 => ?_) (fun c4 => absurd (by decide) c4)
    refine lv_iconst (v := 0) hx hb dX7_fewest_26 (by decide) ?_
    refine lv_istore_n (lv' := [(2, .int 0), (0, .ref y), (1, .int (nI t))]) hx hb dX7_fewest_27 rfl hl (by decide) rfl (fun ls hl => ?_)
    refine lv_iconst (v := 0) hx hb dX7_fewest_28 (by decide) ?_
    refine lv_istore_n (lv' := [(3, .int 0), (2, .int 0), (0, .ref y), (1, .int (nI t))]) hx hb dX7_fewest_29 rfl hl (by decide) rfl (fun ls hl => ?_)
    have loop30 : ∀ (k5 i : Nat) (mn : Nat) (x7 : Nat → Int32), i ≤ rw → rw < i + k5 → (mn ≤ 12 * i) → (nOK (min mn 12) 863 x7) → ∀ (H : Heap) (locs : List Loc) (ls : Array Slot), PP G (mM G y b (upd f 0 0) (up2 r 30 x7)) H → va_S A s.heap H locs → lv_has ls 6 [(3, .int (nI i)), (2, .int (nI mn)), (0, .ref y), (1, .int (nI t))] → W p l e ({ frames := 8, cells := 0, slots := 0, locals := 208 }) s m ([.ref y, .int (nI t)] : List Value).toArray below meth c H locs 0 0 (MQ below (QwI G (fun q w => ∃ (n_f_0 : Int32) (n_f_20 : Int32) (n_f_21 : Int32) (n_r_10 : Nat → Int32) (n_r_15 : Nat → Int32) (n_r_16 : Nat → Int32) (n_r_17 : Nat → Int32) (n_r_18 : Nat → Int32) (n_r_19 : Nat → Int32) (n_r_22 : Nat → Int32) (n_r_23 : Nat → Int32) (n_r_29 : Nat → Int32) (n_r_30 : Nat → Int32), w = mM G y b (upd (upd (upd f 0 n_f_0) 20 n_f_20) 21 n_f_21) (up2 (up2 (up2 (up2 (up2 (up2 (up2 (up2 (up2 (up2 r 10 n_r_10) 15 n_r_15) 16 n_r_16) 17 n_r_17) 18 n_r_18) 19 n_r_19) 22 n_r_22) 23 n_r_23) 29 n_r_29) 30 n_r_30)) A) ([.ref y, .int (nI t)] : List Value).toArray s 0 0 A) (F0 m 30 ls []) := by
      intro k5
      induction k5 with
      | zero => intro i mn x7 h1 h2; exact absurd h1 (by omega)
      | succ k5 ih30k5 =>
        intro i mn x7 hi_i hk_i gmn hch H locs ls hP hS hl
        refine lv_iload_n hx hb dX7_fewest_30 rfl (lv_at hl 0 rfl) ?_
        refine lv_aload_n hx hb dX7_fewest_31 rfl (lv_at hl 2 rfl) ?_
        refine va_get (D := G.1) (ci := 7) (v := .ref (b 2)) (C := RX7) (T := TX7) (N := 43) hx hb hts inX7 hown hK.1 hP 0 rfl rfl 2 (by decide) (hts _ mf_X7_13) (fun _ h9 => h9) rfl dX7_fewest_32 ?_
        refine lv_iload_n hx hb dX7_fewest_35 rfl (lv_at hl 3 rfl) ?_
        refine xiald (f := (r 2)) hx hb hK hP 2 (t) (rfl) (by omega) (by decide) rfl dX7_fewest_36 ?_
        refine lv_topi (fun v8 ev8 => ?_)
        obtain rfl : v8 = nI (rw) := ev8.trans (h2)
        refine lv_icmp_ge (tgt := 125) hx hb dX7_fewest_37 (by decide) (fun c9 => ?_) (fun c9 => ?_)
        · have b37 := qge_t (a := i) (b := (rw)) (by omega) (by omega) c9
          refine lv_iload_n hx hb dX7_fewest_125 rfl (lv_at hl 1 rfl) ?_
          refine lv_bipush (v := 8) hx hb dX7_fewest_126 (by decide) ?_
          refine lv_icmp_le (tgt := 137) hx hb dX7_fewest_128 (by decide) (fun c10 => ?_) (fun c10 => ?_)
          · have b128 := qle_t (a := mn) (b := 8) (by omega) (by omega) c10
            refine lv_aload_n hx hb dX7_fewest_137 rfl (lv_at hl 2 rfl) ?_
            refine va_get (D := G.1) (ci := 7) (v := .int 0) (C := RX7) (T := TX7) (N := 43) hx hb hts inX7 hown hK.1 hP 0 rfl rfl 0 (by decide) (hts _ mf_X7_116) (fun _ h9 => h9) rfl dX7_fewest_138 ?_
            refine lv_if_le (tgt := 146) hx hb dX7_fewest_141 (by decide) (fun c11 => ?_) (fun c11 => absurd (by decide) c11)
            refine lv_iconst (v := 0) hx hb dX7_fewest_146 (by decide) ?_
            refine lv_istore_n (lv' := [(3, .int 0), (2, .int (nI mn)), (0, .ref y), (1, .int (nI t))]) hx hb dX7_fewest_147 rfl hl (by decide) rfl (fun ls hl => ?_)
            have loop148 : ∀ (k12 n1 : Nat) (x13 : Nat → Int32) (x14 : Nat → Int32), n1 ≤ 144 → 144 < n1 + k12 → ∀ (H : Heap) (locs : List Loc) (ls : Array Slot), PP G (mM G y b (upd f 0 0) (up2 (up2 (up2 r 10 x13) 29 x14) 30 x7)) H → va_S A s.heap H locs → lv_has ls 6 [(3, .int (nI n1)), (2, .int (nI mn)), (0, .ref y), (1, .int (nI t))] → W p l e ({ frames := 8, cells := 0, slots := 0, locals := 208 }) s m ([.ref y, .int (nI t)] : List Value).toArray below meth c H locs 0 0 (MQ below (QwI G (fun q w => ∃ (n_f_0 : Int32) (n_f_20 : Int32) (n_f_21 : Int32) (n_r_10 : Nat → Int32) (n_r_15 : Nat → Int32) (n_r_16 : Nat → Int32) (n_r_17 : Nat → Int32) (n_r_18 : Nat → Int32) (n_r_19 : Nat → Int32) (n_r_22 : Nat → Int32) (n_r_23 : Nat → Int32) (n_r_29 : Nat → Int32) (n_r_30 : Nat → Int32), w = mM G y b (upd (upd (upd f 0 n_f_0) 20 n_f_20) 21 n_f_21) (up2 (up2 (up2 (up2 (up2 (up2 (up2 (up2 (up2 (up2 r 10 n_r_10) 15 n_r_15) 16 n_r_16) 17 n_r_17) 18 n_r_18) 19 n_r_19) 22 n_r_22) 23 n_r_23) 29 n_r_29) 30 n_r_30)) A) ([.ref y, .int (nI t)] : List Value).toArray s 0 0 A) (F0 m 148 ls []) := by
              intro k12
              induction k12 with
              | zero => intro n1 x13 x14 h1 h2; exact absurd h1 (by omega)
              | succ k12 ih148k12 =>
                intro n1 x13 x14 hi_n1 hk_n1  H locs ls hP hS hl
                refine lv_iload_n hx hb dX7_fewest_148 rfl (lv_at hl 0 rfl) ?_
                refine lv_sipush (v := 144) hx hb dX7_fewest_149 (by decide) ?_
                refine lv_icmp_ge (tgt := 192) hx hb dX7_fewest_152 (by decide) (fun c15 => ?_) (fun c15 => ?_)
                · have b152 := qge_t (a := n1) (b := 144) (by omega) (by omega) c15
                  refine lv_aload_n hx hb dX7_fewest_192 rfl (lv_at hl 2 rfl) ?_
                  refine lv_iload_n hx hb dX7_fewest_193 rfl (lv_at hl 3 rfl) ?_
                  refine lv_iload_n hx hb dX7_fewest_194 rfl (lv_at hl 1 rfl) ?_
                  refine wrVIa (rest := []) (q0 := 0) ⟨hx, hb, hml, hown, hts⟩ (m_X7_bestOf l G y b (upd f 0 0) (up2 (up2 (up2 r 10 x13) 29 x14) 30 x7) t mn rw cl bk (by omega) (by omega) (by omega) (by omega) h2 h3 h12 (by omega) (nOK_m hch (by omega)) hG) mi_yX7_bestOf mv_yX7_bestOf ml_X7_248 ⟨rfl, rfl, Nat.le_of_ble_eq_true rfl, Nat.le_of_ble_eq_true rfl⟩ hK hP (hDD _ _) rfl rfl rfl hl.1 rfl (Nat.le_of_ble_eq_true rfl) dX7_fewest_195 ⟨Nat.zero_le _, Nat.zero_le _⟩ hS hA (fun r16 w17 H locs hw17 hP hS => ?_)
                  obtain ⟨x18, x19, x20, x21, x22, x23, x24, x25, x26, x27, rfl, hw17r⟩ := hw17
                  have hP : PP G (mM G y b (upd (upd (upd f 0 0) 20 x18) 21 x19) (up2 (up2 (up2 (up2 (up2 (up2 (up2 (up2 (up2 (up2 r 10 x20) 15 x21) 16 x22) 17 x23) 18 x24) 19 x25) 22 x26) 23 x27) 29 x14) 30 x7)) H := hP
                  have hw17r : (r16 = -1 ∨ ∃ z, z < 256 ∧ r16 = nI z) := hw17r
                  refine lv_istore_n (lv' := [(3, .int r16), (2, .int (nI mn)), (0, .ref y), (1, .int (nI t))]) hx hb dX7_fewest_198 rfl hl (by decide) rfl (fun ls hl => ?_)
                  refine lv_iload_n hx hb dX7_fewest_199 rfl (lv_at hl 0 rfl) ?_
                  refine lv_iconst (v := -1) hx hb dX7_fewest_200 (by decide) ?_
                  refine lv_icmp_eq (tgt := 212) hx hb dX7_fewest_201 (by decide) (fun c28 => ?_) (fun c28 => ?_)
                  · refine lv_iconst (v := 0) hx hb dX7_fewest_212 (by decide) ?_
                    refine lv_istore (lv' := [(4, .int 0), (3, .int r16), (2, .int (nI mn)), (0, .ref y), (1, .int (nI t))]) hx hb dX7_fewest_213 hl (by decide) rfl (fun ls hl => ?_)
                    have loop215 : ∀ (k29 n2 : Nat) (x30 : Nat → Int32), n2 ≤ 144 → 144 < n2 + k29 → ∀ (H : Heap) (locs : List Loc) (ls : Array Slot), PP G (mM G y b (upd (upd (upd f 0 0) 20 x18) 21 x19) (up2 (up2 (up2 (up2 (up2 (up2 (up2 (up2 (up2 (up2 r 10 x30) 15 x21) 16 x22) 17 x23) 18 x24) 19 x25) 22 x26) 23 x27) 29 x14) 30 x7)) H → va_S A s.heap H locs → lv_has ls 6 [(4, .int (nI n2)), (0, .ref y), (1, .int (nI t))] → W p l e ({ frames := 8, cells := 0, slots := 0, locals := 208 }) s m ([.ref y, .int (nI t)] : List Value).toArray below meth c H locs 0 0 (MQ below (QwI G (fun q w => ∃ (n_f_0 : Int32) (n_f_20 : Int32) (n_f_21 : Int32) (n_r_10 : Nat → Int32) (n_r_15 : Nat → Int32) (n_r_16 : Nat → Int32) (n_r_17 : Nat → Int32) (n_r_18 : Nat → Int32) (n_r_19 : Nat → Int32) (n_r_22 : Nat → Int32) (n_r_23 : Nat → Int32) (n_r_29 : Nat → Int32) (n_r_30 : Nat → Int32), w = mM G y b (upd (upd (upd f 0 n_f_0) 20 n_f_20) 21 n_f_21) (up2 (up2 (up2 (up2 (up2 (up2 (up2 (up2 (up2 (up2 r 10 n_r_10) 15 n_r_15) 16 n_r_16) 17 n_r_17) 18 n_r_18) 19 n_r_19) 22 n_r_22) 23 n_r_23) 29 n_r_29) 30 n_r_30)) A) ([.ref y, .int (nI t)] : List Value).toArray s 0 0 A) (F0 m 215 ls []) := by
                      intro k29
                      induction k29 with
                      | zero => intro n2 x30 h1 h2; exact absurd h1 (by omega)
                      | succ k29 ih215k29 =>
                        intro n2 x30 hi_n2 hk_n2  H locs ls hP hS hl
                        refine lv_iload hx hb dX7_fewest_215 (lv_at hl 0 rfl) ?_
                        refine lv_sipush (v := 144) hx hb dX7_fewest_217 (by decide) ?_
                        refine lv_icmp_ge (tgt := 249) hx hb dX7_fewest_220 (by decide) (fun c31 => ?_) (fun c31 => ?_)
                        · have b220 := qge_t (a := n2) (b := 144) (by omega) (by omega) c31
                          refine lv_aload_n hx hb dX7_fewest_249 rfl (lv_at hl 1 rfl) ?_
                          refine lv_bipush (v := 10) hx hb dX7_fewest_250 (by decide) ?_
                          refine va_put (D := G.1) (ci := 7) (v := .int 10) (C := RX7) (T := TX7) (N := 43) hx hb hts inX7 tyX7 tyX7_ok nmX7 hown hK.1 hP (hDD _ _) hS 0 rfl rfl 0 (by decide) (hts _ mf_X7_116) (fun _ h9 => h9) rfl (tyX7_ok 0 (by decide)) (rfl) (rfl) (Nat.le_of_ble_eq_true rfl) dX7_fewest_252 (fun H locs hP _ hS => ?_)
                          have hP : PP G (mM G y b (upd (upd (upd f 0 10) 20 x18) 21 x19) (up2 (up2 (up2 (up2 (up2 (up2 (up2 (up2 (up2 (up2 r 10 x30) 15 x21) 16 x22) 17 x23) 18 x24) 19 x25) 22 x26) 23 x27) 29 x14) 30 x7)) H := hP
                          refine lv_iconst (v := -1) hx hb dX7_fewest_255 (by decide) ?_
                          exact wr_iret hx hb hr hlocks hS hP ⟨10, x18, x19, x30, x21, x22, x23, x24, x25, x26, x27, x14, x7, rfl⟩ dX7_fewest_256
                        · have b220 := qge_f (a := n2) (b := 144) (by omega) (by omega) c31
                          refine lv_aload_n hx hb dX7_fewest_223 rfl (lv_at hl 1 rfl) ?_
                          refine va_get (D := G.1) (ci := 7) (v := .ref (b 10)) (C := RX7) (T := TX7) (N := 43) hx hb hts inX7 hown hK.1 hP 0 rfl rfl 10 (by decide) (hts _ mf_X7_38) (fun _ h9 => h9) rfl dX7_fewest_224 ?_
                          refine lv_sipush (v := 144) hx hb dX7_fewest_227 (by decide) ?_
                          refine lv_iload_n hx hb dX7_fewest_230 rfl (lv_at hl 2 rfl) ?_
                          refine lv_imul hx hb dX7_fewest_231 ?_
                          refine lv_topi (fun v32 ev32 => ?_)
                          obtain rfl : v32 = nI (144 * t) := nI_times ev32 rfl rfl
                          refine lv_iload hx hb dX7_fewest_232 (lv_at hl 0 rfl) ?_
                          refine lv_iadd hx hb dX7_fewest_234 ?_
                          refine lv_topi (fun v33 ev33 => ?_)
                          obtain rfl : v33 = nI ((144 * t) + n2) := nI_plus ev33 rfl rfl
                          refine lv_aload_n hx hb dX7_fewest_235 rfl (lv_at hl 1 rfl) ?_
                          refine va_get (D := G.1) (ci := 7) (v := .ref (b 29)) (C := RX7) (T := TX7) (N := 43) hx hb hts inX7 hown hK.1 hP 0 rfl rfl 29 (by decide) (hts _ mf_X7_83) (fun _ h9 => h9) rfl dX7_fewest_236 ?_
                          refine lv_iload hx hb dX7_fewest_239 (lv_at hl 0 rfl) ?_
                          refine xzald (f := x14) hx hb hK hP 25 (n2) (rfl) (by omega) (by decide) rfl dX7_fewest_241 ?_
                          refine lv_topi (fun v34 ev34 => ?_)
                          refine xzastn (f := x30) (x := v34) hx hb hK hP (hDD _ _) hS 10 (((144 * t) + n2)) (rfl) (by omega) (by decide) rfl dX7_fewest_242 (fun H locs hP _ hS => ?_)
                          have hP : PP G (mM G y b (upd (upd (upd f 0 0) 20 x18) 21 x19) (up2 (up2 (up2 (up2 (up2 (up2 (up2 (up2 (up2 (up2 r 10 (upd x30 (((144 * t) + n2)) ((vp_nar .boolean v34)))) 15 x21) 16 x22) 17 x23) 18 x24) 19 x25) 22 x26) 23 x27) 29 x14) 30 x7)) H := hP
                          obtain ⟨v35, ev35⟩ : ∃ y9 : Int32, y9 = (nI n2) + Int32.ofInt (1) := ⟨_, rfl⟩
                          refine lv_iinc (v := v35) (lv' := [(4, .int v35), (0, .ref y), (1, .int (nI t))]) hx hb dX7_fewest_243 hl (k := 0) rfl ev35.symm (by decide) rfl (fun ls hl => ?_)
                          obtain rfl : v35 = nI (n2 + 1) := nI_plus (i := n2) (j := 1) ev35 rfl (by decide)
                          refine lv_goto (tgt := 215) hx hb dX7_fewest_246 (by decide) ?_
                          exact ih215k29 (n2 + 1) (upd x30 (((144 * t) + n2)) ((vp_nar .boolean v34))) (by omega) (by omega) _ _ _ hP hS (lv_sub hl [0, 1, 2] rfl)
                    exact loop215 (144 + 1) 0 x20 (by omega) (by omega) _ _ _ hP hS (lv_sub hl [0, 3, 4] rfl)
                  · refine lv_aload_n hx hb dX7_fewest_204 rfl (lv_at hl 2 rfl) ?_
                    refine lv_iload_n hx hb dX7_fewest_205 rfl (lv_at hl 3 rfl) ?_
                    refine lv_iload_n hx hb dX7_fewest_206 rfl (lv_at hl 1 rfl) ?_
                    refine lv_iload_n hx hb dX7_fewest_207 rfl (lv_at hl 0 rfl) ?_
                    refine rdV (rest := []) (q0 := 0) ⟨hx, hb, hml, hown, hts⟩ (m_X7_costOfSet l G y b (upd (upd (upd f 0 0) 20 x18) 21 x19) (up2 (up2 (up2 (up2 (up2 (up2 (up2 (up2 (up2 (up2 r 10 x20) 15 x21) 16 x22) 17 x23) 18 x24) 19 x25) 22 x26) 23 x27) 29 x14) 30 x7) t mn r16  (by omega) (by omega) (nOK_m hch (by omega))) mi_yX7_costOfSet mv_yX7_costOfSet ml_X7_251 ⟨rfl, rfl, Nat.le_of_ble_eq_true rfl, Nat.le_of_ble_eq_true rfl⟩ hK (hP) rfl rfl rfl hl.1 rfl (Nat.le_of_ble_eq_true rfl) dX7_fewest_208 ⟨Nat.zero_le _, Nat.zero_le _⟩ hS hA hP (fun r36 H locs hr36 hP hS => ?_)
                    obtain rfl := hr36
                    exact wr_iret hx hb hr hlocks hS hP ⟨0, x18, x19, x20, x21, x22, x23, x24, x25, x26, x27, x14, x7, rfl⟩ dX7_fewest_211
                · have b152 := qge_f (a := n1) (b := 144) (by omega) (by omega) c15
                  refine lv_aload_n hx hb dX7_fewest_155 rfl (lv_at hl 2 rfl) ?_
                  refine va_get (D := G.1) (ci := 7) (v := .ref (b 29)) (C := RX7) (T := TX7) (N := 43) hx hb hts inX7 hown hK.1 hP 0 rfl rfl 29 (by decide) (hts _ mf_X7_83) (fun _ h9 => h9) rfl dX7_fewest_156 ?_
                  refine lv_iload_n hx hb dX7_fewest_159 rfl (lv_at hl 0 rfl) ?_
                  refine lv_aload_n hx hb dX7_fewest_160 rfl (lv_at hl 2 rfl) ?_
                  refine va_get (D := G.1) (ci := 7) (v := .ref (b 10)) (C := RX7) (T := TX7) (N := 43) hx hb hts inX7 hown hK.1 hP 0 rfl rfl 10 (by decide) (hts _ mf_X7_38) (fun _ h9 => h9) rfl dX7_fewest_161 ?_
                  refine lv_sipush (v := 144) hx hb dX7_fewest_164 (by decide) ?_
                  refine lv_iload_n hx hb dX7_fewest_167 rfl (lv_at hl 3 rfl) ?_
                  refine lv_imul hx hb dX7_fewest_168 ?_
                  refine lv_topi (fun v37 ev37 => ?_)
                  obtain rfl : v37 = nI (144 * t) := nI_times ev37 rfl rfl
                  refine lv_iload_n hx hb dX7_fewest_169 rfl (lv_at hl 0 rfl) ?_
                  refine lv_iadd hx hb dX7_fewest_170 ?_
                  refine lv_topi (fun v38 ev38 => ?_)
                  obtain rfl : v38 = nI ((144 * t) + n1) := nI_plus ev38 rfl rfl
                  refine xzald (f := x13) hx hb hK hP 10 (((144 * t) + n1)) (rfl) (by omega) (by decide) rfl dX7_fewest_171 ?_
                  refine lv_topi (fun v39 ev39 => ?_)
                  refine xzastn (f := x14) (x := v39) hx hb hK hP (hDD _ _) hS 25 (n1) (rfl) (by omega) (by decide) rfl dX7_fewest_172 (fun H locs hP _ hS => ?_)
                  have hP : PP G (mM G y b (upd f 0 0) (up2 (up2 (up2 r 10 x13) 29 (upd x14 (n1) ((vp_nar .boolean v39)))) 30 x7)) H := hP
                  refine lv_aload_n hx hb dX7_fewest_173 rfl (lv_at hl 2 rfl) ?_
                  refine va_get (D := G.1) (ci := 7) (v := .ref (b 10)) (C := RX7) (T := TX7) (N := 43) hx hb hts inX7 hown hK.1 hP 0 rfl rfl 10 (by decide) (hts _ mf_X7_38) (fun _ h9 => h9) rfl dX7_fewest_174 ?_
                  refine lv_sipush (v := 144) hx hb dX7_fewest_177 (by decide) ?_
                  refine lv_iload_n hx hb dX7_fewest_180 rfl (lv_at hl 3 rfl) ?_
                  refine lv_imul hx hb dX7_fewest_181 ?_
                  refine lv_topi (fun v40 ev40 => ?_)
                  obtain rfl : v40 = nI (144 * t) := nI_times ev40 rfl rfl
                  refine lv_iload_n hx hb dX7_fewest_182 rfl (lv_at hl 0 rfl) ?_
                  refine lv_iadd hx hb dX7_fewest_183 ?_
                  refine lv_topi (fun v41 ev41 => ?_)
                  obtain rfl : v41 = nI ((144 * t) + n1) := nI_plus ev41 rfl rfl
                  refine lv_iconst (v := 0) hx hb dX7_fewest_184 (by decide) ?_
                  refine xzast (f := x13) (x := 0) hx hb hK hP (hDD _ _) hS 10 (((144 * t) + n1)) (rfl) (by omega) (by decide) (Or.inl rfl) rfl dX7_fewest_185 (fun H locs hP _ hS => ?_)
                  have hP : PP G (mM G y b (upd f 0 0) (up2 (up2 (up2 r 10 (upd x13 (((144 * t) + n1)) (0))) 29 (upd x14 (n1) ((vp_nar .boolean v39)))) 30 x7)) H := hP
                  obtain ⟨v42, ev42⟩ : ∃ y9 : Int32, y9 = (nI n1) + Int32.ofInt (1) := ⟨_, rfl⟩
                  refine lv_iinc (v := v42) (lv' := [(3, .int v42), (2, .int (nI mn)), (0, .ref y), (1, .int (nI t))]) hx hb dX7_fewest_186 hl (k := 0) rfl ev42.symm (by decide) rfl (fun ls hl => ?_)
                  obtain rfl : v42 = nI (n1 + 1) := nI_plus (i := n1) (j := 1) ev42 rfl (by decide)
                  refine lv_goto (tgt := 148) hx hb dX7_fewest_189 (by decide) ?_
                  exact ih148k12 (n1 + 1) (upd x13 (((144 * t) + n1)) (0)) (upd x14 (n1) ((vp_nar .boolean v39))) (by omega) (by omega) _ _ _ hP hS (lv_sub hl [0, 1, 2, 3] rfl)
            exact loop148 (144 + 1) 0 (r 10) (r 29) (by omega) (by omega) _ _ _ hP hS (lv_sub hl [0, 1, 2, 3] rfl)
          · have b128 := qle_f (a := mn) (b := 8) (by omega) (by omega) c10
            refine lv_aload_n hx hb dX7_fewest_131 rfl (lv_at hl 2 rfl) ?_
            refine lv_bipush (v := 8) hx hb dX7_fewest_132 (by decide) ?_
            refine va_put (D := G.1) (ci := 7) (v := .int 8) (C := RX7) (T := TX7) (N := 43) hx hb hts inX7 tyX7 tyX7_ok nmX7 hown hK.1 hP (hDD _ _) hS 0 rfl rfl 0 (by decide) (hts _ mf_X7_116) (fun _ h9 => h9) rfl (tyX7_ok 0 (by decide)) (rfl) (rfl) (Nat.le_of_ble_eq_true rfl) dX7_fewest_134 (fun H locs hP _ hS => ?_)
            have hP : PP G (mM G y b (upd f 0 8) (up2 r 30 x7)) H := hP
            refine lv_aload_n hx hb dX7_fewest_137 rfl (lv_at hl 2 rfl) ?_
            refine va_get (D := G.1) (ci := 7) (v := .int 8) (C := RX7) (T := TX7) (N := 43) hx hb hts inX7 hown hK.1 hP 0 rfl rfl 0 (by decide) (hts _ mf_X7_116) (fun _ h9 => h9) rfl dX7_fewest_138 ?_
            refine lv_if_le (tgt := 146) hx hb dX7_fewest_141 (by decide) (fun c43 => absurd c43 (by decide)) (fun c43 => ?_)
            refine lv_iconst (v := -1) hx hb dX7_fewest_144 (by decide) ?_
            exact wr_iret hx hb hr hlocks hS hP ⟨8, (f 20), (f 21), (r 10), (r 15), (r 16), (r 17), (r 18), (r 19), (r 22), (r 23), (r 29), x7, rfl⟩ dX7_fewest_145
        · have b37 := qge_f (a := i) (b := (rw)) (by omega) (by omega) c9
          refine lv_iconst (v := 0) hx hb dX7_fewest_40 (by decide) ?_
          refine lv_istore (lv' := [(4, .int 0), (3, .int (nI i)), (2, .int (nI mn)), (0, .ref y), (1, .int (nI t))]) hx hb dX7_fewest_41 hl (by decide) rfl (fun ls hl => ?_)
          have loop43 : ∀ (k44 k : Nat) (mn : Nat) (x46 : Nat → Int32), k ≤ cl → cl < k + k44 → (mn ≤ 12 * i + k) → (nOK (min mn 12) 863 x46) → ∀ (H : Heap) (locs : List Loc) (ls : Array Slot), PP G (mM G y b (upd f 0 0) (up2 r 30 x46)) H → va_S A s.heap H locs → lv_has ls 6 [(4, .int (nI k)), (3, .int (nI i)), (2, .int (nI mn)), (0, .ref y), (1, .int (nI t))] → W p l e ({ frames := 8, cells := 0, slots := 0, locals := 208 }) s m ([.ref y, .int (nI t)] : List Value).toArray below meth c H locs 0 0 (MQ below (QwI G (fun q w => ∃ (n_f_0 : Int32) (n_f_20 : Int32) (n_f_21 : Int32) (n_r_10 : Nat → Int32) (n_r_15 : Nat → Int32) (n_r_16 : Nat → Int32) (n_r_17 : Nat → Int32) (n_r_18 : Nat → Int32) (n_r_19 : Nat → Int32) (n_r_22 : Nat → Int32) (n_r_23 : Nat → Int32) (n_r_29 : Nat → Int32) (n_r_30 : Nat → Int32), w = mM G y b (upd (upd (upd f 0 n_f_0) 20 n_f_20) 21 n_f_21) (up2 (up2 (up2 (up2 (up2 (up2 (up2 (up2 (up2 (up2 r 10 n_r_10) 15 n_r_15) 16 n_r_16) 17 n_r_17) 18 n_r_18) 19 n_r_19) 22 n_r_22) 23 n_r_23) 29 n_r_29) 30 n_r_30)) A) ([.ref y, .int (nI t)] : List Value).toArray s 0 0 A) (F0 m 43 ls []) := by
            intro k44
            induction k44 with
            | zero => intro k mn x46 h1 h2; exact absurd h1 (by omega)
            | succ k44 ih43k44 =>
              intro k mn x46 hi_k hk_k gmn hch H locs ls hP hS hl
              refine lv_iload hx hb dX7_fewest_43 (lv_at hl 0 rfl) ?_
              refine lv_aload_n hx hb dX7_fewest_45 rfl (lv_at hl 3 rfl) ?_
              refine va_get (D := G.1) (ci := 7) (v := .ref (b 3)) (C := RX7) (T := TX7) (N := 43) hx hb hts inX7 hown hK.1 hP 0 rfl rfl 3 (by decide) (hts _ mf_X7_17) (fun _ h9 => h9) rfl dX7_fewest_46 ?_
              refine lv_iload_n hx hb dX7_fewest_49 rfl (lv_at hl 4 rfl) ?_
              refine xiald (f := (r 3)) hx hb hK hP 3 (t) (rfl) (by omega) (by decide) rfl dX7_fewest_50 ?_
              refine lv_topi (fun v47 ev47 => ?_)
              obtain rfl : v47 = nI (cl) := ev47.trans (h3)
              refine lv_icmp_ge (tgt := 119) hx hb dX7_fewest_51 (by decide) (fun c48 => ?_) (fun c48 => ?_)
              · have b51 := qge_t (a := k) (b := (cl)) (by omega) (by omega) c48
                obtain ⟨v49, ev49⟩ : ∃ y9 : Int32, y9 = (nI i) + Int32.ofInt (1) := ⟨_, rfl⟩
                refine lv_iinc (v := v49) (lv' := [(3, .int v49), (4, .int (nI k)), (2, .int (nI mn)), (0, .ref y), (1, .int (nI t))]) hx hb dX7_fewest_119 hl (k := 1) rfl ev49.symm (by decide) rfl (fun ls hl => ?_)
                obtain rfl : v49 = nI (i + 1) := nI_plus (i := i) (j := 1) ev49 rfl (by decide)
                refine lv_goto (tgt := 30) hx hb dX7_fewest_122 (by decide) ?_
                exact ih30k5 (i + 1) mn x46 (by omega) (by omega) (by omega) (hch) _ _ _ hP hS (lv_sub hl [0, 2, 3, 4] rfl)
              · have b51 := qge_f (a := k) (b := (cl)) (by omega) (by omega) c48
                refine lv_aload_n hx hb dX7_fewest_54 rfl (lv_at hl 3 rfl) ?_
                refine lv_iload_n hx hb dX7_fewest_55 rfl (lv_at hl 4 rfl) ?_
                refine lv_iload_n hx hb dX7_fewest_56 rfl (lv_at hl 1 rfl) ?_
                refine rdV (rest := []) (q0 := 0) ⟨hx, hb, hml, hown, hts⟩ (m_X7_isSound l G y b (upd f 0 0) (up2 r 30 x46) t i rw cl bk (by omega) (by omega) (by omega) (by omega) h2 h3 h12 (by omega)) mi_yX7_isSound mv_yX7_isSound ml_X7_161 ⟨rfl, rfl, Nat.le_of_ble_eq_true rfl, Nat.le_of_ble_eq_true rfl⟩ hK (hP) rfl rfl rfl hl.1 rfl (Nat.le_of_ble_eq_true rfl) dX7_fewest_57 ⟨Nat.zero_le _, Nat.zero_le _⟩ hS hA hP (fun r50 H locs hr50 hP hS => ?_)
                have hr50 : ((r50 = 1 ∧ (sndN ((r 3) t) (r 11) (r 5) t i)) ∨ (r50 = 0 ∧ ¬ (sndN ((r 3) t) (r 11) (r 5) t i))) := hr50
                refine lv_if_eq (tgt := 119) hx hb dX7_fewest_60 (by decide) (fun c51 => ?_) (fun c51 => ?_)
                · have b60 := bF hr50 c51
                  obtain ⟨v52, ev52⟩ : ∃ y9 : Int32, y9 = (nI i) + Int32.ofInt (1) := ⟨_, rfl⟩
                  refine lv_iinc (v := v52) (lv' := [(3, .int v52), (4, .int (nI k)), (2, .int (nI mn)), (0, .ref y), (1, .int (nI t))]) hx hb dX7_fewest_119 hl (k := 1) rfl ev52.symm (by decide) rfl (fun ls hl => ?_)
                  obtain rfl : v52 = nI (i + 1) := nI_plus (i := i) (j := 1) ev52 rfl (by decide)
                  refine lv_goto (tgt := 30) hx hb dX7_fewest_122 (by decide) ?_
                  exact ih30k5 (i + 1) mn x46 (by omega) (by omega) (by omega) (hch) _ _ _ hP hS (lv_sub hl [0, 2, 3, 4] rfl)
                · have b60 := bT hr50 c51
                  refine lv_iload_n hx hb dX7_fewest_63 rfl (lv_at hl 4 rfl) ?_
                  refine lv_iload_n hx hb dX7_fewest_64 rfl (lv_at hl 1 rfl) ?_
                  refine lv_iload hx hb dX7_fewest_65 (lv_at hl 0 rfl) ?_
                  refine rdS (rest := []) ⟨hx, hb, hml, hown, hts⟩ (m_X7_at l G y b (upd f 0 0) (up2 r 30 x46) t i k  ) mi_yX7_at mst_yX7_at ml_X7_147 ⟨rfl, rfl, Nat.le_of_ble_eq_true rfl, Nat.le_of_ble_eq_true rfl⟩ hK (hP) rfl hl.1 rfl (Nat.le_of_ble_eq_true rfl) dX7_fewest_67 ⟨Nat.zero_le _, Nat.zero_le _⟩ hS hA hP (fun r53 H locs hr53 hP hS => ?_)
                  obtain rfl := hr53
                  refine lv_istore (lv' := [(5, .int (nI (144 * t + 12 * i + k))), (4, .int (nI k)), (3, .int (nI i)), (2, .int (nI mn)), (0, .ref y), (1, .int (nI t))]) hx hb dX7_fewest_70 hl (by decide) rfl (fun ls hl => ?_)
                  refine lv_aload_n hx hb dX7_fewest_72 rfl (lv_at hl 4 rfl) ?_
                  refine va_get (D := G.1) (ci := 7) (v := .ref (b 5)) (C := RX7) (T := TX7) (N := 43) hx hb hts inX7 hown hK.1 hP 0 rfl rfl 5 (by decide) (hts _ mf_X7_23) (fun _ h9 => h9) rfl dX7_fewest_73 ?_
                  refine lv_iload hx hb dX7_fewest_76 (lv_at hl 0 rfl) ?_
                  refine xiald (f := (r 5)) hx hb hK hP 5 ((144 * t + 12 * i + k)) (rfl) (by omega) (by decide) rfl dX7_fewest_78 ?_
                  refine lv_topi (fun v54 ev54 => ?_)
                  refine lv_iconst (v := 4) hx hb dX7_fewest_79 (by decide) ?_
                  refine lv_icmp_eq (tgt := 113) hx hb dX7_fewest_80 (by decide) (fun c55 => ?_) (fun c55 => ?_)
                  · obtain ⟨v56, ev56⟩ : ∃ y9 : Int32, y9 = (nI k) + Int32.ofInt (1) := ⟨_, rfl⟩
                    refine lv_iinc (v := v56) (lv' := [(4, .int v56), (5, .int (nI (144 * t + 12 * i + k))), (3, .int (nI i)), (2, .int (nI mn)), (0, .ref y), (1, .int (nI t))]) hx hb dX7_fewest_113 hl (k := 1) rfl ev56.symm (by decide) rfl (fun ls hl => ?_)
                    obtain rfl : v56 = nI (k + 1) := nI_plus (i := k) (j := 1) ev56 rfl (by decide)
                    refine lv_goto (tgt := 43) hx hb dX7_fewest_116 (by decide) ?_
                    exact ih43k44 (k + 1) mn x46 (by omega) (by omega) (by omega) (hch) _ _ _ hP hS (lv_sub hl [0, 2, 3, 4, 5] rfl)
                  · refine lv_aload_n hx hb dX7_fewest_83 rfl (lv_at hl 4 rfl) ?_
                    refine lv_iload_n hx hb dX7_fewest_84 rfl (lv_at hl 5 rfl) ?_
                    refine lv_iload hx hb dX7_fewest_85 (lv_at hl 0 rfl) ?_
                    refine rdV (rest := []) (q0 := 0) ⟨hx, hb, hml, hown, hts⟩ (m_X7_why l G y b (upd f 0 0) (up2 r 30 x46) t (144 * t + 12 * i + k)  (by omega) (by omega) hG) mi_yX7_why mv_yX7_why ml_X7_175 ⟨rfl, rfl, Nat.le_of_ble_eq_true rfl, Nat.le_of_ble_eq_true rfl⟩ hK (hP) rfl rfl rfl hl.1 rfl (Nat.le_of_ble_eq_true rfl) dX7_fewest_87 ⟨Nat.zero_le _, Nat.zero_le _⟩ hS hA hP (fun r57 H locs hr57 hP hS => ?_)
                    obtain rfl := hr57
                    refine lv_if_le (tgt := 96) hx hb dX7_fewest_90 (by decide) (fun c58 => ?_) (fun c58 => ?_)
                    · refine lv_iload_n hx hb dX7_fewest_96 rfl (lv_at hl 3 rfl) ?_
                      refine lv_bipush (v := 12) hx hb dX7_fewest_97 (by decide) ?_
                      refine lv_icmp_ge (tgt := 110) hx hb dX7_fewest_99 (by decide) (fun c59 => ?_) (fun c59 => ?_)
                      · have b99 := qge_t (a := mn) (b := 12) (by omega) (by omega) c59
                        have hch : nOK (min (mn + 1) 12) 863 x46 := nOK_m hch (by omega)
                        obtain ⟨v60, ev60⟩ : ∃ y9 : Int32, y9 = (nI mn) + Int32.ofInt (1) := ⟨_, rfl⟩
                        refine lv_iinc (v := v60) (lv' := [(2, .int v60), (5, .int (nI (144 * t + 12 * i + k))), (4, .int (nI k)), (3, .int (nI i)), (0, .ref y), (1, .int (nI t))]) hx hb dX7_fewest_110 hl (k := 3) rfl ev60.symm (by decide) rfl (fun ls hl => ?_)
                        obtain rfl : v60 = nI (mn + 1) := nI_plus (i := mn) (j := 1) ev60 rfl (by decide)
                        obtain ⟨v61, ev61⟩ : ∃ y9 : Int32, y9 = (nI k) + Int32.ofInt (1) := ⟨_, rfl⟩
                        refine lv_iinc (v := v61) (lv' := [(4, .int v61), (2, .int (nI (mn + 1))), (5, .int (nI (144 * t + 12 * i + k))), (3, .int (nI i)), (0, .ref y), (1, .int (nI t))]) hx hb dX7_fewest_113 hl (k := 2) rfl ev61.symm (by decide) rfl (fun ls hl => ?_)
                        obtain rfl : v61 = nI (k + 1) := nI_plus (i := k) (j := 1) ev61 rfl (by decide)
                        refine lv_goto (tgt := 43) hx hb dX7_fewest_116 (by decide) ?_
                        exact ih43k44 (k + 1) (mn + 1) x46 (by omega) (by omega) (by omega) (hch) _ _ _ hP hS (lv_sub hl [0, 3, 1, 4, 5] rfl)
                      · have b99 := qge_f (a := mn) (b := 12) (by omega) (by omega) c59
                        refine lv_aload_n hx hb dX7_fewest_102 rfl (lv_at hl 4 rfl) ?_
                        refine va_get (D := G.1) (ci := 7) (v := .ref (b 30)) (C := RX7) (T := TX7) (N := 43) hx hb hts inX7 hown hK.1 hP 0 rfl rfl 30 (by decide) (hts _ mf_X7_86) (fun _ h9 => h9) rfl dX7_fewest_103 ?_
                        refine lv_iload_n hx hb dX7_fewest_106 rfl (lv_at hl 3 rfl) ?_
                        refine lv_iload hx hb dX7_fewest_107 (lv_at hl 0 rfl) ?_
                        refine xiast (f := x46) (x := (nI (144 * t + 12 * i + k))) hx hb hK hP (hDD _ _) hS 26 (mn) (rfl) (by omega) (by decide) rfl dX7_fewest_109 (fun H locs hP _ hS => ?_)
                        have hP : PP G (mM G y b (upd f 0 0) (up2 r 30 (upd x46 (mn) ((nI (144 * t + 12 * i + k)))))) H := hP
                        have hch := nOK_x hch b99 (show 144 * t + 12 * i + k ≤ 863 by omega)
                        obtain ⟨v62, ev62⟩ : ∃ y9 : Int32, y9 = (nI mn) + Int32.ofInt (1) := ⟨_, rfl⟩
                        refine lv_iinc (v := v62) (lv' := [(2, .int v62), (5, .int (nI (144 * t + 12 * i + k))), (4, .int (nI k)), (3, .int (nI i)), (0, .ref y), (1, .int (nI t))]) hx hb dX7_fewest_110 hl (k := 3) rfl ev62.symm (by decide) rfl (fun ls hl => ?_)
                        obtain rfl : v62 = nI (mn + 1) := nI_plus (i := mn) (j := 1) ev62 rfl (by decide)
                        obtain ⟨v63, ev63⟩ : ∃ y9 : Int32, y9 = (nI k) + Int32.ofInt (1) := ⟨_, rfl⟩
                        refine lv_iinc (v := v63) (lv' := [(4, .int v63), (2, .int (nI (mn + 1))), (5, .int (nI (144 * t + 12 * i + k))), (3, .int (nI i)), (0, .ref y), (1, .int (nI t))]) hx hb dX7_fewest_113 hl (k := 2) rfl ev63.symm (by decide) rfl (fun ls hl => ?_)
                        obtain rfl : v63 = nI (k + 1) := nI_plus (i := k) (j := 1) ev63 rfl (by decide)
                        refine lv_goto (tgt := 43) hx hb dX7_fewest_116 (by decide) ?_
                        exact ih43k44 (k + 1) (mn + 1) (upd x46 (mn) ((nI (144 * t + 12 * i + k)))) (by omega) (by omega) (by omega) (hch) _ _ _ hP hS (lv_sub hl [0, 3, 1, 4, 5] rfl)
                    · refine lv_goto (tgt := 113) hx hb dX7_fewest_93 (by decide) ?_
                      obtain ⟨v64, ev64⟩ : ∃ y9 : Int32, y9 = (nI k) + Int32.ofInt (1) := ⟨_, rfl⟩
                      refine lv_iinc (v := v64) (lv' := [(4, .int v64), (5, .int (nI (144 * t + 12 * i + k))), (3, .int (nI i)), (2, .int (nI mn)), (0, .ref y), (1, .int (nI t))]) hx hb dX7_fewest_113 hl (k := 1) rfl ev64.symm (by decide) rfl (fun ls hl => ?_)
                      obtain rfl : v64 = nI (k + 1) := nI_plus (i := k) (j := 1) ev64 rfl (by decide)
                      refine lv_goto (tgt := 43) hx hb dX7_fewest_116 (by decide) ?_
                      exact ih43k44 (k + 1) mn x46 (by omega) (by omega) (by omega) (hch) _ _ _ hP hS (lv_sub hl [0, 2, 3, 4, 5] rfl)
          exact loop43 (cl + 1) 0 mn x7 (by omega) (by omega) (by omega) (hch) _ _ _ hP hS (lv_sub hl [0, 1, 2, 3, 4] rfl)
    exact loop30 (rw + 1) 0 0 (r 30) (by omega) (by omega) (by omega) (fun j9 h9 => absurd h9 (by omega)) _ _ _ hP hS (lv_sub hl [0, 1, 2, 3] rfl)
