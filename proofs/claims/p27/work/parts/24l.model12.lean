theorem ml_X7_251 : Cond.methodLink RX7 251 yX7_costOfSet ∈ TB := TB_t6 3 rfl rfl
theorem mcode_yX7_costOfSet : Cond.code yX7_costOfSet cX7_costOfSet 6 (some .int) ∈ TB := TB_t6 6 rfl rfl
theorem mi_yX7_costOfSet : MI yX7_costOfSet cX7_costOfSet 6 (some .int) 3 := ⟨mz_RX7, mcode_yX7_costOfSet, by decide +kernel, by decide +kernel, by decide +kernel⟩
theorem mim_yX7_costOfSet : Cond.instanceMethod yX7_costOfSet ∈ TB := TB_t6 5 rfl rfl
theorem msel_yX7_costOfSet : Cond.selects yX7_costOfSet.cls yX7_costOfSet yX7_costOfSet ∈ TB := TB_s (n := 43) 72 (by decide +kernel)
theorem mv_yX7_costOfSet : Cond.instanceMethod yX7_costOfSet ∈ TB ∧ Cond.selects yX7_costOfSet.cls yX7_costOfSet yX7_costOfSet ∈ TB := ⟨mim_yX7_costOfSet, msel_yX7_costOfSet⟩
theorem kcX7_costOfSet_0 : CHb cX7_costOfSet 0 [3, 54, 4, 3, 54, 5, 21, 5, 28, 162, 0, 44, 21, 4, 29, 28, 4, 100, 21, 5, 100, 122, 4, 126, 4, 160, 0, 18, 42, 27, 42, 180, 0, 86, 21, 5, 46, 182, 0, 242, 167, 0, 4, 3, 96, 54, 4, 132, 5, 1, 167, 255, 212, 21, 4, 172] := CHb_of (by decide +kernel)
theorem dX7_costOfSet_0 : decode cX7_costOfSet 0 = .ok (.iconst 0, 1) := dw_3 (kcX7_costOfSet_0 0 3 rfl)
theorem dX7_costOfSet_1 : decode cX7_costOfSet 1 = .ok (.istore 4, 2) := dw_54 (kcX7_costOfSet_0 1 54 rfl) (kcX7_costOfSet_0 2 4 rfl)
theorem dX7_costOfSet_3 : decode cX7_costOfSet 3 = .ok (.iconst 0, 1) := dw_3 (kcX7_costOfSet_0 3 3 rfl)
theorem dX7_costOfSet_4 : decode cX7_costOfSet 4 = .ok (.istore 5, 2) := dw_54 (kcX7_costOfSet_0 4 54 rfl) (kcX7_costOfSet_0 5 5 rfl)
theorem dX7_costOfSet_6 : decode cX7_costOfSet 6 = .ok (.iload 5, 2) := dw_21 (kcX7_costOfSet_0 6 21 rfl) (kcX7_costOfSet_0 7 5 rfl)
theorem dX7_costOfSet_8 : decode cX7_costOfSet 8 = .ok (.iload_n 2, 1) := dw_28 (kcX7_costOfSet_0 8 28 rfl)
theorem dX7_costOfSet_9 : decode cX7_costOfSet 9 = .ok (.if_icmp .ge 44, 3) := dw_162 (kcX7_costOfSet_0 9 162 rfl) (kcX7_costOfSet_0 10 0 rfl) (kcX7_costOfSet_0 11 44 rfl) rfl
theorem dX7_costOfSet_12 : decode cX7_costOfSet 12 = .ok (.iload 4, 2) := dw_21 (kcX7_costOfSet_0 12 21 rfl) (kcX7_costOfSet_0 13 4 rfl)
theorem dX7_costOfSet_14 : decode cX7_costOfSet 14 = .ok (.iload_n 3, 1) := dw_29 (kcX7_costOfSet_0 14 29 rfl)
theorem dX7_costOfSet_15 : decode cX7_costOfSet 15 = .ok (.iload_n 2, 1) := dw_28 (kcX7_costOfSet_0 15 28 rfl)
theorem dX7_costOfSet_16 : decode cX7_costOfSet 16 = .ok (.iconst 1, 1) := dw_4 (kcX7_costOfSet_0 16 4 rfl)
theorem dX7_costOfSet_17 : decode cX7_costOfSet 17 = .ok (.isub, 1) := dw_100 (kcX7_costOfSet_0 17 100 rfl)
theorem dX7_costOfSet_18 : decode cX7_costOfSet 18 = .ok (.iload 5, 2) := dw_21 (kcX7_costOfSet_0 18 21 rfl) (kcX7_costOfSet_0 19 5 rfl)
theorem dX7_costOfSet_20 : decode cX7_costOfSet 20 = .ok (.isub, 1) := dw_100 (kcX7_costOfSet_0 20 100 rfl)
theorem dX7_costOfSet_21 : decode cX7_costOfSet 21 = .ok (.ishr, 1) := dw_122 (kcX7_costOfSet_0 21 122 rfl)
theorem dX7_costOfSet_22 : decode cX7_costOfSet 22 = .ok (.iconst 1, 1) := dw_4 (kcX7_costOfSet_0 22 4 rfl)
theorem dX7_costOfSet_23 : decode cX7_costOfSet 23 = .ok (.iand, 1) := dw_126 (kcX7_costOfSet_0 23 126 rfl)
theorem dX7_costOfSet_24 : decode cX7_costOfSet 24 = .ok (.iconst 1, 1) := dw_4 (kcX7_costOfSet_0 24 4 rfl)
theorem dX7_costOfSet_25 : decode cX7_costOfSet 25 = .ok (.if_icmp .ne 18, 3) := dw_160 (kcX7_costOfSet_0 25 160 rfl) (kcX7_costOfSet_0 26 0 rfl) (kcX7_costOfSet_0 27 18 rfl) rfl
theorem dX7_costOfSet_43 : decode cX7_costOfSet 43 = .ok (.iconst 0, 1) := dw_3 (kcX7_costOfSet_0 43 3 rfl)
theorem dX7_costOfSet_44 : decode cX7_costOfSet 44 = .ok (.iadd, 1) := dw_96 (kcX7_costOfSet_0 44 96 rfl)
theorem dX7_costOfSet_45 : decode cX7_costOfSet 45 = .ok (.istore 4, 2) := dw_54 (kcX7_costOfSet_0 45 54 rfl) (kcX7_costOfSet_0 46 4 rfl)
theorem dX7_costOfSet_47 : decode cX7_costOfSet 47 = .ok (.iinc 5 1, 3) := dw_132 (kcX7_costOfSet_0 47 132 rfl) (kcX7_costOfSet_0 48 5 rfl) (kcX7_costOfSet_0 49 1 rfl) rfl
theorem dX7_costOfSet_50 : decode cX7_costOfSet 50 = .ok (.goto (-44), 3) := dw_167 (kcX7_costOfSet_0 50 167 rfl) (kcX7_costOfSet_0 51 255 rfl) (kcX7_costOfSet_0 52 212 rfl) rfl
theorem dX7_costOfSet_28 : decode cX7_costOfSet 28 = .ok (.aload_n 0, 1) := dw_42 (kcX7_costOfSet_0 28 42 rfl)
theorem dX7_costOfSet_29 : decode cX7_costOfSet 29 = .ok (.iload_n 1, 1) := dw_27 (kcX7_costOfSet_0 29 27 rfl)
theorem dX7_costOfSet_30 : decode cX7_costOfSet 30 = .ok (.aload_n 0, 1) := dw_42 (kcX7_costOfSet_0 30 42 rfl)
theorem dX7_costOfSet_31 : decode cX7_costOfSet 31 = .ok (.getfield 86, 3) := dw_180 (kcX7_costOfSet_0 31 180 rfl) (kcX7_costOfSet_0 32 0 rfl) (kcX7_costOfSet_0 33 86 rfl) rfl
theorem dX7_costOfSet_34 : decode cX7_costOfSet 34 = .ok (.iload 5, 2) := dw_21 (kcX7_costOfSet_0 34 21 rfl) (kcX7_costOfSet_0 35 5 rfl)
theorem dX7_costOfSet_36 : decode cX7_costOfSet 36 = .ok (.iaload, 1) := dw_46 (kcX7_costOfSet_0 36 46 rfl)
theorem dX7_costOfSet_37 : decode cX7_costOfSet 37 = .ok (.invokevirtual 242, 3) := dw_182 (kcX7_costOfSet_0 37 182 rfl) (kcX7_costOfSet_0 38 0 rfl) (kcX7_costOfSet_0 39 242 rfl) rfl
theorem dX7_costOfSet_40 : decode cX7_costOfSet 40 = .ok (.goto 4, 3) := dw_167 (kcX7_costOfSet_0 40 167 rfl) (kcX7_costOfSet_0 41 0 rfl) (kcX7_costOfSet_0 42 4 rfl) rfl
theorem dX7_costOfSet_53 : decode cX7_costOfSet 53 = .ok (.iload 4, 2) := dw_21 (kcX7_costOfSet_0 53 21 rfl) (kcX7_costOfSet_0 54 4 rfl)
theorem dX7_costOfSet_55 : decode cX7_costOfSet 55 = .ok (.ireturn, 1) := dw_172 (kcX7_costOfSet_0 55 172 rfl)
theorem kcX7_bestOf_0 : CHb cX7_bestOf 0 [2, 62, 3, 54, 4, 2, 54, 5, 3, 54, 6, 4, 28, 120, 4, 100, 54, 7, 21, 7, 155, 0, 74, 42, 27, 28, 21, 7, 182, 0, 251, 54, 8, 21, 8, 29, 163, 0, 16, 21, 8, 29, 160, 0, 14, 21, 7, 21, 4, 162, 0, 7, 4, 167, 0, 4, 3, 54, 9, 21, 9, 153, 0, 27] := CHb_of (by decide +kernel)
theorem dX7_bestOf_0 : decode cX7_bestOf 0 = .ok (.iconst (-1), 1) := dw_2 (kcX7_bestOf_0 0 2 rfl)
theorem dX7_bestOf_1 : decode cX7_bestOf 1 = .ok (.istore_n 3, 1) := dw_62 (kcX7_bestOf_0 1 62 rfl)
theorem dX7_bestOf_2 : decode cX7_bestOf 2 = .ok (.iconst 0, 1) := dw_3 (kcX7_bestOf_0 2 3 rfl)
theorem dX7_bestOf_3 : decode cX7_bestOf 3 = .ok (.istore 4, 2) := dw_54 (kcX7_bestOf_0 3 54 rfl) (kcX7_bestOf_0 4 4 rfl)
theorem dX7_bestOf_5 : decode cX7_bestOf 5 = .ok (.iconst (-1), 1) := dw_2 (kcX7_bestOf_0 5 2 rfl)
theorem dX7_bestOf_6 : decode cX7_bestOf 6 = .ok (.istore 5, 2) := dw_54 (kcX7_bestOf_0 6 54 rfl) (kcX7_bestOf_0 7 5 rfl)
theorem dX7_bestOf_8 : decode cX7_bestOf 8 = .ok (.iconst 0, 1) := dw_3 (kcX7_bestOf_0 8 3 rfl)
theorem dX7_bestOf_9 : decode cX7_bestOf 9 = .ok (.istore 6, 2) := dw_54 (kcX7_bestOf_0 9 54 rfl) (kcX7_bestOf_0 10 6 rfl)
theorem dX7_bestOf_11 : decode cX7_bestOf 11 = .ok (.iconst 1, 1) := dw_4 (kcX7_bestOf_0 11 4 rfl)
theorem dX7_bestOf_12 : decode cX7_bestOf 12 = .ok (.iload_n 2, 1) := dw_28 (kcX7_bestOf_0 12 28 rfl)
theorem dX7_bestOf_13 : decode cX7_bestOf 13 = .ok (.ishl, 1) := dw_120 (kcX7_bestOf_0 13 120 rfl)
theorem dX7_bestOf_14 : decode cX7_bestOf 14 = .ok (.iconst 1, 1) := dw_4 (kcX7_bestOf_0 14 4 rfl)
theorem dX7_bestOf_15 : decode cX7_bestOf 15 = .ok (.isub, 1) := dw_100 (kcX7_bestOf_0 15 100 rfl)
theorem dX7_bestOf_16 : decode cX7_bestOf 16 = .ok (.istore 7, 2) := dw_54 (kcX7_bestOf_0 16 54 rfl) (kcX7_bestOf_0 17 7 rfl)
theorem dX7_bestOf_18 : decode cX7_bestOf 18 = .ok (.iload 7, 2) := dw_21 (kcX7_bestOf_0 18 21 rfl) (kcX7_bestOf_0 19 7 rfl)
theorem dX7_bestOf_20 : decode cX7_bestOf 20 = .ok (.ifCond .lt 74, 3) := dw_155 (kcX7_bestOf_0 20 155 rfl) (kcX7_bestOf_0 21 0 rfl) (kcX7_bestOf_0 22 74 rfl) rfl
theorem dX7_bestOf_23 : decode cX7_bestOf 23 = .ok (.aload_n 0, 1) := dw_42 (kcX7_bestOf_0 23 42 rfl)
theorem dX7_bestOf_24 : decode cX7_bestOf 24 = .ok (.iload_n 1, 1) := dw_27 (kcX7_bestOf_0 24 27 rfl)
theorem dX7_bestOf_25 : decode cX7_bestOf 25 = .ok (.iload_n 2, 1) := dw_28 (kcX7_bestOf_0 25 28 rfl)
theorem dX7_bestOf_26 : decode cX7_bestOf 26 = .ok (.iload 7, 2) := dw_21 (kcX7_bestOf_0 26 21 rfl) (kcX7_bestOf_0 27 7 rfl)
theorem dX7_bestOf_28 : decode cX7_bestOf 28 = .ok (.invokevirtual 251, 3) := dw_182 (kcX7_bestOf_0 28 182 rfl) (kcX7_bestOf_0 29 0 rfl) (kcX7_bestOf_0 30 251 rfl) rfl
theorem dX7_bestOf_31 : decode cX7_bestOf 31 = .ok (.istore 8, 2) := dw_54 (kcX7_bestOf_0 31 54 rfl) (kcX7_bestOf_0 32 8 rfl)
theorem dX7_bestOf_33 : decode cX7_bestOf 33 = .ok (.iload 8, 2) := dw_21 (kcX7_bestOf_0 33 21 rfl) (kcX7_bestOf_0 34 8 rfl)
theorem dX7_bestOf_35 : decode cX7_bestOf 35 = .ok (.iload_n 3, 1) := dw_29 (kcX7_bestOf_0 35 29 rfl)
theorem dX7_bestOf_36 : decode cX7_bestOf 36 = .ok (.if_icmp .gt 16, 3) := dw_163 (kcX7_bestOf_0 36 163 rfl) (kcX7_bestOf_0 37 0 rfl) (kcX7_bestOf_0 38 16 rfl) rfl
theorem dX7_bestOf_52 : decode cX7_bestOf 52 = .ok (.iconst 1, 1) := dw_4 (kcX7_bestOf_0 52 4 rfl)
theorem dX7_bestOf_53 : decode cX7_bestOf 53 = .ok (.goto 4, 3) := dw_167 (kcX7_bestOf_0 53 167 rfl) (kcX7_bestOf_0 54 0 rfl) (kcX7_bestOf_0 55 4 rfl) rfl
theorem dX7_bestOf_57 : decode cX7_bestOf 57 = .ok (.istore 9, 2) := dw_54 (kcX7_bestOf_0 57 54 rfl) (kcX7_bestOf_0 58 9 rfl)
theorem dX7_bestOf_59 : decode cX7_bestOf 59 = .ok (.iload 9, 2) := dw_21 (kcX7_bestOf_0 59 21 rfl) (kcX7_bestOf_0 60 9 rfl)
theorem dX7_bestOf_61 : decode cX7_bestOf 61 = .ok (.ifCond .eq 27, 3) := dw_153 (kcX7_bestOf_0 61 153 rfl) (kcX7_bestOf_0 62 0 rfl) (kcX7_bestOf_0 63 27 rfl) rfl
theorem kcX7_bestOf_1 : CHb cX7_bestOf 64 [21, 5, 2, 159, 0, 13, 21, 8, 21, 6, 161, 0, 6, 167, 0, 11, 21, 7, 54, 5, 21, 8, 54, 6, 132, 7, 255, 167, 255, 183, 21, 5, 2, 160, 0, 6, 167, 0, 73, 3, 54, 7, 21, 7, 28, 162, 0, 41, 42, 180, 0, 38, 42, 180, 0, 86, 21, 7, 46, 21, 5, 28, 4, 100] := CHb_of (by decide +kernel)
theorem dX7_bestOf_64 : decode cX7_bestOf 64 = .ok (.iload 5, 2) := dw_21 (kcX7_bestOf_1 0 21 rfl) (kcX7_bestOf_1 1 5 rfl)
theorem dX7_bestOf_66 : decode cX7_bestOf 66 = .ok (.iconst (-1), 1) := dw_2 (kcX7_bestOf_1 2 2 rfl)
theorem dX7_bestOf_67 : decode cX7_bestOf 67 = .ok (.if_icmp .eq 13, 3) := dw_159 (kcX7_bestOf_1 3 159 rfl) (kcX7_bestOf_1 4 0 rfl) (kcX7_bestOf_1 5 13 rfl) rfl
theorem dX7_bestOf_80 : decode cX7_bestOf 80 = .ok (.iload 7, 2) := dw_21 (kcX7_bestOf_1 16 21 rfl) (kcX7_bestOf_1 17 7 rfl)
theorem dX7_bestOf_82 : decode cX7_bestOf 82 = .ok (.istore 5, 2) := dw_54 (kcX7_bestOf_1 18 54 rfl) (kcX7_bestOf_1 19 5 rfl)
theorem dX7_bestOf_84 : decode cX7_bestOf 84 = .ok (.iload 8, 2) := dw_21 (kcX7_bestOf_1 20 21 rfl) (kcX7_bestOf_1 21 8 rfl)
theorem dX7_bestOf_86 : decode cX7_bestOf 86 = .ok (.istore 6, 2) := dw_54 (kcX7_bestOf_1 22 54 rfl) (kcX7_bestOf_1 23 6 rfl)
theorem dX7_bestOf_88 : decode cX7_bestOf 88 = .ok (.iinc 7 (-1), 3) := dw_132 (kcX7_bestOf_1 24 132 rfl) (kcX7_bestOf_1 25 7 rfl) (kcX7_bestOf_1 26 255 rfl) rfl
theorem dX7_bestOf_91 : decode cX7_bestOf 91 = .ok (.goto (-73), 3) := dw_167 (kcX7_bestOf_1 27 167 rfl) (kcX7_bestOf_1 28 255 rfl) (kcX7_bestOf_1 29 183 rfl) rfl
theorem dX7_bestOf_70 : decode cX7_bestOf 70 = .ok (.iload 8, 2) := dw_21 (kcX7_bestOf_1 6 21 rfl) (kcX7_bestOf_1 7 8 rfl)
theorem dX7_bestOf_72 : decode cX7_bestOf 72 = .ok (.iload 6, 2) := dw_21 (kcX7_bestOf_1 8 21 rfl) (kcX7_bestOf_1 9 6 rfl)
theorem dX7_bestOf_74 : decode cX7_bestOf 74 = .ok (.if_icmp .lt 6, 3) := dw_161 (kcX7_bestOf_1 10 161 rfl) (kcX7_bestOf_1 11 0 rfl) (kcX7_bestOf_1 12 6 rfl) rfl
theorem dX7_bestOf_77 : decode cX7_bestOf 77 = .ok (.goto 11, 3) := dw_167 (kcX7_bestOf_1 13 167 rfl) (kcX7_bestOf_1 14 0 rfl) (kcX7_bestOf_1 15 11 rfl) rfl
theorem dX7_bestOf_39 : decode cX7_bestOf 39 = .ok (.iload 8, 2) := dw_21 (kcX7_bestOf_0 39 21 rfl) (kcX7_bestOf_0 40 8 rfl)
theorem dX7_bestOf_41 : decode cX7_bestOf 41 = .ok (.iload_n 3, 1) := dw_29 (kcX7_bestOf_0 41 29 rfl)
theorem dX7_bestOf_42 : decode cX7_bestOf 42 = .ok (.if_icmp .ne 14, 3) := dw_160 (kcX7_bestOf_0 42 160 rfl) (kcX7_bestOf_0 43 0 rfl) (kcX7_bestOf_0 44 14 rfl) rfl
theorem dX7_bestOf_56 : decode cX7_bestOf 56 = .ok (.iconst 0, 1) := dw_3 (kcX7_bestOf_0 56 3 rfl)
theorem dX7_bestOf_45 : decode cX7_bestOf 45 = .ok (.iload 7, 2) := dw_21 (kcX7_bestOf_0 45 21 rfl) (kcX7_bestOf_0 46 7 rfl)
theorem dX7_bestOf_47 : decode cX7_bestOf 47 = .ok (.iload 4, 2) := dw_21 (kcX7_bestOf_0 47 21 rfl) (kcX7_bestOf_0 48 4 rfl)
theorem dX7_bestOf_49 : decode cX7_bestOf 49 = .ok (.if_icmp .ge 7, 3) := dw_162 (kcX7_bestOf_0 49 162 rfl) (kcX7_bestOf_0 50 0 rfl) (kcX7_bestOf_0 51 7 rfl) rfl
theorem dX7_bestOf_94 : decode cX7_bestOf 94 = .ok (.iload 5, 2) := dw_21 (kcX7_bestOf_1 30 21 rfl) (kcX7_bestOf_1 31 5 rfl)
theorem dX7_bestOf_96 : decode cX7_bestOf 96 = .ok (.iconst (-1), 1) := dw_2 (kcX7_bestOf_1 32 2 rfl)
theorem dX7_bestOf_97 : decode cX7_bestOf 97 = .ok (.if_icmp .ne 6, 3) := dw_160 (kcX7_bestOf_1 33 160 rfl) (kcX7_bestOf_1 34 0 rfl) (kcX7_bestOf_1 35 6 rfl) rfl
theorem dX7_bestOf_103 : decode cX7_bestOf 103 = .ok (.iconst 0, 1) := dw_3 (kcX7_bestOf_1 39 3 rfl)
theorem dX7_bestOf_104 : decode cX7_bestOf 104 = .ok (.istore 7, 2) := dw_54 (kcX7_bestOf_1 40 54 rfl) (kcX7_bestOf_1 41 7 rfl)
theorem dX7_bestOf_106 : decode cX7_bestOf 106 = .ok (.iload 7, 2) := dw_21 (kcX7_bestOf_1 42 21 rfl) (kcX7_bestOf_1 43 7 rfl)
theorem dX7_bestOf_108 : decode cX7_bestOf 108 = .ok (.iload_n 2, 1) := dw_28 (kcX7_bestOf_1 44 28 rfl)
theorem dX7_bestOf_109 : decode cX7_bestOf 109 = .ok (.if_icmp .ge 41, 3) := dw_162 (kcX7_bestOf_1 45 162 rfl) (kcX7_bestOf_1 46 0 rfl) (kcX7_bestOf_1 47 41 rfl) rfl
theorem dX7_bestOf_112 : decode cX7_bestOf 112 = .ok (.aload_n 0, 1) := dw_42 (kcX7_bestOf_1 48 42 rfl)
theorem dX7_bestOf_113 : decode cX7_bestOf 113 = .ok (.getfield 38, 3) := dw_180 (kcX7_bestOf_1 49 180 rfl) (kcX7_bestOf_1 50 0 rfl) (kcX7_bestOf_1 51 38 rfl) rfl
theorem dX7_bestOf_116 : decode cX7_bestOf 116 = .ok (.aload_n 0, 1) := dw_42 (kcX7_bestOf_1 52 42 rfl)
theorem dX7_bestOf_117 : decode cX7_bestOf 117 = .ok (.getfield 86, 3) := dw_180 (kcX7_bestOf_1 53 180 rfl) (kcX7_bestOf_1 54 0 rfl) (kcX7_bestOf_1 55 86 rfl) rfl
theorem dX7_bestOf_120 : decode cX7_bestOf 120 = .ok (.iload 7, 2) := dw_21 (kcX7_bestOf_1 56 21 rfl) (kcX7_bestOf_1 57 7 rfl)
theorem dX7_bestOf_122 : decode cX7_bestOf 122 = .ok (.iaload, 1) := dw_46 (kcX7_bestOf_1 58 46 rfl)
theorem dX7_bestOf_123 : decode cX7_bestOf 123 = .ok (.iload 5, 2) := dw_21 (kcX7_bestOf_1 59 21 rfl) (kcX7_bestOf_1 60 5 rfl)
theorem dX7_bestOf_125 : decode cX7_bestOf 125 = .ok (.iload_n 2, 1) := dw_28 (kcX7_bestOf_1 61 28 rfl)
theorem dX7_bestOf_126 : decode cX7_bestOf 126 = .ok (.iconst 1, 1) := dw_4 (kcX7_bestOf_1 62 4 rfl)
theorem dX7_bestOf_127 : decode cX7_bestOf 127 = .ok (.isub, 1) := dw_100 (kcX7_bestOf_1 63 100 rfl)
theorem kcX7_bestOf_2 : CHb cX7_bestOf 128 [21, 7, 100, 122, 4, 126, 4, 160, 0, 7, 4, 167, 0, 4, 3, 84, 132, 7, 1, 167, 255, 215, 42, 27, 3, 182, 0, 230, 2, 160, 0, 6, 21, 5, 172, 21, 6, 62, 21, 5, 54, 4, 167, 255, 91, 2, 172] := CHb_of (by decide +kernel)
theorem dX7_bestOf_128 : decode cX7_bestOf 128 = .ok (.iload 7, 2) := dw_21 (kcX7_bestOf_2 0 21 rfl) (kcX7_bestOf_2 1 7 rfl)
theorem dX7_bestOf_130 : decode cX7_bestOf 130 = .ok (.isub, 1) := dw_100 (kcX7_bestOf_2 2 100 rfl)
theorem dX7_bestOf_131 : decode cX7_bestOf 131 = .ok (.ishr, 1) := dw_122 (kcX7_bestOf_2 3 122 rfl)
theorem dX7_bestOf_132 : decode cX7_bestOf 132 = .ok (.iconst 1, 1) := dw_4 (kcX7_bestOf_2 4 4 rfl)
theorem dX7_bestOf_133 : decode cX7_bestOf 133 = .ok (.iand, 1) := dw_126 (kcX7_bestOf_2 5 126 rfl)
theorem dX7_bestOf_134 : decode cX7_bestOf 134 = .ok (.iconst 1, 1) := dw_4 (kcX7_bestOf_2 6 4 rfl)
theorem dX7_bestOf_135 : decode cX7_bestOf 135 = .ok (.if_icmp .ne 7, 3) := dw_160 (kcX7_bestOf_2 7 160 rfl) (kcX7_bestOf_2 8 0 rfl) (kcX7_bestOf_2 9 7 rfl) rfl
theorem dX7_bestOf_142 : decode cX7_bestOf 142 = .ok (.iconst 0, 1) := dw_3 (kcX7_bestOf_2 14 3 rfl)
theorem dX7_bestOf_143 : decode cX7_bestOf 143 = .ok (.bastore, 1) := dw_84 (kcX7_bestOf_2 15 84 rfl)
theorem dX7_bestOf_144 : decode cX7_bestOf 144 = .ok (.iinc 7 1, 3) := dw_132 (kcX7_bestOf_2 16 132 rfl) (kcX7_bestOf_2 17 7 rfl) (kcX7_bestOf_2 18 1 rfl) rfl
theorem dX7_bestOf_147 : decode cX7_bestOf 147 = .ok (.goto (-41), 3) := dw_167 (kcX7_bestOf_2 19 167 rfl) (kcX7_bestOf_2 20 255 rfl) (kcX7_bestOf_2 21 215 rfl) rfl
theorem dX7_bestOf_138 : decode cX7_bestOf 138 = .ok (.iconst 1, 1) := dw_4 (kcX7_bestOf_2 10 4 rfl)
theorem dX7_bestOf_139 : decode cX7_bestOf 139 = .ok (.goto 4, 3) := dw_167 (kcX7_bestOf_2 11 167 rfl) (kcX7_bestOf_2 12 0 rfl) (kcX7_bestOf_2 13 4 rfl) rfl
theorem dX7_bestOf_150 : decode cX7_bestOf 150 = .ok (.aload_n 0, 1) := dw_42 (kcX7_bestOf_2 22 42 rfl)
theorem dX7_bestOf_151 : decode cX7_bestOf 151 = .ok (.iload_n 1, 1) := dw_27 (kcX7_bestOf_2 23 27 rfl)
theorem dX7_bestOf_152 : decode cX7_bestOf 152 = .ok (.iconst 0, 1) := dw_3 (kcX7_bestOf_2 24 3 rfl)
theorem dX7_bestOf_153 : decode cX7_bestOf 153 = .ok (.invokevirtual 230, 3) := dw_182 (kcX7_bestOf_2 25 182 rfl) (kcX7_bestOf_2 26 0 rfl) (kcX7_bestOf_2 27 230 rfl) rfl
theorem dX7_bestOf_156 : decode cX7_bestOf 156 = .ok (.iconst (-1), 1) := dw_2 (kcX7_bestOf_2 28 2 rfl)
theorem dX7_bestOf_157 : decode cX7_bestOf 157 = .ok (.if_icmp .ne 6, 3) := dw_160 (kcX7_bestOf_2 29 160 rfl) (kcX7_bestOf_2 30 0 rfl) (kcX7_bestOf_2 31 6 rfl) rfl
theorem dX7_bestOf_163 : decode cX7_bestOf 163 = .ok (.iload 6, 2) := dw_21 (kcX7_bestOf_2 35 21 rfl) (kcX7_bestOf_2 36 6 rfl)
theorem dX7_bestOf_165 : decode cX7_bestOf 165 = .ok (.istore_n 3, 1) := dw_62 (kcX7_bestOf_2 37 62 rfl)
theorem dX7_bestOf_166 : decode cX7_bestOf 166 = .ok (.iload 5, 2) := dw_21 (kcX7_bestOf_2 38 21 rfl) (kcX7_bestOf_2 39 5 rfl)
theorem dX7_bestOf_168 : decode cX7_bestOf 168 = .ok (.istore 4, 2) := dw_54 (kcX7_bestOf_2 40 54 rfl) (kcX7_bestOf_2 41 4 rfl)
theorem dX7_bestOf_170 : decode cX7_bestOf 170 = .ok (.goto (-165), 3) := dw_167 (kcX7_bestOf_2 42 167 rfl) (kcX7_bestOf_2 43 255 rfl) (kcX7_bestOf_2 44 91 rfl) rfl
theorem dX7_bestOf_160 : decode cX7_bestOf 160 = .ok (.iload 5, 2) := dw_21 (kcX7_bestOf_2 32 21 rfl) (kcX7_bestOf_2 33 5 rfl)
theorem dX7_bestOf_162 : decode cX7_bestOf 162 = .ok (.ireturn, 1) := dw_172 (kcX7_bestOf_2 34 172 rfl)
theorem dX7_bestOf_100 : decode cX7_bestOf 100 = .ok (.goto 73, 3) := dw_167 (kcX7_bestOf_1 36 167 rfl) (kcX7_bestOf_1 37 0 rfl) (kcX7_bestOf_1 38 73 rfl) rfl
theorem dX7_bestOf_173 : decode cX7_bestOf 173 = .ok (.iconst (-1), 1) := dw_2 (kcX7_bestOf_2 45 2 rfl)
theorem dX7_bestOf_174 : decode cX7_bestOf 174 = .ok (.ireturn, 1) := dw_172 (kcX7_bestOf_2 46 172 rfl)
theorem an1 (x : Int32) : x &&& 1 = 0 ∨ x &&& 1 = 1 := by
  by_cases c : bt x 0 = true
  · refine Or.inr (b_ext (fun i hi => ?_))
    rw [b_and, b_1 i hi]
    by_cases e : i = 0
    · subst e; rw [c]; simp
    · rw [decide_eq_false e]; simp
  · refine Or.inl (b_ext (fun i hi => ?_))
    rw [b_and, b_1 i hi, b_0]
    by_cases e : i = 0
    · subst e
      have : bt x 0 = false := by
        cases h : bt x 0 with
        | true => exact absurd h c
        | false => rfl
      rw [this]; rfl
    · rw [decide_eq_false e]; simp
theorem sb_y {s v : Nat} {y x : Int32} (hv : v < 25) (e : x = nI s >>> (nI v &&& 31)) (e2 : y = x &&& 1) (h : y = 1) : bt (nI s) v = true := bit_of (by omega) (by rw [← e, ← e2, h]; decide)
theorem sb_n {s v : Nat} {y x : Int32} (hv : v < 25) (e : x = nI s >>> (nI v &&& 31)) (e2 : y = x &&& 1) (h : ¬ y = 1) : bt (nI s) v = false := bit_no hv (by rw [← e]; exact (an1 x).resolve_right (fun z => h (e2.trans z)))
def mayM (r3 r4 r5 r6 r7 r8 r9 r11 : Nat → Int32) (t rw cl x y : Nat) : Prop := x < rw ∧ y < cl ∧ sndN (r3 t) r11 r5 t x ∧ ¬ r5 (144 * t + 12 * x + y) = 4 ∧ ¬ 0 < whR r4 r5 r6 r7 r8 r9 t (144 * t + 12 * x + y)
/-- the choices, by their rank -/
def GCM (M : Nat → Nat → Prop) (t n B : Nat) (c1 : Nat → Int32) : Prop := ∀ x y, M x y → 12 * x + y < n → rkG M (12 * x + y) < B → c1 (rkG M (12 * x + y)) = nI (144 * t + 12 * x + y)
section GM
variable {M : Nat → Nat → Prop} {t n i j B : Nat} {c1 : Nat → Int32}
theorem GCM_t (hM : ∀ x y, M x y → y < 12) (h : GCM M t (12 * i + j) B c1) (hm : M i j) : GCM M t (12 * i + (j + 1)) B (upd c1 (rkG M (12 * i + j)) (nI (144 * t + 12 * i + j))) := fun x y hxy hn hr => by
  have hy := hM x y hxy
  have hj := hM i j hm
  by_cases e : x = i ∧ y = j
  · rw [e.1, e.2, pk_us]
  · have l := rk_lt hy hxy (show 12 * x + y < 12 * i + j by omega)
    rw [pk_un (by omega)]
    exact h x y hxy (by omega) hr
theorem GCM_f (hM : ∀ x y, M x y → y < 12) (hj : j < 12) (h : GCM M t (12 * i + j) B c1) (hm : M i j → B ≤ rkG M (12 * i + j)) : GCM M t (12 * i + (j + 1)) B c1 := fun x y hxy hn hr => by
  have hy := hM x y hxy
  by_cases e : x = i ∧ y = j
  · rw [e.1, e.2] at hxy hr; have := hm hxy; omega
  · exact h x y hxy (by omega) hr
theorem GCM_r {cl : Nat} (hM : ∀ x y, M x y → y < cl) (hcl : cl ≤ 12) (h : GCM M t (12 * i + cl) B c1) : GCM M t (12 * (i + 1)) B c1 := fun x y hxy hn hr => by
  have hy := hM x y hxy
  exact h x y hxy (by omega) hr
end GM
set_option maxHeartbeats 4000000 in
set_option maxRecDepth 100000 in
theorem n_costOfSet (l : Launch) (G : GG) (y : Nat) (b : Nat → Nat) (f : Nat → Int32) (r : Nat → Nat → Int32) (t : Nat) (mn : Nat) (sq : Nat) (cp : Nat → Nat) (ht : t < 6) (hmn : mn < 9) (hch : ∀ k, k < mn → ∃ pk, pk < 864 ∧ (r 30) k = nI pk ∧ coR ((r 4) (6 * t + 5)) ((r 6) pk) = nI (cp k)) : RdI l yX7_costOfSet cX7_costOfSet 6 (some .int) ({ frames := 1, cells := 0, slots := 0, locals := 22 }) G (mM G y b f r) [.ref y, .int (nI t), .int (nI mn), .int (nI sq)] (fun q => q = nI (prc cp mn sq)) := by
  refine rd_entry (by decide +kernel) (Nat.le_of_ble_eq_true rfl) ?_
  intro p e s m below meth c C0 hP hK ls hl
  have hS : va_S (fun q => s.heap.size ≤ q) s.heap s.heap [] := va_S.rf
  have hA : ∀ q, s.heap.size ≤ q → (fun q => s.heap.size ≤ q) q := fun _ h => h
  obtain ⟨hx, hb, hml, hown, hts, hr, hlocks, hin⟩ := C0
  have hown : s.vm.findClass RX7 = some m.cls := hown
  have hl : lv_has ls 6 [(0, .ref y), (1, .int (nI t)), (2, .int (nI mn)), (3, .int (nI sq))] := hl
  refine lv_iconst (v := 0) hx hb dX7_costOfSet_0 (by decide) ?_
  refine lv_istore (lv' := [(4, .int 0), (0, .ref y), (1, .int (nI t)), (2, .int (nI mn)), (3, .int (nI sq))]) hx hb dX7_costOfSet_1 hl (by decide) rfl (fun ls hl => ?_)
  refine lv_iconst (v := 0) hx hb dX7_costOfSet_3 (by decide) ?_
  refine lv_istore (lv' := [(5, .int 0), (4, .int 0), (0, .ref y), (1, .int (nI t)), (2, .int (nI mn)), (3, .int (nI sq))]) hx hb dX7_costOfSet_4 hl (by decide) rfl (fun ls hl => ?_)
  have loop6 : ∀ (k1 k : Nat) (ac : Nat), k ≤ mn → mn < k + k1 → (ac = prS cp mn sq k) → ∀ (H : Heap) (locs : List Loc) (ls : Array Slot), PP G (mM G y b f r) H → va_S (fun q => s.heap.size ≤ q) s.heap H locs → lv_has ls 6 [(5, .int (nI k)), (4, .int (nI ac)), (0, .ref y), (1, .int (nI t)), (2, .int (nI mn)), (3, .int (nI sq))] → W p l e ({ frames := 1, cells := 0, slots := 0, locals := 22 }) s m ([.ref y, .int (nI t), .int (nI mn), .int (nI sq)] : List Value).toArray below meth c H locs 0 0 (MQ below (QrI (fun q => q = nI (prc cp mn sq)) (fun q => s.heap.size ≤ q)) ([.ref y, .int (nI t), .int (nI mn), .int (nI sq)] : List Value).toArray s 0 0 (fun q => s.heap.size ≤ q)) (F0 m 6 ls []) := by
    intro k1
    induction k1 with
    | zero => intro k ac h1 h2; exact absurd h1 (by omega)
    | succ k1 ih6k1 =>
      intro k ac hi_k hk_k hac H locs ls hP hS hl
      refine lv_iload hx hb dX7_costOfSet_6 (lv_at hl 0 rfl) ?_
      refine lv_iload_n hx hb dX7_costOfSet_8 rfl (lv_at hl 4 rfl) ?_
      refine lv_icmp_ge (tgt := 53) hx hb dX7_costOfSet_9 (by decide) (fun c3 => ?_) (fun c3 => ?_)
      · have b9 := qge_t (a := k) (b := mn) (by omega) (by omega) c3
        refine lv_iload hx hb dX7_costOfSet_53 (lv_at hl 1 rfl) ?_
        exact rd_iret hx hb hr hlocks hS ((by rw [hac, show k = mn by omega]; rfl)) dX7_costOfSet_55
      · have b9 := qge_f (a := k) (b := mn) (by omega) (by omega) c3
        refine lv_iload hx hb dX7_costOfSet_12 (lv_at hl 1 rfl) ?_
        refine lv_iload_n hx hb dX7_costOfSet_14 rfl (lv_at hl 5 rfl) ?_
        refine lv_iload_n hx hb dX7_costOfSet_15 rfl (lv_at hl 4 rfl) ?_
        refine lv_iconst (v := 1) hx hb dX7_costOfSet_16 (by decide) ?_
        refine lv_isub hx hb dX7_costOfSet_17 ?_
        refine lv_topi (fun v4 ev4 => ?_)
        obtain rfl : v4 = nI (mn - 1) := nI_minus ev4 rfl rfl (by omega)
        refine lv_iload hx hb dX7_costOfSet_18 (lv_at hl 0 rfl) ?_
        refine lv_isub hx hb dX7_costOfSet_20 ?_
        refine lv_topi (fun v5 ev5 => ?_)
        obtain rfl : v5 = nI ((mn - 1) - k) := nI_minus ev5 rfl rfl (by omega)
        refine lv_ishr hx hb dX7_costOfSet_21 ?_
        refine lv_topi (fun v6 ev6 => ?_)
        refine lv_iconst (v := 1) hx hb dX7_costOfSet_22 (by decide) ?_
        refine lv_iand hx hb dX7_costOfSet_23 ?_
        refine lv_topi (fun v7 ev7 => ?_)
        refine lv_iconst (v := 1) hx hb dX7_costOfSet_24 (by decide) ?_
        refine lv_icmp_ne (tgt := 43) hx hb dX7_costOfSet_25 (by decide) (fun c8 => ?_) (fun c8 => ?_)
        · have hbt := sb_n (s := sq) (v := mn - 1 - k) (by omega) ev6 ev7 c8
          refine lv_iconst (v := 0) hx hb dX7_costOfSet_43 (by decide) ?_
          refine lv_iadd hx hb dX7_costOfSet_44 ?_
          refine lv_topi (fun v9 ev9 => ?_)
          obtain rfl : v9 = nI (ac + 0) := nI_plus ev9 rfl rfl
          refine lv_istore (lv' := [(4, .int (nI (ac + 0))), (5, .int (nI k)), (0, .ref y), (1, .int (nI t)), (2, .int (nI mn)), (3, .int (nI sq))]) hx hb dX7_costOfSet_45 hl (by decide) rfl (fun ls hl => ?_)
          obtain ⟨v10, ev10⟩ : ∃ y9 : Int32, y9 = (nI k) + Int32.ofInt (1) := ⟨_, rfl⟩
          refine lv_iinc (v := v10) (lv' := [(5, .int v10), (4, .int (nI (ac + 0))), (0, .ref y), (1, .int (nI t)), (2, .int (nI mn)), (3, .int (nI sq))]) hx hb dX7_costOfSet_47 hl (k := 1) rfl ev10.symm (by decide) rfl (fun ls hl => ?_)
          obtain rfl : v10 = nI (k + 1) := nI_plus (i := k) (j := 1) ev10 rfl (by decide)
          refine lv_goto (tgt := 6) hx hb dX7_costOfSet_50 (by decide) ?_
          exact ih6k1 (k + 1) (ac + 0) (by omega) (by omega) (by rw [hac]; show _ = prS cp mn sq k + _; rw [hbt, if_neg (by decide)]) _ _ _ hP hS (lv_sub hl [0, 1, 2, 3, 4, 5] rfl)
        · have hbt := sb_y (s := sq) (v := mn - 1 - k) (by omega) ev6 ev7 c8
          refine lv_aload_n hx hb dX7_costOfSet_28 rfl (lv_at hl 2 rfl) ?_
          refine lv_iload_n hx hb dX7_costOfSet_29 rfl (lv_at hl 3 rfl) ?_
          refine lv_aload_n hx hb dX7_costOfSet_30 rfl (lv_at hl 2 rfl) ?_
          refine va_get (D := G.1) (ci := 7) (v := .ref (b 30)) (C := RX7) (T := TX7) (N := 43) hx hb hts inX7 hown hK.1 hP 0 rfl rfl 30 (by decide) (hts _ mf_X7_86) (fun _ h9 => h9) rfl dX7_costOfSet_31 ?_
          refine lv_iload hx hb dX7_costOfSet_34 (lv_at hl 0 rfl) ?_
          refine xiald (f := (r 30)) hx hb hK hP 26 (k) (rfl) (by omega) (by decide) rfl dX7_costOfSet_36 ?_
          refine lv_topi (fun v11 ev11 => ?_)
          obtain ⟨pk, hpk, epk, ecp⟩ := hch k (by omega)
          obtain rfl : v11 = nI (pk) := ev11.trans (epk)
          refine rdV (rest := [.int (nI ac)]) (q0 := 0) ⟨hx, hb, hml, hown, hts⟩ (n_costOf l G y b f r t (pk)  (by omega) (by omega)) mi_yX7_costOf mv_yX7_costOf ml_X7_242 ⟨rfl, rfl, Nat.le_of_ble_eq_true rfl, Nat.le_of_ble_eq_true rfl⟩ hK (hP) rfl rfl rfl hl.1 rfl (Nat.le_of_ble_eq_true rfl) dX7_costOfSet_37 ⟨Nat.zero_le _, Nat.zero_le _⟩ hS hA hP (fun r12 H locs hr12 hP hS => ?_)
          obtain rfl := hr12
          refine lv_topi (fun v13 ev13 => ?_)
          obtain rfl : v13 = nI (cp k) := ev13.trans ecp
          refine lv_goto (tgt := 44) hx hb dX7_costOfSet_40 (by decide) ?_
          refine lv_iadd hx hb dX7_costOfSet_44 ?_
          refine lv_topi (fun v14 ev14 => ?_)
          obtain rfl : v14 = nI (ac + (cp k)) := nI_plus ev14 rfl rfl
          refine lv_istore (lv' := [(4, .int (nI (ac + (cp k)))), (5, .int (nI k)), (0, .ref y), (1, .int (nI t)), (2, .int (nI mn)), (3, .int (nI sq))]) hx hb dX7_costOfSet_45 hl (by decide) rfl (fun ls hl => ?_)
          obtain ⟨v15, ev15⟩ : ∃ y9 : Int32, y9 = (nI k) + Int32.ofInt (1) := ⟨_, rfl⟩
          refine lv_iinc (v := v15) (lv' := [(5, .int v15), (4, .int (nI (ac + (cp k)))), (0, .ref y), (1, .int (nI t)), (2, .int (nI mn)), (3, .int (nI sq))]) hx hb dX7_costOfSet_47 hl (k := 1) rfl ev15.symm (by decide) rfl (fun ls hl => ?_)
          obtain rfl : v15 = nI (k + 1) := nI_plus (i := k) (j := 1) ev15 rfl (by decide)
          refine lv_goto (tgt := 6) hx hb dX7_costOfSet_50 (by decide) ?_
          exact ih6k1 (k + 1) (ac + (cp k)) (by omega) (by omega) (by rw [hac]; show _ = prS cp mn sq k + _; rw [hbt, if_pos rfl]) _ _ _ hP hS (lv_sub hl [0, 1, 2, 3, 4, 5] rfl)
  exact loop6 (mn + 1) 0 0 (by omega) (by omega) (rfl) _ _ _ hP hS (lv_sub hl [0, 1, 2, 3, 4, 5] rfl)
/-- the sets that were tried -/
def BOS (cp : Nat → Nat) (m : Nat) (G : Nat → Prop) (lc ls lz : Int32) (nq : Nat) : Prop := (lc = -1 ∧ lz = -1 ∧ nq = 0) ∨ ∃ b0, b0 < 2 ^ m ∧ lz = nI b0 ∧ lc = nI (prc cp m b0) ∧ ls = nI b0 ∧ nq ≤ cBf cp m b0 (2 ^ m) + 1 ∧ ∀ s, s < 2 ^ m → (s = b0 ∨ BEF cp m s b0) → ¬ G s
section BO
variable {cp : Nat → Nat} {m nq pz : Nat} {G : Nat → Prop} {lc ls lz : Int32}
theorem bo_a (hm : m < 9) (hb : ∀ s, prc cp m s ≤ 9000009) (hp : pz < 2 ^ m) (h : BOS cp m G lc ls lz nq) : AFT cp m lz pz ↔ (lc < nI (prc cp m pz) ∨ (nI (prc cp m pz) = lc ∧ nI pz < ls)) := by
  have h256 := p2_le m hm
  have bp := hb pz
  rcases h with ⟨h1, h2, _⟩ | ⟨b0, h0, h1, h2, h3, _⟩
  · rw [h1, h2]
    refine ⟨fun _ => Or.inl ?_, fun _ => Or.inl rfl⟩
    exact Int32.lt_of_lt_of_le (show (-1 : Int32) < 0 by decide) (nI_pos' (by omega))
  · have bb := hb b0
    rw [h1, h2, h3, nI_ltI (by omega) (by omega), nI_eq (by omega) (by omega), nI_ltI (by omega) (by omega)]
    constructor
    · rintro (z | ⟨o, ho, e, z⟩)
      · exact absurd z (nI_nm1 (by omega))
      · have e2 := (nI_eq (by omega) (by omega)).mp e
        subst e2; unfold BEF at z; omega
    · exact fun z => Or.inr ⟨b0, by omega, rfl, by unfold BEF; omega⟩
theorem bo_e (hm : m < 9) (h : BOS cp m G lc ls lz nq) (hno : ∀ s, s < 2 ^ m → ¬ AFT cp m lz s) : ∀ s, s < 2 ^ m → ¬ G s := fun s hs => by
  have h256 := p2_le m hm
  rcases h with ⟨_, h2, _⟩ | ⟨b0, h0, h1, _, _, _, h5⟩
  · exact absurd (Or.inl h2) (hno s hs)
  · rcases BEF_or (cp := cp) (m := m) (a := s) (b := b0) with z | z | z
    · exact h5 s hs (Or.inr z)
    · exact h5 s hs (Or.inl z)
    · exact absurd (Or.inr ⟨b0, by omega, h1, z⟩) (hno s hs)
theorem bo_l (hm : m < 9) (h : BOS cp m G lc ls lz nq) {b : Nat} (hb : b < 2 ^ m) (ha : AFT cp m lz b) (hall : ∀ s, s < 2 ^ m → AFT cp m lz s → s = b ∨ BEF cp m b s) : nq ≤ cBf cp m b (2 ^ m) ∧ ∀ s, s < 2 ^ m → BEF cp m s b → ¬ G s := by
  have h256 := p2_le m hm
  rcases h with ⟨_, h2, h3⟩ | ⟨b0, h0, h1, _, _, h4, h5⟩
  · refine ⟨by omega, fun s hs z => ?_⟩
    rcases hall s hs (Or.inl h2) with e | e
    · rw [e] at z; exact absurd z BEF_n
    · exact absurd (BEF_t z e) BEF_n
  · have hbb : BEF cp m b0 b := ha.elim (fun e => absurd (h1.symm.trans e) (nI_nm1 (by omega))) (fun ⟨o, ho, e, z⟩ => by
      have e2 := (nI_eq (by omega) (by omega)).mp (h1.symm.trans e)
      subst e2; exact z)
    refine ⟨by have := cBf_s hbb (2 ^ m) h0; omega, fun s hs z => ?_⟩
    rcases BEF_or (cp := cp) (m := m) (a := s) (b := b0) with y | y | y
    · exact h5 s hs (Or.inr y)
    · exact h5 s hs (Or.inl y)
    · rcases hall s hs (Or.inr ⟨b0, by omega, h1, y⟩) with e | e
      · rw [e] at z; exact absurd z BEF_n
      · exact absurd (BEF_t z e) BEF_n
end BO
theorem KS_M {rw cl t m b : Nat} {r3 r4 r5 r6 r7 r8 r9 r10 r11 : Nat → Int32} (hrw : rw ≤ 12) (hcl : cl ≤ 12) (hY : ∀ x y, mayM r3 r4 r5 r6 r7 r8 r9 r11 t rw cl x y → r10 (144 * t + 12 * x + y) = (if bt (nI b) (m - 1 - rkG (mayM r3 r4 r5 r6 r7 r8 r9 r11 t rw cl) (12 * x + y)) = true then 1 else 0)) (hT : ∀ x y, x < 12 → y < 12 → ¬ mayM r3 r4 r5 r6 r7 r8 r9 r11 t rw cl x y → r10 (144 * t + 12 * x + y) = 0) : ∀ x y, x < rw → y < cl → KS (seM r4 r5 r6 r7 r8 r9 t) (mayM r3 r4 r5 r6 r7 r8 r9 r11 t rw cl) m b x y = KM r4 r5 r6 r7 r8 r9 r10 t x y := fun x y hx hy => by
  refine pB_c ⟨fun z => ?_, fun z => ?_⟩
  · rcases z with z | z
    · exact pB_i (se_K z)
    · refine ⟨z.1.2.2.2.1, Or.inl ?_⟩
      rw [hY x y z.1, if_pos z.2]; decide
  · rcases z.2 with w | w
    · by_cases c : mayM r3 r4 r5 r6 r7 r8 r9 r11 t rw cl x y
      · refine Or.inr ⟨c, ?_⟩
        by_cases d : bt (nI b) (m - 1 - rkG (mayM r3 r4 r5 r6 r7 r8 r9 r11 t rw cl) (12 * x + y)) = true
        · exact d
        · rw [hY x y c, if_neg d] at w; exact absurd rfl w
      · exact absurd (hT x y (by omega) (by omega) c) w
    · exact Or.inl w
section BY
variable {M : Nat → Nat → Prop} {t k m b xx yy : Nat} {r10 : Nat → Int32} {v : Int32}
theorem by_s (hM : ∀ x y, M x y → x < 12 ∧ y < 12) (hm : M xx yy) (hr : rkG M (12 * xx + yy) = k) (hv : v = (if bt (nI b) (m - 1 - k) = true then 1 else 0)) (h : ∀ x y, M x y → rkG M (12 * x + y) < k → r10 (144 * t + 12 * x + y) = (if bt (nI b) (m - 1 - rkG M (12 * x + y)) = true then 1 else 0)) : ∀ x y, M x y → rkG M (12 * x + y) < k + 1 → upd r10 (144 * t + 12 * xx + yy) v (144 * t + 12 * x + y) = (if bt (nI b) (m - 1 - rkG M (12 * x + y)) = true then 1 else 0) := fun x y hxy hk => by
  have h1 := hM xx yy hm
  have h2 := hM x y hxy
  by_cases e : x = xx ∧ y = yy
  · rw [e.1, e.2, pk_us, hr]; exact hv
  · rw [pk_un (by omega)]
    refine h x y hxy ?_
    by_cases c : rkG M (12 * x + y) = k
    · exact absurd (rk_inj h2.2 h1.2 hxy hm (c.trans hr.symm)) e
    · omega
theorem by_t (hM : ∀ x y, M x y → x < 12 ∧ y < 12) (hm : M xx yy) (h : ∀ x y, x < 12 → y < 12 → ¬ M x y → r10 (144 * t + 12 * x + y) = 0) : ∀ x y, x < 12 → y < 12 → ¬ M x y → upd r10 (144 * t + 12 * xx + yy) v (144 * t + 12 * x + y) = 0 := fun x y hx hy hn => by
  have h1 := hM xx yy hm
  rw [pk_un (fun e => by
    have e2 : x = xx ∧ y = yy := by omega
    rw [e2.1, e2.2] at hn; exact hn hm)]
  exact h x y hx hy hn
end BY
theorem by_f {P : Prop} {r c : Nat} {b : Bool} {z : Int32} (h1 : P → r < c → z = (if b = true then 1 else 0)) (h2 : ¬ P → z = 0) (h3 : P → r < c) : z = (if pB (P ∧ b = true) = true then 1 else 0) := by
  by_cases p : P
  · rw [h1 p (h3 p)]
    by_cases q : b = true
    · rw [if_pos q, pB_t ⟨p, q⟩, if_pos rfl]
    · rw [if_neg q, pB_f (fun y => q y.2), if_neg (by decide)]
  · rw [h2 p, pB_f (fun y => p y.1), if_neg (by decide)]
set_option maxHeartbeats 4000000 in
set_option maxRecDepth 100000 in
theorem n_bestOf (l : Launch) (G : GG) (y : Nat) (b : Nat → Nat) (f : Nat → Int32) (r : Nat → Nat → Int32) (t : Nat) (mn : Nat) (rw : Nat) (cl : Nat) (bk : Nat) (dn : Nat) (uq : Nat) (cp : Nat → Nat) (ht : t < 6) (hrw : rw ≤ 12) (hcl : cl ≤ 12) (hbk : bk ≤ 12) (h2 : (r 2) t = nI rw) (h3 : (r 3) t = nI cl) (h12 : (r 12) t = nI bk) (hG : nOK 864 6 (r 7)) (hNR : NRM rw cl t (r 3) (r 5) (r 6) (r 11)) (hdn : dn ≤ 1000000) (huq : uq ≤ 1000000) (hr3 : (r 4) (6 * t + 3) = nI dn) (hr4 : (r 4) (6 * t + 4) = nI uq) (hmn : mn < 9) (hmk : mn = rkG (mayM (r 3) (r 4) (r 5) (r 6) (r 7) (r 8) (r 9) (r 11) t rw cl) (12 * rw)) (hGC : GCM (mayM (r 3) (r 4) (r 5) (r 6) (r 7) (r 8) (r 9) (r 11) t rw cl) t (12 * rw) 12 (r 30)) (hcp : ∀ x y, (mayM (r 3) (r 4) (r 5) (r 6) (r 7) (r 8) (r 9) (r 11) t rw cl) x y → coR ((r 4) (6 * t + 5)) ((r 6) (144 * t + 12 * x + y)) = nI (cp (rkG (mayM (r 3) (r 4) (r 5) (r 6) (r 7) (r 8) (r 9) (r 11) t rw cl) (12 * x + y)))) (hcb : ∀ k, k < mn → cp k ≤ 1000001) (hT0 : ∀ x y, x < 12 → y < 12 → (r 10) (144 * t + 12 * x + y) = 0) : WrI l yX7_bestOf cX7_bestOf 10 (some .int) ({ frames := 7, cells := 0, slots := 0, locals := 179 }) G (mM G y b f r) [.ref y, .int (nI t), .int (nI mn)] (fun q w => ∃ (n_f_20 : Int32) (n_f_21 : Int32) (n_r_10 : Nat → Int32) (n_r_15 : Nat → Int32) (n_r_16 : Nat → Int32) (n_r_17 : Nat → Int32) (n_r_18 : Nat → Int32) (n_r_19 : Nat → Int32) (n_r_22 : Nat → Int32) (n_r_23 : Nat → Int32), w = mM G y b (upd (upd f 20 n_f_20) 21 n_f_21) (up2 (up2 (up2 (up2 (up2 (up2 (up2 (up2 r 10 n_r_10) 15 n_r_15) 16 n_r_16) 17 n_r_17) 18 n_r_18) 19 n_r_19) 22 n_r_22) 23 n_r_23) ∧ ((q = -1 ∧ ∀ s, s < 2 ^ mn → ¬ (GRD rw cl (UGm rw cl t bk (r 3) (r 4) (r 5) (r 6) (r 7) (r 8) (r 9) (r 11) (r 13) (r 14) dn uq) (seM (r 4) (r 5) (r 6) (r 7) (r 8) (r 9) t) (mayM (r 3) (r 4) (r 5) (r 6) (r 7) (r 8) (r 9) (r 11) t rw cl) mn) s) ∨ ∃ bz, q = nI bz ∧ LSG cp mn (GRD rw cl (UGm rw cl t bk (r 3) (r 4) (r 5) (r 6) (r 7) (r 8) (r 9) (r 11) (r 13) (r 14) dn uq) (seM (r 4) (r 5) (r 6) (r 7) (r 8) (r 9) t) (mayM (r 3) (r 4) (r 5) (r 6) (r 7) (r 8) (r 9) (r 11) t rw cl) mn) bz ∧ ∀ x y, x < 12 → y < 12 → n_r_10 (144 * t + 12 * x + y) = (if pB ((mayM (r 3) (r 4) (r 5) (r 6) (r 7) (r 8) (r 9) (r 11) t rw cl) x y ∧ bt (nI bz) (mn - 1 - rkG (mayM (r 3) (r 4) (r 5) (r 6) (r 7) (r 8) (r 9) (r 11) t rw cl) (12 * x + y)) = true) = true then 1 else 0)) ∧ (∀ p, (p < 144 * t ∨ 144 * t + 144 ≤ p) → n_r_10 p = (r 10) p)) := by
  refine wr_entryI (by decide +kernel) (Nat.le_of_ble_eq_true rfl) ?_
  intro p e s m below meth c A C0 hP hK hD hA ls hl
  have hS : va_S A s.heap s.heap [] := va_S.rf
  obtain ⟨hx, hb, hml, hown, hts, hr, hlocks, hin⟩ := C0
  have hown : s.vm.findClass RX7 = some m.cls := hown
  have hDD : ∀ f' r', va_D A (mM G y b f' r') := fun f' r' => D_same hD rfl
  have hl : lv_has ls 10 [(0, .ref y), (1, .int (nI t)), (2, .int (nI mn))] := hl
  have h256 := p2_le mn hmn
  have hpb : ∀ s, prc cp mn s ≤ 9000009 := fun s => Nat.le_trans (prS_le (B := 1000001) mn hcb) (by omega)
  have hT9 := hT0
  have hMx : ∀ x y, (mayM (r 3) (r 4) (r 5) (r 6) (r 7) (r 8) (r 9) (r 11) t rw cl) x y → x < 12 ∧ y < 12 := fun x y h9 => by have h8 := h9.1; have h7 := h9.2.1; omega
  have hMr : ∀ x y, (mayM (r 3) (r 4) (r 5) (r 6) (r 7) (r 8) (r 9) (r 11) t rw cl) x y → rkG (mayM (r 3) (r 4) (r 5) (r 6) (r 7) (r 8) (r 9) (r 11) t rw cl) (12 * x + y) < mn := fun x y h9 => by rw [hmk]; exact rk_lt (hMx x y h9).2 h9 (by have h8 := h9.1; have h7 := hMx x y h9; omega)
  have hch : ∀ k, k < mn → ∃ pk, pk < 864 ∧ r 30 k = nI pk ∧ coR (r 4 (6 * t + 5)) (r 6 pk) = nI (cp k) := fun k hk => by obtain ⟨xx, yy, hy9, hn9, hM9, hr9⟩ := rk_ex (M := (mayM (r 3) (r 4) (r 5) (r 6) (r 7) (r 8) (r 9) (r 11) t rw cl)) (12 * rw) (show k < rkG (mayM (r 3) (r 4) (r 5) (r 6) (r 7) (r 8) (r 9) (r 11) t rw cl) (12 * rw) by omega); have h1 := hGC xx yy hM9 hn9 (by omega); have h2_ := hcp xx yy hM9; rw [hr9] at h1 h2_; exact ⟨_, by have := hMx xx yy hM9; omega, h1, h2_⟩
  refine lv_iconst (v := -1) hx hb dX7_bestOf_0 (by decide) ?_
  refine lv_istore_n (lv' := [(3, .int (-1)), (0, .ref y), (1, .int (nI t)), (2, .int (nI mn))]) hx hb dX7_bestOf_1 rfl hl (by decide) rfl (fun ls hl => ?_)
  refine lv_iconst (v := 0) hx hb dX7_bestOf_2 (by decide) ?_
  refine lv_istore (lv' := [(4, .int 0), (3, .int (-1)), (0, .ref y), (1, .int (nI t)), (2, .int (nI mn))]) hx hb dX7_bestOf_3 hl (by decide) rfl (fun ls hl => ?_)
  have loop5 : ∀ (k1 : Nat) (z3 : Int32) (z4 : Int32) (lz : Int32) (nq : Nat) (x5 : Int32) (x6 : Int32) (x7 : Nat → Int32) (x8 : Nat → Int32) (x9 : Nat → Int32) (x10 : Nat → Int32) (x11 : Nat → Int32) (x12 : Nat → Int32) (x13 : Nat → Int32) (x14 : Nat → Int32), 2 ^ mn - nq < k1 → (BOS cp mn (GRD rw cl (UGm rw cl t bk (r 3) (r 4) (r 5) (r 6) (r 7) (r 8) (r 9) (r 11) (r 13) (r 14) dn uq) (seM (r 4) (r 5) (r 6) (r 7) (r 8) (r 9) t) (mayM (r 3) (r 4) (r 5) (r 6) (r 7) (r 8) (r 9) (r 11) t rw cl) mn) (z4 : Int32) (z3 : Int32) lz nq) → (∀ x y, x < 12 → y < 12 → ¬ (mayM (r 3) (r 4) (r 5) (r 6) (r 7) (r 8) (r 9) (r 11) t rw cl) x y → x7 (144 * t + 12 * x + y) = 0) → (∀ p, (p < 144 * t ∨ 144 * t + 144 ≤ p) → x7 p = r 10 p) → ∀ (H : Heap) (locs : List Loc) (ls : Array Slot), PP G (mM G y b (upd (upd f 20 x5) 21 x6) (up2 (up2 (up2 (up2 (up2 (up2 (up2 (up2 r 10 x7) 15 x8) 16 x9) 17 x10) 18 x11) 19 x12) 22 x13) 23 x14)) H → va_S A s.heap H locs → lv_has ls 10 [(4, .int z3), (3, .int z4), (0, .ref y), (1, .int (nI t)), (2, .int (nI mn))] → W p l e ({ frames := 7, cells := 0, slots := 0, locals := 179 }) s m ([.ref y, .int (nI t), .int (nI mn)] : List Value).toArray below meth c H locs 0 0 (MQ below (QwI G (fun q w => ∃ (n_f_20 : Int32) (n_f_21 : Int32) (n_r_10 : Nat → Int32) (n_r_15 : Nat → Int32) (n_r_16 : Nat → Int32) (n_r_17 : Nat → Int32) (n_r_18 : Nat → Int32) (n_r_19 : Nat → Int32) (n_r_22 : Nat → Int32) (n_r_23 : Nat → Int32), w = mM G y b (upd (upd f 20 n_f_20) 21 n_f_21) (up2 (up2 (up2 (up2 (up2 (up2 (up2 (up2 r 10 n_r_10) 15 n_r_15) 16 n_r_16) 17 n_r_17) 18 n_r_18) 19 n_r_19) 22 n_r_22) 23 n_r_23) ∧ ((q = -1 ∧ ∀ s, s < 2 ^ mn → ¬ (GRD rw cl (UGm rw cl t bk (r 3) (r 4) (r 5) (r 6) (r 7) (r 8) (r 9) (r 11) (r 13) (r 14) dn uq) (seM (r 4) (r 5) (r 6) (r 7) (r 8) (r 9) t) (mayM (r 3) (r 4) (r 5) (r 6) (r 7) (r 8) (r 9) (r 11) t rw cl) mn) s) ∨ ∃ bz, q = nI bz ∧ LSG cp mn (GRD rw cl (UGm rw cl t bk (r 3) (r 4) (r 5) (r 6) (r 7) (r 8) (r 9) (r 11) (r 13) (r 14) dn uq) (seM (r 4) (r 5) (r 6) (r 7) (r 8) (r 9) t) (mayM (r 3) (r 4) (r 5) (r 6) (r 7) (r 8) (r 9) (r 11) t rw cl) mn) bz ∧ ∀ x y, x < 12 → y < 12 → n_r_10 (144 * t + 12 * x + y) = (if pB ((mayM (r 3) (r 4) (r 5) (r 6) (r 7) (r 8) (r 9) (r 11) t rw cl) x y ∧ bt (nI bz) (mn - 1 - rkG (mayM (r 3) (r 4) (r 5) (r 6) (r 7) (r 8) (r 9) (r 11) t rw cl) (12 * x + y)) = true) = true then 1 else 0)) ∧ (∀ p, (p < 144 * t ∨ 144 * t + 144 ≤ p) → n_r_10 p = (r 10) p)) A) ([.ref y, .int (nI t), .int (nI mn)] : List Value).toArray s 0 0 A) (F0 m 5 ls []) := by
    intro k1
    induction k1 with
    | zero => intro z3 z4 lz nq x5 x6 x7 x8 x9 x10 x11 x12 x13 x14 h1; exact absurd h1 (Nat.not_lt_zero _)
    | succ k1 ih5k1 =>
      intro  z3 z4 lz nq x5 x6 x7 x8 x9 x10 x11 x12 x13 x14 hm_k1 hBO hT hou H locs ls hP hS hl
      refine lv_iconst (v := -1) hx hb dX7_bestOf_5 (by decide) ?_
      refine lv_istore (lv' := [(5, .int (-1)), (4, .int z3), (3, .int z4), (0, .ref y), (1, .int (nI t)), (2, .int (nI mn))]) hx hb dX7_bestOf_6 hl (by decide) rfl (fun ls hl => ?_)
      refine lv_iconst (v := 0) hx hb dX7_bestOf_8 (by decide) ?_
      refine lv_istore (lv' := [(6, .int 0), (5, .int (-1)), (4, .int z3), (3, .int z4), (0, .ref y), (1, .int (nI t)), (2, .int (nI mn))]) hx hb dX7_bestOf_9 hl (by decide) rfl (fun ls hl => ?_)
      refine lv_iconst (v := 1) hx hb dX7_bestOf_11 (by decide) ?_
      refine lv_iload_n hx hb dX7_bestOf_12 rfl (lv_at hl 6 rfl) ?_
      refine lv_ishl hx hb dX7_bestOf_13 ?_
      refine lv_topi (fun v15 ev15 => ?_)
      obtain rfl : v15 = nI (2 ^ mn) := ev15.trans (sh_2 mn hmn)
      refine lv_iconst (v := 1) hx hb dX7_bestOf_14 (by decide) ?_
      refine lv_isub hx hb dX7_bestOf_15 ?_
      refine lv_topi (fun v16 ev16 => ?_)
      refine lv_istore (lv' := [(7, .int v16), (6, .int 0), (5, .int (-1)), (4, .int z3), (3, .int z4), (0, .ref y), (1, .int (nI t)), (2, .int (nI mn))]) hx hb dX7_bestOf_16 hl (by decide) rfl (fun ls hl => ?_)
      have loop18 : ∀ (k17 : Nat) (z19 : Int32) (z20 : Int32) (z21 : Int32) (n : Nat) (bb : Nat), n < k17 → (n ≤ 2 ^ mn) → ((z19 : Int32) = nI n - 1) → ((z21 : Int32) = -1 ∨ ((z21 : Int32) = nI bb ∧ (z20 : Int32) = nI (prc cp mn bb))) → (NXT cp mn (AFT cp mn lz) n (¬ (z21 : Int32) = -1) bb) → ∀ (H : Heap) (locs : List Loc) (ls : Array Slot), PP G (mM G y b (upd (upd f 20 x5) 21 x6) (up2 (up2 (up2 (up2 (up2 (up2 (up2 (up2 r 10 x7) 15 x8) 16 x9) 17 x10) 18 x11) 19 x12) 22 x13) 23 x14)) H → va_S A s.heap H locs → lv_has ls 10 [(7, .int z19), (6, .int z20), (5, .int z21), (4, .int z3), (3, .int z4), (0, .ref y), (1, .int (nI t)), (2, .int (nI mn))] → W p l e ({ frames := 7, cells := 0, slots := 0, locals := 179 }) s m ([.ref y, .int (nI t), .int (nI mn)] : List Value).toArray below meth c H locs 0 0 (MQ below (QwI G (fun q w => ∃ (n_f_20 : Int32) (n_f_21 : Int32) (n_r_10 : Nat → Int32) (n_r_15 : Nat → Int32) (n_r_16 : Nat → Int32) (n_r_17 : Nat → Int32) (n_r_18 : Nat → Int32) (n_r_19 : Nat → Int32) (n_r_22 : Nat → Int32) (n_r_23 : Nat → Int32), w = mM G y b (upd (upd f 20 n_f_20) 21 n_f_21) (up2 (up2 (up2 (up2 (up2 (up2 (up2 (up2 r 10 n_r_10) 15 n_r_15) 16 n_r_16) 17 n_r_17) 18 n_r_18) 19 n_r_19) 22 n_r_22) 23 n_r_23) ∧ ((q = -1 ∧ ∀ s, s < 2 ^ mn → ¬ (GRD rw cl (UGm rw cl t bk (r 3) (r 4) (r 5) (r 6) (r 7) (r 8) (r 9) (r 11) (r 13) (r 14) dn uq) (seM (r 4) (r 5) (r 6) (r 7) (r 8) (r 9) t) (mayM (r 3) (r 4) (r 5) (r 6) (r 7) (r 8) (r 9) (r 11) t rw cl) mn) s) ∨ ∃ bz, q = nI bz ∧ LSG cp mn (GRD rw cl (UGm rw cl t bk (r 3) (r 4) (r 5) (r 6) (r 7) (r 8) (r 9) (r 11) (r 13) (r 14) dn uq) (seM (r 4) (r 5) (r 6) (r 7) (r 8) (r 9) t) (mayM (r 3) (r 4) (r 5) (r 6) (r 7) (r 8) (r 9) (r 11) t rw cl) mn) bz ∧ ∀ x y, x < 12 → y < 12 → n_r_10 (144 * t + 12 * x + y) = (if pB ((mayM (r 3) (r 4) (r 5) (r 6) (r 7) (r 8) (r 9) (r 11) t rw cl) x y ∧ bt (nI bz) (mn - 1 - rkG (mayM (r 3) (r 4) (r 5) (r 6) (r 7) (r 8) (r 9) (r 11) t rw cl) (12 * x + y)) = true) = true then 1 else 0)) ∧ (∀ p, (p < 144 * t ∨ 144 * t + 144 ≤ p) → n_r_10 p = (r 10) p)) A) ([.ref y, .int (nI t), .int (nI mn)] : List Value).toArray s 0 0 A) (F0 m 18 ls []) := by
        intro k17
        induction k17 with
        | zero => intro z19 z20 z21 n bb h1; exact absurd h1 (Nat.not_lt_zero _)
        | succ k17 ih18k17 =>
          intro  z19 z20 z21 n bb hm_k17 hnl h4 h3_ hn H locs ls hP hS hl
          refine lv_iload hx hb dX7_bestOf_18 (lv_at hl 0 rfl) ?_
          refine lv_if_lt (tgt := 94) hx hb dX7_bestOf_20 (by decide) (fun c22 => ?_) (fun c22 => ?_)
          · have hn0 := m1_0 (by omega) h4 c22
            subst hn0
            refine lv_iload hx hb dX7_bestOf_94 (lv_at hl 2 rfl) ?_
            refine lv_iconst (v := -1) hx hb dX7_bestOf_96 (by decide) ?_
            refine lv_icmp_ne (tgt := 103) hx hb dX7_bestOf_97 (by decide) (fun c23 => ?_) (fun c23 => ?_)
            · obtain ⟨e5, e6⟩ := h3_.resolve_left c23
              have hnb := (hn.resolve_left (fun z9 => z9.1 c23)).2
              subst e5
              subst e6
              have hbo := bo_l hmn hBO hnb.1 hnb.2.2.1 (fun s h8 h9 => hnb.2.2.2 s h8 (Nat.zero_le _) h9)
              have hcl9 := cBf_lt (cp := cp) (m := mn) (2 ^ mn) hnb.1
              refine lv_iconst (v := 0) hx hb dX7_bestOf_103 (by decide) ?_
              refine lv_istore (lv' := [(7, .int 0), (6, .int (nI (prc cp mn bb))), (5, .int (nI bb)), (4, .int z3), (3, .int z4), (0, .ref y), (1, .int (nI t)), (2, .int (nI mn))]) hx hb dX7_bestOf_104 hl (by decide) rfl (fun ls hl => ?_)
              have loop106 : ∀ (k24 k : Nat) (x25 : Nat → Int32), k ≤ mn → mn < k + k24 → (∀ x y, (mayM (r 3) (r 4) (r 5) (r 6) (r 7) (r 8) (r 9) (r 11) t rw cl) x y → rkG (mayM (r 3) (r 4) (r 5) (r 6) (r 7) (r 8) (r 9) (r 11) t rw cl) (12 * x + y) < k → x25 (144 * t + 12 * x + y) = (if bt (nI bb) (mn - 1 - rkG (mayM (r 3) (r 4) (r 5) (r 6) (r 7) (r 8) (r 9) (r 11) t rw cl) (12 * x + y)) = true then 1 else 0)) → (∀ x y, x < 12 → y < 12 → ¬ (mayM (r 3) (r 4) (r 5) (r 6) (r 7) (r 8) (r 9) (r 11) t rw cl) x y → x25 (144 * t + 12 * x + y) = 0) → (∀ p, (p < 144 * t ∨ 144 * t + 144 ≤ p) → x25 p = r 10 p) → ∀ (H : Heap) (locs : List Loc) (ls : Array Slot), PP G (mM G y b (upd (upd f 20 x5) 21 x6) (up2 (up2 (up2 (up2 (up2 (up2 (up2 (up2 r 10 x25) 15 x8) 16 x9) 17 x10) 18 x11) 19 x12) 22 x13) 23 x14)) H → va_S A s.heap H locs → lv_has ls 10 [(7, .int (nI k)), (6, .int (nI (prc cp mn bb))), (5, .int (nI bb)), (0, .ref y), (1, .int (nI t)), (2, .int (nI mn))] → W p l e ({ frames := 7, cells := 0, slots := 0, locals := 179 }) s m ([.ref y, .int (nI t), .int (nI mn)] : List Value).toArray below meth c H locs 0 0 (MQ below (QwI G (fun q w => ∃ (n_f_20 : Int32) (n_f_21 : Int32) (n_r_10 : Nat → Int32) (n_r_15 : Nat → Int32) (n_r_16 : Nat → Int32) (n_r_17 : Nat → Int32) (n_r_18 : Nat → Int32) (n_r_19 : Nat → Int32) (n_r_22 : Nat → Int32) (n_r_23 : Nat → Int32), w = mM G y b (upd (upd f 20 n_f_20) 21 n_f_21) (up2 (up2 (up2 (up2 (up2 (up2 (up2 (up2 r 10 n_r_10) 15 n_r_15) 16 n_r_16) 17 n_r_17) 18 n_r_18) 19 n_r_19) 22 n_r_22) 23 n_r_23) ∧ ((q = -1 ∧ ∀ s, s < 2 ^ mn → ¬ (GRD rw cl (UGm rw cl t bk (r 3) (r 4) (r 5) (r 6) (r 7) (r 8) (r 9) (r 11) (r 13) (r 14) dn uq) (seM (r 4) (r 5) (r 6) (r 7) (r 8) (r 9) t) (mayM (r 3) (r 4) (r 5) (r 6) (r 7) (r 8) (r 9) (r 11) t rw cl) mn) s) ∨ ∃ bz, q = nI bz ∧ LSG cp mn (GRD rw cl (UGm rw cl t bk (r 3) (r 4) (r 5) (r 6) (r 7) (r 8) (r 9) (r 11) (r 13) (r 14) dn uq) (seM (r 4) (r 5) (r 6) (r 7) (r 8) (r 9) t) (mayM (r 3) (r 4) (r 5) (r 6) (r 7) (r 8) (r 9) (r 11) t rw cl) mn) bz ∧ ∀ x y, x < 12 → y < 12 → n_r_10 (144 * t + 12 * x + y) = (if pB ((mayM (r 3) (r 4) (r 5) (r 6) (r 7) (r 8) (r 9) (r 11) t rw cl) x y ∧ bt (nI bz) (mn - 1 - rkG (mayM (r 3) (r 4) (r 5) (r 6) (r 7) (r 8) (r 9) (r 11) t rw cl) (12 * x + y)) = true) = true then 1 else 0)) ∧ (∀ p, (p < 144 * t ∨ 144 * t + 144 ≤ p) → n_r_10 p = (r 10) p)) A) ([.ref y, .int (nI t), .int (nI mn)] : List Value).toArray s 0 0 A) (F0 m 106 ls []) := by
                intro k24
                induction k24 with
                | zero => intro k x25 h1 h2; exact absurd h1 (by omega)
                | succ k24 ih106k24 =>
                  intro k x25 hi_k hk_k hY hT hou H locs ls hP hS hl
                  refine lv_iload hx hb dX7_bestOf_106 (lv_at hl 0 rfl) ?_
                  refine lv_iload_n hx hb dX7_bestOf_108 rfl (lv_at hl 5 rfl) ?_
                  refine lv_icmp_ge (tgt := 150) hx hb dX7_bestOf_109 (by decide) (fun c26 => ?_) (fun c26 => ?_)
                  · have b109 := qge_t (a := k) (b := mn) (by omega) (by omega) c26
                    have hKS := KS_M (m := mn) (b := bb) hrw hcl (fun x y h9 => hY x y h9 (by have := hMr x y h9; omega)) hT
                    refine lv_aload_n hx hb dX7_bestOf_150 rfl (lv_at hl 3 rfl) ?_
                    refine lv_iload_n hx hb dX7_bestOf_151 rfl (lv_at hl 4 rfl) ?_
                    refine lv_iconst (v := 0) hx hb dX7_bestOf_152 (by decide) ?_
                    refine wrVIa (rest := []) (q0 := 0) ⟨hx, hb, hml, hown, hts⟩ (n_unsafeFrom l G y b (upd (upd f 20 x5) 21 x6) (up2 (up2 (up2 (up2 (up2 (up2 (up2 (up2 r 10 x25) 15 x8) 16 x9) 17 x10) 18 x11) 19 x12) 22 x13) 23 x14) t 0 rw cl bk dn uq (by omega) (by omega) (by omega) (by omega) h2 h3 h12 hG hNR (by omega) (by omega) hr3 hr4 (by omega)) mi_yX7_unsafeFrom mv_yX7_unsafeFrom ml_X7_230 ⟨rfl, rfl, Nat.le_of_ble_eq_true rfl, Nat.le_of_ble_eq_true rfl⟩ hK hP (hDD _ _) rfl rfl rfl hl.1 rfl (Nat.le_of_ble_eq_true rfl) dX7_bestOf_153 ⟨Nat.zero_le _, Nat.zero_le _⟩ hS hA (fun r27 w28 H locs hw28 hP hS => ?_)
                    obtain ⟨x29, x30, x31, x32, x33, x34, x35, x36, x37, rfl, hw28r⟩ := hw28
                    have hP : PP G (mM G y b (upd (upd f 20 x29) 21 x30) (up2 (up2 (up2 (up2 (up2 (up2 (up2 (up2 r 10 x25) 15 x31) 16 x32) 17 x33) 18 x34) 19 x35) 22 x36) 23 x37)) H := hP
                    have hw28r : firstU rw cl (UNm rw cl t bk (r 3) (r 4) (r 5) (r 6) (r 7) (r 8) (r 9) x25 (r 11) (r 13) (r 14) dn uq) 0 r27 := hw28r
                    refine lv_iconst (v := -1) hx hb dX7_bestOf_156 (by decide) ?_
                    refine lv_icmp_ne (tgt := 163) hx hb dX7_bestOf_157 (by decide) (fun c38 => ?_) (fun c38 => ?_)
                    · have hng : ¬ (GRD rw cl (UGm rw cl t bk (r 3) (r 4) (r 5) (r 6) (r 7) (r 8) (r 9) (r 11) (r 13) (r 14) dn uq) (seM (r 4) (r 5) (r 6) (r 7) (r 8) (r 9) t) (mayM (r 3) (r 4) (r 5) (r 6) (r 7) (r 8) (r 9) (r 11) t rw cl) mn) bb := fun z9 => by obtain ⟨i9, j9, h5, h6, _, _, h7, _⟩ := hw28r.resolve_left (fun y9 => c38 y9.1); exact z9 i9 j9 h5 h6 ((UN_m h5 h6 hKS).mp h7)
                      refine lv_iload hx hb dX7_bestOf_163 (lv_at hl 1 rfl) ?_
                      refine lv_istore_n (lv' := [(3, .int (nI (prc cp mn bb))), (7, .int (nI k)), (6, .int (nI (prc cp mn bb))), (5, .int (nI bb)), (0, .ref y), (1, .int (nI t)), (2, .int (nI mn))]) hx hb dX7_bestOf_165 rfl hl (by decide) rfl (fun ls hl => ?_)
                      refine lv_iload hx hb dX7_bestOf_166 (lv_at hl 3 rfl) ?_
                      refine lv_istore (lv' := [(4, .int (nI bb)), (3, .int (nI (prc cp mn bb))), (7, .int (nI k)), (6, .int (nI (prc cp mn bb))), (5, .int (nI bb)), (0, .ref y), (1, .int (nI t)), (2, .int (nI mn))]) hx hb dX7_bestOf_168 hl (by decide) rfl (fun ls hl => ?_)
                      refine lv_goto (tgt := 5) hx hb dX7_bestOf_170 (by decide) ?_
                      exact ih5k1 (nI bb) (nI (prc cp mn bb)) (nI bb) (nq + 1) x29 x30 x25 x31 x32 x33 x34 x35 x36 x37 (by omega) (Or.inr ⟨bb, hnb.1, rfl, rfl, rfl, by omega, fun s h8 h9 => h9.elim (fun z9 => by rw [z9]; exact hng) (fun z9 => hbo.2 s h8 z9)⟩) (hT) (hou) _ _ _ hP hS (lv_sub hl [0, 1, 5, 6, 7] rfl)
                    · have hgg : (GRD rw cl (UGm rw cl t bk (r 3) (r 4) (r 5) (r 6) (r 7) (r 8) (r 9) (r 11) (r 13) (r 14) dn uq) (seM (r 4) (r 5) (r 6) (r 7) (r 8) (r 9) t) (mayM (r 3) (r 4) (r 5) (r 6) (r 7) (r 8) (r 9) (r 11) t rw cl) mn) bb := fun x y h8 h9 z9 => (hw28r.resolve_right (fun ⟨i9, j9, h5, h6, _, e9, _⟩ => absurd (e9.symm.trans c38) (nI_nm1 (by omega)))).2 x y h8 h9 (Nat.zero_le _) ((UN_m h8 h9 hKS).mpr z9)
                      refine lv_iload hx hb dX7_bestOf_160 (lv_at hl 2 rfl) ?_
                      exact wr_iret hx hb hr hlocks hS hP ⟨x29, x30, x25, x31, x32, x33, x34, x35, x36, x37, rfl, (Or.inr ⟨bb, rfl, ⟨hnb.1, hgg, fun s h8 h9 => (BEF_or (cp := cp) (m := mn) (a := bb) (b := s)).elim (fun z9 => Or.inr z9) (fun z9 => z9.elim (fun y9 => Or.inl y9.symm) (fun y9 => absurd h9 (hbo.2 s h8 y9)))⟩, fun x y h8 h9 => by_f (hY x y) (hT x y h8 h9) (fun z9 => by have := hMr x y z9; omega)⟩), hou⟩ dX7_bestOf_162
                  · have b109 := qge_f (a := k) (b := mn) (by omega) (by omega) c26
                    refine lv_aload_n hx hb dX7_bestOf_112 rfl (lv_at hl 3 rfl) ?_
                    refine va_get (D := G.1) (ci := 7) (v := .ref (b 10)) (C := RX7) (T := TX7) (N := 43) hx hb hts inX7 hown hK.1 hP 0 rfl rfl 10 (by decide) (hts _ mf_X7_38) (fun _ h9 => h9) rfl dX7_bestOf_113 ?_
                    refine lv_aload_n hx hb dX7_bestOf_116 rfl (lv_at hl 3 rfl) ?_
                    refine va_get (D := G.1) (ci := 7) (v := .ref (b 30)) (C := RX7) (T := TX7) (N := 43) hx hb hts inX7 hown hK.1 hP 0 rfl rfl 30 (by decide) (hts _ mf_X7_86) (fun _ h9 => h9) rfl dX7_bestOf_117 ?_
                    refine lv_iload hx hb dX7_bestOf_120 (lv_at hl 0 rfl) ?_
                    refine xiald (f := (r 30)) hx hb hK hP 26 (k) (rfl) (by omega) (by decide) rfl dX7_bestOf_122 ?_
                    refine lv_topi (fun v39 ev39 => ?_)
                    obtain ⟨xx, yy, hy9, hn9, hM9, hr9⟩ := rk_ex (M := (mayM (r 3) (r 4) (r 5) (r 6) (r 7) (r 8) (r 9) (r 11) t rw cl)) (12 * rw) (show k < rkG (mayM (r 3) (r 4) (r 5) (r 6) (r 7) (r 8) (r 9) (r 11) t rw cl) (12 * rw) by omega)
                    have hc9 := hGC xx yy hM9 hn9 (by omega)
                    rw [hr9] at hc9
                    have hx9 := hMx xx yy hM9
                    obtain rfl : v39 = nI (144 * t + 12 * xx + yy) := ev39.trans (hc9)
                    refine lv_iload hx hb dX7_bestOf_123 (lv_at hl 2 rfl) ?_
                    refine lv_iload_n hx hb dX7_bestOf_125 rfl (lv_at hl 5 rfl) ?_
                    refine lv_iconst (v := 1) hx hb dX7_bestOf_126 (by decide) ?_
                    refine lv_isub hx hb dX7_bestOf_127 ?_
                    refine lv_topi (fun v40 ev40 => ?_)
                    obtain rfl : v40 = nI (mn - 1) := nI_minus ev40 rfl rfl (by omega)
                    refine lv_iload hx hb dX7_bestOf_128 (lv_at hl 0 rfl) ?_
                    refine lv_isub hx hb dX7_bestOf_130 ?_
                    refine lv_topi (fun v41 ev41 => ?_)
                    obtain rfl : v41 = nI ((mn - 1) - k) := nI_minus ev41 rfl rfl (by omega)
                    refine lv_ishr hx hb dX7_bestOf_131 ?_
                    refine lv_topi (fun v42 ev42 => ?_)
                    refine lv_iconst (v := 1) hx hb dX7_bestOf_132 (by decide) ?_
                    refine lv_iand hx hb dX7_bestOf_133 ?_
                    refine lv_topi (fun v43 ev43 => ?_)
                    refine lv_iconst (v := 1) hx hb dX7_bestOf_134 (by decide) ?_
                    refine lv_icmp_ne (tgt := 142) hx hb dX7_bestOf_135 (by decide) (fun c44 => ?_) (fun c44 => ?_)
                    · have hbt := sb_n (s := bb) (v := mn - 1 - k) (by omega) ev42 ev43 c44
                      have hvv : (0 : Int32) = (if bt (nI bb) (mn - 1 - k) = true then (1 : Int32) else 0) := by rw [hbt]; rfl
                      refine lv_iconst (v := 0) hx hb dX7_bestOf_142 (by decide) ?_
                      refine xzast (f := x25) (x := 0) hx hb hK hP (hDD _ _) hS 10 ((144 * t + 12 * xx + yy)) (rfl) (by omega) (by decide) (Or.inl rfl) rfl dX7_bestOf_143 (fun H locs hP _ hS => ?_)
                      have hP : PP G (mM G y b (upd (upd f 20 x5) 21 x6) (up2 (up2 (up2 (up2 (up2 (up2 (up2 (up2 r 10 (upd x25 ((144 * t + 12 * xx + yy)) (0))) 15 x8) 16 x9) 17 x10) 18 x11) 19 x12) 22 x13) 23 x14)) H := hP
                      obtain ⟨v45, ev45⟩ : ∃ y9 : Int32, y9 = (nI k) + Int32.ofInt (1) := ⟨_, rfl⟩
                      refine lv_iinc (v := v45) (lv' := [(7, .int v45), (6, .int (nI (prc cp mn bb))), (5, .int (nI bb)), (0, .ref y), (1, .int (nI t)), (2, .int (nI mn))]) hx hb dX7_bestOf_144 hl (k := 0) rfl ev45.symm (by decide) rfl (fun ls hl => ?_)
                      obtain rfl : v45 = nI (k + 1) := nI_plus (i := k) (j := 1) ev45 rfl (by decide)
                      refine lv_goto (tgt := 106) hx hb dX7_bestOf_147 (by decide) ?_
                      exact ih106k24 (k + 1) (upd x25 ((144 * t + 12 * xx + yy)) (0)) (by omega) (by omega) (by_s hMx hM9 hr9 hvv hY) (by_t hMx hM9 hT) (fun p h9 => by rw [pk_un (by omega)]; exact hou p h9) _ _ _ hP hS (lv_sub hl [0, 1, 2, 3, 4, 5] rfl)
                    · have hbt := sb_y (s := bb) (v := mn - 1 - k) (by omega) ev42 ev43 c44
                      have hvv : (1 : Int32) = (if bt (nI bb) (mn - 1 - k) = true then (1 : Int32) else 0) := by rw [hbt]; rfl
                      refine lv_iconst (v := 1) hx hb dX7_bestOf_138 (by decide) ?_
                      refine lv_goto (tgt := 143) hx hb dX7_bestOf_139 (by decide) ?_
                      refine xzast (f := x25) (x := 1) hx hb hK hP (hDD _ _) hS 10 ((144 * t + 12 * xx + yy)) (rfl) (by omega) (by decide) (Or.inr rfl) rfl dX7_bestOf_143 (fun H locs hP _ hS => ?_)
                      have hP : PP G (mM G y b (upd (upd f 20 x5) 21 x6) (up2 (up2 (up2 (up2 (up2 (up2 (up2 (up2 r 10 (upd x25 ((144 * t + 12 * xx + yy)) (1))) 15 x8) 16 x9) 17 x10) 18 x11) 19 x12) 22 x13) 23 x14)) H := hP
                      obtain ⟨v46, ev46⟩ : ∃ y9 : Int32, y9 = (nI k) + Int32.ofInt (1) := ⟨_, rfl⟩
                      refine lv_iinc (v := v46) (lv' := [(7, .int v46), (6, .int (nI (prc cp mn bb))), (5, .int (nI bb)), (0, .ref y), (1, .int (nI t)), (2, .int (nI mn))]) hx hb dX7_bestOf_144 hl (k := 0) rfl ev46.symm (by decide) rfl (fun ls hl => ?_)
                      obtain rfl : v46 = nI (k + 1) := nI_plus (i := k) (j := 1) ev46 rfl (by decide)
                      refine lv_goto (tgt := 106) hx hb dX7_bestOf_147 (by decide) ?_
                      exact ih106k24 (k + 1) (upd x25 ((144 * t + 12 * xx + yy)) (1)) (by omega) (by omega) (by_s hMx hM9 hr9 hvv hY) (by_t hMx hM9 hT) (fun p h9 => by rw [pk_un (by omega)]; exact hou p h9) _ _ _ hP hS (lv_sub hl [0, 1, 2, 3, 4, 5] rfl)
              exact loop106 (mn + 1) 0 x7 (by omega) (by omega) (fun x y _ h9 => absurd h9 (by omega)) (hT) (hou) _ _ _ hP hS (lv_sub hl [0, 1, 2, 5, 6, 7] rfl)
            · have hnon := bo_e hmn hBO (fun s h9 => (hn.resolve_right (fun z9 => z9.1 c23)).2 s h9 (Nat.zero_le _))
              refine lv_goto (tgt := 173) hx hb dX7_bestOf_100 (by decide) ?_
              refine lv_iconst (v := -1) hx hb dX7_bestOf_173 (by decide) ?_
              exact wr_iret hx hb hr hlocks hS hP ⟨x5, x6, x7, x8, x9, x10, x11, x12, x13, x14, rfl, (Or.inl ⟨rfl, hnon⟩), hou⟩ dX7_bestOf_174
          · obtain ⟨pz, hnp, ez⟩ := m1_p h4 c22
            subst hnp
            subst ez
            have hbp := hpb pz
            have haf := bo_a hmn hpb (show pz < 2 ^ mn by omega) hBO
            refine lv_aload_n hx hb dX7_bestOf_23 rfl (lv_at hl 5 rfl) ?_
            refine lv_iload_n hx hb dX7_bestOf_24 rfl (lv_at hl 6 rfl) ?_
            refine lv_iload_n hx hb dX7_bestOf_25 rfl (lv_at hl 7 rfl) ?_
            refine lv_iload hx hb dX7_bestOf_26 (lv_at hl 0 rfl) ?_
            refine rdV (rest := []) (q0 := 0) ⟨hx, hb, hml, hown, hts⟩ (n_costOfSet l G y b (upd (upd f 20 x5) 21 x6) (up2 (up2 (up2 (up2 (up2 (up2 (up2 (up2 r 10 x7) 15 x8) 16 x9) 17 x10) 18 x11) 19 x12) 22 x13) 23 x14) t mn pz cp (by omega) (by omega) hch) mi_yX7_costOfSet mv_yX7_costOfSet ml_X7_251 ⟨rfl, rfl, Nat.le_of_ble_eq_true rfl, Nat.le_of_ble_eq_true rfl⟩ hK (hP) rfl rfl rfl hl.1 rfl (Nat.le_of_ble_eq_true rfl) dX7_bestOf_28 ⟨Nat.zero_le _, Nat.zero_le _⟩ hS hA hP (fun r47 H locs hr47 hP hS => ?_)
            obtain rfl := hr47
            refine lv_istore (lv' := [(8, .int (nI (prc cp mn pz))), (7, .int (nI pz)), (6, .int z20), (5, .int z21), (4, .int z3), (3, .int z4), (0, .ref y), (1, .int (nI t)), (2, .int (nI mn))]) hx hb dX7_bestOf_31 hl (by decide) rfl (fun ls hl => ?_)
            refine lv_iload hx hb dX7_bestOf_33 (lv_at hl 0 rfl) ?_
            refine lv_iload_n hx hb dX7_bestOf_35 rfl (lv_at hl 5 rfl) ?_
            refine lv_icmp_gt (tgt := 52) hx hb dX7_bestOf_36 (by decide) (fun c48 => ?_) (fun c48 => ?_)
            · have haft : AFT cp mn lz pz := haf.mpr (Or.inl c48)
              refine lv_iconst (v := 1) hx hb dX7_bestOf_52 (by decide) ?_
              refine lv_goto (tgt := 57) hx hb dX7_bestOf_53 (by decide) ?_
              refine lv_istore (lv' := [(9, .int 1), (8, .int (nI (prc cp mn pz))), (7, .int (nI pz)), (6, .int z20), (5, .int z21), (4, .int z3), (3, .int z4), (0, .ref y), (1, .int (nI t)), (2, .int (nI mn))]) hx hb dX7_bestOf_57 hl (by decide) rfl (fun ls hl => ?_)
              refine lv_iload hx hb dX7_bestOf_59 (lv_at hl 0 rfl) ?_
              refine lv_if_eq (tgt := 88) hx hb dX7_bestOf_61 (by decide) (fun c49 => absurd c49 (by decide)) (fun c49 => ?_)
              refine lv_iload hx hb dX7_bestOf_64 (lv_at hl 4 rfl) ?_
              refine lv_iconst (v := -1) hx hb dX7_bestOf_66 (by decide) ?_
              refine lv_icmp_eq (tgt := 80) hx hb dX7_bestOf_67 (by decide) (fun c50 => ?_) (fun c50 => ?_)
              · refine lv_iload hx hb dX7_bestOf_80 (lv_at hl 2 rfl) ?_
                refine lv_istore (lv' := [(5, .int (nI pz)), (9, .int 1), (8, .int (nI (prc cp mn pz))), (7, .int (nI pz)), (6, .int z20), (4, .int z3), (3, .int z4), (0, .ref y), (1, .int (nI t)), (2, .int (nI mn))]) hx hb dX7_bestOf_82 hl (by decide) rfl (fun ls hl => ?_)
                refine lv_iload hx hb dX7_bestOf_84 (lv_at hl 2 rfl) ?_
                refine lv_istore (lv' := [(6, .int (nI (prc cp mn pz))), (5, .int (nI pz)), (9, .int 1), (8, .int (nI (prc cp mn pz))), (7, .int (nI pz)), (4, .int z3), (3, .int z4), (0, .ref y), (1, .int (nI t)), (2, .int (nI mn))]) hx hb dX7_bestOf_86 hl (by decide) rfl (fun ls hl => ?_)
                obtain ⟨v51, ev51⟩ : ∃ y9 : Int32, y9 = (nI pz) + Int32.ofInt (-1) := ⟨_, rfl⟩
                refine lv_iinc (v := v51) (lv' := [(7, .int v51), (6, .int (nI (prc cp mn pz))), (5, .int (nI pz)), (9, .int 1), (8, .int (nI (prc cp mn pz))), (4, .int z3), (3, .int z4), (0, .ref y), (1, .int (nI t)), (2, .int (nI mn))]) hx hb dX7_bestOf_88 hl (k := 4) rfl ev51.symm (by decide) rfl (fun ls hl => ?_)
                refine lv_goto (tgt := 18) hx hb dX7_bestOf_91 (by decide) ?_
                exact ih18k17 v51 (nI (prc cp mn pz)) (nI pz) pz pz (by omega) (by omega) (m1_d ev51) (Or.inr ⟨rfl, rfl⟩) (NXT_t hn (by omega) haft (fun h9 => absurd c50 h9) (nI_nm1 (by omega))) _ _ _ hP hS (lv_sub hl [0, 1, 2, 5, 6, 7, 8, 9] rfl)
              · obtain ⟨e5, e6⟩ := h3_.resolve_left c50
                have hbb : bb < 2 ^ mn := (hn.resolve_left (fun z9 => z9.1 c50)).2.1
                subst e5
                subst e6
                have hb1 := hpb bb
                refine lv_iload hx hb dX7_bestOf_70 (lv_at hl 1 rfl) ?_
                refine lv_iload hx hb dX7_bestOf_72 (lv_at hl 3 rfl) ?_
                refine lv_icmp_lt (tgt := 80) hx hb dX7_bestOf_74 (by decide) (fun c52 => ?_) (fun c52 => ?_)
                · refine lv_iload hx hb dX7_bestOf_80 (lv_at hl 2 rfl) ?_
                  refine lv_istore (lv' := [(5, .int (nI pz)), (9, .int 1), (8, .int (nI (prc cp mn pz))), (7, .int (nI pz)), (6, .int (nI (prc cp mn bb))), (4, .int z3), (3, .int z4), (0, .ref y), (1, .int (nI t)), (2, .int (nI mn))]) hx hb dX7_bestOf_82 hl (by decide) rfl (fun ls hl => ?_)
                  refine lv_iload hx hb dX7_bestOf_84 (lv_at hl 2 rfl) ?_
                  refine lv_istore (lv' := [(6, .int (nI (prc cp mn pz))), (5, .int (nI pz)), (9, .int 1), (8, .int (nI (prc cp mn pz))), (7, .int (nI pz)), (4, .int z3), (3, .int z4), (0, .ref y), (1, .int (nI t)), (2, .int (nI mn))]) hx hb dX7_bestOf_86 hl (by decide) rfl (fun ls hl => ?_)
                  obtain ⟨v53, ev53⟩ : ∃ y9 : Int32, y9 = (nI pz) + Int32.ofInt (-1) := ⟨_, rfl⟩
                  refine lv_iinc (v := v53) (lv' := [(7, .int v53), (6, .int (nI (prc cp mn pz))), (5, .int (nI pz)), (9, .int 1), (8, .int (nI (prc cp mn pz))), (4, .int z3), (3, .int z4), (0, .ref y), (1, .int (nI t)), (2, .int (nI mn))]) hx hb dX7_bestOf_88 hl (k := 4) rfl ev53.symm (by decide) rfl (fun ls hl => ?_)
                  refine lv_goto (tgt := 18) hx hb dX7_bestOf_91 (by decide) ?_
                  exact ih18k17 v53 (nI (prc cp mn pz)) (nI pz) pz pz (by omega) (by omega) (m1_d ev53) (Or.inr ⟨rfl, rfl⟩) (NXT_t hn (by omega) haft (fun _ => (nI_ltI (by omega) (by omega)).mp c52) (nI_nm1 (by omega))) _ _ _ hP hS (lv_sub hl [0, 1, 2, 5, 6, 7, 8, 9] rfl)
                · refine lv_goto (tgt := 88) hx hb dX7_bestOf_77 (by decide) ?_
                  obtain ⟨v54, ev54⟩ : ∃ y9 : Int32, y9 = (nI pz) + Int32.ofInt (-1) := ⟨_, rfl⟩
                  refine lv_iinc (v := v54) (lv' := [(7, .int v54), (9, .int 1), (8, .int (nI (prc cp mn pz))), (6, .int (nI (prc cp mn bb))), (5, .int (nI bb)), (4, .int z3), (3, .int z4), (0, .ref y), (1, .int (nI t)), (2, .int (nI mn))]) hx hb dX7_bestOf_88 hl (k := 2) rfl ev54.symm (by decide) rfl (fun ls hl => ?_)
                  refine lv_goto (tgt := 18) hx hb dX7_bestOf_91 (by decide) ?_
                  exact ih18k17 v54 (nI (prc cp mn bb)) (nI bb) pz bb (by omega) (by omega) (m1_d ev54) (Or.inr ⟨rfl, rfl⟩) (NXT_k hn (nI_nm1 (by omega)) (Nat.not_lt.mp (fun h9 => c52 ((nI_ltI (by omega) (by omega)).mpr h9)))) _ _ _ hP hS (lv_sub hl [0, 3, 4, 5, 6, 7, 8, 9] rfl)
            · refine lv_iload hx hb dX7_bestOf_39 (lv_at hl 0 rfl) ?_
              refine lv_iload_n hx hb dX7_bestOf_41 rfl (lv_at hl 5 rfl) ?_
              refine lv_icmp_ne (tgt := 56) hx hb dX7_bestOf_42 (by decide) (fun c55 => ?_) (fun c55 => ?_)
              · have hnaf : ¬ AFT cp mn lz pz := fun z9 => (haf.mp z9).elim c48 (fun y9 => c55 y9.1)
                refine lv_iconst (v := 0) hx hb dX7_bestOf_56 (by decide) ?_
                refine lv_istore (lv' := [(9, .int 0), (8, .int (nI (prc cp mn pz))), (7, .int (nI pz)), (6, .int z20), (5, .int z21), (4, .int z3), (3, .int z4), (0, .ref y), (1, .int (nI t)), (2, .int (nI mn))]) hx hb dX7_bestOf_57 hl (by decide) rfl (fun ls hl => ?_)
                refine lv_iload hx hb dX7_bestOf_59 (lv_at hl 0 rfl) ?_
                refine lv_if_eq (tgt := 88) hx hb dX7_bestOf_61 (by decide) (fun c56 => ?_) (fun c56 => absurd (by decide) c56)
                obtain ⟨v57, ev57⟩ : ∃ y9 : Int32, y9 = (nI pz) + Int32.ofInt (-1) := ⟨_, rfl⟩
                refine lv_iinc (v := v57) (lv' := [(7, .int v57), (9, .int 0), (8, .int (nI (prc cp mn pz))), (6, .int z20), (5, .int z21), (4, .int z3), (3, .int z4), (0, .ref y), (1, .int (nI t)), (2, .int (nI mn))]) hx hb dX7_bestOf_88 hl (k := 2) rfl ev57.symm (by decide) rfl (fun ls hl => ?_)
                refine lv_goto (tgt := 18) hx hb dX7_bestOf_91 (by decide) ?_
                exact ih18k17 v57 z20 z21 pz bb (by omega) (by omega) (m1_d ev57) (h3_) (NXT_n hn hnaf) _ _ _ hP hS (lv_sub hl [0, 3, 4, 5, 6, 7, 8, 9] rfl)
              · refine lv_iload hx hb dX7_bestOf_45 (lv_at hl 1 rfl) ?_
                refine lv_iload hx hb dX7_bestOf_47 (lv_at hl 4 rfl) ?_
                refine lv_icmp_ge (tgt := 56) hx hb dX7_bestOf_49 (by decide) (fun c58 => ?_) (fun c58 => ?_)
                · have hnaf : ¬ AFT cp mn lz pz := fun z9 => (haf.mp z9).elim c48 (fun y9 => absurd y9.2 (Int32.not_lt.mpr c58))
                  refine lv_iconst (v := 0) hx hb dX7_bestOf_56 (by decide) ?_
                  refine lv_istore (lv' := [(9, .int 0), (8, .int (nI (prc cp mn pz))), (7, .int (nI pz)), (6, .int z20), (5, .int z21), (4, .int z3), (3, .int z4), (0, .ref y), (1, .int (nI t)), (2, .int (nI mn))]) hx hb dX7_bestOf_57 hl (by decide) rfl (fun ls hl => ?_)
                  refine lv_iload hx hb dX7_bestOf_59 (lv_at hl 0 rfl) ?_
                  refine lv_if_eq (tgt := 88) hx hb dX7_bestOf_61 (by decide) (fun c59 => ?_) (fun c59 => absurd (by decide) c59)
                  obtain ⟨v60, ev60⟩ : ∃ y9 : Int32, y9 = (nI pz) + Int32.ofInt (-1) := ⟨_, rfl⟩
                  refine lv_iinc (v := v60) (lv' := [(7, .int v60), (9, .int 0), (8, .int (nI (prc cp mn pz))), (6, .int z20), (5, .int z21), (4, .int z3), (3, .int z4), (0, .ref y), (1, .int (nI t)), (2, .int (nI mn))]) hx hb dX7_bestOf_88 hl (k := 2) rfl ev60.symm (by decide) rfl (fun ls hl => ?_)
                  refine lv_goto (tgt := 18) hx hb dX7_bestOf_91 (by decide) ?_
                  exact ih18k17 v60 z20 z21 pz bb (by omega) (by omega) (m1_d ev60) (h3_) (NXT_n hn hnaf) _ _ _ hP hS (lv_sub hl [0, 3, 4, 5, 6, 7, 8, 9] rfl)
                · have haft : AFT cp mn lz pz := haf.mpr (Or.inr ⟨c55, Int32.not_le.mp c58⟩)
                  refine lv_iconst (v := 1) hx hb dX7_bestOf_52 (by decide) ?_
                  refine lv_goto (tgt := 57) hx hb dX7_bestOf_53 (by decide) ?_
                  refine lv_istore (lv' := [(9, .int 1), (8, .int (nI (prc cp mn pz))), (7, .int (nI pz)), (6, .int z20), (5, .int z21), (4, .int z3), (3, .int z4), (0, .ref y), (1, .int (nI t)), (2, .int (nI mn))]) hx hb dX7_bestOf_57 hl (by decide) rfl (fun ls hl => ?_)
                  refine lv_iload hx hb dX7_bestOf_59 (lv_at hl 0 rfl) ?_
                  refine lv_if_eq (tgt := 88) hx hb dX7_bestOf_61 (by decide) (fun c61 => absurd c61 (by decide)) (fun c61 => ?_)
                  refine lv_iload hx hb dX7_bestOf_64 (lv_at hl 4 rfl) ?_
                  refine lv_iconst (v := -1) hx hb dX7_bestOf_66 (by decide) ?_
                  refine lv_icmp_eq (tgt := 80) hx hb dX7_bestOf_67 (by decide) (fun c62 => ?_) (fun c62 => ?_)
                  · refine lv_iload hx hb dX7_bestOf_80 (lv_at hl 2 rfl) ?_
                    refine lv_istore (lv' := [(5, .int (nI pz)), (9, .int 1), (8, .int (nI (prc cp mn pz))), (7, .int (nI pz)), (6, .int z20), (4, .int z3), (3, .int z4), (0, .ref y), (1, .int (nI t)), (2, .int (nI mn))]) hx hb dX7_bestOf_82 hl (by decide) rfl (fun ls hl => ?_)
                    refine lv_iload hx hb dX7_bestOf_84 (lv_at hl 2 rfl) ?_
                    refine lv_istore (lv' := [(6, .int (nI (prc cp mn pz))), (5, .int (nI pz)), (9, .int 1), (8, .int (nI (prc cp mn pz))), (7, .int (nI pz)), (4, .int z3), (3, .int z4), (0, .ref y), (1, .int (nI t)), (2, .int (nI mn))]) hx hb dX7_bestOf_86 hl (by decide) rfl (fun ls hl => ?_)
                    obtain ⟨v63, ev63⟩ : ∃ y9 : Int32, y9 = (nI pz) + Int32.ofInt (-1) := ⟨_, rfl⟩
                    refine lv_iinc (v := v63) (lv' := [(7, .int v63), (6, .int (nI (prc cp mn pz))), (5, .int (nI pz)), (9, .int 1), (8, .int (nI (prc cp mn pz))), (4, .int z3), (3, .int z4), (0, .ref y), (1, .int (nI t)), (2, .int (nI mn))]) hx hb dX7_bestOf_88 hl (k := 4) rfl ev63.symm (by decide) rfl (fun ls hl => ?_)
                    refine lv_goto (tgt := 18) hx hb dX7_bestOf_91 (by decide) ?_
                    exact ih18k17 v63 (nI (prc cp mn pz)) (nI pz) pz pz (by omega) (by omega) (m1_d ev63) (Or.inr ⟨rfl, rfl⟩) (NXT_t hn (by omega) haft (fun h9 => absurd c62 h9) (nI_nm1 (by omega))) _ _ _ hP hS (lv_sub hl [0, 1, 2, 5, 6, 7, 8, 9] rfl)
                  · obtain ⟨e5, e6⟩ := h3_.resolve_left c62
                    have hbb : bb < 2 ^ mn := (hn.resolve_left (fun z9 => z9.1 c62)).2.1
                    subst e5
                    subst e6
                    have hb1 := hpb bb
                    refine lv_iload hx hb dX7_bestOf_70 (lv_at hl 1 rfl) ?_
                    refine lv_iload hx hb dX7_bestOf_72 (lv_at hl 3 rfl) ?_
                    refine lv_icmp_lt (tgt := 80) hx hb dX7_bestOf_74 (by decide) (fun c64 => ?_) (fun c64 => ?_)
                    · refine lv_iload hx hb dX7_bestOf_80 (lv_at hl 2 rfl) ?_
                      refine lv_istore (lv' := [(5, .int (nI pz)), (9, .int 1), (8, .int (nI (prc cp mn pz))), (7, .int (nI pz)), (6, .int (nI (prc cp mn bb))), (4, .int z3), (3, .int z4), (0, .ref y), (1, .int (nI t)), (2, .int (nI mn))]) hx hb dX7_bestOf_82 hl (by decide) rfl (fun ls hl => ?_)
                      refine lv_iload hx hb dX7_bestOf_84 (lv_at hl 2 rfl) ?_
                      refine lv_istore (lv' := [(6, .int (nI (prc cp mn pz))), (5, .int (nI pz)), (9, .int 1), (8, .int (nI (prc cp mn pz))), (7, .int (nI pz)), (4, .int z3), (3, .int z4), (0, .ref y), (1, .int (nI t)), (2, .int (nI mn))]) hx hb dX7_bestOf_86 hl (by decide) rfl (fun ls hl => ?_)
                      obtain ⟨v65, ev65⟩ : ∃ y9 : Int32, y9 = (nI pz) + Int32.ofInt (-1) := ⟨_, rfl⟩
                      refine lv_iinc (v := v65) (lv' := [(7, .int v65), (6, .int (nI (prc cp mn pz))), (5, .int (nI pz)), (9, .int 1), (8, .int (nI (prc cp mn pz))), (4, .int z3), (3, .int z4), (0, .ref y), (1, .int (nI t)), (2, .int (nI mn))]) hx hb dX7_bestOf_88 hl (k := 4) rfl ev65.symm (by decide) rfl (fun ls hl => ?_)
                      refine lv_goto (tgt := 18) hx hb dX7_bestOf_91 (by decide) ?_
                      exact ih18k17 v65 (nI (prc cp mn pz)) (nI pz) pz pz (by omega) (by omega) (m1_d ev65) (Or.inr ⟨rfl, rfl⟩) (NXT_t hn (by omega) haft (fun _ => (nI_ltI (by omega) (by omega)).mp c64) (nI_nm1 (by omega))) _ _ _ hP hS (lv_sub hl [0, 1, 2, 5, 6, 7, 8, 9] rfl)
                    · refine lv_goto (tgt := 88) hx hb dX7_bestOf_77 (by decide) ?_
                      obtain ⟨v66, ev66⟩ : ∃ y9 : Int32, y9 = (nI pz) + Int32.ofInt (-1) := ⟨_, rfl⟩
                      refine lv_iinc (v := v66) (lv' := [(7, .int v66), (9, .int 1), (8, .int (nI (prc cp mn pz))), (6, .int (nI (prc cp mn bb))), (5, .int (nI bb)), (4, .int z3), (3, .int z4), (0, .ref y), (1, .int (nI t)), (2, .int (nI mn))]) hx hb dX7_bestOf_88 hl (k := 2) rfl ev66.symm (by decide) rfl (fun ls hl => ?_)
                      refine lv_goto (tgt := 18) hx hb dX7_bestOf_91 (by decide) ?_
                      exact ih18k17 v66 (nI (prc cp mn bb)) (nI bb) pz bb (by omega) (by omega) (m1_d ev66) (Or.inr ⟨rfl, rfl⟩) (NXT_k hn (nI_nm1 (by omega)) (Nat.not_lt.mp (fun h9 => c64 ((nI_ltI (by omega) (by omega)).mpr h9)))) _ _ _ hP hS (lv_sub hl [0, 3, 4, 5, 6, 7, 8, 9] rfl)
      exact loop18 (2 ^ mn + 1) v16 0 (-1) (2 ^ mn) 0 (by omega) (by omega) (ev16) (Or.inl rfl) (Or.inl ⟨fun h9 => h9 rfl, fun s h8 h9 => absurd h8 (by omega)⟩) _ _ _ hP hS (lv_sub hl [0, 1, 2, 3, 4, 5, 6, 7] rfl)
  exact loop5 (2 ^ mn + 1) 0 (-1) (-1) 0 (f 20) (f 21) (r 10) (r 15) (r 16) (r 17) (r 18) (r 19) (r 22) (r 23) (by omega) (Or.inl ⟨rfl, rfl, rfl⟩) (fun x y h8 h9 _ => hT9 x y h8 h9) (fun _ _ => rfl) _ _ _ hP hS (lv_sub hl [0, 1, 2, 3, 4] rfl)
