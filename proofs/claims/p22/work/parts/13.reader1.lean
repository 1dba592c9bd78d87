theorem mkl_X6_256 : Cond.constantLong RX6 256 (1000) ∈ TB := TB_t3 25 rfl rfl
theorem mk_X2_106 : Cond.constant RX2 106 (1073741824) ∈ TB := TB_t3 52 rfl rfl
theorem mcode_yX6_thousandthsOf : Cond.code yX6_thousandthsOf cX6_thousandthsOf 2 (some .int) ∈ TB := TB_t3 24 rfl rfl
theorem mi_yX6_thousandthsOf : MI yX6_thousandthsOf cX6_thousandthsOf 2 (some .int) 2 := ⟨mz_RX6, mcode_yX6_thousandthsOf, by decide +kernel, by decide +kernel, by decide +kernel⟩
theorem mst_yX6_thousandthsOf : Cond.static yX6_thousandthsOf ∈ TB := TB_t3 23 rfl rfl
theorem mkl_X2_110 : Cond.constantLong RX2 110 (999) ∈ TB := TB_t3 54 rfl rfl
theorem mkl_X2_112 : Cond.constantLong RX2 112 (1000) ∈ TB := TB_t3 55 rfl rfl
theorem ml_X2_120 : Cond.methodLink RX2 120 yX5_join ∈ TB := TB_t3 77 rfl rfl
theorem mcode_yX5_join : Cond.code yX5_join cX5_join 7 none ∈ TB := TB_t3 80 rfl rfl
theorem mi_yX5_join : MI yX5_join cX5_join 7 none 4 := ⟨mz_RX5, mcode_yX5_join, by decide +kernel, by decide +kernel, by decide +kernel⟩
theorem mim_yX5_join : Cond.instanceMethod yX5_join ∈ TB := TB_t3 78 rfl rfl
theorem msel_yX5_join : Cond.selects yX5_join.cls yX5_join yX5_join ∈ TB := TB_t3 79 rfl rfl
theorem mv_yX5_join : Cond.instanceMethod yX5_join ∈ TB ∧ Cond.selects yX5_join.cls yX5_join yX5_join ∈ TB := ⟨mim_yX5_join, msel_yX5_join⟩
theorem kcX6_thousandthsOf_0 : CHb cX6_thousandthsOf 0 [27, 157, 0, 7, 3, 167, 0, 13, 20, 1, 0, 26, 133, 105, 27, 133, 109, 136, 172] := CHb_of (by decide +kernel)
theorem dX6_thousandthsOf_0 : decode cX6_thousandthsOf 0 = .ok (.iload_n 1, 1) := dw_27 (kcX6_thousandthsOf_0 0 27 rfl)
theorem dX6_thousandthsOf_1 : decode cX6_thousandthsOf 1 = .ok (.ifCond .gt 7, 3) := dw_157 (kcX6_thousandthsOf_0 1 157 rfl) (kcX6_thousandthsOf_0 2 0 rfl) (kcX6_thousandthsOf_0 3 7 rfl) rfl
theorem dX6_thousandthsOf_8 : decode cX6_thousandthsOf 8 = .ok (.ldc2_w 256, 3) := dw_20 (kcX6_thousandthsOf_0 8 20 rfl) (kcX6_thousandthsOf_0 9 1 rfl) (kcX6_thousandthsOf_0 10 0 rfl) rfl
theorem dX6_thousandthsOf_11 : decode cX6_thousandthsOf 11 = .ok (.iload_n 0, 1) := dw_26 (kcX6_thousandthsOf_0 11 26 rfl)
theorem dX6_thousandthsOf_12 : decode cX6_thousandthsOf 12 = .ok (.i2l, 1) := dw_133 (kcX6_thousandthsOf_0 12 133 rfl)
theorem dX6_thousandthsOf_13 : decode cX6_thousandthsOf 13 = .ok (.lmul, 1) := dw_105 (kcX6_thousandthsOf_0 13 105 rfl)
theorem dX6_thousandthsOf_14 : decode cX6_thousandthsOf 14 = .ok (.iload_n 1, 1) := dw_27 (kcX6_thousandthsOf_0 14 27 rfl)
theorem dX6_thousandthsOf_15 : decode cX6_thousandthsOf 15 = .ok (.i2l, 1) := dw_133 (kcX6_thousandthsOf_0 15 133 rfl)
theorem dX6_thousandthsOf_16 : decode cX6_thousandthsOf 16 = .ok (.ldiv, 1) := dw_109 (kcX6_thousandthsOf_0 16 109 rfl)
theorem dX6_thousandthsOf_17 : decode cX6_thousandthsOf 17 = .ok (.l2i, 1) := dw_136 (kcX6_thousandthsOf_0 17 136 rfl)
theorem dX6_thousandthsOf_18 : decode cX6_thousandthsOf 18 = .ok (.ireturn, 1) := dw_172 (kcX6_thousandthsOf_0 18 172 rfl)
theorem dX6_thousandthsOf_4 : decode cX6_thousandthsOf 4 = .ok (.iconst 0, 1) := dw_3 (kcX6_thousandthsOf_0 4 3 rfl)
theorem dX6_thousandthsOf_5 : decode cX6_thousandthsOf 5 = .ok (.goto 13, 3) := dw_167 (kcX6_thousandthsOf_0 5 167 rfl) (kcX6_thousandthsOf_0 6 0 rfl) (kcX6_thousandthsOf_0 7 13 rfl) rfl
theorem kcX2_bound_0 : CHb cX2_bound 0 [42, 180, 0, 57, 27, 3, 79, 42, 180, 0, 60, 27, 18, 106, 79, 42, 180, 0, 42, 27, 46, 6, 160, 0, 57, 28, 158, 0, 53, 42, 180, 0, 45, 27, 46, 28, 184, 0, 107, 133, 66, 42, 180, 0, 57, 27, 33, 28, 133, 105, 20, 0, 110, 97, 20, 0, 112, 109, 136, 79, 42, 180, 0, 60] := CHb_of (by decide +kernel)
theorem dX2_bound_0 : decode cX2_bound 0 = .ok (.aload_n 0, 1) := dw_42 (kcX2_bound_0 0 42 rfl)
theorem dX2_bound_1 : decode cX2_bound 1 = .ok (.getfield 57, 3) := dw_180 (kcX2_bound_0 1 180 rfl) (kcX2_bound_0 2 0 rfl) (kcX2_bound_0 3 57 rfl) rfl
theorem dX2_bound_4 : decode cX2_bound 4 = .ok (.iload_n 1, 1) := dw_27 (kcX2_bound_0 4 27 rfl)
theorem dX2_bound_5 : decode cX2_bound 5 = .ok (.iconst 0, 1) := dw_3 (kcX2_bound_0 5 3 rfl)
theorem dX2_bound_6 : decode cX2_bound 6 = .ok (.iastore, 1) := dw_79 (kcX2_bound_0 6 79 rfl)
theorem dX2_bound_7 : decode cX2_bound 7 = .ok (.aload_n 0, 1) := dw_42 (kcX2_bound_0 7 42 rfl)
theorem dX2_bound_8 : decode cX2_bound 8 = .ok (.getfield 60, 3) := dw_180 (kcX2_bound_0 8 180 rfl) (kcX2_bound_0 9 0 rfl) (kcX2_bound_0 10 60 rfl) rfl
theorem dX2_bound_11 : decode cX2_bound 11 = .ok (.iload_n 1, 1) := dw_27 (kcX2_bound_0 11 27 rfl)
theorem dX2_bound_12 : decode cX2_bound 12 = .ok (.ldc 106, 2) := dw_18 (kcX2_bound_0 12 18 rfl) (kcX2_bound_0 13 106 rfl)
theorem dX2_bound_14 : decode cX2_bound 14 = .ok (.iastore, 1) := dw_79 (kcX2_bound_0 14 79 rfl)
theorem dX2_bound_15 : decode cX2_bound 15 = .ok (.aload_n 0, 1) := dw_42 (kcX2_bound_0 15 42 rfl)
theorem dX2_bound_16 : decode cX2_bound 16 = .ok (.getfield 42, 3) := dw_180 (kcX2_bound_0 16 180 rfl) (kcX2_bound_0 17 0 rfl) (kcX2_bound_0 18 42 rfl) rfl
theorem dX2_bound_19 : decode cX2_bound 19 = .ok (.iload_n 1, 1) := dw_27 (kcX2_bound_0 19 27 rfl)
theorem dX2_bound_20 : decode cX2_bound 20 = .ok (.iaload, 1) := dw_46 (kcX2_bound_0 20 46 rfl)
theorem dX2_bound_21 : decode cX2_bound 21 = .ok (.iconst 3, 1) := dw_6 (kcX2_bound_0 21 6 rfl)
theorem dX2_bound_22 : decode cX2_bound 22 = .ok (.if_icmp .ne 57, 3) := dw_160 (kcX2_bound_0 22 160 rfl) (kcX2_bound_0 23 0 rfl) (kcX2_bound_0 24 57 rfl) rfl
theorem kcX2_bound_1 : CHb cX2_bound 64 [27, 33, 10, 97, 28, 133, 105, 10, 101, 20, 0, 112, 109, 136, 79, 177] := CHb_of (by decide +kernel)
theorem dX2_bound_79 : decode cX2_bound 79 = .ok (.return_, 1) := dw_177 (kcX2_bound_1 15 177 rfl)
theorem dX2_bound_25 : decode cX2_bound 25 = .ok (.iload_n 2, 1) := dw_28 (kcX2_bound_0 25 28 rfl)
theorem dX2_bound_26 : decode cX2_bound 26 = .ok (.ifCond .le 53, 3) := dw_158 (kcX2_bound_0 26 158 rfl) (kcX2_bound_0 27 0 rfl) (kcX2_bound_0 28 53 rfl) rfl
theorem dX2_bound_29 : decode cX2_bound 29 = .ok (.aload_n 0, 1) := dw_42 (kcX2_bound_0 29 42 rfl)
theorem dX2_bound_30 : decode cX2_bound 30 = .ok (.getfield 45, 3) := dw_180 (kcX2_bound_0 30 180 rfl) (kcX2_bound_0 31 0 rfl) (kcX2_bound_0 32 45 rfl) rfl
theorem dX2_bound_33 : decode cX2_bound 33 = .ok (.iload_n 1, 1) := dw_27 (kcX2_bound_0 33 27 rfl)
theorem dX2_bound_34 : decode cX2_bound 34 = .ok (.iaload, 1) := dw_46 (kcX2_bound_0 34 46 rfl)
theorem dX2_bound_35 : decode cX2_bound 35 = .ok (.iload_n 2, 1) := dw_28 (kcX2_bound_0 35 28 rfl)
theorem dX2_bound_36 : decode cX2_bound 36 = .ok (.invokestatic 107, 3) := dw_184 (kcX2_bound_0 36 184 rfl) (kcX2_bound_0 37 0 rfl) (kcX2_bound_0 38 107 rfl) rfl
theorem dX2_bound_39 : decode cX2_bound 39 = .ok (.i2l, 1) := dw_133 (kcX2_bound_0 39 133 rfl)
theorem dX2_bound_40 : decode cX2_bound 40 = .ok (.lstore_n 3, 1) := dw_66 (kcX2_bound_0 40 66 rfl)
theorem dX2_bound_41 : decode cX2_bound 41 = .ok (.aload_n 0, 1) := dw_42 (kcX2_bound_0 41 42 rfl)
theorem dX2_bound_42 : decode cX2_bound 42 = .ok (.getfield 57, 3) := dw_180 (kcX2_bound_0 42 180 rfl) (kcX2_bound_0 43 0 rfl) (kcX2_bound_0 44 57 rfl) rfl
theorem dX2_bound_45 : decode cX2_bound 45 = .ok (.iload_n 1, 1) := dw_27 (kcX2_bound_0 45 27 rfl)
theorem dX2_bound_46 : decode cX2_bound 46 = .ok (.lload_n 3, 1) := dw_33 (kcX2_bound_0 46 33 rfl)
theorem dX2_bound_47 : decode cX2_bound 47 = .ok (.iload_n 2, 1) := dw_28 (kcX2_bound_0 47 28 rfl)
theorem dX2_bound_48 : decode cX2_bound 48 = .ok (.i2l, 1) := dw_133 (kcX2_bound_0 48 133 rfl)
theorem dX2_bound_49 : decode cX2_bound 49 = .ok (.lmul, 1) := dw_105 (kcX2_bound_0 49 105 rfl)
theorem dX2_bound_50 : decode cX2_bound 50 = .ok (.ldc2_w 110, 3) := dw_20 (kcX2_bound_0 50 20 rfl) (kcX2_bound_0 51 0 rfl) (kcX2_bound_0 52 110 rfl) rfl
theorem dX2_bound_53 : decode cX2_bound 53 = .ok (.ladd, 1) := dw_97 (kcX2_bound_0 53 97 rfl)
theorem dX2_bound_54 : decode cX2_bound 54 = .ok (.ldc2_w 112, 3) := dw_20 (kcX2_bound_0 54 20 rfl) (kcX2_bound_0 55 0 rfl) (kcX2_bound_0 56 112 rfl) rfl
theorem dX2_bound_57 : decode cX2_bound 57 = .ok (.ldiv, 1) := dw_109 (kcX2_bound_0 57 109 rfl)
theorem dX2_bound_58 : decode cX2_bound 58 = .ok (.l2i, 1) := dw_136 (kcX2_bound_0 58 136 rfl)
theorem dX2_bound_59 : decode cX2_bound 59 = .ok (.iastore, 1) := dw_79 (kcX2_bound_0 59 79 rfl)
theorem dX2_bound_60 : decode cX2_bound 60 = .ok (.aload_n 0, 1) := dw_42 (kcX2_bound_0 60 42 rfl)
theorem dX2_bound_61 : decode cX2_bound 61 = .ok (.getfield 60, 3) := dw_180 (kcX2_bound_0 61 180 rfl) (kcX2_bound_0 62 0 rfl) (kcX2_bound_0 63 60 rfl) rfl
theorem dX2_bound_64 : decode cX2_bound 64 = .ok (.iload_n 1, 1) := dw_27 (kcX2_bound_1 0 27 rfl)
theorem dX2_bound_65 : decode cX2_bound 65 = .ok (.lload_n 3, 1) := dw_33 (kcX2_bound_1 1 33 rfl)
theorem dX2_bound_66 : decode cX2_bound 66 = .ok (.lconst 1, 1) := by decide +kernel
theorem dX2_bound_67 : decode cX2_bound 67 = .ok (.ladd, 1) := dw_97 (kcX2_bound_1 3 97 rfl)
theorem dX2_bound_68 : decode cX2_bound 68 = .ok (.iload_n 2, 1) := dw_28 (kcX2_bound_1 4 28 rfl)
theorem dX2_bound_69 : decode cX2_bound 69 = .ok (.i2l, 1) := dw_133 (kcX2_bound_1 5 133 rfl)
theorem dX2_bound_70 : decode cX2_bound 70 = .ok (.lmul, 1) := dw_105 (kcX2_bound_1 6 105 rfl)
theorem dX2_bound_71 : decode cX2_bound 71 = .ok (.lconst 1, 1) := by decide +kernel
theorem dX2_bound_72 : decode cX2_bound 72 = .ok (.lsub, 1) := dw_101 (kcX2_bound_1 8 101 rfl)
theorem dX2_bound_73 : decode cX2_bound 73 = .ok (.ldc2_w 112, 3) := dw_20 (kcX2_bound_1 9 20 rfl) (kcX2_bound_1 10 0 rfl) (kcX2_bound_1 11 112 rfl) rfl
theorem dX2_bound_76 : decode cX2_bound 76 = .ok (.ldiv, 1) := dw_109 (kcX2_bound_1 12 109 rfl)
theorem dX2_bound_77 : decode cX2_bound 77 = .ok (.l2i, 1) := dw_136 (kcX2_bound_1 13 136 rfl)
theorem dX2_bound_78 : decode cX2_bound 78 = .ok (.iastore, 1) := dw_79 (kcX2_bound_1 14 79 rfl)
theorem kcX2_alsoKeep_0 : CHb cX2_alsoKeep 0 [42, 180, 0, 51, 27, 4, 84, 42, 16, 254, 181, 0, 24, 177] := CHb_of (by decide +kernel)
theorem dX2_alsoKeep_0 : decode cX2_alsoKeep 0 = .ok (.aload_n 0, 1) := dw_42 (kcX2_alsoKeep_0 0 42 rfl)
theorem dX2_alsoKeep_1 : decode cX2_alsoKeep 1 = .ok (.getfield 51, 3) := dw_180 (kcX2_alsoKeep_0 1 180 rfl) (kcX2_alsoKeep_0 2 0 rfl) (kcX2_alsoKeep_0 3 51 rfl) rfl
theorem dX2_alsoKeep_4 : decode cX2_alsoKeep 4 = .ok (.iload_n 1, 1) := dw_27 (kcX2_alsoKeep_0 4 27 rfl)
theorem dX2_alsoKeep_5 : decode cX2_alsoKeep 5 = .ok (.iconst 1, 1) := dw_4 (kcX2_alsoKeep_0 5 4 rfl)
theorem dX2_alsoKeep_6 : decode cX2_alsoKeep 6 = .ok (.bastore, 1) := dw_84 (kcX2_alsoKeep_0 6 84 rfl)
theorem dX2_alsoKeep_7 : decode cX2_alsoKeep 7 = .ok (.aload_n 0, 1) := dw_42 (kcX2_alsoKeep_0 7 42 rfl)
theorem dX2_alsoKeep_8 : decode cX2_alsoKeep 8 = .ok (.bipush (-2), 2) := dw_16 (kcX2_alsoKeep_0 8 16 rfl) (kcX2_alsoKeep_0 9 254 rfl) rfl
theorem dX2_alsoKeep_10 : decode cX2_alsoKeep 10 = .ok (.putfield 24, 3) := dw_181 (kcX2_alsoKeep_0 10 181 rfl) (kcX2_alsoKeep_0 11 0 rfl) (kcX2_alsoKeep_0 12 24 rfl) rfl
theorem dX2_alsoKeep_13 : decode cX2_alsoKeep 13 = .ok (.return_, 1) := dw_177 (kcX2_alsoKeep_0 13 177 rfl)
theorem kcX2_blankRow_0 : CHb cX2_blankRow 0 [3, 61, 28, 42, 180, 0, 15, 162, 0, 36, 27, 28, 184, 0, 89, 62, 42, 180, 0, 42, 29, 3, 79, 42, 180, 0, 48, 29, 3, 79, 42, 180, 0, 51, 29, 3, 84, 132, 2, 1, 167, 255, 218, 177] := CHb_of (by decide +kernel)
theorem dX2_blankRow_0 : decode cX2_blankRow 0 = .ok (.iconst 0, 1) := dw_3 (kcX2_blankRow_0 0 3 rfl)
theorem dX2_blankRow_1 : decode cX2_blankRow 1 = .ok (.istore_n 2, 1) := dw_61 (kcX2_blankRow_0 1 61 rfl)
theorem dX2_blankRow_2 : decode cX2_blankRow 2 = .ok (.iload_n 2, 1) := dw_28 (kcX2_blankRow_0 2 28 rfl)
theorem dX2_blankRow_3 : decode cX2_blankRow 3 = .ok (.aload_n 0, 1) := dw_42 (kcX2_blankRow_0 3 42 rfl)
theorem dX2_blankRow_4 : decode cX2_blankRow 4 = .ok (.getfield 15, 3) := dw_180 (kcX2_blankRow_0 4 180 rfl) (kcX2_blankRow_0 5 0 rfl) (kcX2_blankRow_0 6 15 rfl) rfl
theorem dX2_blankRow_7 : decode cX2_blankRow 7 = .ok (.if_icmp .ge 36, 3) := dw_162 (kcX2_blankRow_0 7 162 rfl) (kcX2_blankRow_0 8 0 rfl) (kcX2_blankRow_0 9 36 rfl) rfl
theorem dX2_blankRow_43 : decode cX2_blankRow 43 = .ok (.return_, 1) := dw_177 (kcX2_blankRow_0 43 177 rfl)
theorem dX2_blankRow_10 : decode cX2_blankRow 10 = .ok (.iload_n 1, 1) := dw_27 (kcX2_blankRow_0 10 27 rfl)
theorem dX2_blankRow_11 : decode cX2_blankRow 11 = .ok (.iload_n 2, 1) := dw_28 (kcX2_blankRow_0 11 28 rfl)
theorem dX2_blankRow_12 : decode cX2_blankRow 12 = .ok (.invokestatic 89, 3) := dw_184 (kcX2_blankRow_0 12 184 rfl) (kcX2_blankRow_0 13 0 rfl) (kcX2_blankRow_0 14 89 rfl) rfl
theorem dX2_blankRow_15 : decode cX2_blankRow 15 = .ok (.istore_n 3, 1) := dw_62 (kcX2_blankRow_0 15 62 rfl)
theorem dX2_blankRow_16 : decode cX2_blankRow 16 = .ok (.aload_n 0, 1) := dw_42 (kcX2_blankRow_0 16 42 rfl)
theorem dX2_blankRow_17 : decode cX2_blankRow 17 = .ok (.getfield 42, 3) := dw_180 (kcX2_blankRow_0 17 180 rfl) (kcX2_blankRow_0 18 0 rfl) (kcX2_blankRow_0 19 42 rfl) rfl
theorem dX2_blankRow_20 : decode cX2_blankRow 20 = .ok (.iload_n 3, 1) := dw_29 (kcX2_blankRow_0 20 29 rfl)
theorem dX2_blankRow_21 : decode cX2_blankRow 21 = .ok (.iconst 0, 1) := dw_3 (kcX2_blankRow_0 21 3 rfl)
theorem dX2_blankRow_22 : decode cX2_blankRow 22 = .ok (.iastore, 1) := dw_79 (kcX2_blankRow_0 22 79 rfl)
theorem dX2_blankRow_23 : decode cX2_blankRow 23 = .ok (.aload_n 0, 1) := dw_42 (kcX2_blankRow_0 23 42 rfl)
theorem dX2_blankRow_24 : decode cX2_blankRow 24 = .ok (.getfield 48, 3) := dw_180 (kcX2_blankRow_0 24 180 rfl) (kcX2_blankRow_0 25 0 rfl) (kcX2_blankRow_0 26 48 rfl) rfl
theorem dX2_blankRow_27 : decode cX2_blankRow 27 = .ok (.iload_n 3, 1) := dw_29 (kcX2_blankRow_0 27 29 rfl)
theorem dX2_blankRow_28 : decode cX2_blankRow 28 = .ok (.iconst 0, 1) := dw_3 (kcX2_blankRow_0 28 3 rfl)
theorem dX2_blankRow_29 : decode cX2_blankRow 29 = .ok (.iastore, 1) := dw_79 (kcX2_blankRow_0 29 79 rfl)
theorem dX2_blankRow_30 : decode cX2_blankRow 30 = .ok (.aload_n 0, 1) := dw_42 (kcX2_blankRow_0 30 42 rfl)
theorem dX2_blankRow_31 : decode cX2_blankRow 31 = .ok (.getfield 51, 3) := dw_180 (kcX2_blankRow_0 31 180 rfl) (kcX2_blankRow_0 32 0 rfl) (kcX2_blankRow_0 33 51 rfl) rfl
theorem dX2_blankRow_34 : decode cX2_blankRow 34 = .ok (.iload_n 3, 1) := dw_29 (kcX2_blankRow_0 34 29 rfl)
theorem dX2_blankRow_35 : decode cX2_blankRow 35 = .ok (.iconst 0, 1) := dw_3 (kcX2_blankRow_0 35 3 rfl)
theorem dX2_blankRow_36 : decode cX2_blankRow 36 = .ok (.bastore, 1) := dw_84 (kcX2_blankRow_0 36 84 rfl)
theorem dX2_blankRow_37 : decode cX2_blankRow 37 = .ok (.iinc 2 1, 3) := dw_132 (kcX2_blankRow_0 37 132 rfl) (kcX2_blankRow_0 38 2 rfl) (kcX2_blankRow_0 39 1 rfl) rfl
theorem dX2_blankRow_40 : decode cX2_blankRow 40 = .ok (.goto (-38), 3) := dw_167 (kcX2_blankRow_0 40 167 rfl) (kcX2_blankRow_0 41 255 rfl) (kcX2_blankRow_0 42 218 rfl) rfl
theorem kcX2_keepSecretsAlone_0 : CHb cX2_keepSecretsAlone 0 [42, 16, 254, 181, 0, 24, 3, 60, 27, 42, 180, 0, 9, 162, 0, 63, 3, 61, 28, 42, 180, 0, 15, 162, 0, 47, 27, 28, 184, 0, 89, 62, 42, 180, 0, 51, 29, 42, 180, 0, 48, 29, 46, 153, 0, 7, 4, 167, 0, 4, 3, 84, 42, 180, 0, 54, 29, 42, 180, 0, 45, 29, 46, 79] := CHb_of (by decide +kernel)
theorem dX2_keepSecretsAlone_0 : decode cX2_keepSecretsAlone 0 = .ok (.aload_n 0, 1) := dw_42 (kcX2_keepSecretsAlone_0 0 42 rfl)
theorem dX2_keepSecretsAlone_1 : decode cX2_keepSecretsAlone 1 = .ok (.bipush (-2), 2) := dw_16 (kcX2_keepSecretsAlone_0 1 16 rfl) (kcX2_keepSecretsAlone_0 2 254 rfl) rfl
theorem dX2_keepSecretsAlone_3 : decode cX2_keepSecretsAlone 3 = .ok (.putfield 24, 3) := dw_181 (kcX2_keepSecretsAlone_0 3 181 rfl) (kcX2_keepSecretsAlone_0 4 0 rfl) (kcX2_keepSecretsAlone_0 5 24 rfl) rfl
theorem dX2_keepSecretsAlone_6 : decode cX2_keepSecretsAlone 6 = .ok (.iconst 0, 1) := dw_3 (kcX2_keepSecretsAlone_0 6 3 rfl)
theorem dX2_keepSecretsAlone_7 : decode cX2_keepSecretsAlone 7 = .ok (.istore_n 1, 1) := dw_60 (kcX2_keepSecretsAlone_0 7 60 rfl)
theorem dX2_keepSecretsAlone_8 : decode cX2_keepSecretsAlone 8 = .ok (.iload_n 1, 1) := dw_27 (kcX2_keepSecretsAlone_0 8 27 rfl)
theorem dX2_keepSecretsAlone_9 : decode cX2_keepSecretsAlone 9 = .ok (.aload_n 0, 1) := dw_42 (kcX2_keepSecretsAlone_0 9 42 rfl)
theorem dX2_keepSecretsAlone_10 : decode cX2_keepSecretsAlone 10 = .ok (.getfield 9, 3) := dw_180 (kcX2_keepSecretsAlone_0 10 180 rfl) (kcX2_keepSecretsAlone_0 11 0 rfl) (kcX2_keepSecretsAlone_0 12 9 rfl) rfl
theorem dX2_keepSecretsAlone_13 : decode cX2_keepSecretsAlone 13 = .ok (.if_icmp .ge 63, 3) := dw_162 (kcX2_keepSecretsAlone_0 13 162 rfl) (kcX2_keepSecretsAlone_0 14 0 rfl) (kcX2_keepSecretsAlone_0 15 63 rfl) rfl
theorem kcX2_keepSecretsAlone_1 : CHb cX2_keepSecretsAlone 64 [132, 2, 1, 167, 255, 207, 132, 1, 1, 167, 255, 191, 177] := CHb_of (by decide +kernel)
theorem dX2_keepSecretsAlone_76 : decode cX2_keepSecretsAlone 76 = .ok (.return_, 1) := dw_177 (kcX2_keepSecretsAlone_1 12 177 rfl)
theorem dX2_keepSecretsAlone_16 : decode cX2_keepSecretsAlone 16 = .ok (.iconst 0, 1) := dw_3 (kcX2_keepSecretsAlone_0 16 3 rfl)
theorem dX2_keepSecretsAlone_17 : decode cX2_keepSecretsAlone 17 = .ok (.istore_n 2, 1) := dw_61 (kcX2_keepSecretsAlone_0 17 61 rfl)
theorem dX2_keepSecretsAlone_18 : decode cX2_keepSecretsAlone 18 = .ok (.iload_n 2, 1) := dw_28 (kcX2_keepSecretsAlone_0 18 28 rfl)
theorem dX2_keepSecretsAlone_19 : decode cX2_keepSecretsAlone 19 = .ok (.aload_n 0, 1) := dw_42 (kcX2_keepSecretsAlone_0 19 42 rfl)
theorem dX2_keepSecretsAlone_20 : decode cX2_keepSecretsAlone 20 = .ok (.getfield 15, 3) := dw_180 (kcX2_keepSecretsAlone_0 20 180 rfl) (kcX2_keepSecretsAlone_0 21 0 rfl) (kcX2_keepSecretsAlone_0 22 15 rfl) rfl
theorem dX2_keepSecretsAlone_23 : decode cX2_keepSecretsAlone 23 = .ok (.if_icmp .ge 47, 3) := dw_162 (kcX2_keepSecretsAlone_0 23 162 rfl) (kcX2_keepSecretsAlone_0 24 0 rfl) (kcX2_keepSecretsAlone_0 25 47 rfl) rfl
theorem dX2_keepSecretsAlone_70 : decode cX2_keepSecretsAlone 70 = .ok (.iinc 1 1, 3) := dw_132 (kcX2_keepSecretsAlone_1 6 132 rfl) (kcX2_keepSecretsAlone_1 7 1 rfl) (kcX2_keepSecretsAlone_1 8 1 rfl) rfl
theorem dX2_keepSecretsAlone_73 : decode cX2_keepSecretsAlone 73 = .ok (.goto (-65), 3) := dw_167 (kcX2_keepSecretsAlone_1 9 167 rfl) (kcX2_keepSecretsAlone_1 10 255 rfl) (kcX2_keepSecretsAlone_1 11 191 rfl) rfl
theorem dX2_keepSecretsAlone_26 : decode cX2_keepSecretsAlone 26 = .ok (.iload_n 1, 1) := dw_27 (kcX2_keepSecretsAlone_0 26 27 rfl)
theorem dX2_keepSecretsAlone_27 : decode cX2_keepSecretsAlone 27 = .ok (.iload_n 2, 1) := dw_28 (kcX2_keepSecretsAlone_0 27 28 rfl)
theorem dX2_keepSecretsAlone_28 : decode cX2_keepSecretsAlone 28 = .ok (.invokestatic 89, 3) := dw_184 (kcX2_keepSecretsAlone_0 28 184 rfl) (kcX2_keepSecretsAlone_0 29 0 rfl) (kcX2_keepSecretsAlone_0 30 89 rfl) rfl
theorem dX2_keepSecretsAlone_31 : decode cX2_keepSecretsAlone 31 = .ok (.istore_n 3, 1) := dw_62 (kcX2_keepSecretsAlone_0 31 62 rfl)
theorem dX2_keepSecretsAlone_32 : decode cX2_keepSecretsAlone 32 = .ok (.aload_n 0, 1) := dw_42 (kcX2_keepSecretsAlone_0 32 42 rfl)
theorem dX2_keepSecretsAlone_33 : decode cX2_keepSecretsAlone 33 = .ok (.getfield 51, 3) := dw_180 (kcX2_keepSecretsAlone_0 33 180 rfl) (kcX2_keepSecretsAlone_0 34 0 rfl) (kcX2_keepSecretsAlone_0 35 51 rfl) rfl
theorem dX2_keepSecretsAlone_36 : decode cX2_keepSecretsAlone 36 = .ok (.iload_n 3, 1) := dw_29 (kcX2_keepSecretsAlone_0 36 29 rfl)
theorem dX2_keepSecretsAlone_37 : decode cX2_keepSecretsAlone 37 = .ok (.aload_n 0, 1) := dw_42 (kcX2_keepSecretsAlone_0 37 42 rfl)
theorem dX2_keepSecretsAlone_38 : decode cX2_keepSecretsAlone 38 = .ok (.getfield 48, 3) := dw_180 (kcX2_keepSecretsAlone_0 38 180 rfl) (kcX2_keepSecretsAlone_0 39 0 rfl) (kcX2_keepSecretsAlone_0 40 48 rfl) rfl
theorem dX2_keepSecretsAlone_41 : decode cX2_keepSecretsAlone 41 = .ok (.iload_n 3, 1) := dw_29 (kcX2_keepSecretsAlone_0 41 29 rfl)
theorem dX2_keepSecretsAlone_42 : decode cX2_keepSecretsAlone 42 = .ok (.iaload, 1) := dw_46 (kcX2_keepSecretsAlone_0 42 46 rfl)
theorem dX2_keepSecretsAlone_43 : decode cX2_keepSecretsAlone 43 = .ok (.ifCond .eq 7, 3) := dw_153 (kcX2_keepSecretsAlone_0 43 153 rfl) (kcX2_keepSecretsAlone_0 44 0 rfl) (kcX2_keepSecretsAlone_0 45 7 rfl) rfl
theorem dX2_keepSecretsAlone_50 : decode cX2_keepSecretsAlone 50 = .ok (.iconst 0, 1) := dw_3 (kcX2_keepSecretsAlone_0 50 3 rfl)
theorem dX2_keepSecretsAlone_51 : decode cX2_keepSecretsAlone 51 = .ok (.bastore, 1) := dw_84 (kcX2_keepSecretsAlone_0 51 84 rfl)
theorem dX2_keepSecretsAlone_52 : decode cX2_keepSecretsAlone 52 = .ok (.aload_n 0, 1) := dw_42 (kcX2_keepSecretsAlone_0 52 42 rfl)
theorem dX2_keepSecretsAlone_53 : decode cX2_keepSecretsAlone 53 = .ok (.getfield 54, 3) := dw_180 (kcX2_keepSecretsAlone_0 53 180 rfl) (kcX2_keepSecretsAlone_0 54 0 rfl) (kcX2_keepSecretsAlone_0 55 54 rfl) rfl
theorem dX2_keepSecretsAlone_56 : decode cX2_keepSecretsAlone 56 = .ok (.iload_n 3, 1) := dw_29 (kcX2_keepSecretsAlone_0 56 29 rfl)
theorem dX2_keepSecretsAlone_57 : decode cX2_keepSecretsAlone 57 = .ok (.aload_n 0, 1) := dw_42 (kcX2_keepSecretsAlone_0 57 42 rfl)
theorem dX2_keepSecretsAlone_58 : decode cX2_keepSecretsAlone 58 = .ok (.getfield 45, 3) := dw_180 (kcX2_keepSecretsAlone_0 58 180 rfl) (kcX2_keepSecretsAlone_0 59 0 rfl) (kcX2_keepSecretsAlone_0 60 45 rfl) rfl
theorem dX2_keepSecretsAlone_61 : decode cX2_keepSecretsAlone 61 = .ok (.iload_n 3, 1) := dw_29 (kcX2_keepSecretsAlone_0 61 29 rfl)
theorem dX2_keepSecretsAlone_62 : decode cX2_keepSecretsAlone 62 = .ok (.iaload, 1) := dw_46 (kcX2_keepSecretsAlone_0 62 46 rfl)
theorem dX2_keepSecretsAlone_63 : decode cX2_keepSecretsAlone 63 = .ok (.iastore, 1) := dw_79 (kcX2_keepSecretsAlone_0 63 79 rfl)
theorem dX2_keepSecretsAlone_64 : decode cX2_keepSecretsAlone 64 = .ok (.iinc 2 1, 3) := dw_132 (kcX2_keepSecretsAlone_1 0 132 rfl) (kcX2_keepSecretsAlone_1 1 2 rfl) (kcX2_keepSecretsAlone_1 2 1 rfl) rfl
theorem dX2_keepSecretsAlone_67 : decode cX2_keepSecretsAlone 67 = .ok (.goto (-49), 3) := dw_167 (kcX2_keepSecretsAlone_1 3 167 rfl) (kcX2_keepSecretsAlone_1 4 255 rfl) (kcX2_keepSecretsAlone_1 5 207 rfl) rfl
theorem dX2_keepSecretsAlone_46 : decode cX2_keepSecretsAlone 46 = .ok (.iconst 1, 1) := dw_4 (kcX2_keepSecretsAlone_0 46 4 rfl)
theorem dX2_keepSecretsAlone_47 : decode cX2_keepSecretsAlone 47 = .ok (.goto 4, 3) := dw_167 (kcX2_keepSecretsAlone_0 47 167 rfl) (kcX2_keepSecretsAlone_0 48 0 rfl) (kcX2_keepSecretsAlone_0 49 4 rfl) rfl
theorem kcX2_refresh_0 : CHb cX2_refresh 0 [27, 28, 184, 0, 89, 62, 42, 180, 0, 51, 29, 51, 153, 0, 22, 42, 180, 0, 54, 29, 46, 42, 180, 0, 60, 29, 46, 162, 0, 7, 4, 167, 0, 4, 3, 54, 4, 42, 180, 0, 51, 29, 51, 153, 0, 22, 42, 180, 0, 54, 29, 46, 42, 180, 0, 57, 29, 46, 164, 0, 7, 4, 167, 0] := CHb_of (by decide +kernel)
theorem dX2_refresh_0 : decode cX2_refresh 0 = .ok (.iload_n 1, 1) := dw_27 (kcX2_refresh_0 0 27 rfl)
theorem dX2_refresh_1 : decode cX2_refresh 1 = .ok (.iload_n 2, 1) := dw_28 (kcX2_refresh_0 1 28 rfl)
theorem dX2_refresh_2 : decode cX2_refresh 2 = .ok (.invokestatic 89, 3) := dw_184 (kcX2_refresh_0 2 184 rfl) (kcX2_refresh_0 3 0 rfl) (kcX2_refresh_0 4 89 rfl) rfl
theorem dX2_refresh_5 : decode cX2_refresh 5 = .ok (.istore_n 3, 1) := dw_62 (kcX2_refresh_0 5 62 rfl)
theorem dX2_refresh_6 : decode cX2_refresh 6 = .ok (.aload_n 0, 1) := dw_42 (kcX2_refresh_0 6 42 rfl)
theorem dX2_refresh_7 : decode cX2_refresh 7 = .ok (.getfield 51, 3) := dw_180 (kcX2_refresh_0 7 180 rfl) (kcX2_refresh_0 8 0 rfl) (kcX2_refresh_0 9 51 rfl) rfl
theorem dX2_refresh_10 : decode cX2_refresh 10 = .ok (.iload_n 3, 1) := dw_29 (kcX2_refresh_0 10 29 rfl)
theorem dX2_refresh_11 : decode cX2_refresh 11 = .ok (.baload, 1) := dw_51 (kcX2_refresh_0 11 51 rfl)
theorem dX2_refresh_12 : decode cX2_refresh 12 = .ok (.ifCond .eq 22, 3) := dw_153 (kcX2_refresh_0 12 153 rfl) (kcX2_refresh_0 13 0 rfl) (kcX2_refresh_0 14 22 rfl) rfl
theorem dX2_refresh_34 : decode cX2_refresh 34 = .ok (.iconst 0, 1) := dw_3 (kcX2_refresh_0 34 3 rfl)
theorem dX2_refresh_35 : decode cX2_refresh 35 = .ok (.istore 4, 2) := dw_54 (kcX2_refresh_0 35 54 rfl) (kcX2_refresh_0 36 4 rfl)
theorem dX2_refresh_37 : decode cX2_refresh 37 = .ok (.aload_n 0, 1) := dw_42 (kcX2_refresh_0 37 42 rfl)
theorem dX2_refresh_38 : decode cX2_refresh 38 = .ok (.getfield 51, 3) := dw_180 (kcX2_refresh_0 38 180 rfl) (kcX2_refresh_0 39 0 rfl) (kcX2_refresh_0 40 51 rfl) rfl
theorem dX2_refresh_41 : decode cX2_refresh 41 = .ok (.iload_n 3, 1) := dw_29 (kcX2_refresh_0 41 29 rfl)
theorem dX2_refresh_42 : decode cX2_refresh 42 = .ok (.baload, 1) := dw_51 (kcX2_refresh_0 42 51 rfl)
theorem dX2_refresh_43 : decode cX2_refresh 43 = .ok (.ifCond .eq 22, 3) := dw_153 (kcX2_refresh_0 43 153 rfl) (kcX2_refresh_0 44 0 rfl) (kcX2_refresh_0 45 22 rfl) rfl
theorem kcX2_refresh_1 : CHb cX2_refresh 64 [4, 3, 54, 5, 42, 180, 0, 30, 27, 16, 12, 28, 96, 21, 4, 21, 5, 182, 0, 120, 177] := CHb_of (by decide +kernel)
theorem dX2_refresh_65 : decode cX2_refresh 65 = .ok (.iconst 0, 1) := dw_3 (kcX2_refresh_1 1 3 rfl)
theorem dX2_refresh_66 : decode cX2_refresh 66 = .ok (.istore 5, 2) := dw_54 (kcX2_refresh_1 2 54 rfl) (kcX2_refresh_1 3 5 rfl)
theorem dX2_refresh_68 : decode cX2_refresh 68 = .ok (.aload_n 0, 1) := dw_42 (kcX2_refresh_1 4 42 rfl)
theorem dX2_refresh_69 : decode cX2_refresh 69 = .ok (.getfield 30, 3) := dw_180 (kcX2_refresh_1 5 180 rfl) (kcX2_refresh_1 6 0 rfl) (kcX2_refresh_1 7 30 rfl) rfl
theorem dX2_refresh_72 : decode cX2_refresh 72 = .ok (.iload_n 1, 1) := dw_27 (kcX2_refresh_1 8 27 rfl)
theorem dX2_refresh_73 : decode cX2_refresh 73 = .ok (.bipush 12, 2) := dw_16 (kcX2_refresh_1 9 16 rfl) (kcX2_refresh_1 10 12 rfl) rfl
theorem dX2_refresh_75 : decode cX2_refresh 75 = .ok (.iload_n 2, 1) := dw_28 (kcX2_refresh_1 11 28 rfl)
theorem dX2_refresh_76 : decode cX2_refresh 76 = .ok (.iadd, 1) := dw_96 (kcX2_refresh_1 12 96 rfl)
theorem dX2_refresh_77 : decode cX2_refresh 77 = .ok (.iload 4, 2) := dw_21 (kcX2_refresh_1 13 21 rfl) (kcX2_refresh_1 14 4 rfl)
theorem dX2_refresh_79 : decode cX2_refresh 79 = .ok (.iload 5, 2) := dw_21 (kcX2_refresh_1 15 21 rfl) (kcX2_refresh_1 16 5 rfl)
theorem dX2_refresh_81 : decode cX2_refresh 81 = .ok (.invokevirtual 120, 3) := dw_182 (kcX2_refresh_1 17 182 rfl) (kcX2_refresh_1 18 0 rfl) (kcX2_refresh_1 19 120 rfl) rfl
theorem dX2_refresh_84 : decode cX2_refresh 84 = .ok (.return_, 1) := dw_177 (kcX2_refresh_1 20 177 rfl)
theorem dX2_refresh_46 : decode cX2_refresh 46 = .ok (.aload_n 0, 1) := dw_42 (kcX2_refresh_0 46 42 rfl)
theorem dX2_refresh_47 : decode cX2_refresh 47 = .ok (.getfield 54, 3) := dw_180 (kcX2_refresh_0 47 180 rfl) (kcX2_refresh_0 48 0 rfl) (kcX2_refresh_0 49 54 rfl) rfl
theorem dX2_refresh_50 : decode cX2_refresh 50 = .ok (.iload_n 3, 1) := dw_29 (kcX2_refresh_0 50 29 rfl)
theorem dX2_refresh_51 : decode cX2_refresh 51 = .ok (.iaload, 1) := dw_46 (kcX2_refresh_0 51 46 rfl)
theorem dX2_refresh_52 : decode cX2_refresh 52 = .ok (.aload_n 0, 1) := dw_42 (kcX2_refresh_0 52 42 rfl)
theorem dX2_refresh_53 : decode cX2_refresh 53 = .ok (.getfield 57, 3) := dw_180 (kcX2_refresh_0 53 180 rfl) (kcX2_refresh_0 54 0 rfl) (kcX2_refresh_0 55 57 rfl) rfl
theorem dX2_refresh_56 : decode cX2_refresh 56 = .ok (.iload_n 3, 1) := dw_29 (kcX2_refresh_0 56 29 rfl)
theorem dX2_refresh_57 : decode cX2_refresh 57 = .ok (.iaload, 1) := dw_46 (kcX2_refresh_0 57 46 rfl)
theorem dX2_refresh_58 : decode cX2_refresh 58 = .ok (.if_icmp .le 7, 3) := dw_164 (kcX2_refresh_0 58 164 rfl) (kcX2_refresh_0 59 0 rfl) (kcX2_refresh_0 60 7 rfl) rfl
theorem dX2_refresh_61 : decode cX2_refresh 61 = .ok (.iconst 1, 1) := dw_4 (kcX2_refresh_0 61 4 rfl)
theorem dX2_refresh_62 : decode cX2_refresh 62 = .ok (.goto 4, 3) := dw_167 (kcX2_refresh_0 62 167 rfl) (kcX2_refresh_0 63 0 rfl) (kcX2_refresh_1 0 4 rfl) rfl
theorem dX2_refresh_15 : decode cX2_refresh 15 = .ok (.aload_n 0, 1) := dw_42 (kcX2_refresh_0 15 42 rfl)
theorem dX2_refresh_16 : decode cX2_refresh 16 = .ok (.getfield 54, 3) := dw_180 (kcX2_refresh_0 16 180 rfl) (kcX2_refresh_0 17 0 rfl) (kcX2_refresh_0 18 54 rfl) rfl
theorem dX2_refresh_19 : decode cX2_refresh 19 = .ok (.iload_n 3, 1) := dw_29 (kcX2_refresh_0 19 29 rfl)
theorem dX2_refresh_20 : decode cX2_refresh 20 = .ok (.iaload, 1) := dw_46 (kcX2_refresh_0 20 46 rfl)
theorem dX2_refresh_21 : decode cX2_refresh 21 = .ok (.aload_n 0, 1) := dw_42 (kcX2_refresh_0 21 42 rfl)
theorem dX2_refresh_22 : decode cX2_refresh 22 = .ok (.getfield 60, 3) := dw_180 (kcX2_refresh_0 22 180 rfl) (kcX2_refresh_0 23 0 rfl) (kcX2_refresh_0 24 60 rfl) rfl
theorem dX2_refresh_25 : decode cX2_refresh 25 = .ok (.iload_n 3, 1) := dw_29 (kcX2_refresh_0 25 29 rfl)
theorem dX2_refresh_26 : decode cX2_refresh 26 = .ok (.iaload, 1) := dw_46 (kcX2_refresh_0 26 46 rfl)
theorem dX2_refresh_27 : decode cX2_refresh 27 = .ok (.if_icmp .ge 7, 3) := dw_162 (kcX2_refresh_0 27 162 rfl) (kcX2_refresh_0 28 0 rfl) (kcX2_refresh_0 29 7 rfl) rfl
theorem dX2_refresh_30 : decode cX2_refresh 30 = .ok (.iconst 1, 1) := dw_4 (kcX2_refresh_0 30 4 rfl)
theorem dX2_refresh_31 : decode cX2_refresh 31 = .ok (.goto 4, 3) := dw_167 (kcX2_refresh_0 31 167 rfl) (kcX2_refresh_0 32 0 rfl) (kcX2_refresh_0 33 4 rfl) rfl
def thF (n w : Int32) : Int32 := if 0 < w then ((1000 : Int64) * n.toInt64 / w.toInt64).toInt32 else 0
theorem pos64 {x : Int32} (h : 0 < x) : ¬ x.toInt64 = 0 := fun e => by
  have h1 : x.toInt64.toInt = 0 := by rw [e]; rfl
  rw [Int32.toInt_toInt64] at h1
  have h2 := Int32.lt_iff_toInt_lt.mp h
  have h3 : (0 : Int32).toInt = 0 := rfl
  omega
/-- rows and columns, and nothing else, are joined -/
def adjR (u v : Nat) : Prop := (u < 12 ∧ 12 ≤ v ∧ v < 24) ∨ (12 ≤ u ∧ u < 24 ∧ v < 12)
theorem adjR1 {i j : Nat} (hi : i < 12) (hj : j < 12) : adjR i (12 + j) := Or.inl ⟨hi, by omega, by omega⟩
theorem adjR2 {i j : Nat} (hi : i < 12) (hj : j < 12) : adjR (12 + j) i := Or.inr ⟨by omega, by omega, hi⟩
set_option maxHeartbeats 4000000 in
set_option maxRecDepth 100000 in
theorem c_X6_thousandthsOf (l : Launch) (G : GG) (p1 p2 : Int32) : RdI l yX6_thousandthsOf cX6_thousandthsOf 2 (some .int) ({ frames := 0, cells := 0, slots := 0, locals := 0 }) G ([]) [.int p1, .int p2] (fun q => q = thF p1 p2) := by
  refine rd_entry (by decide +kernel) (Nat.le_of_ble_eq_true rfl) ?_
  intro p e s m below meth c C0 hP hK ls hl
  have hS : va_S (fun q => s.heap.size ≤ q) s.heap s.heap [] := va_S.rf
  have hA : ∀ q, s.heap.size ≤ q → (fun q => s.heap.size ≤ q) q := fun _ h => h
  obtain ⟨hx, hb, hml, hown, hts, hr, hlocks, hin⟩ := C0
  have hown : s.vm.findClass RX6 = some m.cls := hown
  have hl : lv_has ls 2 [(0, .int p1), (1, .int p2)] := hl
  refine lv_iload_n hx hb dX6_thousandthsOf_0 rfl (lv_at hl 1 rfl) ?_
  refine lv_if_gt (tgt := 8) hx hb dX6_thousandthsOf_1 (by decide) (fun c1 => ?_) (fun c1 => ?_)
  · refine lv_ldc2 hx hb hown (hts _ mkl_X6_256) dX6_thousandthsOf_8 ?_
    refine lv_iload_n hx hb dX6_thousandthsOf_11 rfl (lv_at hl 0 rfl) ?_
    refine lv_i2l hx hb dX6_thousandthsOf_12 rfl ?_
    refine lv_topl (fun v2 ev2 => ?_)
    refine lv_lmul hx hb dX6_thousandthsOf_13 ?_
    refine lv_topl (fun v3 ev3 => ?_)
    refine lv_iload_n hx hb dX6_thousandthsOf_14 rfl (lv_at hl 1 rfl) ?_
    refine lv_i2l hx hb dX6_thousandthsOf_15 rfl ?_
    refine lv_topl (fun v4 ev4 => ?_)
    refine lv_ldiv hx hb dX6_thousandthsOf_16 (by rw [ev4]; exact pos64 c1) ?_
    refine lv_topl (fun v5 ev5 => ?_)
    refine lv_l2i hx hb dX6_thousandthsOf_17 rfl ?_
    refine lv_topi (fun v6 ev6 => ?_)
    exact rd_iret hx hb hr hlocks hS (by unfold thF; rw [if_pos c1]; simp only [*]) dX6_thousandthsOf_18
  · refine lv_iconst (v := 0) hx hb dX6_thousandthsOf_4 (by decide) ?_
    refine lv_goto (tgt := 18) hx hb dX6_thousandthsOf_5 (by decide) ?_
    exact rd_iret hx hb hr hlocks hS (by unfold thF; rw [if_neg c1]) dX6_thousandthsOf_18
set_option maxHeartbeats 4000000 in
set_option maxRecDepth 100000 in
theorem c_X2_bound (l : Launch) (G : GG) (a b : Nat → Nat) (f : Nat → Int32) (r : Nat → Nat → Int32) (sp : Nat) (wh : Int32) (hsp : sp < 144) : WrV l yX2_bound cX2_bound 5 ({ frames := 1, cells := 0, slots := 0, locals := 21 }) G ([((a 15), .inr (2, [.int (f 0), .int (f 1), .int (f 2), .int (f 3), .int (f 4), .ref (b 3), .ref (a 6), .ref (a 7), .ref (a 8), .ref (a 9), .ref (a 10), .ref (a 11), .ref (a 12), .ref (a 13), .ref (a 14)])), ((a 6), .inl (G.2.2.1, 12, .inl (r 6))), ((a 7), .inl (G.2.1, 12, .inl (r 7))), ((a 8), .inl (G.2.1, 144, .inl (r 8))), ((a 9), .inl (G.2.1, 144, .inl (r 9))), ((a 10), .inl (G.2.1, 144, .inl (r 10))), ((a 11), .inl (G.2.2.1, 144, .inl (r 11))), ((a 12), .inl (G.2.1, 144, .inl (r 12))), ((a 13), .inl (G.2.1, 144, .inl (r 13))), ((a 14), .inl (G.2.1, 144, .inl (r 14)))]) [.ref (a 15), .int (nI sp), .int wh] (fun w => ∃ r2 : Nat → Nat → Int32, w = [((a 15), .inr (2, [.int (f 0), .int (f 1), .int (f 2), .int (f 3), .int (f 4), .ref (b 3), .ref (a 6), .ref (a 7), .ref (a 8), .ref (a 9), .ref (a 10), .ref (a 11), .ref (a 12), .ref (a 13), .ref (a 14)])), ((a 6), .inl (G.2.2.1, 12, .inl (r2 6))), ((a 7), .inl (G.2.1, 12, .inl (r2 7))), ((a 8), .inl (G.2.1, 144, .inl (r2 8))), ((a 9), .inl (G.2.1, 144, .inl (r2 9))), ((a 10), .inl (G.2.1, 144, .inl (r2 10))), ((a 11), .inl (G.2.2.1, 144, .inl (r2 11))), ((a 12), .inl (G.2.1, 144, .inl (r2 12))), ((a 13), .inl (G.2.1, 144, .inl (r2 13))), ((a 14), .inl (G.2.1, 144, .inl (r2 14)))]) := by
  refine wr_entryV (by decide +kernel) (Nat.le_of_ble_eq_true rfl) ?_
  intro p e s m below meth c A C0 hP hK hD hA ls hl
  have hS : va_S A s.heap s.heap [] := va_S.rf
  obtain ⟨hx, hb, hml, hown, hts, hr, hlocks, hin⟩ := C0
  have hown : s.vm.findClass RX2 = some m.cls := hown
  have hl : lv_has ls 5 [(0, .ref (a 15)), (1, .int (nI sp)), (2, .int wh)] := hl
  refine lv_aload_n hx hb dX2_bound_0 rfl (lv_at hl 0 rfl) ?_
  refine va_get (D := G.1) (ci := 2) (v := .ref (a 13)) (C := RX2) (T := TX2) (N := 15) hx hb hts inX2 hown hK.1 hP 0 rfl rfl 13 (by decide) (hts _ mf_X2_57) (fun _ h9 => h9) rfl dX2_bound_1 ?_
  refine lv_iload_n hx hb dX2_bound_4 rfl (lv_at hl 1 rfl) ?_
  refine lv_iconst (v := 0) hx hb dX2_bound_5 (by decide) ?_
  refine xiast (x := 0) hx hb hK hP hD hS 8 (sp) (rfl) (hsp) (by omega) rfl dX2_bound_6 (fun H locs hP hD hS => ?_)
  have hP : PP G [((a 15), .inr (2, [.int (f 0), .int (f 1), .int (f 2), .int (f 3), .int (f 4), .ref (b 3), .ref (a 6), .ref (a 7), .ref (a 8), .ref (a 9), .ref (a 10), .ref (a 11), .ref (a 12), .ref (a 13), .ref (a 14)])), ((a 6), .inl (G.2.2.1, 12, .inl (r 6))), ((a 7), .inl (G.2.1, 12, .inl (r 7))), ((a 8), .inl (G.2.1, 144, .inl (r 8))), ((a 9), .inl (G.2.1, 144, .inl (r 9))), ((a 10), .inl (G.2.1, 144, .inl (r 10))), ((a 11), .inl (G.2.2.1, 144, .inl (r 11))), ((a 12), .inl (G.2.1, 144, .inl (r 12))), ((a 13), .inl (G.2.1, 144, .inl (upd (r 13) (sp) (0)))), ((a 14), .inl (G.2.1, 144, .inl (r 14)))] H := hP
  have hD := D_as hP hD rfl
  refine lv_aload_n hx hb dX2_bound_7 rfl (lv_at hl 0 rfl) ?_
  refine va_get (D := G.1) (ci := 2) (v := .ref (a 14)) (C := RX2) (T := TX2) (N := 15) hx hb hts inX2 hown hK.1 hP 0 rfl rfl 14 (by decide) (hts _ mf_X2_60) (fun _ h9 => h9) rfl dX2_bound_8 ?_
  refine lv_iload_n hx hb dX2_bound_11 rfl (lv_at hl 1 rfl) ?_
  refine lv_ldc hx hb hown (hts _ mk_X2_106) dX2_bound_12 ?_
  refine xiast (x := 1073741824) hx hb hK hP hD hS 9 (sp) (rfl) (hsp) (by omega) rfl dX2_bound_14 (fun H locs hP hD hS => ?_)
  have hP : PP G [((a 15), .inr (2, [.int (f 0), .int (f 1), .int (f 2), .int (f 3), .int (f 4), .ref (b 3), .ref (a 6), .ref (a 7), .ref (a 8), .ref (a 9), .ref (a 10), .ref (a 11), .ref (a 12), .ref (a 13), .ref (a 14)])), ((a 6), .inl (G.2.2.1, 12, .inl (r 6))), ((a 7), .inl (G.2.1, 12, .inl (r 7))), ((a 8), .inl (G.2.1, 144, .inl (r 8))), ((a 9), .inl (G.2.1, 144, .inl (r 9))), ((a 10), .inl (G.2.1, 144, .inl (r 10))), ((a 11), .inl (G.2.2.1, 144, .inl (r 11))), ((a 12), .inl (G.2.1, 144, .inl (r 12))), ((a 13), .inl (G.2.1, 144, .inl (upd (r 13) (sp) (0)))), ((a 14), .inl (G.2.1, 144, .inl (upd (r 14) (sp) (1073741824))))] H := hP
  have hD := D_as hP hD rfl
  refine lv_aload_n hx hb dX2_bound_15 rfl (lv_at hl 0 rfl) ?_
  refine va_get (D := G.1) (ci := 2) (v := .ref (a 8)) (C := RX2) (T := TX2) (N := 15) hx hb hts inX2 hown hK.1 hP 0 rfl rfl 8 (by decide) (hts _ mf_X2_42) (fun _ h9 => h9) rfl dX2_bound_16 ?_
  refine lv_iload_n hx hb dX2_bound_19 rfl (lv_at hl 1 rfl) ?_
  refine xiald hx hb hK hP 3 (sp) (rfl) (hsp) (by omega) rfl dX2_bound_20 ?_
  refine lv_topi (fun v1 ev1 => ?_)
  refine lv_iconst (v := 3) hx hb dX2_bound_21 (by decide) ?_
  refine lv_icmp_ne (tgt := 79) hx hb dX2_bound_22 (by decide) (fun c2 => ?_) (fun c2 => ?_)
  · exact wr_vret hx hb hr hlocks hS hP ⟨(fun k => match k with | 6 => (r 6) | 7 => (r 7) | 8 => (r 8) | 9 => (r 9) | 10 => (r 10) | 11 => (r 11) | 12 => (r 12) | 13 => (upd (r 13) (sp) (0)) | 14 => (upd (r 14) (sp) (1073741824)) | _ => (fun _ => 0)), rfl⟩ dX2_bound_79
  · refine lv_iload_n hx hb dX2_bound_25 rfl (lv_at hl 2 rfl) ?_
    refine lv_if_le (tgt := 79) hx hb dX2_bound_26 (by decide) (fun c3 => ?_) (fun c3 => ?_)
    · exact wr_vret hx hb hr hlocks hS hP ⟨(fun k => match k with | 6 => (r 6) | 7 => (r 7) | 8 => (r 8) | 9 => (r 9) | 10 => (r 10) | 11 => (r 11) | 12 => (r 12) | 13 => (upd (r 13) (sp) (0)) | 14 => (upd (r 14) (sp) (1073741824)) | _ => (fun _ => 0)), rfl⟩ dX2_bound_79
    · refine lv_aload_n hx hb dX2_bound_29 rfl (lv_at hl 0 rfl) ?_
      refine va_get (D := G.1) (ci := 2) (v := .ref (a 9)) (C := RX2) (T := TX2) (N := 15) hx hb hts inX2 hown hK.1 hP 0 rfl rfl 9 (by decide) (hts _ mf_X2_45) (fun _ h9 => h9) rfl dX2_bound_30 ?_
      refine lv_iload_n hx hb dX2_bound_33 rfl (lv_at hl 1 rfl) ?_
      refine xiald hx hb hK hP 4 (sp) (rfl) (hsp) (by omega) rfl dX2_bound_34 ?_
      refine lv_topi (fun v4 ev4 => ?_)
      refine lv_iload_n hx hb dX2_bound_35 rfl (lv_at hl 2 rfl) ?_
      refine rdSN (rest := []) ⟨hx, hb, hml, hown, hts⟩ (c_X6_thousandthsOf l G v4 wh) mi_yX6_thousandthsOf mst_yX6_thousandthsOf (by decide +kernel) ⟨rfl, rfl, Nat.le_of_ble_eq_true rfl, Nat.le_of_ble_eq_true rfl⟩ hK (fun k q h => by simp at h) rfl hl.1 rfl (Nat.le_of_ble_eq_true rfl) dX2_bound_36 ⟨Nat.zero_le _, Nat.zero_le _⟩ hS hA hP (fun r5 H locs hr5 hP hS => ?_)
      refine lv_i2l hx hb dX2_bound_39 rfl ?_
      refine lv_topl (fun v6 ev6 => ?_)
      refine lv_lstore_n (lv' := [(3, .long v6), (0, .ref (a 15)), (1, .int (nI sp)), (2, .int wh)]) hx hb dX2_bound_40 rfl hl (by decide) rfl (fun ls hl => ?_)
      refine lv_aload_n hx hb dX2_bound_41 rfl (lv_at hl 1 rfl) ?_
      refine va_get (D := G.1) (ci := 2) (v := .ref (a 13)) (C := RX2) (T := TX2) (N := 15) hx hb hts inX2 hown hK.1 hP 0 rfl rfl 13 (by decide) (hts _ mf_X2_57) (fun _ h9 => h9) rfl dX2_bound_42 ?_
      refine lv_iload_n hx hb dX2_bound_45 rfl (lv_at hl 2 rfl) ?_
      refine lv_lload_n hx hb dX2_bound_46 rfl (lv_at hl 0 rfl) ?_
      refine lv_iload_n hx hb dX2_bound_47 rfl (lv_at hl 3 rfl) ?_
      refine lv_i2l hx hb dX2_bound_48 rfl ?_
      refine lv_topl (fun v7 ev7 => ?_)
      refine lv_lmul hx hb dX2_bound_49 ?_
      refine lv_topl (fun v8 ev8 => ?_)
      refine lv_ldc2 hx hb hown (hts _ mkl_X2_110) dX2_bound_50 ?_
      refine lv_ladd hx hb dX2_bound_53 ?_
      refine lv_topl (fun v9 ev9 => ?_)
      refine lv_ldc2 hx hb hown (hts _ mkl_X2_112) dX2_bound_54 ?_
      refine lv_ldiv hx hb dX2_bound_57 (by decide) ?_
      refine lv_topl (fun v10 ev10 => ?_)
      refine lv_l2i hx hb dX2_bound_58 rfl ?_
      refine lv_topi (fun v11 ev11 => ?_)
      refine xiast (x := v11) hx hb hK hP hD hS 8 (sp) (rfl) (hsp) (by omega) rfl dX2_bound_59 (fun H locs hP hD hS => ?_)
      have hP : PP G [((a 15), .inr (2, [.int (f 0), .int (f 1), .int (f 2), .int (f 3), .int (f 4), .ref (b 3), .ref (a 6), .ref (a 7), .ref (a 8), .ref (a 9), .ref (a 10), .ref (a 11), .ref (a 12), .ref (a 13), .ref (a 14)])), ((a 6), .inl (G.2.2.1, 12, .inl (r 6))), ((a 7), .inl (G.2.1, 12, .inl (r 7))), ((a 8), .inl (G.2.1, 144, .inl (r 8))), ((a 9), .inl (G.2.1, 144, .inl (r 9))), ((a 10), .inl (G.2.1, 144, .inl (r 10))), ((a 11), .inl (G.2.2.1, 144, .inl (r 11))), ((a 12), .inl (G.2.1, 144, .inl (r 12))), ((a 13), .inl (G.2.1, 144, .inl (upd (upd (r 13) (sp) (0)) (sp) (v11)))), ((a 14), .inl (G.2.1, 144, .inl (upd (r 14) (sp) (1073741824))))] H := hP
      have hD := D_as hP hD rfl
      refine lv_aload_n hx hb dX2_bound_60 rfl (lv_at hl 1 rfl) ?_
      refine va_get (D := G.1) (ci := 2) (v := .ref (a 14)) (C := RX2) (T := TX2) (N := 15) hx hb hts inX2 hown hK.1 hP 0 rfl rfl 14 (by decide) (hts _ mf_X2_60) (fun _ h9 => h9) rfl dX2_bound_61 ?_
      refine lv_iload_n hx hb dX2_bound_64 rfl (lv_at hl 2 rfl) ?_
      refine lv_lload_n hx hb dX2_bound_65 rfl (lv_at hl 0 rfl) ?_
      refine lv_lconst (v := 1) hx hb dX2_bound_66 (by decide) ?_
      refine lv_ladd hx hb dX2_bound_67 ?_
      refine lv_topl (fun v12 ev12 => ?_)
      refine lv_iload_n hx hb dX2_bound_68 rfl (lv_at hl 3 rfl) ?_
      refine lv_i2l hx hb dX2_bound_69 rfl ?_
      refine lv_topl (fun v13 ev13 => ?_)
      refine lv_lmul hx hb dX2_bound_70 ?_
      refine lv_topl (fun v14 ev14 => ?_)
      refine lv_lconst (v := 1) hx hb dX2_bound_71 (by decide) ?_
      refine lv_lsub hx hb dX2_bound_72 ?_
      refine lv_topl (fun v15 ev15 => ?_)
      refine lv_ldc2 hx hb hown (hts _ mkl_X2_112) dX2_bound_73 ?_
      refine lv_ldiv hx hb dX2_bound_76 (by decide) ?_
      refine lv_topl (fun v16 ev16 => ?_)
      refine lv_l2i hx hb dX2_bound_77 rfl ?_
      refine lv_topi (fun v17 ev17 => ?_)
      refine xiast (x := v17) hx hb hK hP hD hS 9 (sp) (rfl) (hsp) (by omega) rfl dX2_bound_78 (fun H locs hP hD hS => ?_)
      have hP : PP G [((a 15), .inr (2, [.int (f 0), .int (f 1), .int (f 2), .int (f 3), .int (f 4), .ref (b 3), .ref (a 6), .ref (a 7), .ref (a 8), .ref (a 9), .ref (a 10), .ref (a 11), .ref (a 12), .ref (a 13), .ref (a 14)])), ((a 6), .inl (G.2.2.1, 12, .inl (r 6))), ((a 7), .inl (G.2.1, 12, .inl (r 7))), ((a 8), .inl (G.2.1, 144, .inl (r 8))), ((a 9), .inl (G.2.1, 144, .inl (r 9))), ((a 10), .inl (G.2.1, 144, .inl (r 10))), ((a 11), .inl (G.2.2.1, 144, .inl (r 11))), ((a 12), .inl (G.2.1, 144, .inl (r 12))), ((a 13), .inl (G.2.1, 144, .inl (upd (upd (r 13) (sp) (0)) (sp) (v11)))), ((a 14), .inl (G.2.1, 144, .inl (upd (upd (r 14) (sp) (1073741824)) (sp) (v17))))] H := hP
      have hD := D_as hP hD rfl
      exact wr_vret hx hb hr hlocks hS hP ⟨(fun k => match k with | 6 => (r 6) | 7 => (r 7) | 8 => (r 8) | 9 => (r 9) | 10 => (r 10) | 11 => (r 11) | 12 => (r 12) | 13 => (upd (upd (r 13) (sp) (0)) (sp) (v11)) | 14 => (upd (upd (r 14) (sp) (1073741824)) (sp) (v17)) | _ => (fun _ => 0)), rfl⟩ dX2_bound_79
set_option maxHeartbeats 4000000 in
set_option maxRecDepth 100000 in
theorem c_X2_alsoKeep (l : Launch) (G : GG) (a b : Nat → Nat) (f : Nat → Int32) (r : Nat → Nat → Int32) (sp : Nat) (hsp : sp < 144) : WrV l yX2_alsoKeep cX2_alsoKeep 2 ({ frames := 0, cells := 0, slots := 0, locals := 0 }) G ([((a 15), .inr (2, [.int (f 0), .int (f 1), .int (f 2), .int (f 3), .int (f 4), .ref (b 3), .ref (a 6), .ref (a 7), .ref (a 8), .ref (a 9), .ref (a 10), .ref (a 11), .ref (a 12), .ref (a 13), .ref (a 14)])), ((a 6), .inl (G.2.2.1, 12, .inl (r 6))), ((a 7), .inl (G.2.1, 12, .inl (r 7))), ((a 8), .inl (G.2.1, 144, .inl (r 8))), ((a 9), .inl (G.2.1, 144, .inl (r 9))), ((a 10), .inl (G.2.1, 144, .inl (r 10))), ((a 11), .inl (G.2.2.1, 144, .inl (r 11))), ((a 12), .inl (G.2.1, 144, .inl (r 12))), ((a 13), .inl (G.2.1, 144, .inl (r 13))), ((a 14), .inl (G.2.1, 144, .inl (r 14)))]) [.ref (a 15), .int (nI sp)] (fun w => w = [((a 15), .inr (2, [.int (f 0), .int (f 1), .int (f 2), .int (f 3), .int (-2), .ref (b 3), .ref (a 6), .ref (a 7), .ref (a 8), .ref (a 9), .ref (a 10), .ref (a 11), .ref (a 12), .ref (a 13), .ref (a 14)])), ((a 6), .inl (G.2.2.1, 12, .inl (r 6))), ((a 7), .inl (G.2.1, 12, .inl (r 7))), ((a 8), .inl (G.2.1, 144, .inl (r 8))), ((a 9), .inl (G.2.1, 144, .inl (r 9))), ((a 10), .inl (G.2.1, 144, .inl (r 10))), ((a 11), .inl (G.2.2.1, 144, .inl (upd (r 11) (sp) (1)))), ((a 12), .inl (G.2.1, 144, .inl (r 12))), ((a 13), .inl (G.2.1, 144, .inl (r 13))), ((a 14), .inl (G.2.1, 144, .inl (r 14)))]) := by
  refine wr_entryV (by decide +kernel) (Nat.le_of_ble_eq_true rfl) ?_
  intro p e s m below meth c A C0 hP hK hD hA ls hl
  have hS : va_S A s.heap s.heap [] := va_S.rf
  obtain ⟨hx, hb, hml, hown, hts, hr, hlocks, hin⟩ := C0
  have hown : s.vm.findClass RX2 = some m.cls := hown
  have hl : lv_has ls 2 [(0, .ref (a 15)), (1, .int (nI sp))] := hl
  refine lv_aload_n hx hb dX2_alsoKeep_0 rfl (lv_at hl 0 rfl) ?_
  refine va_get (D := G.1) (ci := 2) (v := .ref (a 11)) (C := RX2) (T := TX2) (N := 15) hx hb hts inX2 hown hK.1 hP 0 rfl rfl 11 (by decide) (hts _ mf_X2_51) (fun _ h9 => h9) rfl dX2_alsoKeep_1 ?_
  refine lv_iload_n hx hb dX2_alsoKeep_4 rfl (lv_at hl 1 rfl) ?_
  refine lv_iconst (v := 1) hx hb dX2_alsoKeep_5 (by decide) ?_
  refine xzast (x := 1) hx hb hK hP hD hS 6 (sp) (rfl) (hsp) (by omega) (Or.inr rfl) rfl dX2_alsoKeep_6 (fun H locs hP hD hS => ?_)
  have hP : PP G [((a 15), .inr (2, [.int (f 0), .int (f 1), .int (f 2), .int (f 3), .int (f 4), .ref (b 3), .ref (a 6), .ref (a 7), .ref (a 8), .ref (a 9), .ref (a 10), .ref (a 11), .ref (a 12), .ref (a 13), .ref (a 14)])), ((a 6), .inl (G.2.2.1, 12, .inl (r 6))), ((a 7), .inl (G.2.1, 12, .inl (r 7))), ((a 8), .inl (G.2.1, 144, .inl (r 8))), ((a 9), .inl (G.2.1, 144, .inl (r 9))), ((a 10), .inl (G.2.1, 144, .inl (r 10))), ((a 11), .inl (G.2.2.1, 144, .inl (upd (r 11) (sp) (1)))), ((a 12), .inl (G.2.1, 144, .inl (r 12))), ((a 13), .inl (G.2.1, 144, .inl (r 13))), ((a 14), .inl (G.2.1, 144, .inl (r 14)))] H := hP
  have hD := D_as hP hD rfl
  refine lv_aload_n hx hb dX2_alsoKeep_7 rfl (lv_at hl 0 rfl) ?_
  refine lv_bipush (v := -2) hx hb dX2_alsoKeep_8 (by decide) ?_
  refine va_put (D := G.1) (ci := 2) (v := .int (-2)) (C := RX2) (T := TX2) (N := 15) hx hb hts inX2 tyX2 tyX2_ok nmX2 hown hK.1 hP hD hS 0 rfl rfl 4 (by decide) (hts _ mf_X2_24) (fun _ h9 => h9) rfl (tyX2_ok 4 (by decide)) (rfl) (rfl) (Nat.le_of_ble_eq_true rfl) dX2_alsoKeep_10 (fun H locs hP hD hS => ?_)
  have hP : PP G [((a 15), .inr (2, [.int (f 0), .int (f 1), .int (f 2), .int (f 3), .int (-2), .ref (b 3), .ref (a 6), .ref (a 7), .ref (a 8), .ref (a 9), .ref (a 10), .ref (a 11), .ref (a 12), .ref (a 13), .ref (a 14)])), ((a 6), .inl (G.2.2.1, 12, .inl (r 6))), ((a 7), .inl (G.2.1, 12, .inl (r 7))), ((a 8), .inl (G.2.1, 144, .inl (r 8))), ((a 9), .inl (G.2.1, 144, .inl (r 9))), ((a 10), .inl (G.2.1, 144, .inl (r 10))), ((a 11), .inl (G.2.2.1, 144, .inl (upd (r 11) (sp) (1)))), ((a 12), .inl (G.2.1, 144, .inl (r 12))), ((a 13), .inl (G.2.1, 144, .inl (r 13))), ((a 14), .inl (G.2.1, 144, .inl (r 14)))] H := hP
  have hD := D_as hP hD rfl
  exact wr_vret hx hb hr hlocks hS hP rfl dX2_alsoKeep_13
set_option maxHeartbeats 4000000 in
set_option maxRecDepth 100000 in
theorem c_X2_blankRow (l : Launch) (G : GG) (a b : Nat → Nat) (f : Nat → Int32) (r : Nat → Nat → Int32) (rw cl : Nat) (hrw : rw ≤ 12) (hcl : cl ≤ 12) (h0 : f 0 = nI rw) (h1 : f 1 = nI cl) (i : Nat) (hi : i < 12) : WrV l yX2_blankRow cX2_blankRow 4 ({ frames := 1, cells := 0, slots := 0, locals := 21 }) G ([((a 15), .inr (2, [.int (f 0), .int (f 1), .int (f 2), .int (f 3), .int (f 4), .ref (b 3), .ref (a 6), .ref (a 7), .ref (a 8), .ref (a 9), .ref (a 10), .ref (a 11), .ref (a 12), .ref (a 13), .ref (a 14)])), ((a 6), .inl (G.2.2.1, 12, .inl (r 6))), ((a 7), .inl (G.2.1, 12, .inl (r 7))), ((a 8), .inl (G.2.1, 144, .inl (r 8))), ((a 9), .inl (G.2.1, 144, .inl (r 9))), ((a 10), .inl (G.2.1, 144, .inl (r 10))), ((a 11), .inl (G.2.2.1, 144, .inl (r 11))), ((a 12), .inl (G.2.1, 144, .inl (r 12))), ((a 13), .inl (G.2.1, 144, .inl (r 13))), ((a 14), .inl (G.2.1, 144, .inl (r 14)))]) [.ref (a 15), .int (nI i)] (fun w => ∃ r2 : Nat → Nat → Int32, w = [((a 15), .inr (2, [.int (f 0), .int (f 1), .int (f 2), .int (f 3), .int (f 4), .ref (b 3), .ref (a 6), .ref (a 7), .ref (a 8), .ref (a 9), .ref (a 10), .ref (a 11), .ref (a 12), .ref (a 13), .ref (a 14)])), ((a 6), .inl (G.2.2.1, 12, .inl (r2 6))), ((a 7), .inl (G.2.1, 12, .inl (r2 7))), ((a 8), .inl (G.2.1, 144, .inl (r2 8))), ((a 9), .inl (G.2.1, 144, .inl (r2 9))), ((a 10), .inl (G.2.1, 144, .inl (r2 10))), ((a 11), .inl (G.2.2.1, 144, .inl (r2 11))), ((a 12), .inl (G.2.1, 144, .inl (r2 12))), ((a 13), .inl (G.2.1, 144, .inl (r2 13))), ((a 14), .inl (G.2.1, 144, .inl (r2 14)))]) := by
  refine wr_entryV (by decide +kernel) (Nat.le_of_ble_eq_true rfl) ?_
  intro p e s m below meth c A C0 hP hK hD hA ls hl
  have hS : va_S A s.heap s.heap [] := va_S.rf
  obtain ⟨hx, hb, hml, hown, hts, hr, hlocks, hin⟩ := C0
  have hown : s.vm.findClass RX2 = some m.cls := hown
  have hl : lv_has ls 4 [(0, .ref (a 15)), (1, .int (nI i))] := hl
  refine lv_iconst (v := 0) hx hb dX2_blankRow_0 (by decide) ?_
  refine lv_istore_n (lv' := [(2, .int 0), (0, .ref (a 15)), (1, .int (nI i))]) hx hb dX2_blankRow_1 rfl hl (by decide) rfl (fun ls hl => ?_)
  have loop : ∀ (k j : Nat) (r2 : Nat → Nat → Int32), j ≤ cl → cl < j + k → ∀ (H : Heap) (locs : List Loc) (ls : Array Slot), PP G ([((a 15), .inr (2, [.int (f 0), .int (f 1), .int (f 2), .int (f 3), .int (f 4), .ref (b 3), .ref (a 6), .ref (a 7), .ref (a 8), .ref (a 9), .ref (a 10), .ref (a 11), .ref (a 12), .ref (a 13), .ref (a 14)])), ((a 6), .inl (G.2.2.1, 12, .inl (r2 6))), ((a 7), .inl (G.2.1, 12, .inl (r2 7))), ((a 8), .inl (G.2.1, 144, .inl (r2 8))), ((a 9), .inl (G.2.1, 144, .inl (r2 9))), ((a 10), .inl (G.2.1, 144, .inl (r2 10))), ((a 11), .inl (G.2.2.1, 144, .inl (r2 11))), ((a 12), .inl (G.2.1, 144, .inl (r2 12))), ((a 13), .inl (G.2.1, 144, .inl (r2 13))), ((a 14), .inl (G.2.1, 144, .inl (r2 14)))]) H → va_S A s.heap H locs → lv_has ls 4 [(0, .ref (a 15)), (1, .int (nI i)), (2, .int (nI j))] → W p l e ({ frames := 1, cells := 0, slots := 0, locals := 21 }) s m ([.ref (a 15), .int (nI i)] : List Value).toArray below meth c H locs 0 0 (MQ below (QwV G (fun w => ∃ r2 : Nat → Nat → Int32, w = [((a 15), .inr (2, [.int (f 0), .int (f 1), .int (f 2), .int (f 3), .int (f 4), .ref (b 3), .ref (a 6), .ref (a 7), .ref (a 8), .ref (a 9), .ref (a 10), .ref (a 11), .ref (a 12), .ref (a 13), .ref (a 14)])), ((a 6), .inl (G.2.2.1, 12, .inl (r2 6))), ((a 7), .inl (G.2.1, 12, .inl (r2 7))), ((a 8), .inl (G.2.1, 144, .inl (r2 8))), ((a 9), .inl (G.2.1, 144, .inl (r2 9))), ((a 10), .inl (G.2.1, 144, .inl (r2 10))), ((a 11), .inl (G.2.2.1, 144, .inl (r2 11))), ((a 12), .inl (G.2.1, 144, .inl (r2 12))), ((a 13), .inl (G.2.1, 144, .inl (r2 13))), ((a 14), .inl (G.2.1, 144, .inl (r2 14)))]) A) ([.ref (a 15), .int (nI i)] : List Value).toArray s 0 0 A) (F0 m 2 ls []) := by
    intro k
    induction k with
    | zero => intro j r2 h1 h2; omega
    | succ k ih =>
      intro j r2 hi_j hk_j  H locs ls hP hS hl
      have hD := D_as2 hP hD rfl
      refine lv_iload_n hx hb dX2_blankRow_2 rfl (lv_at hl 2 rfl) ?_
      refine lv_aload_n hx hb dX2_blankRow_3 rfl (lv_at hl 0 rfl) ?_
      refine va_get (D := G.1) (ci := 2) (v := .int (f 1)) (C := RX2) (T := TX2) (N := 15) hx hb hts inX2 hown hK.1 hP 0 rfl rfl 1 (by decide) (hts _ mf_X2_15) (fun _ h9 => h9) rfl dX2_blankRow_4 ?_
      refine lv_icmp_ge (tgt := 43) hx hb dX2_blankRow_7 (by decide) (fun c1 => ?_) (fun c1 => ?_)
      · rw [h1] at c1
        have hge := ge_t (by omega) (by omega) c1
        have heq : j = cl := by omega
        exact wr_vret hx hb hr hlocks hS hP ⟨r2, rfl⟩ dX2_blankRow_43
      · rw [h1] at c1
        have hlt := ge_f (by omega) (by omega) c1
        refine lv_iload_n hx hb dX2_blankRow_10 rfl (lv_at hl 1 rfl) ?_
        refine lv_iload_n hx hb dX2_blankRow_11 rfl (lv_at hl 2 rfl) ?_
        refine rdSN (rest := []) ⟨hx, hb, hml, hown, hts⟩ (c_X6_spotOf l G ((nI i)) ((nI j))) mi_yX6_spotOf mst_yX6_spotOf (by decide +kernel) ⟨rfl, rfl, Nat.le_of_ble_eq_true rfl, Nat.le_of_ble_eq_true rfl⟩ hK (fun k q h => by simp at h) rfl hl.1 rfl (Nat.le_of_ble_eq_true rfl) dX2_blankRow_12 ⟨Nat.zero_le _, Nat.zero_le _⟩ hS hA hP (fun r2 H locs hr2 hP hS => ?_)
        obtain rfl : r2 = nI (i * 12 + j) := spot_eq hr2
        refine lv_istore_n (lv' := [(3, .int (nI (i * 12 + j))), (0, .ref (a 15)), (1, .int (nI i)), (2, .int (nI j))]) hx hb dX2_blankRow_15 rfl hl (by decide) rfl (fun ls hl => ?_)
        refine lv_aload_n hx hb dX2_blankRow_16 rfl (lv_at hl 1 rfl) ?_
        refine va_get (D := G.1) (ci := 2) (v := .ref (a 8)) (C := RX2) (T := TX2) (N := 15) hx hb hts inX2 hown hK.1 hP 0 rfl rfl 8 (by decide) (hts _ mf_X2_42) (fun _ h9 => h9) rfl dX2_blankRow_17 ?_
        refine lv_iload_n hx hb dX2_blankRow_20 rfl (lv_at hl 0 rfl) ?_
        refine lv_iconst (v := 0) hx hb dX2_blankRow_21 (by decide) ?_
        refine xiast (x := 0) hx hb hK hP hD hS 3 (i * 12 + j) (rfl) (by omega) (by omega) rfl dX2_blankRow_22 (fun H locs hP hD hS => ?_)
        have hP : PP G [((a 15), .inr (2, [.int (f 0), .int (f 1), .int (f 2), .int (f 3), .int (f 4), .ref (b 3), .ref (a 6), .ref (a 7), .ref (a 8), .ref (a 9), .ref (a 10), .ref (a 11), .ref (a 12), .ref (a 13), .ref (a 14)])), ((a 6), .inl (G.2.2.1, 12, .inl (r2 6))), ((a 7), .inl (G.2.1, 12, .inl (r2 7))), ((a 8), .inl (G.2.1, 144, .inl (upd (r2 8) (i * 12 + j) (0)))), ((a 9), .inl (G.2.1, 144, .inl (r2 9))), ((a 10), .inl (G.2.1, 144, .inl (r2 10))), ((a 11), .inl (G.2.2.1, 144, .inl (r2 11))), ((a 12), .inl (G.2.1, 144, .inl (r2 12))), ((a 13), .inl (G.2.1, 144, .inl (r2 13))), ((a 14), .inl (G.2.1, 144, .inl (r2 14)))] H := hP
        have hD := D_as hP hD rfl
        refine lv_aload_n hx hb dX2_blankRow_23 rfl (lv_at hl 1 rfl) ?_
        refine va_get (D := G.1) (ci := 2) (v := .ref (a 10)) (C := RX2) (T := TX2) (N := 15) hx hb hts inX2 hown hK.1 hP 0 rfl rfl 10 (by decide) (hts _ mf_X2_48) (fun _ h9 => h9) rfl dX2_blankRow_24 ?_
        refine lv_iload_n hx hb dX2_blankRow_27 rfl (lv_at hl 0 rfl) ?_
        refine lv_iconst (v := 0) hx hb dX2_blankRow_28 (by decide) ?_
        refine xiast (x := 0) hx hb hK hP hD hS 5 (i * 12 + j) (rfl) (by omega) (by omega) rfl dX2_blankRow_29 (fun H locs hP hD hS => ?_)
        have hP : PP G [((a 15), .inr (2, [.int (f 0), .int (f 1), .int (f 2), .int (f 3), .int (f 4), .ref (b 3), .ref (a 6), .ref (a 7), .ref (a 8), .ref (a 9), .ref (a 10), .ref (a 11), .ref (a 12), .ref (a 13), .ref (a 14)])), ((a 6), .inl (G.2.2.1, 12, .inl (r2 6))), ((a 7), .inl (G.2.1, 12, .inl (r2 7))), ((a 8), .inl (G.2.1, 144, .inl (upd (r2 8) (i * 12 + j) (0)))), ((a 9), .inl (G.2.1, 144, .inl (r2 9))), ((a 10), .inl (G.2.1, 144, .inl (upd (r2 10) (i * 12 + j) (0)))), ((a 11), .inl (G.2.2.1, 144, .inl (r2 11))), ((a 12), .inl (G.2.1, 144, .inl (r2 12))), ((a 13), .inl (G.2.1, 144, .inl (r2 13))), ((a 14), .inl (G.2.1, 144, .inl (r2 14)))] H := hP
        have hD := D_as hP hD rfl
        refine lv_aload_n hx hb dX2_blankRow_30 rfl (lv_at hl 1 rfl) ?_
        refine va_get (D := G.1) (ci := 2) (v := .ref (a 11)) (C := RX2) (T := TX2) (N := 15) hx hb hts inX2 hown hK.1 hP 0 rfl rfl 11 (by decide) (hts _ mf_X2_51) (fun _ h9 => h9) rfl dX2_blankRow_31 ?_
        refine lv_iload_n hx hb dX2_blankRow_34 rfl (lv_at hl 0 rfl) ?_
        refine lv_iconst (v := 0) hx hb dX2_blankRow_35 (by decide) ?_
        refine xzast (x := 0) hx hb hK hP hD hS 6 (i * 12 + j) (rfl) (by omega) (by omega) (Or.inl rfl) rfl dX2_blankRow_36 (fun H locs hP hD hS => ?_)
        have hP : PP G [((a 15), .inr (2, [.int (f 0), .int (f 1), .int (f 2), .int (f 3), .int (f 4), .ref (b 3), .ref (a 6), .ref (a 7), .ref (a 8), .ref (a 9), .ref (a 10), .ref (a 11), .ref (a 12), .ref (a 13), .ref (a 14)])), ((a 6), .inl (G.2.2.1, 12, .inl (r2 6))), ((a 7), .inl (G.2.1, 12, .inl (r2 7))), ((a 8), .inl (G.2.1, 144, .inl (upd (r2 8) (i * 12 + j) (0)))), ((a 9), .inl (G.2.1, 144, .inl (r2 9))), ((a 10), .inl (G.2.1, 144, .inl (upd (r2 10) (i * 12 + j) (0)))), ((a 11), .inl (G.2.2.1, 144, .inl (upd (r2 11) (i * 12 + j) (0)))), ((a 12), .inl (G.2.1, 144, .inl (r2 12))), ((a 13), .inl (G.2.1, 144, .inl (r2 13))), ((a 14), .inl (G.2.1, 144, .inl (r2 14)))] H := hP
        have hD := D_as hP hD rfl
        obtain ⟨v3, ev3⟩ : ∃ y : Int32, y = (nI j) + Int32.ofInt (1) := ⟨_, rfl⟩
        refine lv_iinc (v := v3) (lv' := [(2, .int v3), (3, .int (nI (i * 12 + j))), (0, .ref (a 15)), (1, .int (nI i))]) hx hb dX2_blankRow_37 hl (k := 3) rfl ev3.symm (by decide) rfl (fun ls hl => ?_)
        refine lv_goto (tgt := 2) hx hb dX2_blankRow_40 (by decide) ?_
        exact ih (j + 1) (fun k => match k with | 6 => (r2 6) | 7 => (r2 7) | 8 => (upd (r2 8) (i * 12 + j) (0)) | 9 => (r2 9) | 10 => (upd (r2 10) (i * 12 + j) (0)) | 11 => (upd (r2 11) (i * 12 + j) (0)) | 12 => (r2 12) | 13 => (r2 13) | 14 => (r2 14) | _ => (fun _ => 0)) (by omega) (by omega) _ _ _ hP hS (by have e := nI_inc ev3; rw [e] at hl; exact lv_sub hl [2, 3, 0] rfl)
  exact loop (cl + 1) 0 r (Nat.zero_le _) (by omega) _ _ _ hP hS (lv_sub hl [1, 2, 0] rfl)
set_option maxHeartbeats 4000000 in
set_option maxRecDepth 100000 in
theorem c_X2_keepSecretsAlone (l : Launch) (G : GG) (a b : Nat → Nat) (f : Nat → Int32) (r : Nat → Nat → Int32) (rw cl : Nat) (hrw : rw ≤ 12) (hcl : cl ≤ 12) (h0 : f 0 = nI rw) (h1 : f 1 = nI cl) : WrV l yX2_keepSecretsAlone cX2_keepSecretsAlone 4 ({ frames := 1, cells := 0, slots := 0, locals := 21 }) G ([((a 15), .inr (2, [.int (f 0), .int (f 1), .int (f 2), .int (f 3), .int (f 4), .ref (b 3), .ref (a 6), .ref (a 7), .ref (a 8), .ref (a 9), .ref (a 10), .ref (a 11), .ref (a 12), .ref (a 13), .ref (a 14)])), ((a 6), .inl (G.2.2.1, 12, .inl (r 6))), ((a 7), .inl (G.2.1, 12, .inl (r 7))), ((a 8), .inl (G.2.1, 144, .inl (r 8))), ((a 9), .inl (G.2.1, 144, .inl (r 9))), ((a 10), .inl (G.2.1, 144, .inl (r 10))), ((a 11), .inl (G.2.2.1, 144, .inl (r 11))), ((a 12), .inl (G.2.1, 144, .inl (r 12))), ((a 13), .inl (G.2.1, 144, .inl (r 13))), ((a 14), .inl (G.2.1, 144, .inl (r 14)))]) [.ref (a 15)] (fun w => ∃ r2 : Nat → Nat → Int32, w = [((a 15), .inr (2, [.int (f 0), .int (f 1), .int (f 2), .int (f 3), .int (-2), .ref (b 3), .ref (a 6), .ref (a 7), .ref (a 8), .ref (a 9), .ref (a 10), .ref (a 11), .ref (a 12), .ref (a 13), .ref (a 14)])), ((a 6), .inl (G.2.2.1, 12, .inl (r2 6))), ((a 7), .inl (G.2.1, 12, .inl (r2 7))), ((a 8), .inl (G.2.1, 144, .inl (r2 8))), ((a 9), .inl (G.2.1, 144, .inl (r2 9))), ((a 10), .inl (G.2.1, 144, .inl (r2 10))), ((a 11), .inl (G.2.2.1, 144, .inl (r2 11))), ((a 12), .inl (G.2.1, 144, .inl (r2 12))), ((a 13), .inl (G.2.1, 144, .inl (r2 13))), ((a 14), .inl (G.2.1, 144, .inl (r2 14)))]) := by
  refine wr_entryV (by decide +kernel) (Nat.le_of_ble_eq_true rfl) ?_
  intro p e s m below meth c A C0 hP hK hD hA ls hl
  have hS : va_S A s.heap s.heap [] := va_S.rf
  obtain ⟨hx, hb, hml, hown, hts, hr, hlocks, hin⟩ := C0
  have hown : s.vm.findClass RX2 = some m.cls := hown
  have hl : lv_has ls 4 [(0, .ref (a 15))] := hl
  refine lv_aload_n hx hb dX2_keepSecretsAlone_0 rfl (lv_at hl 0 rfl) ?_
  refine lv_bipush (v := -2) hx hb dX2_keepSecretsAlone_1 (by decide) ?_
  refine va_put (D := G.1) (ci := 2) (v := .int (-2)) (C := RX2) (T := TX2) (N := 15) hx hb hts inX2 tyX2 tyX2_ok nmX2 hown hK.1 hP hD hS 0 rfl rfl 4 (by decide) (hts _ mf_X2_24) (fun _ h9 => h9) rfl (tyX2_ok 4 (by decide)) (rfl) (rfl) (Nat.le_of_ble_eq_true rfl) dX2_keepSecretsAlone_3 (fun H locs hP hD hS => ?_)
  have hP : PP G [((a 15), .inr (2, [.int (f 0), .int (f 1), .int (f 2), .int (f 3), .int (-2), .ref (b 3), .ref (a 6), .ref (a 7), .ref (a 8), .ref (a 9), .ref (a 10), .ref (a 11), .ref (a 12), .ref (a 13), .ref (a 14)])), ((a 6), .inl (G.2.2.1, 12, .inl (r 6))), ((a 7), .inl (G.2.1, 12, .inl (r 7))), ((a 8), .inl (G.2.1, 144, .inl (r 8))), ((a 9), .inl (G.2.1, 144, .inl (r 9))), ((a 10), .inl (G.2.1, 144, .inl (r 10))), ((a 11), .inl (G.2.2.1, 144, .inl (r 11))), ((a 12), .inl (G.2.1, 144, .inl (r 12))), ((a 13), .inl (G.2.1, 144, .inl (r 13))), ((a 14), .inl (G.2.1, 144, .inl (r 14)))] H := hP
  have hD := D_as hP hD rfl
  refine lv_iconst (v := 0) hx hb dX2_keepSecretsAlone_6 (by decide) ?_
  refine lv_istore_n (lv' := [(1, .int 0), (0, .ref (a 15))]) hx hb dX2_keepSecretsAlone_7 rfl hl (by decide) rfl (fun ls hl => ?_)
  have outer : ∀ (k i : Nat) (r2 : Nat → Nat → Int32), i ≤ rw → rw < i + k → ∀ (H : Heap) (locs : List Loc) (ls : Array Slot), PP G ([((a 15), .inr (2, [.int (f 0), .int (f 1), .int (f 2), .int (f 3), .int (-2), .ref (b 3), .ref (a 6), .ref (a 7), .ref (a 8), .ref (a 9), .ref (a 10), .ref (a 11), .ref (a 12), .ref (a 13), .ref (a 14)])), ((a 6), .inl (G.2.2.1, 12, .inl (r2 6))), ((a 7), .inl (G.2.1, 12, .inl (r2 7))), ((a 8), .inl (G.2.1, 144, .inl (r2 8))), ((a 9), .inl (G.2.1, 144, .inl (r2 9))), ((a 10), .inl (G.2.1, 144, .inl (r2 10))), ((a 11), .inl (G.2.2.1, 144, .inl (r2 11))), ((a 12), .inl (G.2.1, 144, .inl (r2 12))), ((a 13), .inl (G.2.1, 144, .inl (r2 13))), ((a 14), .inl (G.2.1, 144, .inl (r2 14)))]) H → va_S A s.heap H locs → lv_has ls 4 [(0, .ref (a 15)), (1, .int (nI i))] → W p l e ({ frames := 1, cells := 0, slots := 0, locals := 21 }) s m ([.ref (a 15)] : List Value).toArray below meth c H locs 0 0 (MQ below (QwV G (fun w => ∃ r2 : Nat → Nat → Int32, w = [((a 15), .inr (2, [.int (f 0), .int (f 1), .int (f 2), .int (f 3), .int (-2), .ref (b 3), .ref (a 6), .ref (a 7), .ref (a 8), .ref (a 9), .ref (a 10), .ref (a 11), .ref (a 12), .ref (a 13), .ref (a 14)])), ((a 6), .inl (G.2.2.1, 12, .inl (r2 6))), ((a 7), .inl (G.2.1, 12, .inl (r2 7))), ((a 8), .inl (G.2.1, 144, .inl (r2 8))), ((a 9), .inl (G.2.1, 144, .inl (r2 9))), ((a 10), .inl (G.2.1, 144, .inl (r2 10))), ((a 11), .inl (G.2.2.1, 144, .inl (r2 11))), ((a 12), .inl (G.2.1, 144, .inl (r2 12))), ((a 13), .inl (G.2.1, 144, .inl (r2 13))), ((a 14), .inl (G.2.1, 144, .inl (r2 14)))]) A) ([.ref (a 15)] : List Value).toArray s 0 0 A) (F0 m 8 ls []) := by
    intro k
    induction k with
    | zero => intro i r2 h1 h2; omega
    | succ k ih =>
      intro i r2 hi_i hk_i  H locs ls hP hS hl
      have hD := D_as2 hP hD rfl
      refine lv_iload_n hx hb dX2_keepSecretsAlone_8 rfl (lv_at hl 1 rfl) ?_
      refine lv_aload_n hx hb dX2_keepSecretsAlone_9 rfl (lv_at hl 0 rfl) ?_
      refine va_get (D := G.1) (ci := 2) (v := .int (f 0)) (C := RX2) (T := TX2) (N := 15) hx hb hts inX2 hown hK.1 hP 0 rfl rfl 0 (by decide) (hts _ mf_X2_9) (fun _ h9 => h9) rfl dX2_keepSecretsAlone_10 ?_
      refine lv_icmp_ge (tgt := 76) hx hb dX2_keepSecretsAlone_13 (by decide) (fun c1 => ?_) (fun c1 => ?_)
      · rw [h0] at c1
        have hge := ge_t (by omega) (by omega) c1
        have heq : i = rw := by omega
        exact wr_vret hx hb hr hlocks hS hP ⟨r2, rfl⟩ dX2_keepSecretsAlone_76
      · rw [h0] at c1
        have hlt := ge_f (by omega) (by omega) c1
        refine lv_iconst (v := 0) hx hb dX2_keepSecretsAlone_16 (by decide) ?_
        refine lv_istore_n (lv' := [(2, .int 0), (0, .ref (a 15)), (1, .int (nI i))]) hx hb dX2_keepSecretsAlone_17 rfl hl (by decide) rfl (fun ls hl => ?_)
        have inner : ∀ (k2 j : Nat) (r2 : Nat → Nat → Int32), j ≤ cl → cl < j + k2 → ∀ (H : Heap) (locs : List Loc) (ls : Array Slot), PP G ([((a 15), .inr (2, [.int (f 0), .int (f 1), .int (f 2), .int (f 3), .int (-2), .ref (b 3), .ref (a 6), .ref (a 7), .ref (a 8), .ref (a 9), .ref (a 10), .ref (a 11), .ref (a 12), .ref (a 13), .ref (a 14)])), ((a 6), .inl (G.2.2.1, 12, .inl (r2 6))), ((a 7), .inl (G.2.1, 12, .inl (r2 7))), ((a 8), .inl (G.2.1, 144, .inl (r2 8))), ((a 9), .inl (G.2.1, 144, .inl (r2 9))), ((a 10), .inl (G.2.1, 144, .inl (r2 10))), ((a 11), .inl (G.2.2.1, 144, .inl (r2 11))), ((a 12), .inl (G.2.1, 144, .inl (r2 12))), ((a 13), .inl (G.2.1, 144, .inl (r2 13))), ((a 14), .inl (G.2.1, 144, .inl (r2 14)))]) H → va_S A s.heap H locs → lv_has ls 4 [(0, .ref (a 15)), (1, .int (nI i)), (2, .int (nI j))] → W p l e ({ frames := 1, cells := 0, slots := 0, locals := 21 }) s m ([.ref (a 15)] : List Value).toArray below meth c H locs 0 0 (MQ below (QwV G (fun w => ∃ r2 : Nat → Nat → Int32, w = [((a 15), .inr (2, [.int (f 0), .int (f 1), .int (f 2), .int (f 3), .int (-2), .ref (b 3), .ref (a 6), .ref (a 7), .ref (a 8), .ref (a 9), .ref (a 10), .ref (a 11), .ref (a 12), .ref (a 13), .ref (a 14)])), ((a 6), .inl (G.2.2.1, 12, .inl (r2 6))), ((a 7), .inl (G.2.1, 12, .inl (r2 7))), ((a 8), .inl (G.2.1, 144, .inl (r2 8))), ((a 9), .inl (G.2.1, 144, .inl (r2 9))), ((a 10), .inl (G.2.1, 144, .inl (r2 10))), ((a 11), .inl (G.2.2.1, 144, .inl (r2 11))), ((a 12), .inl (G.2.1, 144, .inl (r2 12))), ((a 13), .inl (G.2.1, 144, .inl (r2 13))), ((a 14), .inl (G.2.1, 144, .inl (r2 14)))]) A) ([.ref (a 15)] : List Value).toArray s 0 0 A) (F0 m 18 ls []) := by
          intro k2
          induction k2 with
          | zero => intro j r2 h1 h2; omega
          | succ k2 ih2 =>
            intro j r2 hi_j hk_j  H locs ls hP hS hl
            have hD := D_as2 hP hD rfl
            refine lv_iload_n hx hb dX2_keepSecretsAlone_18 rfl (lv_at hl 2 rfl) ?_
            refine lv_aload_n hx hb dX2_keepSecretsAlone_19 rfl (lv_at hl 0 rfl) ?_
            refine va_get (D := G.1) (ci := 2) (v := .int (f 1)) (C := RX2) (T := TX2) (N := 15) hx hb hts inX2 hown hK.1 hP 0 rfl rfl 1 (by decide) (hts _ mf_X2_15) (fun _ h9 => h9) rfl dX2_keepSecretsAlone_20 ?_
            refine lv_icmp_ge (tgt := 70) hx hb dX2_keepSecretsAlone_23 (by decide) (fun c2 => ?_) (fun c2 => ?_)
            · rw [h1] at c2
              have hge2 := ge_t (by omega) (by omega) c2
              have heq2 : j = cl := by omega
              obtain ⟨v3, ev3⟩ : ∃ y : Int32, y = (nI i) + Int32.ofInt (1) := ⟨_, rfl⟩
              refine lv_iinc (v := v3) (lv' := [(1, .int v3), (0, .ref (a 15)), (2, .int (nI j))]) hx hb dX2_keepSecretsAlone_70 hl (k := 1) rfl ev3.symm (by decide) rfl (fun ls hl => ?_)
              refine lv_goto (tgt := 8) hx hb dX2_keepSecretsAlone_73 (by decide) ?_
              exact ih (i + 1) (fun k => match k with | 6 => (r2 6) | 7 => (r2 7) | 8 => (r2 8) | 9 => (r2 9) | 10 => (r2 10) | 11 => (r2 11) | 12 => (r2 12) | 13 => (r2 13) | 14 => (r2 14) | _ => (fun _ => 0)) (by omega) (by omega) _ _ _ hP hS (by have e := nI_inc ev3; rw [e] at hl; exact lv_sub hl [1, 0] rfl)
            · rw [h1] at c2
              have hlt2 := ge_f (by omega) (by omega) c2
              refine lv_iload_n hx hb dX2_keepSecretsAlone_26 rfl (lv_at hl 1 rfl) ?_
              refine lv_iload_n hx hb dX2_keepSecretsAlone_27 rfl (lv_at hl 2 rfl) ?_
              refine rdSN (rest := []) ⟨hx, hb, hml, hown, hts⟩ (c_X6_spotOf l G ((nI i)) ((nI j))) mi_yX6_spotOf mst_yX6_spotOf (by decide +kernel) ⟨rfl, rfl, Nat.le_of_ble_eq_true rfl, Nat.le_of_ble_eq_true rfl⟩ hK (fun k q h => by simp at h) rfl hl.1 rfl (Nat.le_of_ble_eq_true rfl) dX2_keepSecretsAlone_28 ⟨Nat.zero_le _, Nat.zero_le _⟩ hS hA hP (fun r4 H locs hr4 hP hS => ?_)
              obtain rfl : r4 = nI (i * 12 + j) := spot_eq hr4
              refine lv_istore_n (lv' := [(3, .int (nI (i * 12 + j))), (0, .ref (a 15)), (1, .int (nI i)), (2, .int (nI j))]) hx hb dX2_keepSecretsAlone_31 rfl hl (by decide) rfl (fun ls hl => ?_)
              refine lv_aload_n hx hb dX2_keepSecretsAlone_32 rfl (lv_at hl 1 rfl) ?_
              refine va_get (D := G.1) (ci := 2) (v := .ref (a 11)) (C := RX2) (T := TX2) (N := 15) hx hb hts inX2 hown hK.1 hP 0 rfl rfl 11 (by decide) (hts _ mf_X2_51) (fun _ h9 => h9) rfl dX2_keepSecretsAlone_33 ?_
              refine lv_iload_n hx hb dX2_keepSecretsAlone_36 rfl (lv_at hl 0 rfl) ?_
              refine lv_aload_n hx hb dX2_keepSecretsAlone_37 rfl (lv_at hl 1 rfl) ?_
              refine va_get (D := G.1) (ci := 2) (v := .ref (a 10)) (C := RX2) (T := TX2) (N := 15) hx hb hts inX2 hown hK.1 hP 0 rfl rfl 10 (by decide) (hts _ mf_X2_48) (fun _ h9 => h9) rfl dX2_keepSecretsAlone_38 ?_
              refine lv_iload_n hx hb dX2_keepSecretsAlone_41 rfl (lv_at hl 0 rfl) ?_
              refine xiald hx hb hK hP 5 (i * 12 + j) (rfl) (by omega) (by omega) rfl dX2_keepSecretsAlone_42 ?_
              refine lv_topi (fun v5 ev5 => ?_)
              refine lv_if_eq (tgt := 50) hx hb dX2_keepSecretsAlone_43 (by decide) (fun c6 => ?_) (fun c6 => ?_)
              · refine lv_iconst (v := 0) hx hb dX2_keepSecretsAlone_50 (by decide) ?_
                refine xzast (x := 0) hx hb hK hP hD hS 6 (i * 12 + j) (rfl) (by omega) (by omega) (Or.inl rfl) rfl dX2_keepSecretsAlone_51 (fun H locs hP hD hS => ?_)
                have hP : PP G [((a 15), .inr (2, [.int (f 0), .int (f 1), .int (f 2), .int (f 3), .int (-2), .ref (b 3), .ref (a 6), .ref (a 7), .ref (a 8), .ref (a 9), .ref (a 10), .ref (a 11), .ref (a 12), .ref (a 13), .ref (a 14)])), ((a 6), .inl (G.2.2.1, 12, .inl (r2 6))), ((a 7), .inl (G.2.1, 12, .inl (r2 7))), ((a 8), .inl (G.2.1, 144, .inl (r2 8))), ((a 9), .inl (G.2.1, 144, .inl (r2 9))), ((a 10), .inl (G.2.1, 144, .inl (r2 10))), ((a 11), .inl (G.2.2.1, 144, .inl (upd (r2 11) (i * 12 + j) (0)))), ((a 12), .inl (G.2.1, 144, .inl (r2 12))), ((a 13), .inl (G.2.1, 144, .inl (r2 13))), ((a 14), .inl (G.2.1, 144, .inl (r2 14)))] H := hP
                have hD := D_as hP hD rfl
                refine lv_aload_n hx hb dX2_keepSecretsAlone_52 rfl (lv_at hl 1 rfl) ?_
                refine va_get (D := G.1) (ci := 2) (v := .ref (a 12)) (C := RX2) (T := TX2) (N := 15) hx hb hts inX2 hown hK.1 hP 0 rfl rfl 12 (by decide) (hts _ mf_X2_54) (fun _ h9 => h9) rfl dX2_keepSecretsAlone_53 ?_
                refine lv_iload_n hx hb dX2_keepSecretsAlone_56 rfl (lv_at hl 0 rfl) ?_
                refine lv_aload_n hx hb dX2_keepSecretsAlone_57 rfl (lv_at hl 1 rfl) ?_
                refine va_get (D := G.1) (ci := 2) (v := .ref (a 9)) (C := RX2) (T := TX2) (N := 15) hx hb hts inX2 hown hK.1 hP 0 rfl rfl 9 (by decide) (hts _ mf_X2_45) (fun _ h9 => h9) rfl dX2_keepSecretsAlone_58 ?_
                refine lv_iload_n hx hb dX2_keepSecretsAlone_61 rfl (lv_at hl 0 rfl) ?_
                refine xiald hx hb hK hP 4 (i * 12 + j) (rfl) (by omega) (by omega) rfl dX2_keepSecretsAlone_62 ?_
                refine lv_topi (fun v7 ev7 => ?_)
                refine xiast (x := v7) hx hb hK hP hD hS 7 (i * 12 + j) (rfl) (by omega) (by omega) rfl dX2_keepSecretsAlone_63 (fun H locs hP hD hS => ?_)
                have hP : PP G [((a 15), .inr (2, [.int (f 0), .int (f 1), .int (f 2), .int (f 3), .int (-2), .ref (b 3), .ref (a 6), .ref (a 7), .ref (a 8), .ref (a 9), .ref (a 10), .ref (a 11), .ref (a 12), .ref (a 13), .ref (a 14)])), ((a 6), .inl (G.2.2.1, 12, .inl (r2 6))), ((a 7), .inl (G.2.1, 12, .inl (r2 7))), ((a 8), .inl (G.2.1, 144, .inl (r2 8))), ((a 9), .inl (G.2.1, 144, .inl (r2 9))), ((a 10), .inl (G.2.1, 144, .inl (r2 10))), ((a 11), .inl (G.2.2.1, 144, .inl (upd (r2 11) (i * 12 + j) (0)))), ((a 12), .inl (G.2.1, 144, .inl (upd (r2 12) (i * 12 + j) (v7)))), ((a 13), .inl (G.2.1, 144, .inl (r2 13))), ((a 14), .inl (G.2.1, 144, .inl (r2 14)))] H := hP
                have hD := D_as hP hD rfl
                obtain ⟨v8, ev8⟩ : ∃ y : Int32, y = (nI j) + Int32.ofInt (1) := ⟨_, rfl⟩
                refine lv_iinc (v := v8) (lv' := [(2, .int v8), (3, .int (nI (i * 12 + j))), (0, .ref (a 15)), (1, .int (nI i))]) hx hb dX2_keepSecretsAlone_64 hl (k := 3) rfl ev8.symm (by decide) rfl (fun ls hl => ?_)
                refine lv_goto (tgt := 18) hx hb dX2_keepSecretsAlone_67 (by decide) ?_
                exact ih2 (j + 1) (fun k => match k with | 6 => (r2 6) | 7 => (r2 7) | 8 => (r2 8) | 9 => (r2 9) | 10 => (r2 10) | 11 => (upd (r2 11) (i * 12 + j) (0)) | 12 => (upd (r2 12) (i * 12 + j) (v7)) | 13 => (r2 13) | 14 => (r2 14) | _ => (fun _ => 0)) (by omega) (by omega) _ _ _ hP hS (by have e := nI_inc ev8; rw [e] at hl; exact lv_sub hl [2, 3, 0] rfl)
              · refine lv_iconst (v := 1) hx hb dX2_keepSecretsAlone_46 (by decide) ?_
                refine lv_goto (tgt := 51) hx hb dX2_keepSecretsAlone_47 (by decide) ?_
                refine xzast (x := 1) hx hb hK hP hD hS 6 (i * 12 + j) (rfl) (by omega) (by omega) (Or.inr rfl) rfl dX2_keepSecretsAlone_51 (fun H locs hP hD hS => ?_)
                have hP : PP G [((a 15), .inr (2, [.int (f 0), .int (f 1), .int (f 2), .int (f 3), .int (-2), .ref (b 3), .ref (a 6), .ref (a 7), .ref (a 8), .ref (a 9), .ref (a 10), .ref (a 11), .ref (a 12), .ref (a 13), .ref (a 14)])), ((a 6), .inl (G.2.2.1, 12, .inl (r2 6))), ((a 7), .inl (G.2.1, 12, .inl (r2 7))), ((a 8), .inl (G.2.1, 144, .inl (r2 8))), ((a 9), .inl (G.2.1, 144, .inl (r2 9))), ((a 10), .inl (G.2.1, 144, .inl (r2 10))), ((a 11), .inl (G.2.2.1, 144, .inl (upd (r2 11) (i * 12 + j) (1)))), ((a 12), .inl (G.2.1, 144, .inl (r2 12))), ((a 13), .inl (G.2.1, 144, .inl (r2 13))), ((a 14), .inl (G.2.1, 144, .inl (r2 14)))] H := hP
                have hD := D_as hP hD rfl
                refine lv_aload_n hx hb dX2_keepSecretsAlone_52 rfl (lv_at hl 1 rfl) ?_
                refine va_get (D := G.1) (ci := 2) (v := .ref (a 12)) (C := RX2) (T := TX2) (N := 15) hx hb hts inX2 hown hK.1 hP 0 rfl rfl 12 (by decide) (hts _ mf_X2_54) (fun _ h9 => h9) rfl dX2_keepSecretsAlone_53 ?_
                refine lv_iload_n hx hb dX2_keepSecretsAlone_56 rfl (lv_at hl 0 rfl) ?_
                refine lv_aload_n hx hb dX2_keepSecretsAlone_57 rfl (lv_at hl 1 rfl) ?_
                refine va_get (D := G.1) (ci := 2) (v := .ref (a 9)) (C := RX2) (T := TX2) (N := 15) hx hb hts inX2 hown hK.1 hP 0 rfl rfl 9 (by decide) (hts _ mf_X2_45) (fun _ h9 => h9) rfl dX2_keepSecretsAlone_58 ?_
                refine lv_iload_n hx hb dX2_keepSecretsAlone_61 rfl (lv_at hl 0 rfl) ?_
                refine xiald hx hb hK hP 4 (i * 12 + j) (rfl) (by omega) (by omega) rfl dX2_keepSecretsAlone_62 ?_
                refine lv_topi (fun v9 ev9 => ?_)
                refine xiast (x := v9) hx hb hK hP hD hS 7 (i * 12 + j) (rfl) (by omega) (by omega) rfl dX2_keepSecretsAlone_63 (fun H locs hP hD hS => ?_)
                have hP : PP G [((a 15), .inr (2, [.int (f 0), .int (f 1), .int (f 2), .int (f 3), .int (-2), .ref (b 3), .ref (a 6), .ref (a 7), .ref (a 8), .ref (a 9), .ref (a 10), .ref (a 11), .ref (a 12), .ref (a 13), .ref (a 14)])), ((a 6), .inl (G.2.2.1, 12, .inl (r2 6))), ((a 7), .inl (G.2.1, 12, .inl (r2 7))), ((a 8), .inl (G.2.1, 144, .inl (r2 8))), ((a 9), .inl (G.2.1, 144, .inl (r2 9))), ((a 10), .inl (G.2.1, 144, .inl (r2 10))), ((a 11), .inl (G.2.2.1, 144, .inl (upd (r2 11) (i * 12 + j) (1)))), ((a 12), .inl (G.2.1, 144, .inl (upd (r2 12) (i * 12 + j) (v9)))), ((a 13), .inl (G.2.1, 144, .inl (r2 13))), ((a 14), .inl (G.2.1, 144, .inl (r2 14)))] H := hP
                have hD := D_as hP hD rfl
                obtain ⟨v10, ev10⟩ : ∃ y : Int32, y = (nI j) + Int32.ofInt (1) := ⟨_, rfl⟩
                refine lv_iinc (v := v10) (lv' := [(2, .int v10), (3, .int (nI (i * 12 + j))), (0, .ref (a 15)), (1, .int (nI i))]) hx hb dX2_keepSecretsAlone_64 hl (k := 3) rfl ev10.symm (by decide) rfl (fun ls hl => ?_)
                refine lv_goto (tgt := 18) hx hb dX2_keepSecretsAlone_67 (by decide) ?_
                exact ih2 (j + 1) (fun k => match k with | 6 => (r2 6) | 7 => (r2 7) | 8 => (r2 8) | 9 => (r2 9) | 10 => (r2 10) | 11 => (upd (r2 11) (i * 12 + j) (1)) | 12 => (upd (r2 12) (i * 12 + j) (v9)) | 13 => (r2 13) | 14 => (r2 14) | _ => (fun _ => 0)) (by omega) (by omega) _ _ _ hP hS (by have e := nI_inc ev10; rw [e] at hl; exact lv_sub hl [2, 3, 0] rfl)
        exact inner (cl + 1) 0 r2 (Nat.zero_le _) (by omega) _ _ _ hP hS (lv_sub hl [1, 2, 0] rfl)
  exact outer (rw + 1) 0 r (Nat.zero_le _) (by omega) _ _ _ hP hS (lv_sub hl [1, 0] rfl)
set_option maxHeartbeats 4000000 in
set_option maxRecDepth 100000 in
theorem c_X2_refresh (l : Launch) (G : GG) (a b : Nat → Nat) (f : Nat → Int32) (r : Nat → Nat → Int32) (q : Nat → Nat → Int32) (rc : Int32) (i j : Nat) (hi : i < 12) (hj : j < 12) : WrV l yX2_refresh cX2_refresh 6 ({ frames := 1, cells := 0, slots := 0, locals := 26 }) G ([((a 15), .inr (2, [.int (f 0), .int (f 1), .int (f 2), .int (f 3), .int (f 4), .ref (b 3), .ref (a 6), .ref (a 7), .ref (a 8), .ref (a 9), .ref (a 10), .ref (a 11), .ref (a 12), .ref (a 13), .ref (a 14)])), ((a 6), .inl (G.2.2.1, 12, .inl (r 6))), ((a 7), .inl (G.2.1, 12, .inl (r 7))), ((a 8), .inl (G.2.1, 144, .inl (r 8))), ((a 9), .inl (G.2.1, 144, .inl (r 9))), ((a 10), .inl (G.2.1, 144, .inl (r 10))), ((a 11), .inl (G.2.2.1, 144, .inl (r 11))), ((a 12), .inl (G.2.1, 144, .inl (r 12))), ((a 13), .inl (G.2.1, 144, .inl (r 13))), ((a 14), .inl (G.2.1, 144, .inl (r 14))), ((b 3), .inr (5, [.ref (b 0), .ref (b 1), .ref (b 2), .int rc])), ((b 0), .inl (G.2.1, 25, .inl (q 0))), ((b 1), .inl (G.2.1, 25, .inl (q 1))), ((b 2), .inl (G.2.1, 25, .inl (q 2)))]) [.ref (a 15), .int (nI i), .int (nI j)] (fun w => ∃ z1 z2 : Int32, w = [((a 15), .inr (2, [.int (f 0), .int (f 1), .int (f 2), .int (f 3), .int (f 4), .ref (b 3), .ref (a 6), .ref (a 7), .ref (a 8), .ref (a 9), .ref (a 10), .ref (a 11), .ref (a 12), .ref (a 13), .ref (a 14)])), ((a 6), .inl (G.2.2.1, 12, .inl (r 6))), ((a 7), .inl (G.2.1, 12, .inl (r 7))), ((a 8), .inl (G.2.1, 144, .inl (r 8))), ((a 9), .inl (G.2.1, 144, .inl (r 9))), ((a 10), .inl (G.2.1, 144, .inl (r 10))), ((a 11), .inl (G.2.2.1, 144, .inl (r 11))), ((a 12), .inl (G.2.1, 144, .inl (r 12))), ((a 13), .inl (G.2.1, 144, .inl (r 13))), ((a 14), .inl (G.2.1, 144, .inl (r 14))), ((b 3), .inr (5, [.ref (b 0), .ref (b 1), .ref (b 2), .int rc])), ((b 0), .inl (G.2.1, 25, .inl (jnF (q 0) i (12 + j) z1 z2))), ((b 1), .inl (G.2.1, 25, .inl (q 1))), ((b 2), .inl (G.2.1, 25, .inl (q 2)))]) := by
  refine wr_entryV (by decide +kernel) (Nat.le_of_ble_eq_true rfl) ?_
  intro p e s m below meth c A C0 hP hK hD hA ls hl
  have hS : va_S A s.heap s.heap [] := va_S.rf
  obtain ⟨hx, hb, hml, hown, hts, hr, hlocks, hin⟩ := C0
  have hown : s.vm.findClass RX2 = some m.cls := hown
  have hl : lv_has ls 6 [(0, .ref (a 15)), (1, .int (nI i)), (2, .int (nI j))] := hl
  refine lv_iload_n hx hb dX2_refresh_0 rfl (lv_at hl 1 rfl) ?_
  refine lv_iload_n hx hb dX2_refresh_1 rfl (lv_at hl 2 rfl) ?_
  refine rdSN (rest := []) ⟨hx, hb, hml, hown, hts⟩ (c_X6_spotOf l G ((nI i)) ((nI j))) mi_yX6_spotOf mst_yX6_spotOf (by decide +kernel) ⟨rfl, rfl, Nat.le_of_ble_eq_true rfl, Nat.le_of_ble_eq_true rfl⟩ hK (fun k q h => by simp at h) rfl hl.1 rfl (Nat.le_of_ble_eq_true rfl) dX2_refresh_2 ⟨Nat.zero_le _, Nat.zero_le _⟩ hS hA hP (fun r1 H locs hr1 hP hS => ?_)
  obtain rfl : r1 = nI (i * 12 + j) := spot_eq hr1
  refine lv_istore_n (lv' := [(3, .int (nI (i * 12 + j))), (0, .ref (a 15)), (1, .int (nI i)), (2, .int (nI j))]) hx hb dX2_refresh_5 rfl hl (by decide) rfl (fun ls hl => ?_)
  refine lv_aload_n hx hb dX2_refresh_6 rfl (lv_at hl 1 rfl) ?_
  refine va_get (D := G.1) (ci := 2) (v := .ref (a 11)) (C := RX2) (T := TX2) (N := 15) hx hb hts inX2 hown hK.1 hP 0 rfl rfl 11 (by decide) (hts _ mf_X2_51) (fun _ h9 => h9) rfl dX2_refresh_7 ?_
  refine lv_iload_n hx hb dX2_refresh_10 rfl (lv_at hl 0 rfl) ?_
  refine xzald hx hb hK hP 6 (i * 12 + j) (rfl) (by omega) (by omega) rfl dX2_refresh_11 ?_
  refine lv_topi (fun v2 ev2 => ?_)
  refine lv_if_eq (tgt := 34) hx hb dX2_refresh_12 (by decide) (fun c3 => ?_) (fun c3 => ?_)
  · refine lv_iconst (v := 0) hx hb dX2_refresh_34 (by decide) ?_
    refine lv_istore (lv' := [(4, .int 0), (3, .int (nI (i * 12 + j))), (0, .ref (a 15)), (1, .int (nI i)), (2, .int (nI j))]) hx hb dX2_refresh_35 hl (by decide) rfl (fun ls hl => ?_)
    refine lv_aload_n hx hb dX2_refresh_37 rfl (lv_at hl 2 rfl) ?_
    refine va_get (D := G.1) (ci := 2) (v := .ref (a 11)) (C := RX2) (T := TX2) (N := 15) hx hb hts inX2 hown hK.1 hP 0 rfl rfl 11 (by decide) (hts _ mf_X2_51) (fun _ h9 => h9) rfl dX2_refresh_38 ?_
    refine lv_iload_n hx hb dX2_refresh_41 rfl (lv_at hl 1 rfl) ?_
    refine xzald hx hb hK hP 6 (i * 12 + j) (rfl) (by omega) (by omega) rfl dX2_refresh_42 ?_
    refine lv_topi (fun v4 ev4 => ?_)
    refine lv_if_eq (tgt := 65) hx hb dX2_refresh_43 (by decide) (fun c5 => ?_) (fun c5 => ?_)
    · refine lv_iconst (v := 0) hx hb dX2_refresh_65 (by decide) ?_
      refine lv_istore (lv' := [(5, .int 0), (4, .int 0), (3, .int (nI (i * 12 + j))), (0, .ref (a 15)), (1, .int (nI i)), (2, .int (nI j))]) hx hb dX2_refresh_66 hl (by decide) rfl (fun ls hl => ?_)
      refine lv_aload_n hx hb dX2_refresh_68 rfl (lv_at hl 3 rfl) ?_
      refine va_get (D := G.1) (ci := 2) (v := .ref (b 3)) (C := RX2) (T := TX2) (N := 15) hx hb hts inX2 hown hK.1 hP 0 rfl rfl 5 (by decide) (hts _ mf_X2_30) (fun _ h9 => h9) rfl dX2_refresh_69 ?_
      refine lv_iload_n hx hb dX2_refresh_72 rfl (lv_at hl 4 rfl) ?_
      refine lv_bipush (v := 12) hx hb dX2_refresh_73 (by decide) ?_
      refine lv_iload_n hx hb dX2_refresh_75 rfl (lv_at hl 5 rfl) ?_
      refine lv_iadd hx hb dX2_refresh_76 ?_
      refine lv_topi (fun v6 ev6 => ?_)
      refine lv_iload hx hb dX2_refresh_77 (lv_at hl 1 rfl) ?_
      refine lv_iload hx hb dX2_refresh_79 (lv_at hl 0 rfl) ?_
      obtain rfl : v6 = nI (12 + j) := nI_plus (i := 12) ev6 rfl rfl
      refine wrVV (rest := []) (q0 := 0) ⟨hx, hb, hml, hown, hts⟩ (c_X5_join l G b q rc i (12 + j) 0 0 (by omega) (by omega)) mi_yX5_join mv_yX5_join ml_X2_120 ⟨rfl, rfl, Nat.le_of_ble_eq_true rfl, Nat.le_of_ble_eq_true rfl⟩ hK hP hD [10, 11, 12, 13] rfl (by decide) rfl rfl rfl hl.1 rfl (Nat.le_of_ble_eq_true rfl) dX2_refresh_81 ⟨Nat.zero_le _, Nat.zero_le _⟩ hS hA (fun w8 H locs hw8 hP hS => ?_)
      obtain rfl := hw8
      have hP : PP G [((a 15), .inr (2, [.int (f 0), .int (f 1), .int (f 2), .int (f 3), .int (f 4), .ref (b 3), .ref (a 6), .ref (a 7), .ref (a 8), .ref (a 9), .ref (a 10), .ref (a 11), .ref (a 12), .ref (a 13), .ref (a 14)])), ((a 6), .inl (G.2.2.1, 12, .inl (r 6))), ((a 7), .inl (G.2.1, 12, .inl (r 7))), ((a 8), .inl (G.2.1, 144, .inl (r 8))), ((a 9), .inl (G.2.1, 144, .inl (r 9))), ((a 10), .inl (G.2.1, 144, .inl (r 10))), ((a 11), .inl (G.2.2.1, 144, .inl (r 11))), ((a 12), .inl (G.2.1, 144, .inl (r 12))), ((a 13), .inl (G.2.1, 144, .inl (r 13))), ((a 14), .inl (G.2.1, 144, .inl (r 14))), ((b 3), .inr (5, [.ref (b 0), .ref (b 1), .ref (b 2), .int rc])), ((b 0), .inl (G.2.1, 25, .inl (jnF (q 0) i (12 + j) 0 0))), ((b 1), .inl (G.2.1, 25, .inl (q 1))), ((b 2), .inl (G.2.1, 25, .inl (q 2)))] H := hP rfl
      have hD := D_as2 hP hD rfl
      exact wr_vret hx hb hr hlocks hS hP ⟨0, 0, rfl⟩ dX2_refresh_84
    · refine lv_aload_n hx hb dX2_refresh_46 rfl (lv_at hl 2 rfl) ?_
      refine va_get (D := G.1) (ci := 2) (v := .ref (a 12)) (C := RX2) (T := TX2) (N := 15) hx hb hts inX2 hown hK.1 hP 0 rfl rfl 12 (by decide) (hts _ mf_X2_54) (fun _ h9 => h9) rfl dX2_refresh_47 ?_
      refine lv_iload_n hx hb dX2_refresh_50 rfl (lv_at hl 1 rfl) ?_
      refine xiald hx hb hK hP 7 (i * 12 + j) (rfl) (by omega) (by omega) rfl dX2_refresh_51 ?_
      refine lv_topi (fun v9 ev9 => ?_)
      refine lv_aload_n hx hb dX2_refresh_52 rfl (lv_at hl 2 rfl) ?_
      refine va_get (D := G.1) (ci := 2) (v := .ref (a 13)) (C := RX2) (T := TX2) (N := 15) hx hb hts inX2 hown hK.1 hP 0 rfl rfl 13 (by decide) (hts _ mf_X2_57) (fun _ h9 => h9) rfl dX2_refresh_53 ?_
      refine lv_iload_n hx hb dX2_refresh_56 rfl (lv_at hl 1 rfl) ?_
      refine xiald hx hb hK hP 8 (i * 12 + j) (rfl) (by omega) (by omega) rfl dX2_refresh_57 ?_
      refine lv_topi (fun v10 ev10 => ?_)
      refine lv_icmp_le (tgt := 65) hx hb dX2_refresh_58 (by decide) (fun c11 => ?_) (fun c11 => ?_)
      · refine lv_iconst (v := 0) hx hb dX2_refresh_65 (by decide) ?_
        refine lv_istore (lv' := [(5, .int 0), (4, .int 0), (3, .int (nI (i * 12 + j))), (0, .ref (a 15)), (1, .int (nI i)), (2, .int (nI j))]) hx hb dX2_refresh_66 hl (by decide) rfl (fun ls hl => ?_)
        refine lv_aload_n hx hb dX2_refresh_68 rfl (lv_at hl 3 rfl) ?_
        refine va_get (D := G.1) (ci := 2) (v := .ref (b 3)) (C := RX2) (T := TX2) (N := 15) hx hb hts inX2 hown hK.1 hP 0 rfl rfl 5 (by decide) (hts _ mf_X2_30) (fun _ h9 => h9) rfl dX2_refresh_69 ?_
        refine lv_iload_n hx hb dX2_refresh_72 rfl (lv_at hl 4 rfl) ?_
        refine lv_bipush (v := 12) hx hb dX2_refresh_73 (by decide) ?_
        refine lv_iload_n hx hb dX2_refresh_75 rfl (lv_at hl 5 rfl) ?_
        refine lv_iadd hx hb dX2_refresh_76 ?_
        refine lv_topi (fun v12 ev12 => ?_)
        refine lv_iload hx hb dX2_refresh_77 (lv_at hl 1 rfl) ?_
        refine lv_iload hx hb dX2_refresh_79 (lv_at hl 0 rfl) ?_
        obtain rfl : v12 = nI (12 + j) := nI_plus (i := 12) ev12 rfl rfl
        refine wrVV (rest := []) (q0 := 0) ⟨hx, hb, hml, hown, hts⟩ (c_X5_join l G b q rc i (12 + j) 0 0 (by omega) (by omega)) mi_yX5_join mv_yX5_join ml_X2_120 ⟨rfl, rfl, Nat.le_of_ble_eq_true rfl, Nat.le_of_ble_eq_true rfl⟩ hK hP hD [10, 11, 12, 13] rfl (by decide) rfl rfl rfl hl.1 rfl (Nat.le_of_ble_eq_true rfl) dX2_refresh_81 ⟨Nat.zero_le _, Nat.zero_le _⟩ hS hA (fun w14 H locs hw14 hP hS => ?_)
        obtain rfl := hw14
        have hP : PP G [((a 15), .inr (2, [.int (f 0), .int (f 1), .int (f 2), .int (f 3), .int (f 4), .ref (b 3), .ref (a 6), .ref (a 7), .ref (a 8), .ref (a 9), .ref (a 10), .ref (a 11), .ref (a 12), .ref (a 13), .ref (a 14)])), ((a 6), .inl (G.2.2.1, 12, .inl (r 6))), ((a 7), .inl (G.2.1, 12, .inl (r 7))), ((a 8), .inl (G.2.1, 144, .inl (r 8))), ((a 9), .inl (G.2.1, 144, .inl (r 9))), ((a 10), .inl (G.2.1, 144, .inl (r 10))), ((a 11), .inl (G.2.2.1, 144, .inl (r 11))), ((a 12), .inl (G.2.1, 144, .inl (r 12))), ((a 13), .inl (G.2.1, 144, .inl (r 13))), ((a 14), .inl (G.2.1, 144, .inl (r 14))), ((b 3), .inr (5, [.ref (b 0), .ref (b 1), .ref (b 2), .int rc])), ((b 0), .inl (G.2.1, 25, .inl (jnF (q 0) i (12 + j) 0 0))), ((b 1), .inl (G.2.1, 25, .inl (q 1))), ((b 2), .inl (G.2.1, 25, .inl (q 2)))] H := hP rfl
        have hD := D_as2 hP hD rfl
        exact wr_vret hx hb hr hlocks hS hP ⟨0, 0, rfl⟩ dX2_refresh_84
      · refine lv_iconst (v := 1) hx hb dX2_refresh_61 (by decide) ?_
        refine lv_goto (tgt := 66) hx hb dX2_refresh_62 (by decide) ?_
        refine lv_istore (lv' := [(5, .int 1), (4, .int 0), (3, .int (nI (i * 12 + j))), (0, .ref (a 15)), (1, .int (nI i)), (2, .int (nI j))]) hx hb dX2_refresh_66 hl (by decide) rfl (fun ls hl => ?_)
        refine lv_aload_n hx hb dX2_refresh_68 rfl (lv_at hl 3 rfl) ?_
        refine va_get (D := G.1) (ci := 2) (v := .ref (b 3)) (C := RX2) (T := TX2) (N := 15) hx hb hts inX2 hown hK.1 hP 0 rfl rfl 5 (by decide) (hts _ mf_X2_30) (fun _ h9 => h9) rfl dX2_refresh_69 ?_
        refine lv_iload_n hx hb dX2_refresh_72 rfl (lv_at hl 4 rfl) ?_
        refine lv_bipush (v := 12) hx hb dX2_refresh_73 (by decide) ?_
        refine lv_iload_n hx hb dX2_refresh_75 rfl (lv_at hl 5 rfl) ?_
        refine lv_iadd hx hb dX2_refresh_76 ?_
        refine lv_topi (fun v15 ev15 => ?_)
        refine lv_iload hx hb dX2_refresh_77 (lv_at hl 1 rfl) ?_
        refine lv_iload hx hb dX2_refresh_79 (lv_at hl 0 rfl) ?_
        obtain rfl : v15 = nI (12 + j) := nI_plus (i := 12) ev15 rfl rfl
        refine wrVV (rest := []) (q0 := 0) ⟨hx, hb, hml, hown, hts⟩ (c_X5_join l G b q rc i (12 + j) 0 1 (by omega) (by omega)) mi_yX5_join mv_yX5_join ml_X2_120 ⟨rfl, rfl, Nat.le_of_ble_eq_true rfl, Nat.le_of_ble_eq_true rfl⟩ hK hP hD [10, 11, 12, 13] rfl (by decide) rfl rfl rfl hl.1 rfl (Nat.le_of_ble_eq_true rfl) dX2_refresh_81 ⟨Nat.zero_le _, Nat.zero_le _⟩ hS hA (fun w17 H locs hw17 hP hS => ?_)
        obtain rfl := hw17
        have hP : PP G [((a 15), .inr (2, [.int (f 0), .int (f 1), .int (f 2), .int (f 3), .int (f 4), .ref (b 3), .ref (a 6), .ref (a 7), .ref (a 8), .ref (a 9), .ref (a 10), .ref (a 11), .ref (a 12), .ref (a 13), .ref (a 14)])), ((a 6), .inl (G.2.2.1, 12, .inl (r 6))), ((a 7), .inl (G.2.1, 12, .inl (r 7))), ((a 8), .inl (G.2.1, 144, .inl (r 8))), ((a 9), .inl (G.2.1, 144, .inl (r 9))), ((a 10), .inl (G.2.1, 144, .inl (r 10))), ((a 11), .inl (G.2.2.1, 144, .inl (r 11))), ((a 12), .inl (G.2.1, 144, .inl (r 12))), ((a 13), .inl (G.2.1, 144, .inl (r 13))), ((a 14), .inl (G.2.1, 144, .inl (r 14))), ((b 3), .inr (5, [.ref (b 0), .ref (b 1), .ref (b 2), .int rc])), ((b 0), .inl (G.2.1, 25, .inl (jnF (q 0) i (12 + j) 0 1))), ((b 1), .inl (G.2.1, 25, .inl (q 1))), ((b 2), .inl (G.2.1, 25, .inl (q 2)))] H := hP rfl
        have hD := D_as2 hP hD rfl
        exact wr_vret hx hb hr hlocks hS hP ⟨0, 1, rfl⟩ dX2_refresh_84
  · refine lv_aload_n hx hb dX2_refresh_15 rfl (lv_at hl 1 rfl) ?_
    refine va_get (D := G.1) (ci := 2) (v := .ref (a 12)) (C := RX2) (T := TX2) (N := 15) hx hb hts inX2 hown hK.1 hP 0 rfl rfl 12 (by decide) (hts _ mf_X2_54) (fun _ h9 => h9) rfl dX2_refresh_16 ?_
    refine lv_iload_n hx hb dX2_refresh_19 rfl (lv_at hl 0 rfl) ?_
    refine xiald hx hb hK hP 7 (i * 12 + j) (rfl) (by omega) (by omega) rfl dX2_refresh_20 ?_
    refine lv_topi (fun v18 ev18 => ?_)
    refine lv_aload_n hx hb dX2_refresh_21 rfl (lv_at hl 1 rfl) ?_
    refine va_get (D := G.1) (ci := 2) (v := .ref (a 14)) (C := RX2) (T := TX2) (N := 15) hx hb hts inX2 hown hK.1 hP 0 rfl rfl 14 (by decide) (hts _ mf_X2_60) (fun _ h9 => h9) rfl dX2_refresh_22 ?_
    refine lv_iload_n hx hb dX2_refresh_25 rfl (lv_at hl 0 rfl) ?_
    refine xiald hx hb hK hP 9 (i * 12 + j) (rfl) (by omega) (by omega) rfl dX2_refresh_26 ?_
    refine lv_topi (fun v19 ev19 => ?_)
    refine lv_icmp_ge (tgt := 34) hx hb dX2_refresh_27 (by decide) (fun c20 => ?_) (fun c20 => ?_)
    · refine lv_iconst (v := 0) hx hb dX2_refresh_34 (by decide) ?_
      refine lv_istore (lv' := [(4, .int 0), (3, .int (nI (i * 12 + j))), (0, .ref (a 15)), (1, .int (nI i)), (2, .int (nI j))]) hx hb dX2_refresh_35 hl (by decide) rfl (fun ls hl => ?_)
      refine lv_aload_n hx hb dX2_refresh_37 rfl (lv_at hl 2 rfl) ?_
      refine va_get (D := G.1) (ci := 2) (v := .ref (a 11)) (C := RX2) (T := TX2) (N := 15) hx hb hts inX2 hown hK.1 hP 0 rfl rfl 11 (by decide) (hts _ mf_X2_51) (fun _ h9 => h9) rfl dX2_refresh_38 ?_
      refine lv_iload_n hx hb dX2_refresh_41 rfl (lv_at hl 1 rfl) ?_
      refine xzald hx hb hK hP 6 (i * 12 + j) (rfl) (by omega) (by omega) rfl dX2_refresh_42 ?_
      refine lv_topi (fun v21 ev21 => ?_)
      refine lv_if_eq (tgt := 65) hx hb dX2_refresh_43 (by decide) (fun c22 => ?_) (fun c22 => ?_)
      · refine lv_iconst (v := 0) hx hb dX2_refresh_65 (by decide) ?_
        refine lv_istore (lv' := [(5, .int 0), (4, .int 0), (3, .int (nI (i * 12 + j))), (0, .ref (a 15)), (1, .int (nI i)), (2, .int (nI j))]) hx hb dX2_refresh_66 hl (by decide) rfl (fun ls hl => ?_)
        refine lv_aload_n hx hb dX2_refresh_68 rfl (lv_at hl 3 rfl) ?_
        refine va_get (D := G.1) (ci := 2) (v := .ref (b 3)) (C := RX2) (T := TX2) (N := 15) hx hb hts inX2 hown hK.1 hP 0 rfl rfl 5 (by decide) (hts _ mf_X2_30) (fun _ h9 => h9) rfl dX2_refresh_69 ?_
        refine lv_iload_n hx hb dX2_refresh_72 rfl (lv_at hl 4 rfl) ?_
        refine lv_bipush (v := 12) hx hb dX2_refresh_73 (by decide) ?_
        refine lv_iload_n hx hb dX2_refresh_75 rfl (lv_at hl 5 rfl) ?_
        refine lv_iadd hx hb dX2_refresh_76 ?_
        refine lv_topi (fun v23 ev23 => ?_)
        refine lv_iload hx hb dX2_refresh_77 (lv_at hl 1 rfl) ?_
        refine lv_iload hx hb dX2_refresh_79 (lv_at hl 0 rfl) ?_
        obtain rfl : v23 = nI (12 + j) := nI_plus (i := 12) ev23 rfl rfl
        refine wrVV (rest := []) (q0 := 0) ⟨hx, hb, hml, hown, hts⟩ (c_X5_join l G b q rc i (12 + j) 0 0 (by omega) (by omega)) mi_yX5_join mv_yX5_join ml_X2_120 ⟨rfl, rfl, Nat.le_of_ble_eq_true rfl, Nat.le_of_ble_eq_true rfl⟩ hK hP hD [10, 11, 12, 13] rfl (by decide) rfl rfl rfl hl.1 rfl (Nat.le_of_ble_eq_true rfl) dX2_refresh_81 ⟨Nat.zero_le _, Nat.zero_le _⟩ hS hA (fun w25 H locs hw25 hP hS => ?_)
        obtain rfl := hw25
        have hP : PP G [((a 15), .inr (2, [.int (f 0), .int (f 1), .int (f 2), .int (f 3), .int (f 4), .ref (b 3), .ref (a 6), .ref (a 7), .ref (a 8), .ref (a 9), .ref (a 10), .ref (a 11), .ref (a 12), .ref (a 13), .ref (a 14)])), ((a 6), .inl (G.2.2.1, 12, .inl (r 6))), ((a 7), .inl (G.2.1, 12, .inl (r 7))), ((a 8), .inl (G.2.1, 144, .inl (r 8))), ((a 9), .inl (G.2.1, 144, .inl (r 9))), ((a 10), .inl (G.2.1, 144, .inl (r 10))), ((a 11), .inl (G.2.2.1, 144, .inl (r 11))), ((a 12), .inl (G.2.1, 144, .inl (r 12))), ((a 13), .inl (G.2.1, 144, .inl (r 13))), ((a 14), .inl (G.2.1, 144, .inl (r 14))), ((b 3), .inr (5, [.ref (b 0), .ref (b 1), .ref (b 2), .int rc])), ((b 0), .inl (G.2.1, 25, .inl (jnF (q 0) i (12 + j) 0 0))), ((b 1), .inl (G.2.1, 25, .inl (q 1))), ((b 2), .inl (G.2.1, 25, .inl (q 2)))] H := hP rfl
        have hD := D_as2 hP hD rfl
        exact wr_vret hx hb hr hlocks hS hP ⟨0, 0, rfl⟩ dX2_refresh_84
      · refine lv_aload_n hx hb dX2_refresh_46 rfl (lv_at hl 2 rfl) ?_
        refine va_get (D := G.1) (ci := 2) (v := .ref (a 12)) (C := RX2) (T := TX2) (N := 15) hx hb hts inX2 hown hK.1 hP 0 rfl rfl 12 (by decide) (hts _ mf_X2_54) (fun _ h9 => h9) rfl dX2_refresh_47 ?_
        refine lv_iload_n hx hb dX2_refresh_50 rfl (lv_at hl 1 rfl) ?_
        refine xiald hx hb hK hP 7 (i * 12 + j) (rfl) (by omega) (by omega) rfl dX2_refresh_51 ?_
        refine lv_topi (fun v26 ev26 => ?_)
        refine lv_aload_n hx hb dX2_refresh_52 rfl (lv_at hl 2 rfl) ?_
        refine va_get (D := G.1) (ci := 2) (v := .ref (a 13)) (C := RX2) (T := TX2) (N := 15) hx hb hts inX2 hown hK.1 hP 0 rfl rfl 13 (by decide) (hts _ mf_X2_57) (fun _ h9 => h9) rfl dX2_refresh_53 ?_
        refine lv_iload_n hx hb dX2_refresh_56 rfl (lv_at hl 1 rfl) ?_
        refine xiald hx hb hK hP 8 (i * 12 + j) (rfl) (by omega) (by omega) rfl dX2_refresh_57 ?_
        refine lv_topi (fun v27 ev27 => ?_)
        refine lv_icmp_le (tgt := 65) hx hb dX2_refresh_58 (by decide) (fun c28 => ?_) (fun c28 => ?_)
        · refine lv_iconst (v := 0) hx hb dX2_refresh_65 (by decide) ?_
          refine lv_istore (lv' := [(5, .int 0), (4, .int 0), (3, .int (nI (i * 12 + j))), (0, .ref (a 15)), (1, .int (nI i)), (2, .int (nI j))]) hx hb dX2_refresh_66 hl (by decide) rfl (fun ls hl => ?_)
          refine lv_aload_n hx hb dX2_refresh_68 rfl (lv_at hl 3 rfl) ?_
          refine va_get (D := G.1) (ci := 2) (v := .ref (b 3)) (C := RX2) (T := TX2) (N := 15) hx hb hts inX2 hown hK.1 hP 0 rfl rfl 5 (by decide) (hts _ mf_X2_30) (fun _ h9 => h9) rfl dX2_refresh_69 ?_
          refine lv_iload_n hx hb dX2_refresh_72 rfl (lv_at hl 4 rfl) ?_
          refine lv_bipush (v := 12) hx hb dX2_refresh_73 (by decide) ?_
          refine lv_iload_n hx hb dX2_refresh_75 rfl (lv_at hl 5 rfl) ?_
          refine lv_iadd hx hb dX2_refresh_76 ?_
          refine lv_topi (fun v29 ev29 => ?_)
          refine lv_iload hx hb dX2_refresh_77 (lv_at hl 1 rfl) ?_
          refine lv_iload hx hb dX2_refresh_79 (lv_at hl 0 rfl) ?_
          obtain rfl : v29 = nI (12 + j) := nI_plus (i := 12) ev29 rfl rfl
          refine wrVV (rest := []) (q0 := 0) ⟨hx, hb, hml, hown, hts⟩ (c_X5_join l G b q rc i (12 + j) 0 0 (by omega) (by omega)) mi_yX5_join mv_yX5_join ml_X2_120 ⟨rfl, rfl, Nat.le_of_ble_eq_true rfl, Nat.le_of_ble_eq_true rfl⟩ hK hP hD [10, 11, 12, 13] rfl (by decide) rfl rfl rfl hl.1 rfl (Nat.le_of_ble_eq_true rfl) dX2_refresh_81 ⟨Nat.zero_le _, Nat.zero_le _⟩ hS hA (fun w31 H locs hw31 hP hS => ?_)
          obtain rfl := hw31
          have hP : PP G [((a 15), .inr (2, [.int (f 0), .int (f 1), .int (f 2), .int (f 3), .int (f 4), .ref (b 3), .ref (a 6), .ref (a 7), .ref (a 8), .ref (a 9), .ref (a 10), .ref (a 11), .ref (a 12), .ref (a 13), .ref (a 14)])), ((a 6), .inl (G.2.2.1, 12, .inl (r 6))), ((a 7), .inl (G.2.1, 12, .inl (r 7))), ((a 8), .inl (G.2.1, 144, .inl (r 8))), ((a 9), .inl (G.2.1, 144, .inl (r 9))), ((a 10), .inl (G.2.1, 144, .inl (r 10))), ((a 11), .inl (G.2.2.1, 144, .inl (r 11))), ((a 12), .inl (G.2.1, 144, .inl (r 12))), ((a 13), .inl (G.2.1, 144, .inl (r 13))), ((a 14), .inl (G.2.1, 144, .inl (r 14))), ((b 3), .inr (5, [.ref (b 0), .ref (b 1), .ref (b 2), .int rc])), ((b 0), .inl (G.2.1, 25, .inl (jnF (q 0) i (12 + j) 0 0))), ((b 1), .inl (G.2.1, 25, .inl (q 1))), ((b 2), .inl (G.2.1, 25, .inl (q 2)))] H := hP rfl
          have hD := D_as2 hP hD rfl
          exact wr_vret hx hb hr hlocks hS hP ⟨0, 0, rfl⟩ dX2_refresh_84
        · refine lv_iconst (v := 1) hx hb dX2_refresh_61 (by decide) ?_
          refine lv_goto (tgt := 66) hx hb dX2_refresh_62 (by decide) ?_
          refine lv_istore (lv' := [(5, .int 1), (4, .int 0), (3, .int (nI (i * 12 + j))), (0, .ref (a 15)), (1, .int (nI i)), (2, .int (nI j))]) hx hb dX2_refresh_66 hl (by decide) rfl (fun ls hl => ?_)
          refine lv_aload_n hx hb dX2_refresh_68 rfl (lv_at hl 3 rfl) ?_
          refine va_get (D := G.1) (ci := 2) (v := .ref (b 3)) (C := RX2) (T := TX2) (N := 15) hx hb hts inX2 hown hK.1 hP 0 rfl rfl 5 (by decide) (hts _ mf_X2_30) (fun _ h9 => h9) rfl dX2_refresh_69 ?_
          refine lv_iload_n hx hb dX2_refresh_72 rfl (lv_at hl 4 rfl) ?_
          refine lv_bipush (v := 12) hx hb dX2_refresh_73 (by decide) ?_
          refine lv_iload_n hx hb dX2_refresh_75 rfl (lv_at hl 5 rfl) ?_
          refine lv_iadd hx hb dX2_refresh_76 ?_
          refine lv_topi (fun v32 ev32 => ?_)
          refine lv_iload hx hb dX2_refresh_77 (lv_at hl 1 rfl) ?_
          refine lv_iload hx hb dX2_refresh_79 (lv_at hl 0 rfl) ?_
          obtain rfl : v32 = nI (12 + j) := nI_plus (i := 12) ev32 rfl rfl
          refine wrVV (rest := []) (q0 := 0) ⟨hx, hb, hml, hown, hts⟩ (c_X5_join l G b q rc i (12 + j) 0 1 (by omega) (by omega)) mi_yX5_join mv_yX5_join ml_X2_120 ⟨rfl, rfl, Nat.le_of_ble_eq_true rfl, Nat.le_of_ble_eq_true rfl⟩ hK hP hD [10, 11, 12, 13] rfl (by decide) rfl rfl rfl hl.1 rfl (Nat.le_of_ble_eq_true rfl) dX2_refresh_81 ⟨Nat.zero_le _, Nat.zero_le _⟩ hS hA (fun w34 H locs hw34 hP hS => ?_)
          obtain rfl := hw34
          have hP : PP G [((a 15), .inr (2, [.int (f 0), .int (f 1), .int (f 2), .int (f 3), .int (f 4), .ref (b 3), .ref (a 6), .ref (a 7), .ref (a 8), .ref (a 9), .ref (a 10), .ref (a 11), .ref (a 12), .ref (a 13), .ref (a 14)])), ((a 6), .inl (G.2.2.1, 12, .inl (r 6))), ((a 7), .inl (G.2.1, 12, .inl (r 7))), ((a 8), .inl (G.2.1, 144, .inl (r 8))), ((a 9), .inl (G.2.1, 144, .inl (r 9))), ((a 10), .inl (G.2.1, 144, .inl (r 10))), ((a 11), .inl (G.2.2.1, 144, .inl (r 11))), ((a 12), .inl (G.2.1, 144, .inl (r 12))), ((a 13), .inl (G.2.1, 144, .inl (r 13))), ((a 14), .inl (G.2.1, 144, .inl (r 14))), ((b 3), .inr (5, [.ref (b 0), .ref (b 1), .ref (b 2), .int rc])), ((b 0), .inl (G.2.1, 25, .inl (jnF (q 0) i (12 + j) 0 1))), ((b 1), .inl (G.2.1, 25, .inl (q 1))), ((b 2), .inl (G.2.1, 25, .inl (q 2)))] H := hP rfl
          have hD := D_as2 hP hD rfl
          exact wr_vret hx hb hr hlocks hS hP ⟨0, 1, rfl⟩ dX2_refresh_84
    · refine lv_iconst (v := 1) hx hb dX2_refresh_30 (by decide) ?_
      refine lv_goto (tgt := 35) hx hb dX2_refresh_31 (by decide) ?_
      refine lv_istore (lv' := [(4, .int 1), (3, .int (nI (i * 12 + j))), (0, .ref (a 15)), (1, .int (nI i)), (2, .int (nI j))]) hx hb dX2_refresh_35 hl (by decide) rfl (fun ls hl => ?_)
      refine lv_aload_n hx hb dX2_refresh_37 rfl (lv_at hl 2 rfl) ?_
      refine va_get (D := G.1) (ci := 2) (v := .ref (a 11)) (C := RX2) (T := TX2) (N := 15) hx hb hts inX2 hown hK.1 hP 0 rfl rfl 11 (by decide) (hts _ mf_X2_51) (fun _ h9 => h9) rfl dX2_refresh_38 ?_
      refine lv_iload_n hx hb dX2_refresh_41 rfl (lv_at hl 1 rfl) ?_
      refine xzald hx hb hK hP 6 (i * 12 + j) (rfl) (by omega) (by omega) rfl dX2_refresh_42 ?_
      refine lv_topi (fun v35 ev35 => ?_)
      refine lv_if_eq (tgt := 65) hx hb dX2_refresh_43 (by decide) (fun c36 => ?_) (fun c36 => ?_)
      · refine lv_iconst (v := 0) hx hb dX2_refresh_65 (by decide) ?_
        refine lv_istore (lv' := [(5, .int 0), (4, .int 1), (3, .int (nI (i * 12 + j))), (0, .ref (a 15)), (1, .int (nI i)), (2, .int (nI j))]) hx hb dX2_refresh_66 hl (by decide) rfl (fun ls hl => ?_)
        refine lv_aload_n hx hb dX2_refresh_68 rfl (lv_at hl 3 rfl) ?_
        refine va_get (D := G.1) (ci := 2) (v := .ref (b 3)) (C := RX2) (T := TX2) (N := 15) hx hb hts inX2 hown hK.1 hP 0 rfl rfl 5 (by decide) (hts _ mf_X2_30) (fun _ h9 => h9) rfl dX2_refresh_69 ?_
        refine lv_iload_n hx hb dX2_refresh_72 rfl (lv_at hl 4 rfl) ?_
        refine lv_bipush (v := 12) hx hb dX2_refresh_73 (by decide) ?_
        refine lv_iload_n hx hb dX2_refresh_75 rfl (lv_at hl 5 rfl) ?_
        refine lv_iadd hx hb dX2_refresh_76 ?_
        refine lv_topi (fun v37 ev37 => ?_)
        refine lv_iload hx hb dX2_refresh_77 (lv_at hl 1 rfl) ?_
        refine lv_iload hx hb dX2_refresh_79 (lv_at hl 0 rfl) ?_
        obtain rfl : v37 = nI (12 + j) := nI_plus (i := 12) ev37 rfl rfl
        refine wrVV (rest := []) (q0 := 0) ⟨hx, hb, hml, hown, hts⟩ (c_X5_join l G b q rc i (12 + j) 1 0 (by omega) (by omega)) mi_yX5_join mv_yX5_join ml_X2_120 ⟨rfl, rfl, Nat.le_of_ble_eq_true rfl, Nat.le_of_ble_eq_true rfl⟩ hK hP hD [10, 11, 12, 13] rfl (by decide) rfl rfl rfl hl.1 rfl (Nat.le_of_ble_eq_true rfl) dX2_refresh_81 ⟨Nat.zero_le _, Nat.zero_le _⟩ hS hA (fun w39 H locs hw39 hP hS => ?_)
        obtain rfl := hw39
        have hP : PP G [((a 15), .inr (2, [.int (f 0), .int (f 1), .int (f 2), .int (f 3), .int (f 4), .ref (b 3), .ref (a 6), .ref (a 7), .ref (a 8), .ref (a 9), .ref (a 10), .ref (a 11), .ref (a 12), .ref (a 13), .ref (a 14)])), ((a 6), .inl (G.2.2.1, 12, .inl (r 6))), ((a 7), .inl (G.2.1, 12, .inl (r 7))), ((a 8), .inl (G.2.1, 144, .inl (r 8))), ((a 9), .inl (G.2.1, 144, .inl (r 9))), ((a 10), .inl (G.2.1, 144, .inl (r 10))), ((a 11), .inl (G.2.2.1, 144, .inl (r 11))), ((a 12), .inl (G.2.1, 144, .inl (r 12))), ((a 13), .inl (G.2.1, 144, .inl (r 13))), ((a 14), .inl (G.2.1, 144, .inl (r 14))), ((b 3), .inr (5, [.ref (b 0), .ref (b 1), .ref (b 2), .int rc])), ((b 0), .inl (G.2.1, 25, .inl (jnF (q 0) i (12 + j) 1 0))), ((b 1), .inl (G.2.1, 25, .inl (q 1))), ((b 2), .inl (G.2.1, 25, .inl (q 2)))] H := hP rfl
        have hD := D_as2 hP hD rfl
        exact wr_vret hx hb hr hlocks hS hP ⟨1, 0, rfl⟩ dX2_refresh_84
      · refine lv_aload_n hx hb dX2_refresh_46 rfl (lv_at hl 2 rfl) ?_
        refine va_get (D := G.1) (ci := 2) (v := .ref (a 12)) (C := RX2) (T := TX2) (N := 15) hx hb hts inX2 hown hK.1 hP 0 rfl rfl 12 (by decide) (hts _ mf_X2_54) (fun _ h9 => h9) rfl dX2_refresh_47 ?_
        refine lv_iload_n hx hb dX2_refresh_50 rfl (lv_at hl 1 rfl) ?_
        refine xiald hx hb hK hP 7 (i * 12 + j) (rfl) (by omega) (by omega) rfl dX2_refresh_51 ?_
        refine lv_topi (fun v40 ev40 => ?_)
        refine lv_aload_n hx hb dX2_refresh_52 rfl (lv_at hl 2 rfl) ?_
        refine va_get (D := G.1) (ci := 2) (v := .ref (a 13)) (C := RX2) (T := TX2) (N := 15) hx hb hts inX2 hown hK.1 hP 0 rfl rfl 13 (by decide) (hts _ mf_X2_57) (fun _ h9 => h9) rfl dX2_refresh_53 ?_
        refine lv_iload_n hx hb dX2_refresh_56 rfl (lv_at hl 1 rfl) ?_
        refine xiald hx hb hK hP 8 (i * 12 + j) (rfl) (by omega) (by omega) rfl dX2_refresh_57 ?_
        refine lv_topi (fun v41 ev41 => ?_)
        refine lv_icmp_le (tgt := 65) hx hb dX2_refresh_58 (by decide) (fun c42 => ?_) (fun c42 => ?_)
        · refine lv_iconst (v := 0) hx hb dX2_refresh_65 (by decide) ?_
          refine lv_istore (lv' := [(5, .int 0), (4, .int 1), (3, .int (nI (i * 12 + j))), (0, .ref (a 15)), (1, .int (nI i)), (2, .int (nI j))]) hx hb dX2_refresh_66 hl (by decide) rfl (fun ls hl => ?_)
          refine lv_aload_n hx hb dX2_refresh_68 rfl (lv_at hl 3 rfl) ?_
          refine va_get (D := G.1) (ci := 2) (v := .ref (b 3)) (C := RX2) (T := TX2) (N := 15) hx hb hts inX2 hown hK.1 hP 0 rfl rfl 5 (by decide) (hts _ mf_X2_30) (fun _ h9 => h9) rfl dX2_refresh_69 ?_
          refine lv_iload_n hx hb dX2_refresh_72 rfl (lv_at hl 4 rfl) ?_
          refine lv_bipush (v := 12) hx hb dX2_refresh_73 (by decide) ?_
          refine lv_iload_n hx hb dX2_refresh_75 rfl (lv_at hl 5 rfl) ?_
          refine lv_iadd hx hb dX2_refresh_76 ?_
          refine lv_topi (fun v43 ev43 => ?_)
          refine lv_iload hx hb dX2_refresh_77 (lv_at hl 1 rfl) ?_
          refine lv_iload hx hb dX2_refresh_79 (lv_at hl 0 rfl) ?_
          obtain rfl : v43 = nI (12 + j) := nI_plus (i := 12) ev43 rfl rfl
          refine wrVV (rest := []) (q0 := 0) ⟨hx, hb, hml, hown, hts⟩ (c_X5_join l G b q rc i (12 + j) 1 0 (by omega) (by omega)) mi_yX5_join mv_yX5_join ml_X2_120 ⟨rfl, rfl, Nat.le_of_ble_eq_true rfl, Nat.le_of_ble_eq_true rfl⟩ hK hP hD [10, 11, 12, 13] rfl (by decide) rfl rfl rfl hl.1 rfl (Nat.le_of_ble_eq_true rfl) dX2_refresh_81 ⟨Nat.zero_le _, Nat.zero_le _⟩ hS hA (fun w45 H locs hw45 hP hS => ?_)
          obtain rfl := hw45
          have hP : PP G [((a 15), .inr (2, [.int (f 0), .int (f 1), .int (f 2), .int (f 3), .int (f 4), .ref (b 3), .ref (a 6), .ref (a 7), .ref (a 8), .ref (a 9), .ref (a 10), .ref (a 11), .ref (a 12), .ref (a 13), .ref (a 14)])), ((a 6), .inl (G.2.2.1, 12, .inl (r 6))), ((a 7), .inl (G.2.1, 12, .inl (r 7))), ((a 8), .inl (G.2.1, 144, .inl (r 8))), ((a 9), .inl (G.2.1, 144, .inl (r 9))), ((a 10), .inl (G.2.1, 144, .inl (r 10))), ((a 11), .inl (G.2.2.1, 144, .inl (r 11))), ((a 12), .inl (G.2.1, 144, .inl (r 12))), ((a 13), .inl (G.2.1, 144, .inl (r 13))), ((a 14), .inl (G.2.1, 144, .inl (r 14))), ((b 3), .inr (5, [.ref (b 0), .ref (b 1), .ref (b 2), .int rc])), ((b 0), .inl (G.2.1, 25, .inl (jnF (q 0) i (12 + j) 1 0))), ((b 1), .inl (G.2.1, 25, .inl (q 1))), ((b 2), .inl (G.2.1, 25, .inl (q 2)))] H := hP rfl
          have hD := D_as2 hP hD rfl
          exact wr_vret hx hb hr hlocks hS hP ⟨1, 0, rfl⟩ dX2_refresh_84
        · refine lv_iconst (v := 1) hx hb dX2_refresh_61 (by decide) ?_
          refine lv_goto (tgt := 66) hx hb dX2_refresh_62 (by decide) ?_
          refine lv_istore (lv' := [(5, .int 1), (4, .int 1), (3, .int (nI (i * 12 + j))), (0, .ref (a 15)), (1, .int (nI i)), (2, .int (nI j))]) hx hb dX2_refresh_66 hl (by decide) rfl (fun ls hl => ?_)
          refine lv_aload_n hx hb dX2_refresh_68 rfl (lv_at hl 3 rfl) ?_
          refine va_get (D := G.1) (ci := 2) (v := .ref (b 3)) (C := RX2) (T := TX2) (N := 15) hx hb hts inX2 hown hK.1 hP 0 rfl rfl 5 (by decide) (hts _ mf_X2_30) (fun _ h9 => h9) rfl dX2_refresh_69 ?_
          refine lv_iload_n hx hb dX2_refresh_72 rfl (lv_at hl 4 rfl) ?_
          refine lv_bipush (v := 12) hx hb dX2_refresh_73 (by decide) ?_
          refine lv_iload_n hx hb dX2_refresh_75 rfl (lv_at hl 5 rfl) ?_
          refine lv_iadd hx hb dX2_refresh_76 ?_
          refine lv_topi (fun v46 ev46 => ?_)
          refine lv_iload hx hb dX2_refresh_77 (lv_at hl 1 rfl) ?_
          refine lv_iload hx hb dX2_refresh_79 (lv_at hl 0 rfl) ?_
          obtain rfl : v46 = nI (12 + j) := nI_plus (i := 12) ev46 rfl rfl
          refine wrVV (rest := []) (q0 := 0) ⟨hx, hb, hml, hown, hts⟩ (c_X5_join l G b q rc i (12 + j) 1 1 (by omega) (by omega)) mi_yX5_join mv_yX5_join ml_X2_120 ⟨rfl, rfl, Nat.le_of_ble_eq_true rfl, Nat.le_of_ble_eq_true rfl⟩ hK hP hD [10, 11, 12, 13] rfl (by decide) rfl rfl rfl hl.1 rfl (Nat.le_of_ble_eq_true rfl) dX2_refresh_81 ⟨Nat.zero_le _, Nat.zero_le _⟩ hS hA (fun w48 H locs hw48 hP hS => ?_)
          obtain rfl := hw48
          have hP : PP G [((a 15), .inr (2, [.int (f 0), .int (f 1), .int (f 2), .int (f 3), .int (f 4), .ref (b 3), .ref (a 6), .ref (a 7), .ref (a 8), .ref (a 9), .ref (a 10), .ref (a 11), .ref (a 12), .ref (a 13), .ref (a 14)])), ((a 6), .inl (G.2.2.1, 12, .inl (r 6))), ((a 7), .inl (G.2.1, 12, .inl (r 7))), ((a 8), .inl (G.2.1, 144, .inl (r 8))), ((a 9), .inl (G.2.1, 144, .inl (r 9))), ((a 10), .inl (G.2.1, 144, .inl (r 10))), ((a 11), .inl (G.2.2.1, 144, .inl (r 11))), ((a 12), .inl (G.2.1, 144, .inl (r 12))), ((a 13), .inl (G.2.1, 144, .inl (r 13))), ((a 14), .inl (G.2.1, 144, .inl (r 14))), ((b 3), .inr (5, [.ref (b 0), .ref (b 1), .ref (b 2), .int rc])), ((b 0), .inl (G.2.1, 25, .inl (jnF (q 0) i (12 + j) 1 1))), ((b 1), .inl (G.2.1, 25, .inl (q 1))), ((b 2), .inl (G.2.1, 25, .inl (q 2)))] H := hP rfl
          have hD := D_as2 hP hD rfl
          exact wr_vret hx hb hr hlocks hS hP ⟨1, 1, rfl⟩ dX2_refresh_84
