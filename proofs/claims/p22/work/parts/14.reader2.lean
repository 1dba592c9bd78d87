theorem ml_X2_114 : Cond.methodLink RX2 114 yX5_wipe ∈ TB := TB_t3 68 rfl rfl
theorem mcode_yX5_wipe : Cond.code yX5_wipe cX5_wipe 1 none ∈ TB := TB_t3 71 rfl rfl
theorem mi_yX5_wipe : MI yX5_wipe cX5_wipe 1 none 0 := ⟨mz_RX5, mcode_yX5_wipe, by decide +kernel, by decide +kernel, by decide +kernel⟩
theorem mim_yX5_wipe : Cond.instanceMethod yX5_wipe ∈ TB := TB_t3 69 rfl rfl
theorem msel_yX5_wipe : Cond.selects yX5_wipe.cls yX5_wipe yX5_wipe ∈ TB := TB_t3 70 rfl rfl
theorem mv_yX5_wipe : Cond.instanceMethod yX5_wipe ∈ TB ∧ Cond.selects yX5_wipe.cls yX5_wipe yX5_wipe ∈ TB := ⟨mim_yX5_wipe, msel_yX5_wipe⟩
theorem ml_X2_117 : Cond.methodLink RX2 117 yX2_refresh ∈ TB := TB_t3 73 rfl rfl
theorem mcode_yX2_refresh : Cond.code yX2_refresh cX2_refresh 6 none ∈ TB := TB_t3 76 rfl rfl
theorem mi_yX2_refresh : MI yX2_refresh cX2_refresh 6 none 2 := ⟨mz_RX2, mcode_yX2_refresh, by decide +kernel, by decide +kernel, by decide +kernel⟩
theorem mim_yX2_refresh : Cond.instanceMethod yX2_refresh ∈ TB := TB_t3 75 rfl rfl
theorem msel_yX2_refresh : Cond.selects yX2_refresh.cls yX2_refresh yX2_refresh ∈ TB := TB_s (n := 15) 16 (by decide +kernel)
theorem mv_yX2_refresh : Cond.instanceMethod yX2_refresh ∈ TB ∧ Cond.selects yX2_refresh.cls yX2_refresh yX2_refresh ∈ TB := ⟨mim_yX2_refresh, msel_yX2_refresh⟩
theorem ml_X2_86 : Cond.methodLink RX2 86 yX4_rowSum ∈ TB := TB_t3 44 rfl rfl
theorem mcode_yX4_rowSum : Cond.code yX4_rowSum cX4_rowSum 4 (some .int) ∈ TB := TB_t2 215 rfl rfl
theorem mi_yX4_rowSum : MI yX4_rowSum cX4_rowSum 4 (some .int) 1 := ⟨mz_RX4, mcode_yX4_rowSum, by decide +kernel, by decide +kernel, by decide +kernel⟩
theorem mim_yX4_rowSum : Cond.instanceMethod yX4_rowSum ∈ TB := TB_t2 213 rfl rfl
theorem msel_yX4_rowSum : Cond.selects yX4_rowSum.cls yX4_rowSum yX4_rowSum ∈ TB := TB_t2 214 rfl rfl
theorem mv_yX4_rowSum : Cond.instanceMethod yX4_rowSum ∈ TB ∧ Cond.selects yX4_rowSum.cls yX4_rowSum yX4_rowSum ∈ TB := ⟨mim_yX4_rowSum, msel_yX4_rowSum⟩
theorem mf_X2_93 : Cond.fieldLink RX2 93 "CellKeeper$Table" "kind" "[I" ∈ TB := TB_t1 224 rfl rfl
theorem mf_X2_94 : Cond.fieldLink RX2 94 "CellKeeper$Table" "number" "[I" ∈ TB := TB_t1 227 rfl rfl
theorem ml_X2_95 : Cond.methodLink RX2 95 yX4_reasons ∈ TB := TB_t3 46 rfl rfl
theorem ml_X2_102 : Cond.methodLink RX2 102 yX2_bound ∈ TB := TB_t3 48 rfl rfl
theorem mcode_yX2_bound : Cond.code yX2_bound cX2_bound 5 none ∈ TB := TB_t3 51 rfl rfl
theorem mi_yX2_bound : MI yX2_bound cX2_bound 5 none 2 := ⟨mz_RX2, mcode_yX2_bound, by decide +kernel, by decide +kernel, by decide +kernel⟩
theorem mim_yX2_bound : Cond.instanceMethod yX2_bound ∈ TB := TB_t3 50 rfl rfl
theorem msel_yX2_bound : Cond.selects yX2_bound.cls yX2_bound yX2_bound ∈ TB := TB_s (n := 15) 13 (by decide +kernel)
theorem mv_yX2_bound : Cond.instanceMethod yX2_bound ∈ TB ∧ Cond.selects yX2_bound.cls yX2_bound yX2_bound ∈ TB := ⟨mim_yX2_bound, msel_yX2_bound⟩
theorem ml_X2_98 : Cond.methodLink RX2 98 yX4_wasTold ∈ TB := TB_t3 47 rfl rfl
theorem mf_X2_63 : Cond.fieldLink RX2 63 "CellKeeper$Table" "rows" "I" ∈ TB := TB_t1 214 rfl rfl
theorem mf_X2_66 : Cond.fieldLink RX2 66 "CellKeeper$Table" "columns" "I" ∈ TB := TB_t1 217 rfl rfl
theorem mf_X2_67 : Cond.fieldLink RX2 67 "CellKeeper$Table" "rules" "[I" ∈ TB := TB_t1 233 rfl rfl
theorem ml_X2_70 : Cond.methodLink RX2 70 yX4_isSound ∈ TB := TB_t3 38 rfl rfl
theorem ml_X2_74 : Cond.methodLink RX2 74 yX4_classOf ∈ TB := TB_t3 39 rfl rfl
theorem ml_X2_82 : Cond.methodLink RX2 82 yX2_blankRow ∈ TB := TB_t3 56 rfl rfl
theorem mcode_yX2_blankRow : Cond.code yX2_blankRow cX2_blankRow 4 none ∈ TB := TB_t3 59 rfl rfl
theorem mi_yX2_blankRow : MI yX2_blankRow cX2_blankRow 4 none 1 := ⟨mz_RX2, mcode_yX2_blankRow, by decide +kernel, by decide +kernel, by decide +kernel⟩
theorem mim_yX2_blankRow : Cond.instanceMethod yX2_blankRow ∈ TB := TB_t3 58 rfl rfl
theorem msel_yX2_blankRow : Cond.selects yX2_blankRow.cls yX2_blankRow yX2_blankRow ∈ TB := TB_s (n := 15) 14 (by decide +kernel)
theorem mv_yX2_blankRow : Cond.instanceMethod yX2_blankRow ∈ TB ∧ Cond.selects yX2_blankRow.cls yX2_blankRow yX2_blankRow ∈ TB := ⟨mim_yX2_blankRow, msel_yX2_blankRow⟩
theorem ml_X2_78 : Cond.methodLink RX2 78 yX2_loadRow ∈ TB := TB_t3 40 rfl rfl
theorem mcode_yX2_loadRow : Cond.code yX2_loadRow cX2_loadRow 6 none ∈ TB := TB_t3 43 rfl rfl
theorem mi_yX2_loadRow : MI yX2_loadRow cX2_loadRow 6 none 2 := ⟨mz_RX2, mcode_yX2_loadRow, by decide +kernel, by decide +kernel, by decide +kernel⟩
theorem mim_yX2_loadRow : Cond.instanceMethod yX2_loadRow ∈ TB := TB_t3 42 rfl rfl
theorem msel_yX2_loadRow : Cond.selects yX2_loadRow.cls yX2_loadRow yX2_loadRow ∈ TB := TB_s (n := 15) 12 (by decide +kernel)
theorem mv_yX2_loadRow : Cond.instanceMethod yX2_loadRow ∈ TB ∧ Cond.selects yX2_loadRow.cls yX2_loadRow yX2_loadRow ∈ TB := ⟨mim_yX2_loadRow, msel_yX2_loadRow⟩
theorem kcX2_enter_0 : CHb cX2_enter 0 [42, 180, 0, 30, 182, 0, 114, 42, 28, 154, 0, 7, 27, 167, 0, 5, 16, 254, 181, 0, 24, 28, 62, 29, 42, 180, 0, 9, 162, 0, 53, 42, 180, 0, 34, 29, 51, 153, 0, 38, 42, 180, 0, 38, 29, 46, 27, 160, 0, 28, 3, 54, 4, 21, 4, 42, 180, 0, 15, 162, 0, 16, 42, 29] := CHb_of (by decide +kernel)
theorem dX2_enter_0 : decode cX2_enter 0 = .ok (.aload_n 0, 1) := dw_42 (kcX2_enter_0 0 42 rfl)
theorem dX2_enter_1 : decode cX2_enter 1 = .ok (.getfield 30, 3) := dw_180 (kcX2_enter_0 1 180 rfl) (kcX2_enter_0 2 0 rfl) (kcX2_enter_0 3 30 rfl) rfl
theorem dX2_enter_4 : decode cX2_enter 4 = .ok (.invokevirtual 114, 3) := dw_182 (kcX2_enter_0 4 182 rfl) (kcX2_enter_0 5 0 rfl) (kcX2_enter_0 6 114 rfl) rfl
theorem dX2_enter_18 : decode cX2_enter 18 = .ok (.putfield 24, 3) := dw_181 (kcX2_enter_0 18 181 rfl) (kcX2_enter_0 19 0 rfl) (kcX2_enter_0 20 24 rfl) rfl
theorem dX2_enter_21 : decode cX2_enter 21 = .ok (.iload_n 2, 1) := dw_28 (kcX2_enter_0 21 28 rfl)
theorem dX2_enter_22 : decode cX2_enter 22 = .ok (.istore_n 3, 1) := dw_62 (kcX2_enter_0 22 62 rfl)
theorem dX2_enter_23 : decode cX2_enter 23 = .ok (.iload_n 3, 1) := dw_29 (kcX2_enter_0 23 29 rfl)
theorem dX2_enter_24 : decode cX2_enter 24 = .ok (.aload_n 0, 1) := dw_42 (kcX2_enter_0 24 42 rfl)
theorem dX2_enter_25 : decode cX2_enter 25 = .ok (.getfield 9, 3) := dw_180 (kcX2_enter_0 25 180 rfl) (kcX2_enter_0 26 0 rfl) (kcX2_enter_0 27 9 rfl) rfl
theorem dX2_enter_28 : decode cX2_enter 28 = .ok (.if_icmp .ge 53, 3) := dw_162 (kcX2_enter_0 28 162 rfl) (kcX2_enter_0 29 0 rfl) (kcX2_enter_0 30 53 rfl) rfl
theorem kcX2_enter_1 : CHb cX2_enter 64 [21, 4, 182, 0, 117, 132, 4, 1, 167, 255, 237, 132, 3, 1, 167, 255, 201, 177] := CHb_of (by decide +kernel)
theorem dX2_enter_81 : decode cX2_enter 81 = .ok (.return_, 1) := dw_177 (kcX2_enter_1 17 177 rfl)
theorem dX2_enter_31 : decode cX2_enter 31 = .ok (.aload_n 0, 1) := dw_42 (kcX2_enter_0 31 42 rfl)
theorem dX2_enter_32 : decode cX2_enter 32 = .ok (.getfield 34, 3) := dw_180 (kcX2_enter_0 32 180 rfl) (kcX2_enter_0 33 0 rfl) (kcX2_enter_0 34 34 rfl) rfl
theorem dX2_enter_35 : decode cX2_enter 35 = .ok (.iload_n 3, 1) := dw_29 (kcX2_enter_0 35 29 rfl)
theorem dX2_enter_36 : decode cX2_enter 36 = .ok (.baload, 1) := dw_51 (kcX2_enter_0 36 51 rfl)
theorem dX2_enter_37 : decode cX2_enter 37 = .ok (.ifCond .eq 38, 3) := dw_153 (kcX2_enter_0 37 153 rfl) (kcX2_enter_0 38 0 rfl) (kcX2_enter_0 39 38 rfl) rfl
theorem dX2_enter_75 : decode cX2_enter 75 = .ok (.iinc 3 1, 3) := dw_132 (kcX2_enter_1 11 132 rfl) (kcX2_enter_1 12 3 rfl) (kcX2_enter_1 13 1 rfl) rfl
theorem dX2_enter_78 : decode cX2_enter 78 = .ok (.goto (-55), 3) := dw_167 (kcX2_enter_1 14 167 rfl) (kcX2_enter_1 15 255 rfl) (kcX2_enter_1 16 201 rfl) rfl
theorem dX2_enter_40 : decode cX2_enter 40 = .ok (.aload_n 0, 1) := dw_42 (kcX2_enter_0 40 42 rfl)
theorem dX2_enter_41 : decode cX2_enter 41 = .ok (.getfield 38, 3) := dw_180 (kcX2_enter_0 41 180 rfl) (kcX2_enter_0 42 0 rfl) (kcX2_enter_0 43 38 rfl) rfl
theorem dX2_enter_44 : decode cX2_enter 44 = .ok (.iload_n 3, 1) := dw_29 (kcX2_enter_0 44 29 rfl)
theorem dX2_enter_45 : decode cX2_enter 45 = .ok (.iaload, 1) := dw_46 (kcX2_enter_0 45 46 rfl)
theorem dX2_enter_46 : decode cX2_enter 46 = .ok (.iload_n 1, 1) := dw_27 (kcX2_enter_0 46 27 rfl)
theorem dX2_enter_47 : decode cX2_enter 47 = .ok (.if_icmp .ne 28, 3) := dw_160 (kcX2_enter_0 47 160 rfl) (kcX2_enter_0 48 0 rfl) (kcX2_enter_0 49 28 rfl) rfl
theorem dX2_enter_50 : decode cX2_enter 50 = .ok (.iconst 0, 1) := dw_3 (kcX2_enter_0 50 3 rfl)
theorem dX2_enter_51 : decode cX2_enter 51 = .ok (.istore 4, 2) := dw_54 (kcX2_enter_0 51 54 rfl) (kcX2_enter_0 52 4 rfl)
theorem dX2_enter_53 : decode cX2_enter 53 = .ok (.iload 4, 2) := dw_21 (kcX2_enter_0 53 21 rfl) (kcX2_enter_0 54 4 rfl)
theorem dX2_enter_55 : decode cX2_enter 55 = .ok (.aload_n 0, 1) := dw_42 (kcX2_enter_0 55 42 rfl)
theorem dX2_enter_56 : decode cX2_enter 56 = .ok (.getfield 15, 3) := dw_180 (kcX2_enter_0 56 180 rfl) (kcX2_enter_0 57 0 rfl) (kcX2_enter_0 58 15 rfl) rfl
theorem dX2_enter_59 : decode cX2_enter 59 = .ok (.if_icmp .ge 16, 3) := dw_162 (kcX2_enter_0 59 162 rfl) (kcX2_enter_0 60 0 rfl) (kcX2_enter_0 61 16 rfl) rfl
theorem dX2_enter_62 : decode cX2_enter 62 = .ok (.aload_n 0, 1) := dw_42 (kcX2_enter_0 62 42 rfl)
theorem dX2_enter_63 : decode cX2_enter 63 = .ok (.iload_n 3, 1) := dw_29 (kcX2_enter_0 63 29 rfl)
theorem dX2_enter_64 : decode cX2_enter 64 = .ok (.iload 4, 2) := dw_21 (kcX2_enter_1 0 21 rfl) (kcX2_enter_1 1 4 rfl)
theorem dX2_enter_66 : decode cX2_enter 66 = .ok (.invokevirtual 117, 3) := dw_182 (kcX2_enter_1 2 182 rfl) (kcX2_enter_1 3 0 rfl) (kcX2_enter_1 4 117 rfl) rfl
theorem dX2_enter_69 : decode cX2_enter 69 = .ok (.iinc 4 1, 3) := dw_132 (kcX2_enter_1 5 132 rfl) (kcX2_enter_1 6 4 rfl) (kcX2_enter_1 7 1 rfl) rfl
theorem dX2_enter_72 : decode cX2_enter 72 = .ok (.goto (-19), 3) := dw_167 (kcX2_enter_1 8 167 rfl) (kcX2_enter_1 9 255 rfl) (kcX2_enter_1 10 237 rfl) rfl
theorem dX2_enter_7 : decode cX2_enter 7 = .ok (.aload_n 0, 1) := dw_42 (kcX2_enter_0 7 42 rfl)
theorem dX2_enter_8 : decode cX2_enter 8 = .ok (.iload_n 2, 1) := dw_28 (kcX2_enter_0 8 28 rfl)
theorem dX2_enter_9 : decode cX2_enter 9 = .ok (.ifCond .ne 7, 3) := dw_154 (kcX2_enter_0 9 154 rfl) (kcX2_enter_0 10 0 rfl) (kcX2_enter_0 11 7 rfl) rfl
theorem dX2_enter_16 : decode cX2_enter 16 = .ok (.bipush (-2), 2) := dw_16 (kcX2_enter_0 16 16 rfl) (kcX2_enter_0 17 254 rfl) rfl
theorem dX2_enter_12 : decode cX2_enter 12 = .ok (.iload_n 1, 1) := dw_27 (kcX2_enter_0 12 27 rfl)
theorem dX2_enter_13 : decode cX2_enter 13 = .ok (.goto 5, 3) := dw_167 (kcX2_enter_0 13 167 rfl) (kcX2_enter_0 14 0 rfl) (kcX2_enter_0 15 5 rfl) rfl
theorem kcX2_loadRow_0 : CHb cX2_loadRow 0 [43, 28, 182, 0, 86, 62, 3, 54, 4, 21, 4, 42, 180, 0, 15, 162, 0, 111, 28, 21, 4, 184, 0, 89, 54, 5, 42, 180, 0, 42, 21, 5, 43, 180, 0, 93, 21, 5, 46, 79, 42, 180, 0, 45, 21, 5, 43, 180, 0, 94, 21, 5, 46, 79, 42, 180, 0, 54, 21, 5, 43, 180, 0, 94] := CHb_of (by decide +kernel)
theorem dX2_loadRow_0 : decode cX2_loadRow 0 = .ok (.aload_n 1, 1) := dw_43 (kcX2_loadRow_0 0 43 rfl)
theorem dX2_loadRow_1 : decode cX2_loadRow 1 = .ok (.iload_n 2, 1) := dw_28 (kcX2_loadRow_0 1 28 rfl)
theorem dX2_loadRow_2 : decode cX2_loadRow 2 = .ok (.invokevirtual 86, 3) := dw_182 (kcX2_loadRow_0 2 182 rfl) (kcX2_loadRow_0 3 0 rfl) (kcX2_loadRow_0 4 86 rfl) rfl
theorem dX2_loadRow_5 : decode cX2_loadRow 5 = .ok (.istore_n 3, 1) := dw_62 (kcX2_loadRow_0 5 62 rfl)
theorem dX2_loadRow_6 : decode cX2_loadRow 6 = .ok (.iconst 0, 1) := dw_3 (kcX2_loadRow_0 6 3 rfl)
theorem dX2_loadRow_7 : decode cX2_loadRow 7 = .ok (.istore 4, 2) := dw_54 (kcX2_loadRow_0 7 54 rfl) (kcX2_loadRow_0 8 4 rfl)
theorem dX2_loadRow_9 : decode cX2_loadRow 9 = .ok (.iload 4, 2) := dw_21 (kcX2_loadRow_0 9 21 rfl) (kcX2_loadRow_0 10 4 rfl)
theorem dX2_loadRow_11 : decode cX2_loadRow 11 = .ok (.aload_n 0, 1) := dw_42 (kcX2_loadRow_0 11 42 rfl)
theorem dX2_loadRow_12 : decode cX2_loadRow 12 = .ok (.getfield 15, 3) := dw_180 (kcX2_loadRow_0 12 180 rfl) (kcX2_loadRow_0 13 0 rfl) (kcX2_loadRow_0 14 15 rfl) rfl
theorem dX2_loadRow_15 : decode cX2_loadRow 15 = .ok (.if_icmp .ge 111, 3) := dw_162 (kcX2_loadRow_0 15 162 rfl) (kcX2_loadRow_0 16 0 rfl) (kcX2_loadRow_0 17 111 rfl) rfl
theorem kcX2_loadRow_1 : CHb cX2_loadRow 64 [21, 5, 46, 79, 42, 180, 0, 48, 21, 5, 43, 21, 5, 182, 0, 95, 79, 42, 180, 0, 51, 21, 5, 42, 180, 0, 48, 21, 5, 46, 154, 0, 13, 43, 21, 5, 5, 182, 0, 98, 153, 0, 7, 4, 167, 0, 4, 3, 84, 42, 21, 5, 29, 182, 0, 102, 132, 4, 1, 167, 255, 142, 177] := CHb_of (by decide +kernel)
theorem dX2_loadRow_126 : decode cX2_loadRow 126 = .ok (.return_, 1) := dw_177 (kcX2_loadRow_1 62 177 rfl)
theorem dX2_loadRow_18 : decode cX2_loadRow 18 = .ok (.iload_n 2, 1) := dw_28 (kcX2_loadRow_0 18 28 rfl)
theorem dX2_loadRow_19 : decode cX2_loadRow 19 = .ok (.iload 4, 2) := dw_21 (kcX2_loadRow_0 19 21 rfl) (kcX2_loadRow_0 20 4 rfl)
theorem dX2_loadRow_21 : decode cX2_loadRow 21 = .ok (.invokestatic 89, 3) := dw_184 (kcX2_loadRow_0 21 184 rfl) (kcX2_loadRow_0 22 0 rfl) (kcX2_loadRow_0 23 89 rfl) rfl
theorem dX2_loadRow_24 : decode cX2_loadRow 24 = .ok (.istore 5, 2) := dw_54 (kcX2_loadRow_0 24 54 rfl) (kcX2_loadRow_0 25 5 rfl)
theorem dX2_loadRow_26 : decode cX2_loadRow 26 = .ok (.aload_n 0, 1) := dw_42 (kcX2_loadRow_0 26 42 rfl)
theorem dX2_loadRow_27 : decode cX2_loadRow 27 = .ok (.getfield 42, 3) := dw_180 (kcX2_loadRow_0 27 180 rfl) (kcX2_loadRow_0 28 0 rfl) (kcX2_loadRow_0 29 42 rfl) rfl
theorem dX2_loadRow_30 : decode cX2_loadRow 30 = .ok (.iload 5, 2) := dw_21 (kcX2_loadRow_0 30 21 rfl) (kcX2_loadRow_0 31 5 rfl)
theorem dX2_loadRow_32 : decode cX2_loadRow 32 = .ok (.aload_n 1, 1) := dw_43 (kcX2_loadRow_0 32 43 rfl)
theorem dX2_loadRow_33 : decode cX2_loadRow 33 = .ok (.getfield 93, 3) := dw_180 (kcX2_loadRow_0 33 180 rfl) (kcX2_loadRow_0 34 0 rfl) (kcX2_loadRow_0 35 93 rfl) rfl
theorem dX2_loadRow_36 : decode cX2_loadRow 36 = .ok (.iload 5, 2) := dw_21 (kcX2_loadRow_0 36 21 rfl) (kcX2_loadRow_0 37 5 rfl)
theorem dX2_loadRow_38 : decode cX2_loadRow 38 = .ok (.iaload, 1) := dw_46 (kcX2_loadRow_0 38 46 rfl)
theorem dX2_loadRow_39 : decode cX2_loadRow 39 = .ok (.iastore, 1) := dw_79 (kcX2_loadRow_0 39 79 rfl)
theorem dX2_loadRow_40 : decode cX2_loadRow 40 = .ok (.aload_n 0, 1) := dw_42 (kcX2_loadRow_0 40 42 rfl)
theorem dX2_loadRow_41 : decode cX2_loadRow 41 = .ok (.getfield 45, 3) := dw_180 (kcX2_loadRow_0 41 180 rfl) (kcX2_loadRow_0 42 0 rfl) (kcX2_loadRow_0 43 45 rfl) rfl
theorem dX2_loadRow_44 : decode cX2_loadRow 44 = .ok (.iload 5, 2) := dw_21 (kcX2_loadRow_0 44 21 rfl) (kcX2_loadRow_0 45 5 rfl)
theorem dX2_loadRow_46 : decode cX2_loadRow 46 = .ok (.aload_n 1, 1) := dw_43 (kcX2_loadRow_0 46 43 rfl)
theorem dX2_loadRow_47 : decode cX2_loadRow 47 = .ok (.getfield 94, 3) := dw_180 (kcX2_loadRow_0 47 180 rfl) (kcX2_loadRow_0 48 0 rfl) (kcX2_loadRow_0 49 94 rfl) rfl
theorem dX2_loadRow_50 : decode cX2_loadRow 50 = .ok (.iload 5, 2) := dw_21 (kcX2_loadRow_0 50 21 rfl) (kcX2_loadRow_0 51 5 rfl)
theorem dX2_loadRow_52 : decode cX2_loadRow 52 = .ok (.iaload, 1) := dw_46 (kcX2_loadRow_0 52 46 rfl)
theorem dX2_loadRow_53 : decode cX2_loadRow 53 = .ok (.iastore, 1) := dw_79 (kcX2_loadRow_0 53 79 rfl)
theorem dX2_loadRow_54 : decode cX2_loadRow 54 = .ok (.aload_n 0, 1) := dw_42 (kcX2_loadRow_0 54 42 rfl)
theorem dX2_loadRow_55 : decode cX2_loadRow 55 = .ok (.getfield 54, 3) := dw_180 (kcX2_loadRow_0 55 180 rfl) (kcX2_loadRow_0 56 0 rfl) (kcX2_loadRow_0 57 54 rfl) rfl
theorem dX2_loadRow_58 : decode cX2_loadRow 58 = .ok (.iload 5, 2) := dw_21 (kcX2_loadRow_0 58 21 rfl) (kcX2_loadRow_0 59 5 rfl)
theorem dX2_loadRow_60 : decode cX2_loadRow 60 = .ok (.aload_n 1, 1) := dw_43 (kcX2_loadRow_0 60 43 rfl)
theorem dX2_loadRow_61 : decode cX2_loadRow 61 = .ok (.getfield 94, 3) := dw_180 (kcX2_loadRow_0 61 180 rfl) (kcX2_loadRow_0 62 0 rfl) (kcX2_loadRow_0 63 94 rfl) rfl
theorem dX2_loadRow_64 : decode cX2_loadRow 64 = .ok (.iload 5, 2) := dw_21 (kcX2_loadRow_1 0 21 rfl) (kcX2_loadRow_1 1 5 rfl)
theorem dX2_loadRow_66 : decode cX2_loadRow 66 = .ok (.iaload, 1) := dw_46 (kcX2_loadRow_1 2 46 rfl)
theorem dX2_loadRow_67 : decode cX2_loadRow 67 = .ok (.iastore, 1) := dw_79 (kcX2_loadRow_1 3 79 rfl)
theorem dX2_loadRow_68 : decode cX2_loadRow 68 = .ok (.aload_n 0, 1) := dw_42 (kcX2_loadRow_1 4 42 rfl)
theorem dX2_loadRow_69 : decode cX2_loadRow 69 = .ok (.getfield 48, 3) := dw_180 (kcX2_loadRow_1 5 180 rfl) (kcX2_loadRow_1 6 0 rfl) (kcX2_loadRow_1 7 48 rfl) rfl
theorem dX2_loadRow_72 : decode cX2_loadRow 72 = .ok (.iload 5, 2) := dw_21 (kcX2_loadRow_1 8 21 rfl) (kcX2_loadRow_1 9 5 rfl)
theorem dX2_loadRow_74 : decode cX2_loadRow 74 = .ok (.aload_n 1, 1) := dw_43 (kcX2_loadRow_1 10 43 rfl)
theorem dX2_loadRow_75 : decode cX2_loadRow 75 = .ok (.iload 5, 2) := dw_21 (kcX2_loadRow_1 11 21 rfl) (kcX2_loadRow_1 12 5 rfl)
theorem dX2_loadRow_77 : decode cX2_loadRow 77 = .ok (.invokevirtual 95, 3) := dw_182 (kcX2_loadRow_1 13 182 rfl) (kcX2_loadRow_1 14 0 rfl) (kcX2_loadRow_1 15 95 rfl) rfl
theorem dX2_loadRow_80 : decode cX2_loadRow 80 = .ok (.iastore, 1) := dw_79 (kcX2_loadRow_1 16 79 rfl)
theorem dX2_loadRow_81 : decode cX2_loadRow 81 = .ok (.aload_n 0, 1) := dw_42 (kcX2_loadRow_1 17 42 rfl)
theorem dX2_loadRow_82 : decode cX2_loadRow 82 = .ok (.getfield 51, 3) := dw_180 (kcX2_loadRow_1 18 180 rfl) (kcX2_loadRow_1 19 0 rfl) (kcX2_loadRow_1 20 51 rfl) rfl
theorem dX2_loadRow_85 : decode cX2_loadRow 85 = .ok (.iload 5, 2) := dw_21 (kcX2_loadRow_1 21 21 rfl) (kcX2_loadRow_1 22 5 rfl)
theorem dX2_loadRow_87 : decode cX2_loadRow 87 = .ok (.aload_n 0, 1) := dw_42 (kcX2_loadRow_1 23 42 rfl)
theorem dX2_loadRow_88 : decode cX2_loadRow 88 = .ok (.getfield 48, 3) := dw_180 (kcX2_loadRow_1 24 180 rfl) (kcX2_loadRow_1 25 0 rfl) (kcX2_loadRow_1 26 48 rfl) rfl
theorem dX2_loadRow_91 : decode cX2_loadRow 91 = .ok (.iload 5, 2) := dw_21 (kcX2_loadRow_1 27 21 rfl) (kcX2_loadRow_1 28 5 rfl)
theorem dX2_loadRow_93 : decode cX2_loadRow 93 = .ok (.iaload, 1) := dw_46 (kcX2_loadRow_1 29 46 rfl)
theorem dX2_loadRow_94 : decode cX2_loadRow 94 = .ok (.ifCond .ne 13, 3) := dw_154 (kcX2_loadRow_1 30 154 rfl) (kcX2_loadRow_1 31 0 rfl) (kcX2_loadRow_1 32 13 rfl) rfl
theorem dX2_loadRow_107 : decode cX2_loadRow 107 = .ok (.iconst 1, 1) := dw_4 (kcX2_loadRow_1 43 4 rfl)
theorem dX2_loadRow_108 : decode cX2_loadRow 108 = .ok (.goto 4, 3) := dw_167 (kcX2_loadRow_1 44 167 rfl) (kcX2_loadRow_1 45 0 rfl) (kcX2_loadRow_1 46 4 rfl) rfl
theorem dX2_loadRow_112 : decode cX2_loadRow 112 = .ok (.bastore, 1) := dw_84 (kcX2_loadRow_1 48 84 rfl)
theorem dX2_loadRow_113 : decode cX2_loadRow 113 = .ok (.aload_n 0, 1) := dw_42 (kcX2_loadRow_1 49 42 rfl)
theorem dX2_loadRow_114 : decode cX2_loadRow 114 = .ok (.iload 5, 2) := dw_21 (kcX2_loadRow_1 50 21 rfl) (kcX2_loadRow_1 51 5 rfl)
theorem dX2_loadRow_116 : decode cX2_loadRow 116 = .ok (.iload_n 3, 1) := dw_29 (kcX2_loadRow_1 52 29 rfl)
theorem dX2_loadRow_117 : decode cX2_loadRow 117 = .ok (.invokevirtual 102, 3) := dw_182 (kcX2_loadRow_1 53 182 rfl) (kcX2_loadRow_1 54 0 rfl) (kcX2_loadRow_1 55 102 rfl) rfl
theorem dX2_loadRow_120 : decode cX2_loadRow 120 = .ok (.iinc 4 1, 3) := dw_132 (kcX2_loadRow_1 56 132 rfl) (kcX2_loadRow_1 57 4 rfl) (kcX2_loadRow_1 58 1 rfl) rfl
theorem dX2_loadRow_123 : decode cX2_loadRow 123 = .ok (.goto (-114), 3) := dw_167 (kcX2_loadRow_1 59 167 rfl) (kcX2_loadRow_1 60 255 rfl) (kcX2_loadRow_1 61 142 rfl) rfl
theorem dX2_loadRow_97 : decode cX2_loadRow 97 = .ok (.aload_n 1, 1) := dw_43 (kcX2_loadRow_1 33 43 rfl)
theorem dX2_loadRow_98 : decode cX2_loadRow 98 = .ok (.iload 5, 2) := dw_21 (kcX2_loadRow_1 34 21 rfl) (kcX2_loadRow_1 35 5 rfl)
theorem dX2_loadRow_100 : decode cX2_loadRow 100 = .ok (.iconst 2, 1) := dw_5 (kcX2_loadRow_1 36 5 rfl)
theorem dX2_loadRow_101 : decode cX2_loadRow 101 = .ok (.invokevirtual 98, 3) := dw_182 (kcX2_loadRow_1 37 182 rfl) (kcX2_loadRow_1 38 0 rfl) (kcX2_loadRow_1 39 98 rfl) rfl
theorem dX2_loadRow_104 : decode cX2_loadRow 104 = .ok (.ifCond .eq 7, 3) := dw_153 (kcX2_loadRow_1 40 153 rfl) (kcX2_loadRow_1 41 0 rfl) (kcX2_loadRow_1 42 7 rfl) rfl
theorem dX2_loadRow_111 : decode cX2_loadRow 111 = .ok (.iconst 0, 1) := dw_3 (kcX2_loadRow_1 47 3 rfl)
theorem kcX2_load_0 : CHb cX2_load 0 [42, 43, 180, 0, 63, 181, 0, 9, 42, 43, 180, 0, 66, 181, 0, 15, 42, 43, 180, 0, 67, 6, 46, 181, 0, 18, 42, 43, 180, 0, 67, 7, 46, 181, 0, 21, 42, 16, 254, 181, 0, 24, 3, 61, 28, 42, 180, 0, 9, 162, 0, 54, 42, 180, 0, 34, 28, 43, 28, 182, 0, 70, 84, 42] := CHb_of (by decide +kernel)
theorem dX2_load_0 : decode cX2_load 0 = .ok (.aload_n 0, 1) := dw_42 (kcX2_load_0 0 42 rfl)
theorem dX2_load_1 : decode cX2_load 1 = .ok (.aload_n 1, 1) := dw_43 (kcX2_load_0 1 43 rfl)
theorem dX2_load_2 : decode cX2_load 2 = .ok (.getfield 63, 3) := dw_180 (kcX2_load_0 2 180 rfl) (kcX2_load_0 3 0 rfl) (kcX2_load_0 4 63 rfl) rfl
theorem dX2_load_5 : decode cX2_load 5 = .ok (.putfield 9, 3) := dw_181 (kcX2_load_0 5 181 rfl) (kcX2_load_0 6 0 rfl) (kcX2_load_0 7 9 rfl) rfl
theorem dX2_load_8 : decode cX2_load 8 = .ok (.aload_n 0, 1) := dw_42 (kcX2_load_0 8 42 rfl)
theorem dX2_load_9 : decode cX2_load 9 = .ok (.aload_n 1, 1) := dw_43 (kcX2_load_0 9 43 rfl)
theorem dX2_load_10 : decode cX2_load 10 = .ok (.getfield 66, 3) := dw_180 (kcX2_load_0 10 180 rfl) (kcX2_load_0 11 0 rfl) (kcX2_load_0 12 66 rfl) rfl
theorem dX2_load_13 : decode cX2_load 13 = .ok (.putfield 15, 3) := dw_181 (kcX2_load_0 13 181 rfl) (kcX2_load_0 14 0 rfl) (kcX2_load_0 15 15 rfl) rfl
theorem dX2_load_16 : decode cX2_load 16 = .ok (.aload_n 0, 1) := dw_42 (kcX2_load_0 16 42 rfl)
theorem dX2_load_17 : decode cX2_load 17 = .ok (.aload_n 1, 1) := dw_43 (kcX2_load_0 17 43 rfl)
theorem dX2_load_18 : decode cX2_load 18 = .ok (.getfield 67, 3) := dw_180 (kcX2_load_0 18 180 rfl) (kcX2_load_0 19 0 rfl) (kcX2_load_0 20 67 rfl) rfl
theorem dX2_load_21 : decode cX2_load 21 = .ok (.iconst 3, 1) := dw_6 (kcX2_load_0 21 6 rfl)
theorem dX2_load_22 : decode cX2_load 22 = .ok (.iaload, 1) := dw_46 (kcX2_load_0 22 46 rfl)
theorem dX2_load_23 : decode cX2_load 23 = .ok (.putfield 18, 3) := dw_181 (kcX2_load_0 23 181 rfl) (kcX2_load_0 24 0 rfl) (kcX2_load_0 25 18 rfl) rfl
theorem dX2_load_26 : decode cX2_load 26 = .ok (.aload_n 0, 1) := dw_42 (kcX2_load_0 26 42 rfl)
theorem dX2_load_27 : decode cX2_load 27 = .ok (.aload_n 1, 1) := dw_43 (kcX2_load_0 27 43 rfl)
theorem dX2_load_28 : decode cX2_load 28 = .ok (.getfield 67, 3) := dw_180 (kcX2_load_0 28 180 rfl) (kcX2_load_0 29 0 rfl) (kcX2_load_0 30 67 rfl) rfl
theorem dX2_load_31 : decode cX2_load 31 = .ok (.iconst 4, 1) := dw_7 (kcX2_load_0 31 7 rfl)
theorem dX2_load_32 : decode cX2_load 32 = .ok (.iaload, 1) := dw_46 (kcX2_load_0 32 46 rfl)
theorem dX2_load_33 : decode cX2_load 33 = .ok (.putfield 21, 3) := dw_181 (kcX2_load_0 33 181 rfl) (kcX2_load_0 34 0 rfl) (kcX2_load_0 35 21 rfl) rfl
theorem dX2_load_36 : decode cX2_load 36 = .ok (.aload_n 0, 1) := dw_42 (kcX2_load_0 36 42 rfl)
theorem dX2_load_37 : decode cX2_load 37 = .ok (.bipush (-2), 2) := dw_16 (kcX2_load_0 37 16 rfl) (kcX2_load_0 38 254 rfl) rfl
theorem dX2_load_39 : decode cX2_load 39 = .ok (.putfield 24, 3) := dw_181 (kcX2_load_0 39 181 rfl) (kcX2_load_0 40 0 rfl) (kcX2_load_0 41 24 rfl) rfl
theorem dX2_load_42 : decode cX2_load 42 = .ok (.iconst 0, 1) := dw_3 (kcX2_load_0 42 3 rfl)
theorem dX2_load_43 : decode cX2_load 43 = .ok (.istore_n 2, 1) := dw_61 (kcX2_load_0 43 61 rfl)
theorem dX2_load_44 : decode cX2_load 44 = .ok (.iload_n 2, 1) := dw_28 (kcX2_load_0 44 28 rfl)
theorem dX2_load_45 : decode cX2_load 45 = .ok (.aload_n 0, 1) := dw_42 (kcX2_load_0 45 42 rfl)
theorem dX2_load_46 : decode cX2_load 46 = .ok (.getfield 9, 3) := dw_180 (kcX2_load_0 46 180 rfl) (kcX2_load_0 47 0 rfl) (kcX2_load_0 48 9 rfl) rfl
theorem dX2_load_49 : decode cX2_load 49 = .ok (.if_icmp .ge 54, 3) := dw_162 (kcX2_load_0 49 162 rfl) (kcX2_load_0 50 0 rfl) (kcX2_load_0 51 54 rfl) rfl
theorem kcX2_load_1 : CHb cX2_load 64 [180, 0, 38, 28, 43, 28, 182, 0, 74, 79, 42, 180, 0, 34, 28, 51, 153, 0, 12, 42, 43, 28, 182, 0, 78, 167, 0, 8, 42, 28, 182, 0, 82, 132, 2, 1, 167, 255, 200, 177] := CHb_of (by decide +kernel)
theorem dX2_load_103 : decode cX2_load 103 = .ok (.return_, 1) := dw_177 (kcX2_load_1 39 177 rfl)
theorem dX2_load_52 : decode cX2_load 52 = .ok (.aload_n 0, 1) := dw_42 (kcX2_load_0 52 42 rfl)
theorem dX2_load_53 : decode cX2_load 53 = .ok (.getfield 34, 3) := dw_180 (kcX2_load_0 53 180 rfl) (kcX2_load_0 54 0 rfl) (kcX2_load_0 55 34 rfl) rfl
theorem dX2_load_56 : decode cX2_load 56 = .ok (.iload_n 2, 1) := dw_28 (kcX2_load_0 56 28 rfl)
theorem dX2_load_57 : decode cX2_load 57 = .ok (.aload_n 1, 1) := dw_43 (kcX2_load_0 57 43 rfl)
theorem dX2_load_58 : decode cX2_load 58 = .ok (.iload_n 2, 1) := dw_28 (kcX2_load_0 58 28 rfl)
theorem dX2_load_59 : decode cX2_load 59 = .ok (.invokevirtual 70, 3) := dw_182 (kcX2_load_0 59 182 rfl) (kcX2_load_0 60 0 rfl) (kcX2_load_0 61 70 rfl) rfl
theorem dX2_load_62 : decode cX2_load 62 = .ok (.bastore, 1) := dw_84 (kcX2_load_0 62 84 rfl)
theorem dX2_load_63 : decode cX2_load 63 = .ok (.aload_n 0, 1) := dw_42 (kcX2_load_0 63 42 rfl)
theorem dX2_load_64 : decode cX2_load 64 = .ok (.getfield 38, 3) := dw_180 (kcX2_load_1 0 180 rfl) (kcX2_load_1 1 0 rfl) (kcX2_load_1 2 38 rfl) rfl
theorem dX2_load_67 : decode cX2_load 67 = .ok (.iload_n 2, 1) := dw_28 (kcX2_load_1 3 28 rfl)
theorem dX2_load_68 : decode cX2_load 68 = .ok (.aload_n 1, 1) := dw_43 (kcX2_load_1 4 43 rfl)
theorem dX2_load_69 : decode cX2_load 69 = .ok (.iload_n 2, 1) := dw_28 (kcX2_load_1 5 28 rfl)
theorem dX2_load_70 : decode cX2_load 70 = .ok (.invokevirtual 74, 3) := dw_182 (kcX2_load_1 6 182 rfl) (kcX2_load_1 7 0 rfl) (kcX2_load_1 8 74 rfl) rfl
theorem dX2_load_73 : decode cX2_load 73 = .ok (.iastore, 1) := dw_79 (kcX2_load_1 9 79 rfl)
theorem dX2_load_74 : decode cX2_load 74 = .ok (.aload_n 0, 1) := dw_42 (kcX2_load_1 10 42 rfl)
theorem dX2_load_75 : decode cX2_load 75 = .ok (.getfield 34, 3) := dw_180 (kcX2_load_1 11 180 rfl) (kcX2_load_1 12 0 rfl) (kcX2_load_1 13 34 rfl) rfl
theorem dX2_load_78 : decode cX2_load 78 = .ok (.iload_n 2, 1) := dw_28 (kcX2_load_1 14 28 rfl)
theorem dX2_load_79 : decode cX2_load 79 = .ok (.baload, 1) := dw_51 (kcX2_load_1 15 51 rfl)
theorem dX2_load_80 : decode cX2_load 80 = .ok (.ifCond .eq 12, 3) := dw_153 (kcX2_load_1 16 153 rfl) (kcX2_load_1 17 0 rfl) (kcX2_load_1 18 12 rfl) rfl
theorem dX2_load_92 : decode cX2_load 92 = .ok (.aload_n 0, 1) := dw_42 (kcX2_load_1 28 42 rfl)
theorem dX2_load_93 : decode cX2_load 93 = .ok (.iload_n 2, 1) := dw_28 (kcX2_load_1 29 28 rfl)
theorem dX2_load_94 : decode cX2_load 94 = .ok (.invokevirtual 82, 3) := dw_182 (kcX2_load_1 30 182 rfl) (kcX2_load_1 31 0 rfl) (kcX2_load_1 32 82 rfl) rfl
theorem dX2_load_97 : decode cX2_load 97 = .ok (.iinc 2 1, 3) := dw_132 (kcX2_load_1 33 132 rfl) (kcX2_load_1 34 2 rfl) (kcX2_load_1 35 1 rfl) rfl
theorem dX2_load_100 : decode cX2_load 100 = .ok (.goto (-56), 3) := dw_167 (kcX2_load_1 36 167 rfl) (kcX2_load_1 37 255 rfl) (kcX2_load_1 38 200 rfl) rfl
theorem dX2_load_83 : decode cX2_load 83 = .ok (.aload_n 0, 1) := dw_42 (kcX2_load_1 19 42 rfl)
theorem dX2_load_84 : decode cX2_load 84 = .ok (.aload_n 1, 1) := dw_43 (kcX2_load_1 20 43 rfl)
theorem dX2_load_85 : decode cX2_load 85 = .ok (.iload_n 2, 1) := dw_28 (kcX2_load_1 21 28 rfl)
theorem dX2_load_86 : decode cX2_load 86 = .ok (.invokevirtual 78, 3) := dw_182 (kcX2_load_1 22 182 rfl) (kcX2_load_1 23 0 rfl) (kcX2_load_1 24 78 rfl) rfl
theorem dX2_load_89 : decode cX2_load 89 = .ok (.goto 8, 3) := dw_167 (kcX2_load_1 25 167 rfl) (kcX2_load_1 26 0 rfl) (kcX2_load_1 27 8 rfl) rfl
theorem nI_sub12 {v : Int32} {n : Nat} (h : v = nI n - 12) (hn : 12 ≤ n) : v = nI (n - 12) := h.trans (pk_sub (b := 12) hn)
set_option maxHeartbeats 4000000 in
set_option maxRecDepth 100000 in
theorem c_X2_enter (l : Launch) (G : GG) (a b : Nat → Nat) (f : Nat → Int32) (r : Nat → Nat → Int32) (q : Nat → Nat → Int32) (rc : Int32) (rw cl : Nat) (hrw : rw ≤ 12) (hcl : cl ≤ 12) (h0 : f 0 = nI rw) (h1 : f 1 = nI cl) (wt : Int32) (fs : Nat) (hfs : fs ≤ rw) : WrV l yX2_enter cX2_enter 5 ({ frames := 2, cells := 0, slots := 0, locals := 51 }) G ([((a 15), .inr (2, [.int (f 0), .int (f 1), .int (f 2), .int (f 3), .int (f 4), .ref (b 3), .ref (a 6), .ref (a 7), .ref (a 8), .ref (a 9), .ref (a 10), .ref (a 11), .ref (a 12), .ref (a 13), .ref (a 14)])), ((a 6), .inl (G.2.2.1, 12, .inl (r 6))), ((a 7), .inl (G.2.1, 12, .inl (r 7))), ((a 8), .inl (G.2.1, 144, .inl (r 8))), ((a 9), .inl (G.2.1, 144, .inl (r 9))), ((a 10), .inl (G.2.1, 144, .inl (r 10))), ((a 11), .inl (G.2.2.1, 144, .inl (r 11))), ((a 12), .inl (G.2.1, 144, .inl (r 12))), ((a 13), .inl (G.2.1, 144, .inl (r 13))), ((a 14), .inl (G.2.1, 144, .inl (r 14))), ((b 3), .inr (5, [.ref (b 0), .ref (b 1), .ref (b 2), .int rc])), ((b 0), .inl (G.2.1, 25, .inl (q 0))), ((b 1), .inl (G.2.1, 25, .inl (q 1))), ((b 2), .inl (G.2.1, 25, .inl (q 2)))]) [.ref (a 15), .int wt, .int (nI fs)] (fun w => ∃ (e4 : Int32) (s2 : Nat → Int32), RB adjR s2 ∧ w = [((a 15), .inr (2, [.int (f 0), .int (f 1), .int (f 2), .int (f 3), .int e4, .ref (b 3), .ref (a 6), .ref (a 7), .ref (a 8), .ref (a 9), .ref (a 10), .ref (a 11), .ref (a 12), .ref (a 13), .ref (a 14)])), ((a 6), .inl (G.2.2.1, 12, .inl (r 6))), ((a 7), .inl (G.2.1, 12, .inl (r 7))), ((a 8), .inl (G.2.1, 144, .inl (r 8))), ((a 9), .inl (G.2.1, 144, .inl (r 9))), ((a 10), .inl (G.2.1, 144, .inl (r 10))), ((a 11), .inl (G.2.2.1, 144, .inl (r 11))), ((a 12), .inl (G.2.1, 144, .inl (r 12))), ((a 13), .inl (G.2.1, 144, .inl (r 13))), ((a 14), .inl (G.2.1, 144, .inl (r 14))), ((b 3), .inr (5, [.ref (b 0), .ref (b 1), .ref (b 2), .int rc])), ((b 0), .inl (G.2.1, 25, .inl s2)), ((b 1), .inl (G.2.1, 25, .inl (q 1))), ((b 2), .inl (G.2.1, 25, .inl (q 2)))]) := by
  refine wr_entryV (by decide +kernel) (Nat.le_of_ble_eq_true rfl) ?_
  intro p e s m below meth c A C0 hP hK hD hA ls hl
  have hS : va_S A s.heap s.heap [] := va_S.rf
  obtain ⟨hx, hb, hml, hown, hts, hr, hlocks, hin⟩ := C0
  have hown : s.vm.findClass RX2 = some m.cls := hown
  have hl : lv_has ls 5 [(0, .ref (a 15)), (1, .int wt), (2, .int (nI fs))] := hl
  refine lv_aload_n hx hb dX2_enter_0 rfl (lv_at hl 0 rfl) ?_
  refine va_get (D := G.1) (ci := 2) (v := .ref (b 3)) (C := RX2) (T := TX2) (N := 15) hx hb hts inX2 hown hK.1 hP 0 rfl rfl 5 (by decide) (hts _ mf_X2_30) (fun _ h9 => h9) rfl dX2_enter_1 ?_
  refine wrVV (rest := []) (q0 := 0) ⟨hx, hb, hml, hown, hts⟩ (c_X5_wipe l G b q rc) mi_yX5_wipe mv_yX5_wipe ml_X2_114 ⟨rfl, rfl, Nat.le_of_ble_eq_true rfl, Nat.le_of_ble_eq_true rfl⟩ hK hP hD [10, 11, 12, 13] rfl (by decide) rfl rfl rfl hl.1 rfl (Nat.le_of_ble_eq_true rfl) dX2_enter_4 ⟨Nat.zero_le _, Nat.zero_le _⟩ hS hA (fun w2 H locs hw2 hP hS => ?_)
  obtain rfl := hw2
  have hP : PP G [((a 15), .inr (2, [.int (f 0), .int (f 1), .int (f 2), .int (f 3), .int (f 4), .ref (b 3), .ref (a 6), .ref (a 7), .ref (a 8), .ref (a 9), .ref (a 10), .ref (a 11), .ref (a 12), .ref (a 13), .ref (a 14)])), ((a 6), .inl (G.2.2.1, 12, .inl (r 6))), ((a 7), .inl (G.2.1, 12, .inl (r 7))), ((a 8), .inl (G.2.1, 144, .inl (r 8))), ((a 9), .inl (G.2.1, 144, .inl (r 9))), ((a 10), .inl (G.2.1, 144, .inl (r 10))), ((a 11), .inl (G.2.2.1, 144, .inl (r 11))), ((a 12), .inl (G.2.1, 144, .inl (r 12))), ((a 13), .inl (G.2.1, 144, .inl (r 13))), ((a 14), .inl (G.2.1, 144, .inl (r 14))), ((b 3), .inr (5, [.ref (b 0), .ref (b 1), .ref (b 2), .int rc])), ((b 0), .inl (G.2.1, 25, .inl (flF (q 0) 0 25))), ((b 1), .inl (G.2.1, 25, .inl (q 1))), ((b 2), .inl (G.2.1, 25, .inl (q 2)))] H := hP rfl
  have hD := D_as2 hP hD rfl
  have hRB : RB adjR (flF (q 0) 0 25) := RB_0 _
  have j18 : ∀ (e4 : Int32), ∀ (H : Heap) (locs : List Loc) (ls : Array Slot), PP G ([((a 15), .inr (2, [.int (f 0), .int (f 1), .int (f 2), .int (f 3), .int (f 4), .ref (b 3), .ref (a 6), .ref (a 7), .ref (a 8), .ref (a 9), .ref (a 10), .ref (a 11), .ref (a 12), .ref (a 13), .ref (a 14)])), ((a 6), .inl (G.2.2.1, 12, .inl (r 6))), ((a 7), .inl (G.2.1, 12, .inl (r 7))), ((a 8), .inl (G.2.1, 144, .inl (r 8))), ((a 9), .inl (G.2.1, 144, .inl (r 9))), ((a 10), .inl (G.2.1, 144, .inl (r 10))), ((a 11), .inl (G.2.2.1, 144, .inl (r 11))), ((a 12), .inl (G.2.1, 144, .inl (r 12))), ((a 13), .inl (G.2.1, 144, .inl (r 13))), ((a 14), .inl (G.2.1, 144, .inl (r 14))), ((b 3), .inr (5, [.ref (b 0), .ref (b 1), .ref (b 2), .int rc])), ((b 0), .inl (G.2.1, 25, .inl (flF (q 0) 0 25))), ((b 1), .inl (G.2.1, 25, .inl (q 1))), ((b 2), .inl (G.2.1, 25, .inl (q 2)))]) H → va_S A s.heap H locs → lv_has ls 5 [(0, .ref (a 15)), (1, .int wt), (2, .int (nI fs))] → W p l e ({ frames := 2, cells := 0, slots := 0, locals := 51 }) s m ([.ref (a 15), .int wt, .int (nI fs)] : List Value).toArray below meth c H locs 0 0 (MQ below (QwV G (fun w => ∃ (e4 : Int32) (s2 : Nat → Int32), RB adjR s2 ∧ w = [((a 15), .inr (2, [.int (f 0), .int (f 1), .int (f 2), .int (f 3), .int e4, .ref (b 3), .ref (a 6), .ref (a 7), .ref (a 8), .ref (a 9), .ref (a 10), .ref (a 11), .ref (a 12), .ref (a 13), .ref (a 14)])), ((a 6), .inl (G.2.2.1, 12, .inl (r 6))), ((a 7), .inl (G.2.1, 12, .inl (r 7))), ((a 8), .inl (G.2.1, 144, .inl (r 8))), ((a 9), .inl (G.2.1, 144, .inl (r 9))), ((a 10), .inl (G.2.1, 144, .inl (r 10))), ((a 11), .inl (G.2.2.1, 144, .inl (r 11))), ((a 12), .inl (G.2.1, 144, .inl (r 12))), ((a 13), .inl (G.2.1, 144, .inl (r 13))), ((a 14), .inl (G.2.1, 144, .inl (r 14))), ((b 3), .inr (5, [.ref (b 0), .ref (b 1), .ref (b 2), .int rc])), ((b 0), .inl (G.2.1, 25, .inl s2)), ((b 1), .inl (G.2.1, 25, .inl (q 1))), ((b 2), .inl (G.2.1, 25, .inl (q 2)))]) A) ([.ref (a 15), .int wt, .int (nI fs)] : List Value).toArray s 0 0 A) (F0 m 18 ls [.int e4, .ref (a 15)]) := by
    intro e4  H locs ls hP hS hl
    have hD := D_as2 hP hD rfl
    refine va_put (D := G.1) (ci := 2) (v := .int e4) (C := RX2) (T := TX2) (N := 15) hx hb hts inX2 tyX2 tyX2_ok nmX2 hown hK.1 hP hD hS 0 rfl rfl 4 (by decide) (hts _ mf_X2_24) (fun _ h9 => h9) rfl (tyX2_ok 4 (by decide)) (rfl) (rfl) (Nat.le_of_ble_eq_true rfl) dX2_enter_18 (fun H locs hP hD hS => ?_)
    have hP : PP G [((a 15), .inr (2, [.int (f 0), .int (f 1), .int (f 2), .int (f 3), .int e4, .ref (b 3), .ref (a 6), .ref (a 7), .ref (a 8), .ref (a 9), .ref (a 10), .ref (a 11), .ref (a 12), .ref (a 13), .ref (a 14)])), ((a 6), .inl (G.2.2.1, 12, .inl (r 6))), ((a 7), .inl (G.2.1, 12, .inl (r 7))), ((a 8), .inl (G.2.1, 144, .inl (r 8))), ((a 9), .inl (G.2.1, 144, .inl (r 9))), ((a 10), .inl (G.2.1, 144, .inl (r 10))), ((a 11), .inl (G.2.2.1, 144, .inl (r 11))), ((a 12), .inl (G.2.1, 144, .inl (r 12))), ((a 13), .inl (G.2.1, 144, .inl (r 13))), ((a 14), .inl (G.2.1, 144, .inl (r 14))), ((b 3), .inr (5, [.ref (b 0), .ref (b 1), .ref (b 2), .int rc])), ((b 0), .inl (G.2.1, 25, .inl (flF (q 0) 0 25))), ((b 1), .inl (G.2.1, 25, .inl (q 1))), ((b 2), .inl (G.2.1, 25, .inl (q 2)))] H := hP
    have hD := D_as hP hD rfl
    refine lv_iload_n hx hb dX2_enter_21 rfl (lv_at hl 2 rfl) ?_
    refine lv_istore_n (lv' := [(3, .int (nI fs)), (0, .ref (a 15)), (1, .int wt), (2, .int (nI fs))]) hx hb dX2_enter_22 rfl hl (by decide) rfl (fun ls hl => ?_)
    have outer : ∀ (k i : Nat) (s2 : Nat → Int32), i ≤ rw → rw < i + k → RB adjR s2 → ∀ (H : Heap) (locs : List Loc) (ls : Array Slot), PP G ([((a 15), .inr (2, [.int (f 0), .int (f 1), .int (f 2), .int (f 3), .int e4, .ref (b 3), .ref (a 6), .ref (a 7), .ref (a 8), .ref (a 9), .ref (a 10), .ref (a 11), .ref (a 12), .ref (a 13), .ref (a 14)])), ((a 6), .inl (G.2.2.1, 12, .inl (r 6))), ((a 7), .inl (G.2.1, 12, .inl (r 7))), ((a 8), .inl (G.2.1, 144, .inl (r 8))), ((a 9), .inl (G.2.1, 144, .inl (r 9))), ((a 10), .inl (G.2.1, 144, .inl (r 10))), ((a 11), .inl (G.2.2.1, 144, .inl (r 11))), ((a 12), .inl (G.2.1, 144, .inl (r 12))), ((a 13), .inl (G.2.1, 144, .inl (r 13))), ((a 14), .inl (G.2.1, 144, .inl (r 14))), ((b 3), .inr (5, [.ref (b 0), .ref (b 1), .ref (b 2), .int rc])), ((b 0), .inl (G.2.1, 25, .inl s2)), ((b 1), .inl (G.2.1, 25, .inl (q 1))), ((b 2), .inl (G.2.1, 25, .inl (q 2)))]) H → va_S A s.heap H locs → lv_has ls 5 [(0, .ref (a 15)), (1, .int wt), (3, .int (nI i))] → W p l e ({ frames := 2, cells := 0, slots := 0, locals := 51 }) s m ([.ref (a 15), .int wt, .int (nI fs)] : List Value).toArray below meth c H locs 0 0 (MQ below (QwV G (fun w => ∃ (e4 : Int32) (s2 : Nat → Int32), RB adjR s2 ∧ w = [((a 15), .inr (2, [.int (f 0), .int (f 1), .int (f 2), .int (f 3), .int e4, .ref (b 3), .ref (a 6), .ref (a 7), .ref (a 8), .ref (a 9), .ref (a 10), .ref (a 11), .ref (a 12), .ref (a 13), .ref (a 14)])), ((a 6), .inl (G.2.2.1, 12, .inl (r 6))), ((a 7), .inl (G.2.1, 12, .inl (r 7))), ((a 8), .inl (G.2.1, 144, .inl (r 8))), ((a 9), .inl (G.2.1, 144, .inl (r 9))), ((a 10), .inl (G.2.1, 144, .inl (r 10))), ((a 11), .inl (G.2.2.1, 144, .inl (r 11))), ((a 12), .inl (G.2.1, 144, .inl (r 12))), ((a 13), .inl (G.2.1, 144, .inl (r 13))), ((a 14), .inl (G.2.1, 144, .inl (r 14))), ((b 3), .inr (5, [.ref (b 0), .ref (b 1), .ref (b 2), .int rc])), ((b 0), .inl (G.2.1, 25, .inl s2)), ((b 1), .inl (G.2.1, 25, .inl (q 1))), ((b 2), .inl (G.2.1, 25, .inl (q 2)))]) A) ([.ref (a 15), .int wt, .int (nI fs)] : List Value).toArray s 0 0 A) (F0 m 23 ls []) := by
      intro k
      induction k with
      | zero => intro i s2 h1 h2; omega
      | succ k ih =>
        intro i s2 hi_i hk_i hRB H locs ls hP hS hl
        have hD := D_as2 hP hD rfl
        refine lv_iload_n hx hb dX2_enter_23 rfl (lv_at hl 2 rfl) ?_
        refine lv_aload_n hx hb dX2_enter_24 rfl (lv_at hl 0 rfl) ?_
        refine va_get (D := G.1) (ci := 2) (v := .int (f 0)) (C := RX2) (T := TX2) (N := 15) hx hb hts inX2 hown hK.1 hP 0 rfl rfl 0 (by decide) (hts _ mf_X2_9) (fun _ h9 => h9) rfl dX2_enter_25 ?_
        refine lv_icmp_ge (tgt := 81) hx hb dX2_enter_28 (by decide) (fun c3 => ?_) (fun c3 => ?_)
        · rw [h0] at c3
          have hge := ge_t (by omega) (by omega) c3
          have heq : i = rw := by omega
          exact wr_vret hx hb hr hlocks hS hP ⟨e4, s2, hRB, rfl⟩ dX2_enter_81
        · rw [h0] at c3
          have hlt := ge_f (by omega) (by omega) c3
          refine lv_aload_n hx hb dX2_enter_31 rfl (lv_at hl 0 rfl) ?_
          refine va_get (D := G.1) (ci := 2) (v := .ref (a 6)) (C := RX2) (T := TX2) (N := 15) hx hb hts inX2 hown hK.1 hP 0 rfl rfl 6 (by decide) (hts _ mf_X2_34) (fun _ h9 => h9) rfl dX2_enter_32 ?_
          refine lv_iload_n hx hb dX2_enter_35 rfl (lv_at hl 2 rfl) ?_
          refine xzald hx hb hK hP 1 (i) (rfl) (by omega) (by omega) rfl dX2_enter_36 ?_
          refine lv_topi (fun v4 ev4 => ?_)
          refine lv_if_eq (tgt := 75) hx hb dX2_enter_37 (by decide) (fun c5 => ?_) (fun c5 => ?_)
          · obtain ⟨v6, ev6⟩ : ∃ y : Int32, y = (nI i) + Int32.ofInt (1) := ⟨_, rfl⟩
            refine lv_iinc (v := v6) (lv' := [(3, .int v6), (0, .ref (a 15)), (1, .int wt)]) hx hb dX2_enter_75 hl (k := 2) rfl ev6.symm (by decide) rfl (fun ls hl => ?_)
            refine lv_goto (tgt := 23) hx hb dX2_enter_78 (by decide) ?_
            exact ih (i + 1) _ (by omega) (by omega) hRB _ _ _ hP hS (by have e := nI_inc ev6; rw [e] at hl; exact lv_sub hl [1, 2, 0] rfl)
          · refine lv_aload_n hx hb dX2_enter_40 rfl (lv_at hl 0 rfl) ?_
            refine va_get (D := G.1) (ci := 2) (v := .ref (a 7)) (C := RX2) (T := TX2) (N := 15) hx hb hts inX2 hown hK.1 hP 0 rfl rfl 7 (by decide) (hts _ mf_X2_38) (fun _ h9 => h9) rfl dX2_enter_41 ?_
            refine lv_iload_n hx hb dX2_enter_44 rfl (lv_at hl 2 rfl) ?_
            refine xiald hx hb hK hP 2 (i) (rfl) (by omega) (by omega) rfl dX2_enter_45 ?_
            refine lv_topi (fun v7 ev7 => ?_)
            refine lv_iload_n hx hb dX2_enter_46 rfl (lv_at hl 1 rfl) ?_
            refine lv_icmp_ne (tgt := 75) hx hb dX2_enter_47 (by decide) (fun c8 => ?_) (fun c8 => ?_)
            · obtain ⟨v9, ev9⟩ : ∃ y : Int32, y = (nI i) + Int32.ofInt (1) := ⟨_, rfl⟩
              refine lv_iinc (v := v9) (lv' := [(3, .int v9), (0, .ref (a 15)), (1, .int wt)]) hx hb dX2_enter_75 hl (k := 2) rfl ev9.symm (by decide) rfl (fun ls hl => ?_)
              refine lv_goto (tgt := 23) hx hb dX2_enter_78 (by decide) ?_
              exact ih (i + 1) _ (by omega) (by omega) hRB _ _ _ hP hS (by have e := nI_inc ev9; rw [e] at hl; exact lv_sub hl [1, 2, 0] rfl)
            · refine lv_iconst (v := 0) hx hb dX2_enter_50 (by decide) ?_
              refine lv_istore (lv' := [(4, .int 0), (0, .ref (a 15)), (1, .int wt), (3, .int (nI i))]) hx hb dX2_enter_51 hl (by decide) rfl (fun ls hl => ?_)
              have inner : ∀ (k2 j : Nat) (s2 : Nat → Int32), j ≤ cl → cl < j + k2 → RB adjR s2 → ∀ (H : Heap) (locs : List Loc) (ls : Array Slot), PP G ([((a 15), .inr (2, [.int (f 0), .int (f 1), .int (f 2), .int (f 3), .int e4, .ref (b 3), .ref (a 6), .ref (a 7), .ref (a 8), .ref (a 9), .ref (a 10), .ref (a 11), .ref (a 12), .ref (a 13), .ref (a 14)])), ((a 6), .inl (G.2.2.1, 12, .inl (r 6))), ((a 7), .inl (G.2.1, 12, .inl (r 7))), ((a 8), .inl (G.2.1, 144, .inl (r 8))), ((a 9), .inl (G.2.1, 144, .inl (r 9))), ((a 10), .inl (G.2.1, 144, .inl (r 10))), ((a 11), .inl (G.2.2.1, 144, .inl (r 11))), ((a 12), .inl (G.2.1, 144, .inl (r 12))), ((a 13), .inl (G.2.1, 144, .inl (r 13))), ((a 14), .inl (G.2.1, 144, .inl (r 14))), ((b 3), .inr (5, [.ref (b 0), .ref (b 1), .ref (b 2), .int rc])), ((b 0), .inl (G.2.1, 25, .inl s2)), ((b 1), .inl (G.2.1, 25, .inl (q 1))), ((b 2), .inl (G.2.1, 25, .inl (q 2)))]) H → va_S A s.heap H locs → lv_has ls 5 [(0, .ref (a 15)), (1, .int wt), (3, .int (nI i)), (4, .int (nI j))] → W p l e ({ frames := 2, cells := 0, slots := 0, locals := 51 }) s m ([.ref (a 15), .int wt, .int (nI fs)] : List Value).toArray below meth c H locs 0 0 (MQ below (QwV G (fun w => ∃ (e4 : Int32) (s2 : Nat → Int32), RB adjR s2 ∧ w = [((a 15), .inr (2, [.int (f 0), .int (f 1), .int (f 2), .int (f 3), .int e4, .ref (b 3), .ref (a 6), .ref (a 7), .ref (a 8), .ref (a 9), .ref (a 10), .ref (a 11), .ref (a 12), .ref (a 13), .ref (a 14)])), ((a 6), .inl (G.2.2.1, 12, .inl (r 6))), ((a 7), .inl (G.2.1, 12, .inl (r 7))), ((a 8), .inl (G.2.1, 144, .inl (r 8))), ((a 9), .inl (G.2.1, 144, .inl (r 9))), ((a 10), .inl (G.2.1, 144, .inl (r 10))), ((a 11), .inl (G.2.2.1, 144, .inl (r 11))), ((a 12), .inl (G.2.1, 144, .inl (r 12))), ((a 13), .inl (G.2.1, 144, .inl (r 13))), ((a 14), .inl (G.2.1, 144, .inl (r 14))), ((b 3), .inr (5, [.ref (b 0), .ref (b 1), .ref (b 2), .int rc])), ((b 0), .inl (G.2.1, 25, .inl s2)), ((b 1), .inl (G.2.1, 25, .inl (q 1))), ((b 2), .inl (G.2.1, 25, .inl (q 2)))]) A) ([.ref (a 15), .int wt, .int (nI fs)] : List Value).toArray s 0 0 A) (F0 m 53 ls []) := by
                intro k2
                induction k2 with
                | zero => intro j s2 h1 h2; omega
                | succ k2 ih2 =>
                  intro j s2 hi_j hk_j hRB H locs ls hP hS hl
                  have hD := D_as2 hP hD rfl
                  refine lv_iload hx hb dX2_enter_53 (lv_at hl 3 rfl) ?_
                  refine lv_aload_n hx hb dX2_enter_55 rfl (lv_at hl 0 rfl) ?_
                  refine va_get (D := G.1) (ci := 2) (v := .int (f 1)) (C := RX2) (T := TX2) (N := 15) hx hb hts inX2 hown hK.1 hP 0 rfl rfl 1 (by decide) (hts _ mf_X2_15) (fun _ h9 => h9) rfl dX2_enter_56 ?_
                  refine lv_icmp_ge (tgt := 75) hx hb dX2_enter_59 (by decide) (fun c10 => ?_) (fun c10 => ?_)
                  · rw [h1] at c10
                    have hge2 := ge_t (by omega) (by omega) c10
                    have heq2 : j = cl := by omega
                    obtain ⟨v11, ev11⟩ : ∃ y : Int32, y = (nI i) + Int32.ofInt (1) := ⟨_, rfl⟩
                    refine lv_iinc (v := v11) (lv' := [(3, .int v11), (0, .ref (a 15)), (1, .int wt), (4, .int (nI j))]) hx hb dX2_enter_75 hl (k := 2) rfl ev11.symm (by decide) rfl (fun ls hl => ?_)
                    refine lv_goto (tgt := 23) hx hb dX2_enter_78 (by decide) ?_
                    exact ih (i + 1) _ (by omega) (by omega) hRB _ _ _ hP hS (by have e := nI_inc ev11; rw [e] at hl; exact lv_sub hl [1, 2, 0] rfl)
                  · rw [h1] at c10
                    have hlt2 := ge_f (by omega) (by omega) c10
                    refine lv_aload_n hx hb dX2_enter_62 rfl (lv_at hl 0 rfl) ?_
                    refine lv_iload_n hx hb dX2_enter_63 rfl (lv_at hl 2 rfl) ?_
                    refine lv_iload hx hb dX2_enter_64 (lv_at hl 3 rfl) ?_
                    refine wrVV (rest := []) (q0 := 0) ⟨hx, hb, hml, hown, hts⟩ (c_X2_refresh l G a b (fun k => match k with | 0 => (f 0) | 1 => (f 1) | 2 => (f 2) | 3 => (f 3) | _ => e4) (fun k => match k with | 6 => (r 6) | 7 => (r 7) | 8 => (r 8) | 9 => (r 9) | 10 => (r 10) | 11 => (r 11) | 12 => (r 12) | 13 => (r 13) | 14 => (r 14) | _ => (fun _ => 0)) (fun k => match k with | 0 => s2 | 1 => (q 1) | 2 => (q 2) | _ => (fun _ => 0)) (rc) (i) (j) (by omega) (by omega)) mi_yX2_refresh mv_yX2_refresh ml_X2_117 ⟨rfl, rfl, Nat.le_of_ble_eq_true rfl, Nat.le_of_ble_eq_true rfl⟩ hK hP hD [0, 1, 2, 3, 4, 5, 6, 7, 8, 9, 10, 11, 12, 13] rfl (by decide) rfl rfl rfl hl.1 rfl (Nat.le_of_ble_eq_true rfl) dX2_enter_66 ⟨Nat.zero_le _, Nat.zero_le _⟩ hS hA (fun w13 H locs hw13 hP hS => ?_)
                    obtain ⟨z14, z15, rfl⟩ := hw13
                    have hRB := RB_join z14 z15 hRB (adjR1 (i := i) (j := j) (by omega) (by omega)) (adjR2 (by omega) (by omega)) (by omega) (by omega)
                    have h9_ := P_rg (s := 0) (hP rfl) rfl (Nat.le_of_ble_eq_true rfl)
                    have hP : PP G [((a 15), .inr (2, [.int (f 0), .int (f 1), .int (f 2), .int (f 3), .int e4, .ref (b 3), .ref (a 6), .ref (a 7), .ref (a 8), .ref (a 9), .ref (a 10), .ref (a 11), .ref (a 12), .ref (a 13), .ref (a 14)])), ((a 6), .inl (G.2.2.1, 12, .inl (r 6))), ((a 7), .inl (G.2.1, 12, .inl (r 7))), ((a 8), .inl (G.2.1, 144, .inl (r 8))), ((a 9), .inl (G.2.1, 144, .inl (r 9))), ((a 10), .inl (G.2.1, 144, .inl (r 10))), ((a 11), .inl (G.2.2.1, 144, .inl (r 11))), ((a 12), .inl (G.2.1, 144, .inl (r 12))), ((a 13), .inl (G.2.1, 144, .inl (r 13))), ((a 14), .inl (G.2.1, 144, .inl (r 14))), ((b 3), .inr (5, [.ref (b 0), .ref (b 1), .ref (b 2), .int rc])), ((b 0), .inl (G.2.1, 25, .inl (jnF s2 (i) (12 + (j)) z14 z15))), ((b 1), .inl (G.2.1, 25, .inl (q 1))), ((b 2), .inl (G.2.1, 25, .inl (q 2)))] H := h9_
                    have hD := D_as2 hP hD rfl
                    obtain ⟨v16, ev16⟩ : ∃ y : Int32, y = (nI j) + Int32.ofInt (1) := ⟨_, rfl⟩
                    refine lv_iinc (v := v16) (lv' := [(4, .int v16), (0, .ref (a 15)), (1, .int wt), (3, .int (nI i))]) hx hb dX2_enter_69 hl (k := 3) rfl ev16.symm (by decide) rfl (fun ls hl => ?_)
                    refine lv_goto (tgt := 53) hx hb dX2_enter_72 (by decide) ?_
                    exact ih2 (j + 1) _ (by omega) (by omega) hRB _ _ _ hP hS (by have e := nI_inc ev16; rw [e] at hl; exact lv_sub hl [1, 2, 3, 0] rfl)
              exact inner (cl + 1) 0 s2 (Nat.zero_le _) (by omega) hRB _ _ _ hP hS (lv_sub hl [1, 2, 3, 0] rfl)
    exact outer (rw + 1) fs _ hfs (by omega) hRB _ _ _ hP hS (lv_sub hl [1, 2, 0] rfl)
  refine lv_aload_n hx hb dX2_enter_7 rfl (lv_at hl 0 rfl) ?_
  refine lv_iload_n hx hb dX2_enter_8 rfl (lv_at hl 2 rfl) ?_
  refine lv_if_ne (tgt := 16) hx hb dX2_enter_9 (by decide) (fun c17 => ?_) (fun c17 => ?_)
  · refine lv_bipush (v := -2) hx hb dX2_enter_16 (by decide) ?_
    exact j18 (-2) _ _ _ hP hS (lv_sub hl [0, 1, 2] rfl)
  · refine lv_iload_n hx hb dX2_enter_12 rfl (lv_at hl 1 rfl) ?_
    refine lv_goto (tgt := 18) hx hb dX2_enter_13 (by decide) ?_
    exact j18 wt _ _ _ hP hS (lv_sub hl [0, 1, 2] rfl)
set_option maxHeartbeats 4000000 in
set_option maxRecDepth 100000 in
theorem c_X2_loadRow (l : Launch) (G : GG) (a b : Nat → Nat) (f : Nat → Int32) (r : Nat → Nat → Int32) (ta : Nat → Nat) (tf : Nat → Int32) (tr : Nat → Nat → Int32) (rw cl bk : Nat) (hrw : rw ≤ 12) (hcl : cl ≤ 12) (hbk : bk ≤ 12) (t1 : tf 1 = nI rw) (t2 : tf 2 = nI cl) (t3 : tf 3 = nI bk) (h1 : f 1 = nI cl) (i : Nat) (hi : i < 12) : WrV l yX2_loadRow cX2_loadRow 6 ({ frames := 2, cells := 0, slots := 0, locals := 48 }) G ([((a 15), .inr (2, [.int (f 0), .int (f 1), .int (f 2), .int (f 3), .int (f 4), .ref (b 3), .ref (a 6), .ref (a 7), .ref (a 8), .ref (a 9), .ref (a 10), .ref (a 11), .ref (a 12), .ref (a 13), .ref (a 14)])), ((a 6), .inl (G.2.2.1, 12, .inl (r 6))), ((a 7), .inl (G.2.1, 12, .inl (r 7))), ((a 8), .inl (G.2.1, 144, .inl (r 8))), ((a 9), .inl (G.2.1, 144, .inl (r 9))), ((a 10), .inl (G.2.1, 144, .inl (r 10))), ((a 11), .inl (G.2.2.1, 144, .inl (r 11))), ((a 12), .inl (G.2.1, 144, .inl (r 12))), ((a 13), .inl (G.2.1, 144, .inl (r 13))), ((a 14), .inl (G.2.1, 144, .inl (r 14))), ((ta 0), .inr (4, [.int (tf 0), .int (tf 1), .int (tf 2), .int (tf 3), .ref (ta 4), .ref (ta 5), .ref (ta 6), .ref (ta 7), .ref (ta 8), .ref (ta 9), .ref (ta 10), .ref (ta 11)])), ((ta 4), .inl (G.2.1, 12, .inl (tr 4))), ((ta 5), .inl (G.2.1, 144, .inl (tr 5))), ((ta 6), .inl (G.2.1, 144, .inl (tr 6))), ((ta 7), .inl (G.2.1, 144, .inl (tr 7))), ((ta 8), .inl (G.2.1, 864, .inl (tr 8))), ((ta 9), .inl (G.2.1, 6, .inl (tr 9))), ((ta 10), .inl (G.2.1, 12, .inl (tr 10))), ((ta 11), .inl (G.2.1, 12, .inl (tr 11)))]) [.ref (a 15), .ref (ta 0), .int (nI i)] (fun w => ∃ r2 : Nat → Nat → Int32, w = [((a 15), .inr (2, [.int (f 0), .int (f 1), .int (f 2), .int (f 3), .int (f 4), .ref (b 3), .ref (a 6), .ref (a 7), .ref (a 8), .ref (a 9), .ref (a 10), .ref (a 11), .ref (a 12), .ref (a 13), .ref (a 14)])), ((a 6), .inl (G.2.2.1, 12, .inl (r2 6))), ((a 7), .inl (G.2.1, 12, .inl (r2 7))), ((a 8), .inl (G.2.1, 144, .inl (r2 8))), ((a 9), .inl (G.2.1, 144, .inl (r2 9))), ((a 10), .inl (G.2.1, 144, .inl (r2 10))), ((a 11), .inl (G.2.2.1, 144, .inl (r2 11))), ((a 12), .inl (G.2.1, 144, .inl (r2 12))), ((a 13), .inl (G.2.1, 144, .inl (r2 13))), ((a 14), .inl (G.2.1, 144, .inl (r2 14))), ((ta 0), .inr (4, [.int (tf 0), .int (tf 1), .int (tf 2), .int (tf 3), .ref (ta 4), .ref (ta 5), .ref (ta 6), .ref (ta 7), .ref (ta 8), .ref (ta 9), .ref (ta 10), .ref (ta 11)])), ((ta 4), .inl (G.2.1, 12, .inl (tr 4))), ((ta 5), .inl (G.2.1, 144, .inl (tr 5))), ((ta 6), .inl (G.2.1, 144, .inl (tr 6))), ((ta 7), .inl (G.2.1, 144, .inl (tr 7))), ((ta 8), .inl (G.2.1, 864, .inl (tr 8))), ((ta 9), .inl (G.2.1, 6, .inl (tr 9))), ((ta 10), .inl (G.2.1, 12, .inl (tr 10))), ((ta 11), .inl (G.2.1, 12, .inl (tr 11)))]) := by
  refine wr_entryV (by decide +kernel) (Nat.le_of_ble_eq_true rfl) ?_
  intro p e s m below meth c A C0 hP hK hD hA ls hl
  have hS : va_S A s.heap s.heap [] := va_S.rf
  obtain ⟨hx, hb, hml, hown, hts, hr, hlocks, hin⟩ := C0
  have hown : s.vm.findClass RX2 = some m.cls := hown
  have hl : lv_has ls 6 [(0, .ref (a 15)), (1, .ref (ta 0)), (2, .int (nI i))] := hl
  refine lv_aload_n hx hb dX2_loadRow_0 rfl (lv_at hl 1 rfl) ?_
  refine lv_iload_n hx hb dX2_loadRow_1 rfl (lv_at hl 2 rfl) ?_
  refine rdV (rest := []) (q0 := 0) ⟨hx, hb, hml, hown, hts⟩ (c_X4_rowSum l G ta tf tr i cl hi hcl t2) mi_yX4_rowSum mv_yX4_rowSum ml_X2_86 ⟨rfl, rfl, Nat.le_of_ble_eq_true rfl, Nat.le_of_ble_eq_true rfl⟩ hK (hP.sub (ws' := tW G ta tf tr) [10, 11, 12, 13, 14, 15, 16, 17, 18] rfl) rfl rfl rfl hl.1 rfl (Nat.le_of_ble_eq_true rfl) dX2_loadRow_2 ⟨Nat.zero_le _, Nat.zero_le _⟩ hS hA hP (fun r1 H locs hr1 hP hS => ?_)
  refine lv_istore_n (lv' := [(3, .int r1), (0, .ref (a 15)), (1, .ref (ta 0)), (2, .int (nI i))]) hx hb dX2_loadRow_5 rfl hl (by decide) rfl (fun ls hl => ?_)
  refine lv_iconst (v := 0) hx hb dX2_loadRow_6 (by decide) ?_
  refine lv_istore (lv' := [(4, .int 0), (3, .int r1), (0, .ref (a 15)), (1, .ref (ta 0)), (2, .int (nI i))]) hx hb dX2_loadRow_7 hl (by decide) rfl (fun ls hl => ?_)
  have loop : ∀ (k j : Nat) (r2 : Nat → Nat → Int32), j ≤ cl → cl < j + k → ∀ (H : Heap) (locs : List Loc) (ls : Array Slot), PP G ([((a 15), .inr (2, [.int (f 0), .int (f 1), .int (f 2), .int (f 3), .int (f 4), .ref (b 3), .ref (a 6), .ref (a 7), .ref (a 8), .ref (a 9), .ref (a 10), .ref (a 11), .ref (a 12), .ref (a 13), .ref (a 14)])), ((a 6), .inl (G.2.2.1, 12, .inl (r2 6))), ((a 7), .inl (G.2.1, 12, .inl (r2 7))), ((a 8), .inl (G.2.1, 144, .inl (r2 8))), ((a 9), .inl (G.2.1, 144, .inl (r2 9))), ((a 10), .inl (G.2.1, 144, .inl (r2 10))), ((a 11), .inl (G.2.2.1, 144, .inl (r2 11))), ((a 12), .inl (G.2.1, 144, .inl (r2 12))), ((a 13), .inl (G.2.1, 144, .inl (r2 13))), ((a 14), .inl (G.2.1, 144, .inl (r2 14))), ((ta 0), .inr (4, [.int (tf 0), .int (tf 1), .int (tf 2), .int (tf 3), .ref (ta 4), .ref (ta 5), .ref (ta 6), .ref (ta 7), .ref (ta 8), .ref (ta 9), .ref (ta 10), .ref (ta 11)])), ((ta 4), .inl (G.2.1, 12, .inl (tr 4))), ((ta 5), .inl (G.2.1, 144, .inl (tr 5))), ((ta 6), .inl (G.2.1, 144, .inl (tr 6))), ((ta 7), .inl (G.2.1, 144, .inl (tr 7))), ((ta 8), .inl (G.2.1, 864, .inl (tr 8))), ((ta 9), .inl (G.2.1, 6, .inl (tr 9))), ((ta 10), .inl (G.2.1, 12, .inl (tr 10))), ((ta 11), .inl (G.2.1, 12, .inl (tr 11)))]) H → va_S A s.heap H locs → lv_has ls 6 [(0, .ref (a 15)), (1, .ref (ta 0)), (2, .int (nI i)), (3, .int r1), (4, .int (nI j))] → W p l e ({ frames := 2, cells := 0, slots := 0, locals := 48 }) s m ([.ref (a 15), .ref (ta 0), .int (nI i)] : List Value).toArray below meth c H locs 0 0 (MQ below (QwV G (fun w => ∃ r2 : Nat → Nat → Int32, w = [((a 15), .inr (2, [.int (f 0), .int (f 1), .int (f 2), .int (f 3), .int (f 4), .ref (b 3), .ref (a 6), .ref (a 7), .ref (a 8), .ref (a 9), .ref (a 10), .ref (a 11), .ref (a 12), .ref (a 13), .ref (a 14)])), ((a 6), .inl (G.2.2.1, 12, .inl (r2 6))), ((a 7), .inl (G.2.1, 12, .inl (r2 7))), ((a 8), .inl (G.2.1, 144, .inl (r2 8))), ((a 9), .inl (G.2.1, 144, .inl (r2 9))), ((a 10), .inl (G.2.1, 144, .inl (r2 10))), ((a 11), .inl (G.2.2.1, 144, .inl (r2 11))), ((a 12), .inl (G.2.1, 144, .inl (r2 12))), ((a 13), .inl (G.2.1, 144, .inl (r2 13))), ((a 14), .inl (G.2.1, 144, .inl (r2 14))), ((ta 0), .inr (4, [.int (tf 0), .int (tf 1), .int (tf 2), .int (tf 3), .ref (ta 4), .ref (ta 5), .ref (ta 6), .ref (ta 7), .ref (ta 8), .ref (ta 9), .ref (ta 10), .ref (ta 11)])), ((ta 4), .inl (G.2.1, 12, .inl (tr 4))), ((ta 5), .inl (G.2.1, 144, .inl (tr 5))), ((ta 6), .inl (G.2.1, 144, .inl (tr 6))), ((ta 7), .inl (G.2.1, 144, .inl (tr 7))), ((ta 8), .inl (G.2.1, 864, .inl (tr 8))), ((ta 9), .inl (G.2.1, 6, .inl (tr 9))), ((ta 10), .inl (G.2.1, 12, .inl (tr 10))), ((ta 11), .inl (G.2.1, 12, .inl (tr 11)))]) A) ([.ref (a 15), .ref (ta 0), .int (nI i)] : List Value).toArray s 0 0 A) (F0 m 9 ls []) := by
    intro k
    induction k with
    | zero => intro j r2 h1 h2; omega
    | succ k ih =>
      intro j r2 hi_j hk_j  H locs ls hP hS hl
      have hD := D_as2 hP hD rfl
      refine lv_iload hx hb dX2_loadRow_9 (lv_at hl 4 rfl) ?_
      refine lv_aload_n hx hb dX2_loadRow_11 rfl (lv_at hl 0 rfl) ?_
      refine va_get (D := G.1) (ci := 2) (v := .int (f 1)) (C := RX2) (T := TX2) (N := 15) hx hb hts inX2 hown hK.1 hP 0 rfl rfl 1 (by decide) (hts _ mf_X2_15) (fun _ h9 => h9) rfl dX2_loadRow_12 ?_
      refine lv_icmp_ge (tgt := 126) hx hb dX2_loadRow_15 (by decide) (fun c2 => ?_) (fun c2 => ?_)
      · rw [h1] at c2
        have hge := ge_t (by omega) (by omega) c2
        have heq : j = cl := by omega
        exact wr_vret hx hb hr hlocks hS hP ⟨r2, rfl⟩ dX2_loadRow_126
      · rw [h1] at c2
        have hlt := ge_f (by omega) (by omega) c2
        refine lv_iload_n hx hb dX2_loadRow_18 rfl (lv_at hl 2 rfl) ?_
        refine lv_iload hx hb dX2_loadRow_19 (lv_at hl 4 rfl) ?_
        refine rdSN (rest := []) ⟨hx, hb, hml, hown, hts⟩ (c_X6_spotOf l G ((nI i)) ((nI j))) mi_yX6_spotOf mst_yX6_spotOf (by decide +kernel) ⟨rfl, rfl, Nat.le_of_ble_eq_true rfl, Nat.le_of_ble_eq_true rfl⟩ hK (fun k q h => by simp at h) rfl hl.1 rfl (Nat.le_of_ble_eq_true rfl) dX2_loadRow_21 ⟨Nat.zero_le _, Nat.zero_le _⟩ hS hA hP (fun r3 H locs hr3 hP hS => ?_)
        obtain rfl : r3 = nI (i * 12 + j) := spot_eq hr3
        refine lv_istore (lv' := [(5, .int (nI (i * 12 + j))), (0, .ref (a 15)), (1, .ref (ta 0)), (2, .int (nI i)), (3, .int r1), (4, .int (nI j))]) hx hb dX2_loadRow_24 hl (by decide) rfl (fun ls hl => ?_)
        refine lv_aload_n hx hb dX2_loadRow_26 rfl (lv_at hl 1 rfl) ?_
        refine va_get (D := G.1) (ci := 2) (v := .ref (a 8)) (C := RX2) (T := TX2) (N := 15) hx hb hts inX2 hown hK.1 hP 0 rfl rfl 8 (by decide) (hts _ mf_X2_42) (fun _ h9 => h9) rfl dX2_loadRow_27 ?_
        refine lv_iload hx hb dX2_loadRow_30 (lv_at hl 0 rfl) ?_
        refine lv_aload_n hx hb dX2_loadRow_32 rfl (lv_at hl 2 rfl) ?_
        refine va_get (D := G.1) (ci := 4) (v := .ref (ta 5)) (C := RX4) (T := TX4) (N := 12) hx hb hts inX4 hown hK.1 hP 10 rfl rfl 5 (by decide) (hts _ mf_X2_93) (fun _ h9 => h9) rfl dX2_loadRow_33 ?_
        refine lv_iload hx hb dX2_loadRow_36 (lv_at hl 0 rfl) ?_
        refine xiald hx hb hK hP 12 (i * 12 + j) (rfl) (by omega) (by omega) rfl dX2_loadRow_38 ?_
        refine lv_topi (fun v4 ev4 => ?_)
        refine xiast (x := v4) hx hb hK hP hD hS 3 (i * 12 + j) (rfl) (by omega) (by omega) rfl dX2_loadRow_39 (fun H locs hP hD hS => ?_)
        have hP : PP G [((a 15), .inr (2, [.int (f 0), .int (f 1), .int (f 2), .int (f 3), .int (f 4), .ref (b 3), .ref (a 6), .ref (a 7), .ref (a 8), .ref (a 9), .ref (a 10), .ref (a 11), .ref (a 12), .ref (a 13), .ref (a 14)])), ((a 6), .inl (G.2.2.1, 12, .inl (r2 6))), ((a 7), .inl (G.2.1, 12, .inl (r2 7))), ((a 8), .inl (G.2.1, 144, .inl (upd (r2 8) (i * 12 + j) (v4)))), ((a 9), .inl (G.2.1, 144, .inl (r2 9))), ((a 10), .inl (G.2.1, 144, .inl (r2 10))), ((a 11), .inl (G.2.2.1, 144, .inl (r2 11))), ((a 12), .inl (G.2.1, 144, .inl (r2 12))), ((a 13), .inl (G.2.1, 144, .inl (r2 13))), ((a 14), .inl (G.2.1, 144, .inl (r2 14))), ((ta 0), .inr (4, [.int (tf 0), .int (tf 1), .int (tf 2), .int (tf 3), .ref (ta 4), .ref (ta 5), .ref (ta 6), .ref (ta 7), .ref (ta 8), .ref (ta 9), .ref (ta 10), .ref (ta 11)])), ((ta 4), .inl (G.2.1, 12, .inl (tr 4))), ((ta 5), .inl (G.2.1, 144, .inl (tr 5))), ((ta 6), .inl (G.2.1, 144, .inl (tr 6))), ((ta 7), .inl (G.2.1, 144, .inl (tr 7))), ((ta 8), .inl (G.2.1, 864, .inl (tr 8))), ((ta 9), .inl (G.2.1, 6, .inl (tr 9))), ((ta 10), .inl (G.2.1, 12, .inl (tr 10))), ((ta 11), .inl (G.2.1, 12, .inl (tr 11)))] H := hP
        have hD := D_as hP hD rfl
        refine lv_aload_n hx hb dX2_loadRow_40 rfl (lv_at hl 1 rfl) ?_
        refine va_get (D := G.1) (ci := 2) (v := .ref (a 9)) (C := RX2) (T := TX2) (N := 15) hx hb hts inX2 hown hK.1 hP 0 rfl rfl 9 (by decide) (hts _ mf_X2_45) (fun _ h9 => h9) rfl dX2_loadRow_41 ?_
        refine lv_iload hx hb dX2_loadRow_44 (lv_at hl 0 rfl) ?_
        refine lv_aload_n hx hb dX2_loadRow_46 rfl (lv_at hl 2 rfl) ?_
        refine va_get (D := G.1) (ci := 4) (v := .ref (ta 6)) (C := RX4) (T := TX4) (N := 12) hx hb hts inX4 hown hK.1 hP 10 rfl rfl 6 (by decide) (hts _ mf_X2_94) (fun _ h9 => h9) rfl dX2_loadRow_47 ?_
        refine lv_iload hx hb dX2_loadRow_50 (lv_at hl 0 rfl) ?_
        refine xiald hx hb hK hP 13 (i * 12 + j) (rfl) (by omega) (by omega) rfl dX2_loadRow_52 ?_
        refine lv_topi (fun v5 ev5 => ?_)
        refine xiast (x := v5) hx hb hK hP hD hS 4 (i * 12 + j) (rfl) (by omega) (by omega) rfl dX2_loadRow_53 (fun H locs hP hD hS => ?_)
        have hP : PP G [((a 15), .inr (2, [.int (f 0), .int (f 1), .int (f 2), .int (f 3), .int (f 4), .ref (b 3), .ref (a 6), .ref (a 7), .ref (a 8), .ref (a 9), .ref (a 10), .ref (a 11), .ref (a 12), .ref (a 13), .ref (a 14)])), ((a 6), .inl (G.2.2.1, 12, .inl (r2 6))), ((a 7), .inl (G.2.1, 12, .inl (r2 7))), ((a 8), .inl (G.2.1, 144, .inl (upd (r2 8) (i * 12 + j) (v4)))), ((a 9), .inl (G.2.1, 144, .inl (upd (r2 9) (i * 12 + j) (v5)))), ((a 10), .inl (G.2.1, 144, .inl (r2 10))), ((a 11), .inl (G.2.2.1, 144, .inl (r2 11))), ((a 12), .inl (G.2.1, 144, .inl (r2 12))), ((a 13), .inl (G.2.1, 144, .inl (r2 13))), ((a 14), .inl (G.2.1, 144, .inl (r2 14))), ((ta 0), .inr (4, [.int (tf 0), .int (tf 1), .int (tf 2), .int (tf 3), .ref (ta 4), .ref (ta 5), .ref (ta 6), .ref (ta 7), .ref (ta 8), .ref (ta 9), .ref (ta 10), .ref (ta 11)])), ((ta 4), .inl (G.2.1, 12, .inl (tr 4))), ((ta 5), .inl (G.2.1, 144, .inl (tr 5))), ((ta 6), .inl (G.2.1, 144, .inl (tr 6))), ((ta 7), .inl (G.2.1, 144, .inl (tr 7))), ((ta 8), .inl (G.2.1, 864, .inl (tr 8))), ((ta 9), .inl (G.2.1, 6, .inl (tr 9))), ((ta 10), .inl (G.2.1, 12, .inl (tr 10))), ((ta 11), .inl (G.2.1, 12, .inl (tr 11)))] H := hP
        have hD := D_as hP hD rfl
        refine lv_aload_n hx hb dX2_loadRow_54 rfl (lv_at hl 1 rfl) ?_
        refine va_get (D := G.1) (ci := 2) (v := .ref (a 12)) (C := RX2) (T := TX2) (N := 15) hx hb hts inX2 hown hK.1 hP 0 rfl rfl 12 (by decide) (hts _ mf_X2_54) (fun _ h9 => h9) rfl dX2_loadRow_55 ?_
        refine lv_iload hx hb dX2_loadRow_58 (lv_at hl 0 rfl) ?_
        refine lv_aload_n hx hb dX2_loadRow_60 rfl (lv_at hl 2 rfl) ?_
        refine va_get (D := G.1) (ci := 4) (v := .ref (ta 6)) (C := RX4) (T := TX4) (N := 12) hx hb hts inX4 hown hK.1 hP 10 rfl rfl 6 (by decide) (hts _ mf_X2_94) (fun _ h9 => h9) rfl dX2_loadRow_61 ?_
        refine lv_iload hx hb dX2_loadRow_64 (lv_at hl 0 rfl) ?_
        refine xiald hx hb hK hP 13 (i * 12 + j) (rfl) (by omega) (by omega) rfl dX2_loadRow_66 ?_
        refine lv_topi (fun v6 ev6 => ?_)
        refine xiast (x := v6) hx hb hK hP hD hS 7 (i * 12 + j) (rfl) (by omega) (by omega) rfl dX2_loadRow_67 (fun H locs hP hD hS => ?_)
        have hP : PP G [((a 15), .inr (2, [.int (f 0), .int (f 1), .int (f 2), .int (f 3), .int (f 4), .ref (b 3), .ref (a 6), .ref (a 7), .ref (a 8), .ref (a 9), .ref (a 10), .ref (a 11), .ref (a 12), .ref (a 13), .ref (a 14)])), ((a 6), .inl (G.2.2.1, 12, .inl (r2 6))), ((a 7), .inl (G.2.1, 12, .inl (r2 7))), ((a 8), .inl (G.2.1, 144, .inl (upd (r2 8) (i * 12 + j) (v4)))), ((a 9), .inl (G.2.1, 144, .inl (upd (r2 9) (i * 12 + j) (v5)))), ((a 10), .inl (G.2.1, 144, .inl (r2 10))), ((a 11), .inl (G.2.2.1, 144, .inl (r2 11))), ((a 12), .inl (G.2.1, 144, .inl (upd (r2 12) (i * 12 + j) (v6)))), ((a 13), .inl (G.2.1, 144, .inl (r2 13))), ((a 14), .inl (G.2.1, 144, .inl (r2 14))), ((ta 0), .inr (4, [.int (tf 0), .int (tf 1), .int (tf 2), .int (tf 3), .ref (ta 4), .ref (ta 5), .ref (ta 6), .ref (ta 7), .ref (ta 8), .ref (ta 9), .ref (ta 10), .ref (ta 11)])), ((ta 4), .inl (G.2.1, 12, .inl (tr 4))), ((ta 5), .inl (G.2.1, 144, .inl (tr 5))), ((ta 6), .inl (G.2.1, 144, .inl (tr 6))), ((ta 7), .inl (G.2.1, 144, .inl (tr 7))), ((ta 8), .inl (G.2.1, 864, .inl (tr 8))), ((ta 9), .inl (G.2.1, 6, .inl (tr 9))), ((ta 10), .inl (G.2.1, 12, .inl (tr 10))), ((ta 11), .inl (G.2.1, 12, .inl (tr 11)))] H := hP
        have hD := D_as hP hD rfl
        refine lv_aload_n hx hb dX2_loadRow_68 rfl (lv_at hl 1 rfl) ?_
        refine va_get (D := G.1) (ci := 2) (v := .ref (a 10)) (C := RX2) (T := TX2) (N := 15) hx hb hts inX2 hown hK.1 hP 0 rfl rfl 10 (by decide) (hts _ mf_X2_48) (fun _ h9 => h9) rfl dX2_loadRow_69 ?_
        refine lv_iload hx hb dX2_loadRow_72 (lv_at hl 0 rfl) ?_
        refine lv_aload_n hx hb dX2_loadRow_74 rfl (lv_at hl 2 rfl) ?_
        refine lv_iload hx hb dX2_loadRow_75 (lv_at hl 0 rfl) ?_
        refine rdV (rest := [.int (nI (i * 12 + j)), .ref (a 10)]) (q0 := 0) ⟨hx, hb, hml, hown, hts⟩ (c_X4_reasons l G ta tf tr (i * 12 + j) (by omega)) mi_yX4_reasons mv_yX4_reasons ml_X2_95 ⟨rfl, rfl, Nat.le_of_ble_eq_true rfl, Nat.le_of_ble_eq_true rfl⟩ hK (hP.sub (ws' := tW G ta tf tr) [10, 11, 12, 13, 14, 15, 16, 17, 18] rfl) rfl rfl rfl hl.1 rfl (Nat.le_of_ble_eq_true rfl) dX2_loadRow_77 ⟨Nat.zero_le _, Nat.zero_le _⟩ hS hA hP (fun r7 H locs hr7 hP hS => ?_)
        refine xiast (x := r7) hx hb hK hP hD hS 5 (i * 12 + j) (rfl) (by omega) (by omega) rfl dX2_loadRow_80 (fun H locs hP hD hS => ?_)
        have hP : PP G [((a 15), .inr (2, [.int (f 0), .int (f 1), .int (f 2), .int (f 3), .int (f 4), .ref (b 3), .ref (a 6), .ref (a 7), .ref (a 8), .ref (a 9), .ref (a 10), .ref (a 11), .ref (a 12), .ref (a 13), .ref (a 14)])), ((a 6), .inl (G.2.2.1, 12, .inl (r2 6))), ((a 7), .inl (G.2.1, 12, .inl (r2 7))), ((a 8), .inl (G.2.1, 144, .inl (upd (r2 8) (i * 12 + j) (v4)))), ((a 9), .inl (G.2.1, 144, .inl (upd (r2 9) (i * 12 + j) (v5)))), ((a 10), .inl (G.2.1, 144, .inl (upd (r2 10) (i * 12 + j) (r7)))), ((a 11), .inl (G.2.2.1, 144, .inl (r2 11))), ((a 12), .inl (G.2.1, 144, .inl (upd (r2 12) (i * 12 + j) (v6)))), ((a 13), .inl (G.2.1, 144, .inl (r2 13))), ((a 14), .inl (G.2.1, 144, .inl (r2 14))), ((ta 0), .inr (4, [.int (tf 0), .int (tf 1), .int (tf 2), .int (tf 3), .ref (ta 4), .ref (ta 5), .ref (ta 6), .ref (ta 7), .ref (ta 8), .ref (ta 9), .ref (ta 10), .ref (ta 11)])), ((ta 4), .inl (G.2.1, 12, .inl (tr 4))), ((ta 5), .inl (G.2.1, 144, .inl (tr 5))), ((ta 6), .inl (G.2.1, 144, .inl (tr 6))), ((ta 7), .inl (G.2.1, 144, .inl (tr 7))), ((ta 8), .inl (G.2.1, 864, .inl (tr 8))), ((ta 9), .inl (G.2.1, 6, .inl (tr 9))), ((ta 10), .inl (G.2.1, 12, .inl (tr 10))), ((ta 11), .inl (G.2.1, 12, .inl (tr 11)))] H := hP
        have hD := D_as hP hD rfl
        refine lv_aload_n hx hb dX2_loadRow_81 rfl (lv_at hl 1 rfl) ?_
        refine va_get (D := G.1) (ci := 2) (v := .ref (a 11)) (C := RX2) (T := TX2) (N := 15) hx hb hts inX2 hown hK.1 hP 0 rfl rfl 11 (by decide) (hts _ mf_X2_51) (fun _ h9 => h9) rfl dX2_loadRow_82 ?_
        refine lv_iload hx hb dX2_loadRow_85 (lv_at hl 0 rfl) ?_
        refine lv_aload_n hx hb dX2_loadRow_87 rfl (lv_at hl 1 rfl) ?_
        refine va_get (D := G.1) (ci := 2) (v := .ref (a 10)) (C := RX2) (T := TX2) (N := 15) hx hb hts inX2 hown hK.1 hP 0 rfl rfl 10 (by decide) (hts _ mf_X2_48) (fun _ h9 => h9) rfl dX2_loadRow_88 ?_
        refine lv_iload hx hb dX2_loadRow_91 (lv_at hl 0 rfl) ?_
        refine xiald hx hb hK hP 5 (i * 12 + j) (rfl) (by omega) (by omega) rfl dX2_loadRow_93 ?_
        refine lv_topi (fun v8 ev8 => ?_)
        refine lv_if_ne (tgt := 107) hx hb dX2_loadRow_94 (by decide) (fun c9 => ?_) (fun c9 => ?_)
        · refine lv_iconst (v := 1) hx hb dX2_loadRow_107 (by decide) ?_
          refine lv_goto (tgt := 112) hx hb dX2_loadRow_108 (by decide) ?_
          refine xzast (x := 1) hx hb hK hP hD hS 6 (i * 12 + j) (rfl) (by omega) (by omega) (Or.inr rfl) rfl dX2_loadRow_112 (fun H locs hP hD hS => ?_)
          have hP : PP G [((a 15), .inr (2, [.int (f 0), .int (f 1), .int (f 2), .int (f 3), .int (f 4), .ref (b 3), .ref (a 6), .ref (a 7), .ref (a 8), .ref (a 9), .ref (a 10), .ref (a 11), .ref (a 12), .ref (a 13), .ref (a 14)])), ((a 6), .inl (G.2.2.1, 12, .inl (r2 6))), ((a 7), .inl (G.2.1, 12, .inl (r2 7))), ((a 8), .inl (G.2.1, 144, .inl (upd (r2 8) (i * 12 + j) (v4)))), ((a 9), .inl (G.2.1, 144, .inl (upd (r2 9) (i * 12 + j) (v5)))), ((a 10), .inl (G.2.1, 144, .inl (upd (r2 10) (i * 12 + j) (r7)))), ((a 11), .inl (G.2.2.1, 144, .inl (upd (r2 11) (i * 12 + j) (1)))), ((a 12), .inl (G.2.1, 144, .inl (upd (r2 12) (i * 12 + j) (v6)))), ((a 13), .inl (G.2.1, 144, .inl (r2 13))), ((a 14), .inl (G.2.1, 144, .inl (r2 14))), ((ta 0), .inr (4, [.int (tf 0), .int (tf 1), .int (tf 2), .int (tf 3), .ref (ta 4), .ref (ta 5), .ref (ta 6), .ref (ta 7), .ref (ta 8), .ref (ta 9), .ref (ta 10), .ref (ta 11)])), ((ta 4), .inl (G.2.1, 12, .inl (tr 4))), ((ta 5), .inl (G.2.1, 144, .inl (tr 5))), ((ta 6), .inl (G.2.1, 144, .inl (tr 6))), ((ta 7), .inl (G.2.1, 144, .inl (tr 7))), ((ta 8), .inl (G.2.1, 864, .inl (tr 8))), ((ta 9), .inl (G.2.1, 6, .inl (tr 9))), ((ta 10), .inl (G.2.1, 12, .inl (tr 10))), ((ta 11), .inl (G.2.1, 12, .inl (tr 11)))] H := hP
          have hD := D_as hP hD rfl
          refine lv_aload_n hx hb dX2_loadRow_113 rfl (lv_at hl 1 rfl) ?_
          refine lv_iload hx hb dX2_loadRow_114 (lv_at hl 0 rfl) ?_
          refine lv_iload_n hx hb dX2_loadRow_116 rfl (lv_at hl 4 rfl) ?_
          refine wrVV (rest := []) (q0 := 0) ⟨hx, hb, hml, hown, hts⟩ (c_X2_bound l G a b f (fun k => match k with | 6 => (r2 6) | 7 => (r2 7) | 8 => (upd (r2 8) (i * 12 + j) (v4)) | 9 => (upd (r2 9) (i * 12 + j) (v5)) | 10 => (upd (r2 10) (i * 12 + j) (r7)) | 11 => (upd (r2 11) (i * 12 + j) (1)) | 12 => (upd (r2 12) (i * 12 + j) (v6)) | 13 => (r2 13) | 14 => (r2 14) | _ => (fun _ => 0)) (i * 12 + j) r1 (by omega)) mi_yX2_bound mv_yX2_bound ml_X2_102 ⟨rfl, rfl, Nat.le_of_ble_eq_true rfl, Nat.le_of_ble_eq_true rfl⟩ hK hP hD [0, 1, 2, 3, 4, 5, 6, 7, 8, 9] rfl (by decide) rfl rfl rfl hl.1 rfl (Nat.le_of_ble_eq_true rfl) dX2_loadRow_117 ⟨Nat.zero_le _, Nat.zero_le _⟩ hS hA (fun w11 H locs hw11 hP hS => ?_)
          obtain ⟨r12, rfl⟩ := hw11
          have h9_ := P_rg (s := 0) (hP rfl) rfl (Nat.le_of_ble_eq_true rfl)
          have hP : PP G [((a 15), .inr (2, [.int (f 0), .int (f 1), .int (f 2), .int (f 3), .int (f 4), .ref (b 3), .ref (a 6), .ref (a 7), .ref (a 8), .ref (a 9), .ref (a 10), .ref (a 11), .ref (a 12), .ref (a 13), .ref (a 14)])), ((a 6), .inl (G.2.2.1, 12, .inl (r12 6))), ((a 7), .inl (G.2.1, 12, .inl (r12 7))), ((a 8), .inl (G.2.1, 144, .inl (r12 8))), ((a 9), .inl (G.2.1, 144, .inl (r12 9))), ((a 10), .inl (G.2.1, 144, .inl (r12 10))), ((a 11), .inl (G.2.2.1, 144, .inl (r12 11))), ((a 12), .inl (G.2.1, 144, .inl (r12 12))), ((a 13), .inl (G.2.1, 144, .inl (r12 13))), ((a 14), .inl (G.2.1, 144, .inl (r12 14))), ((ta 0), .inr (4, [.int (tf 0), .int (tf 1), .int (tf 2), .int (tf 3), .ref (ta 4), .ref (ta 5), .ref (ta 6), .ref (ta 7), .ref (ta 8), .ref (ta 9), .ref (ta 10), .ref (ta 11)])), ((ta 4), .inl (G.2.1, 12, .inl (tr 4))), ((ta 5), .inl (G.2.1, 144, .inl (tr 5))), ((ta 6), .inl (G.2.1, 144, .inl (tr 6))), ((ta 7), .inl (G.2.1, 144, .inl (tr 7))), ((ta 8), .inl (G.2.1, 864, .inl (tr 8))), ((ta 9), .inl (G.2.1, 6, .inl (tr 9))), ((ta 10), .inl (G.2.1, 12, .inl (tr 10))), ((ta 11), .inl (G.2.1, 12, .inl (tr 11)))] H := h9_
          have hD := D_as2 hP hD rfl
          obtain ⟨v13, ev13⟩ : ∃ y : Int32, y = (nI j) + Int32.ofInt (1) := ⟨_, rfl⟩
          refine lv_iinc (v := v13) (lv' := [(4, .int v13), (5, .int (nI (i * 12 + j))), (0, .ref (a 15)), (1, .ref (ta 0)), (2, .int (nI i)), (3, .int r1)]) hx hb dX2_loadRow_120 hl (k := 5) rfl ev13.symm (by decide) rfl (fun ls hl => ?_)
          refine lv_goto (tgt := 9) hx hb dX2_loadRow_123 (by decide) ?_
          exact ih (j + 1) (fun k => match k with | 6 => (r12 6) | 7 => (r12 7) | 8 => (r12 8) | 9 => (r12 9) | 10 => (r12 10) | 11 => (r12 11) | 12 => (r12 12) | 13 => (r12 13) | 14 => (r12 14) | _ => (fun _ => 0)) (by omega) (by omega) _ _ _ hP hS (by have e := nI_inc ev13; rw [e] at hl; exact lv_sub hl [2, 3, 4, 5, 0] rfl)
        · refine lv_aload_n hx hb dX2_loadRow_97 rfl (lv_at hl 2 rfl) ?_
          refine lv_iload hx hb dX2_loadRow_98 (lv_at hl 0 rfl) ?_
          refine lv_iconst (v := 2) hx hb dX2_loadRow_100 (by decide) ?_
          refine rdV (rest := [.int (nI (i * 12 + j)), .ref (a 11)]) (q0 := 0) ⟨hx, hb, hml, hown, hts⟩ (c_X4_wasTold l G ta tf tr (i * 12 + j) 2 (by omega)) mi_yX4_wasTold mv_yX4_wasTold ml_X2_98 ⟨rfl, rfl, Nat.le_of_ble_eq_true rfl, Nat.le_of_ble_eq_true rfl⟩ hK (hP.sub (ws' := tW G ta tf tr) [10, 11, 12, 13, 14, 15, 16, 17, 18] rfl) rfl rfl rfl hl.1 rfl (Nat.le_of_ble_eq_true rfl) dX2_loadRow_101 ⟨Nat.zero_le _, Nat.zero_le _⟩ hS hA hP (fun r14 H locs hr14 hP hS => ?_)
          refine lv_if_eq (tgt := 111) hx hb dX2_loadRow_104 (by decide) (fun c15 => ?_) (fun c15 => ?_)
          · refine lv_iconst (v := 0) hx hb dX2_loadRow_111 (by decide) ?_
            refine xzast (x := 0) hx hb hK hP hD hS 6 (i * 12 + j) (rfl) (by omega) (by omega) (Or.inl rfl) rfl dX2_loadRow_112 (fun H locs hP hD hS => ?_)
            have hP : PP G [((a 15), .inr (2, [.int (f 0), .int (f 1), .int (f 2), .int (f 3), .int (f 4), .ref (b 3), .ref (a 6), .ref (a 7), .ref (a 8), .ref (a 9), .ref (a 10), .ref (a 11), .ref (a 12), .ref (a 13), .ref (a 14)])), ((a 6), .inl (G.2.2.1, 12, .inl (r2 6))), ((a 7), .inl (G.2.1, 12, .inl (r2 7))), ((a 8), .inl (G.2.1, 144, .inl (upd (r2 8) (i * 12 + j) (v4)))), ((a 9), .inl (G.2.1, 144, .inl (upd (r2 9) (i * 12 + j) (v5)))), ((a 10), .inl (G.2.1, 144, .inl (upd (r2 10) (i * 12 + j) (r7)))), ((a 11), .inl (G.2.2.1, 144, .inl (upd (r2 11) (i * 12 + j) (0)))), ((a 12), .inl (G.2.1, 144, .inl (upd (r2 12) (i * 12 + j) (v6)))), ((a 13), .inl (G.2.1, 144, .inl (r2 13))), ((a 14), .inl (G.2.1, 144, .inl (r2 14))), ((ta 0), .inr (4, [.int (tf 0), .int (tf 1), .int (tf 2), .int (tf 3), .ref (ta 4), .ref (ta 5), .ref (ta 6), .ref (ta 7), .ref (ta 8), .ref (ta 9), .ref (ta 10), .ref (ta 11)])), ((ta 4), .inl (G.2.1, 12, .inl (tr 4))), ((ta 5), .inl (G.2.1, 144, .inl (tr 5))), ((ta 6), .inl (G.2.1, 144, .inl (tr 6))), ((ta 7), .inl (G.2.1, 144, .inl (tr 7))), ((ta 8), .inl (G.2.1, 864, .inl (tr 8))), ((ta 9), .inl (G.2.1, 6, .inl (tr 9))), ((ta 10), .inl (G.2.1, 12, .inl (tr 10))), ((ta 11), .inl (G.2.1, 12, .inl (tr 11)))] H := hP
            have hD := D_as hP hD rfl
            refine lv_aload_n hx hb dX2_loadRow_113 rfl (lv_at hl 1 rfl) ?_
            refine lv_iload hx hb dX2_loadRow_114 (lv_at hl 0 rfl) ?_
            refine lv_iload_n hx hb dX2_loadRow_116 rfl (lv_at hl 4 rfl) ?_
            refine wrVV (rest := []) (q0 := 0) ⟨hx, hb, hml, hown, hts⟩ (c_X2_bound l G a b f (fun k => match k with | 6 => (r2 6) | 7 => (r2 7) | 8 => (upd (r2 8) (i * 12 + j) (v4)) | 9 => (upd (r2 9) (i * 12 + j) (v5)) | 10 => (upd (r2 10) (i * 12 + j) (r7)) | 11 => (upd (r2 11) (i * 12 + j) (0)) | 12 => (upd (r2 12) (i * 12 + j) (v6)) | 13 => (r2 13) | 14 => (r2 14) | _ => (fun _ => 0)) (i * 12 + j) r1 (by omega)) mi_yX2_bound mv_yX2_bound ml_X2_102 ⟨rfl, rfl, Nat.le_of_ble_eq_true rfl, Nat.le_of_ble_eq_true rfl⟩ hK hP hD [0, 1, 2, 3, 4, 5, 6, 7, 8, 9] rfl (by decide) rfl rfl rfl hl.1 rfl (Nat.le_of_ble_eq_true rfl) dX2_loadRow_117 ⟨Nat.zero_le _, Nat.zero_le _⟩ hS hA (fun w17 H locs hw17 hP hS => ?_)
            obtain ⟨r18, rfl⟩ := hw17
            have h9_ := P_rg (s := 0) (hP rfl) rfl (Nat.le_of_ble_eq_true rfl)
            have hP : PP G [((a 15), .inr (2, [.int (f 0), .int (f 1), .int (f 2), .int (f 3), .int (f 4), .ref (b 3), .ref (a 6), .ref (a 7), .ref (a 8), .ref (a 9), .ref (a 10), .ref (a 11), .ref (a 12), .ref (a 13), .ref (a 14)])), ((a 6), .inl (G.2.2.1, 12, .inl (r18 6))), ((a 7), .inl (G.2.1, 12, .inl (r18 7))), ((a 8), .inl (G.2.1, 144, .inl (r18 8))), ((a 9), .inl (G.2.1, 144, .inl (r18 9))), ((a 10), .inl (G.2.1, 144, .inl (r18 10))), ((a 11), .inl (G.2.2.1, 144, .inl (r18 11))), ((a 12), .inl (G.2.1, 144, .inl (r18 12))), ((a 13), .inl (G.2.1, 144, .inl (r18 13))), ((a 14), .inl (G.2.1, 144, .inl (r18 14))), ((ta 0), .inr (4, [.int (tf 0), .int (tf 1), .int (tf 2), .int (tf 3), .ref (ta 4), .ref (ta 5), .ref (ta 6), .ref (ta 7), .ref (ta 8), .ref (ta 9), .ref (ta 10), .ref (ta 11)])), ((ta 4), .inl (G.2.1, 12, .inl (tr 4))), ((ta 5), .inl (G.2.1, 144, .inl (tr 5))), ((ta 6), .inl (G.2.1, 144, .inl (tr 6))), ((ta 7), .inl (G.2.1, 144, .inl (tr 7))), ((ta 8), .inl (G.2.1, 864, .inl (tr 8))), ((ta 9), .inl (G.2.1, 6, .inl (tr 9))), ((ta 10), .inl (G.2.1, 12, .inl (tr 10))), ((ta 11), .inl (G.2.1, 12, .inl (tr 11)))] H := h9_
            have hD := D_as2 hP hD rfl
            obtain ⟨v19, ev19⟩ : ∃ y : Int32, y = (nI j) + Int32.ofInt (1) := ⟨_, rfl⟩
            refine lv_iinc (v := v19) (lv' := [(4, .int v19), (5, .int (nI (i * 12 + j))), (0, .ref (a 15)), (1, .ref (ta 0)), (2, .int (nI i)), (3, .int r1)]) hx hb dX2_loadRow_120 hl (k := 5) rfl ev19.symm (by decide) rfl (fun ls hl => ?_)
            refine lv_goto (tgt := 9) hx hb dX2_loadRow_123 (by decide) ?_
            exact ih (j + 1) (fun k => match k with | 6 => (r18 6) | 7 => (r18 7) | 8 => (r18 8) | 9 => (r18 9) | 10 => (r18 10) | 11 => (r18 11) | 12 => (r18 12) | 13 => (r18 13) | 14 => (r18 14) | _ => (fun _ => 0)) (by omega) (by omega) _ _ _ hP hS (by have e := nI_inc ev19; rw [e] at hl; exact lv_sub hl [2, 3, 4, 5, 0] rfl)
          · refine lv_iconst (v := 1) hx hb dX2_loadRow_107 (by decide) ?_
            refine lv_goto (tgt := 112) hx hb dX2_loadRow_108 (by decide) ?_
            refine xzast (x := 1) hx hb hK hP hD hS 6 (i * 12 + j) (rfl) (by omega) (by omega) (Or.inr rfl) rfl dX2_loadRow_112 (fun H locs hP hD hS => ?_)
            have hP : PP G [((a 15), .inr (2, [.int (f 0), .int (f 1), .int (f 2), .int (f 3), .int (f 4), .ref (b 3), .ref (a 6), .ref (a 7), .ref (a 8), .ref (a 9), .ref (a 10), .ref (a 11), .ref (a 12), .ref (a 13), .ref (a 14)])), ((a 6), .inl (G.2.2.1, 12, .inl (r2 6))), ((a 7), .inl (G.2.1, 12, .inl (r2 7))), ((a 8), .inl (G.2.1, 144, .inl (upd (r2 8) (i * 12 + j) (v4)))), ((a 9), .inl (G.2.1, 144, .inl (upd (r2 9) (i * 12 + j) (v5)))), ((a 10), .inl (G.2.1, 144, .inl (upd (r2 10) (i * 12 + j) (r7)))), ((a 11), .inl (G.2.2.1, 144, .inl (upd (r2 11) (i * 12 + j) (1)))), ((a 12), .inl (G.2.1, 144, .inl (upd (r2 12) (i * 12 + j) (v6)))), ((a 13), .inl (G.2.1, 144, .inl (r2 13))), ((a 14), .inl (G.2.1, 144, .inl (r2 14))), ((ta 0), .inr (4, [.int (tf 0), .int (tf 1), .int (tf 2), .int (tf 3), .ref (ta 4), .ref (ta 5), .ref (ta 6), .ref (ta 7), .ref (ta 8), .ref (ta 9), .ref (ta 10), .ref (ta 11)])), ((ta 4), .inl (G.2.1, 12, .inl (tr 4))), ((ta 5), .inl (G.2.1, 144, .inl (tr 5))), ((ta 6), .inl (G.2.1, 144, .inl (tr 6))), ((ta 7), .inl (G.2.1, 144, .inl (tr 7))), ((ta 8), .inl (G.2.1, 864, .inl (tr 8))), ((ta 9), .inl (G.2.1, 6, .inl (tr 9))), ((ta 10), .inl (G.2.1, 12, .inl (tr 10))), ((ta 11), .inl (G.2.1, 12, .inl (tr 11)))] H := hP
            have hD := D_as hP hD rfl
            refine lv_aload_n hx hb dX2_loadRow_113 rfl (lv_at hl 1 rfl) ?_
            refine lv_iload hx hb dX2_loadRow_114 (lv_at hl 0 rfl) ?_
            refine lv_iload_n hx hb dX2_loadRow_116 rfl (lv_at hl 4 rfl) ?_
            refine wrVV (rest := []) (q0 := 0) ⟨hx, hb, hml, hown, hts⟩ (c_X2_bound l G a b f (fun k => match k with | 6 => (r2 6) | 7 => (r2 7) | 8 => (upd (r2 8) (i * 12 + j) (v4)) | 9 => (upd (r2 9) (i * 12 + j) (v5)) | 10 => (upd (r2 10) (i * 12 + j) (r7)) | 11 => (upd (r2 11) (i * 12 + j) (1)) | 12 => (upd (r2 12) (i * 12 + j) (v6)) | 13 => (r2 13) | 14 => (r2 14) | _ => (fun _ => 0)) (i * 12 + j) r1 (by omega)) mi_yX2_bound mv_yX2_bound ml_X2_102 ⟨rfl, rfl, Nat.le_of_ble_eq_true rfl, Nat.le_of_ble_eq_true rfl⟩ hK hP hD [0, 1, 2, 3, 4, 5, 6, 7, 8, 9] rfl (by decide) rfl rfl rfl hl.1 rfl (Nat.le_of_ble_eq_true rfl) dX2_loadRow_117 ⟨Nat.zero_le _, Nat.zero_le _⟩ hS hA (fun w21 H locs hw21 hP hS => ?_)
            obtain ⟨r22, rfl⟩ := hw21
            have h9_ := P_rg (s := 0) (hP rfl) rfl (Nat.le_of_ble_eq_true rfl)
            have hP : PP G [((a 15), .inr (2, [.int (f 0), .int (f 1), .int (f 2), .int (f 3), .int (f 4), .ref (b 3), .ref (a 6), .ref (a 7), .ref (a 8), .ref (a 9), .ref (a 10), .ref (a 11), .ref (a 12), .ref (a 13), .ref (a 14)])), ((a 6), .inl (G.2.2.1, 12, .inl (r22 6))), ((a 7), .inl (G.2.1, 12, .inl (r22 7))), ((a 8), .inl (G.2.1, 144, .inl (r22 8))), ((a 9), .inl (G.2.1, 144, .inl (r22 9))), ((a 10), .inl (G.2.1, 144, .inl (r22 10))), ((a 11), .inl (G.2.2.1, 144, .inl (r22 11))), ((a 12), .inl (G.2.1, 144, .inl (r22 12))), ((a 13), .inl (G.2.1, 144, .inl (r22 13))), ((a 14), .inl (G.2.1, 144, .inl (r22 14))), ((ta 0), .inr (4, [.int (tf 0), .int (tf 1), .int (tf 2), .int (tf 3), .ref (ta 4), .ref (ta 5), .ref (ta 6), .ref (ta 7), .ref (ta 8), .ref (ta 9), .ref (ta 10), .ref (ta 11)])), ((ta 4), .inl (G.2.1, 12, .inl (tr 4))), ((ta 5), .inl (G.2.1, 144, .inl (tr 5))), ((ta 6), .inl (G.2.1, 144, .inl (tr 6))), ((ta 7), .inl (G.2.1, 144, .inl (tr 7))), ((ta 8), .inl (G.2.1, 864, .inl (tr 8))), ((ta 9), .inl (G.2.1, 6, .inl (tr 9))), ((ta 10), .inl (G.2.1, 12, .inl (tr 10))), ((ta 11), .inl (G.2.1, 12, .inl (tr 11)))] H := h9_
            have hD := D_as2 hP hD rfl
            obtain ⟨v23, ev23⟩ : ∃ y : Int32, y = (nI j) + Int32.ofInt (1) := ⟨_, rfl⟩
            refine lv_iinc (v := v23) (lv' := [(4, .int v23), (5, .int (nI (i * 12 + j))), (0, .ref (a 15)), (1, .ref (ta 0)), (2, .int (nI i)), (3, .int r1)]) hx hb dX2_loadRow_120 hl (k := 5) rfl ev23.symm (by decide) rfl (fun ls hl => ?_)
            refine lv_goto (tgt := 9) hx hb dX2_loadRow_123 (by decide) ?_
            exact ih (j + 1) (fun k => match k with | 6 => (r22 6) | 7 => (r22 7) | 8 => (r22 8) | 9 => (r22 9) | 10 => (r22 10) | 11 => (r22 11) | 12 => (r22 12) | 13 => (r22 13) | 14 => (r22 14) | _ => (fun _ => 0)) (by omega) (by omega) _ _ _ hP hS (by have e := nI_inc ev23; rw [e] at hl; exact lv_sub hl [2, 3, 4, 5, 0] rfl)
  exact loop (cl + 1) 0 r (Nat.zero_le _) (by omega) _ _ _ hP hS (lv_sub hl [2, 3, 4, 1, 0] rfl)
set_option maxHeartbeats 4000000 in
set_option maxRecDepth 100000 in
theorem c_X2_load (l : Launch) (G : GG) (a b : Nat → Nat) (f : Nat → Int32) (r : Nat → Nat → Int32) (ta : Nat → Nat) (tf : Nat → Int32) (tr : Nat → Nat → Int32) (rw cl bk : Nat) (hrw : rw ≤ 12) (hcl : cl ≤ 12) (hbk : bk ≤ 12) (t1 : tf 1 = nI rw) (t2 : tf 2 = nI cl) (t3 : tf 3 = nI bk) : WrV l yX2_load cX2_load 3 ({ frames := 3, cells := 0, slots := 0, locals := 73 }) G ([((a 15), .inr (2, [.int (f 0), .int (f 1), .int (f 2), .int (f 3), .int (f 4), .ref (b 3), .ref (a 6), .ref (a 7), .ref (a 8), .ref (a 9), .ref (a 10), .ref (a 11), .ref (a 12), .ref (a 13), .ref (a 14)])), ((a 6), .inl (G.2.2.1, 12, .inl (r 6))), ((a 7), .inl (G.2.1, 12, .inl (r 7))), ((a 8), .inl (G.2.1, 144, .inl (r 8))), ((a 9), .inl (G.2.1, 144, .inl (r 9))), ((a 10), .inl (G.2.1, 144, .inl (r 10))), ((a 11), .inl (G.2.2.1, 144, .inl (r 11))), ((a 12), .inl (G.2.1, 144, .inl (r 12))), ((a 13), .inl (G.2.1, 144, .inl (r 13))), ((a 14), .inl (G.2.1, 144, .inl (r 14))), ((ta 0), .inr (4, [.int (tf 0), .int (tf 1), .int (tf 2), .int (tf 3), .ref (ta 4), .ref (ta 5), .ref (ta 6), .ref (ta 7), .ref (ta 8), .ref (ta 9), .ref (ta 10), .ref (ta 11)])), ((ta 4), .inl (G.2.1, 12, .inl (tr 4))), ((ta 5), .inl (G.2.1, 144, .inl (tr 5))), ((ta 6), .inl (G.2.1, 144, .inl (tr 6))), ((ta 7), .inl (G.2.1, 144, .inl (tr 7))), ((ta 8), .inl (G.2.1, 864, .inl (tr 8))), ((ta 9), .inl (G.2.1, 6, .inl (tr 9))), ((ta 10), .inl (G.2.1, 12, .inl (tr 10))), ((ta 11), .inl (G.2.1, 12, .inl (tr 11)))]) [.ref (a 15), .ref (ta 0)] (fun w => ∃ (f2 : Nat → Int32) (r2 : Nat → Nat → Int32), f2 0 = nI rw ∧ f2 1 = nI cl ∧ w = [((a 15), .inr (2, [.int (f2 0), .int (f2 1), .int (f2 2), .int (f2 3), .int (f2 4), .ref (b 3), .ref (a 6), .ref (a 7), .ref (a 8), .ref (a 9), .ref (a 10), .ref (a 11), .ref (a 12), .ref (a 13), .ref (a 14)])), ((a 6), .inl (G.2.2.1, 12, .inl (r2 6))), ((a 7), .inl (G.2.1, 12, .inl (r2 7))), ((a 8), .inl (G.2.1, 144, .inl (r2 8))), ((a 9), .inl (G.2.1, 144, .inl (r2 9))), ((a 10), .inl (G.2.1, 144, .inl (r2 10))), ((a 11), .inl (G.2.2.1, 144, .inl (r2 11))), ((a 12), .inl (G.2.1, 144, .inl (r2 12))), ((a 13), .inl (G.2.1, 144, .inl (r2 13))), ((a 14), .inl (G.2.1, 144, .inl (r2 14))), ((ta 0), .inr (4, [.int (tf 0), .int (tf 1), .int (tf 2), .int (tf 3), .ref (ta 4), .ref (ta 5), .ref (ta 6), .ref (ta 7), .ref (ta 8), .ref (ta 9), .ref (ta 10), .ref (ta 11)])), ((ta 4), .inl (G.2.1, 12, .inl (tr 4))), ((ta 5), .inl (G.2.1, 144, .inl (tr 5))), ((ta 6), .inl (G.2.1, 144, .inl (tr 6))), ((ta 7), .inl (G.2.1, 144, .inl (tr 7))), ((ta 8), .inl (G.2.1, 864, .inl (tr 8))), ((ta 9), .inl (G.2.1, 6, .inl (tr 9))), ((ta 10), .inl (G.2.1, 12, .inl (tr 10))), ((ta 11), .inl (G.2.1, 12, .inl (tr 11)))]) := by
  refine wr_entryV (by decide +kernel) (Nat.le_of_ble_eq_true rfl) ?_
  intro p e s m below meth c A C0 hP hK hD hA ls hl
  have hS : va_S A s.heap s.heap [] := va_S.rf
  obtain ⟨hx, hb, hml, hown, hts, hr, hlocks, hin⟩ := C0
  have hown : s.vm.findClass RX2 = some m.cls := hown
  have hl : lv_has ls 3 [(0, .ref (a 15)), (1, .ref (ta 0))] := hl
  refine lv_aload_n hx hb dX2_load_0 rfl (lv_at hl 0 rfl) ?_
  refine lv_aload_n hx hb dX2_load_1 rfl (lv_at hl 1 rfl) ?_
  refine va_get (D := G.1) (ci := 4) (v := .int (tf 1)) (C := RX4) (T := TX4) (N := 12) hx hb hts inX4 hown hK.1 hP 10 rfl rfl 1 (by decide) (hts _ mf_X2_63) (fun _ h9 => h9) rfl dX2_load_2 ?_
  refine va_put (D := G.1) (ci := 2) (v := .int (tf 1)) (C := RX2) (T := TX2) (N := 15) hx hb hts inX2 tyX2 tyX2_ok nmX2 hown hK.1 hP hD hS 0 rfl rfl 0 (by decide) (hts _ mf_X2_9) (fun _ h9 => h9) rfl (tyX2_ok 0 (by decide)) (rfl) (rfl) (Nat.le_of_ble_eq_true rfl) dX2_load_5 (fun H locs hP hD hS => ?_)
  have hP : PP G [((a 15), .inr (2, [.int (tf 1), .int (f 1), .int (f 2), .int (f 3), .int (f 4), .ref (b 3), .ref (a 6), .ref (a 7), .ref (a 8), .ref (a 9), .ref (a 10), .ref (a 11), .ref (a 12), .ref (a 13), .ref (a 14)])), ((a 6), .inl (G.2.2.1, 12, .inl (r 6))), ((a 7), .inl (G.2.1, 12, .inl (r 7))), ((a 8), .inl (G.2.1, 144, .inl (r 8))), ((a 9), .inl (G.2.1, 144, .inl (r 9))), ((a 10), .inl (G.2.1, 144, .inl (r 10))), ((a 11), .inl (G.2.2.1, 144, .inl (r 11))), ((a 12), .inl (G.2.1, 144, .inl (r 12))), ((a 13), .inl (G.2.1, 144, .inl (r 13))), ((a 14), .inl (G.2.1, 144, .inl (r 14))), ((ta 0), .inr (4, [.int (tf 0), .int (tf 1), .int (tf 2), .int (tf 3), .ref (ta 4), .ref (ta 5), .ref (ta 6), .ref (ta 7), .ref (ta 8), .ref (ta 9), .ref (ta 10), .ref (ta 11)])), ((ta 4), .inl (G.2.1, 12, .inl (tr 4))), ((ta 5), .inl (G.2.1, 144, .inl (tr 5))), ((ta 6), .inl (G.2.1, 144, .inl (tr 6))), ((ta 7), .inl (G.2.1, 144, .inl (tr 7))), ((ta 8), .inl (G.2.1, 864, .inl (tr 8))), ((ta 9), .inl (G.2.1, 6, .inl (tr 9))), ((ta 10), .inl (G.2.1, 12, .inl (tr 10))), ((ta 11), .inl (G.2.1, 12, .inl (tr 11)))] H := hP
  have hD := D_as hP hD rfl
  refine lv_aload_n hx hb dX2_load_8 rfl (lv_at hl 0 rfl) ?_
  refine lv_aload_n hx hb dX2_load_9 rfl (lv_at hl 1 rfl) ?_
  refine va_get (D := G.1) (ci := 4) (v := .int (tf 2)) (C := RX4) (T := TX4) (N := 12) hx hb hts inX4 hown hK.1 hP 10 rfl rfl 2 (by decide) (hts _ mf_X2_66) (fun _ h9 => h9) rfl dX2_load_10 ?_
  refine va_put (D := G.1) (ci := 2) (v := .int (tf 2)) (C := RX2) (T := TX2) (N := 15) hx hb hts inX2 tyX2 tyX2_ok nmX2 hown hK.1 hP hD hS 0 rfl rfl 1 (by decide) (hts _ mf_X2_15) (fun _ h9 => h9) rfl (tyX2_ok 1 (by decide)) (rfl) (rfl) (Nat.le_of_ble_eq_true rfl) dX2_load_13 (fun H locs hP hD hS => ?_)
  have hP : PP G [((a 15), .inr (2, [.int (tf 1), .int (tf 2), .int (f 2), .int (f 3), .int (f 4), .ref (b 3), .ref (a 6), .ref (a 7), .ref (a 8), .ref (a 9), .ref (a 10), .ref (a 11), .ref (a 12), .ref (a 13), .ref (a 14)])), ((a 6), .inl (G.2.2.1, 12, .inl (r 6))), ((a 7), .inl (G.2.1, 12, .inl (r 7))), ((a 8), .inl (G.2.1, 144, .inl (r 8))), ((a 9), .inl (G.2.1, 144, .inl (r 9))), ((a 10), .inl (G.2.1, 144, .inl (r 10))), ((a 11), .inl (G.2.2.1, 144, .inl (r 11))), ((a 12), .inl (G.2.1, 144, .inl (r 12))), ((a 13), .inl (G.2.1, 144, .inl (r 13))), ((a 14), .inl (G.2.1, 144, .inl (r 14))), ((ta 0), .inr (4, [.int (tf 0), .int (tf 1), .int (tf 2), .int (tf 3), .ref (ta 4), .ref (ta 5), .ref (ta 6), .ref (ta 7), .ref (ta 8), .ref (ta 9), .ref (ta 10), .ref (ta 11)])), ((ta 4), .inl (G.2.1, 12, .inl (tr 4))), ((ta 5), .inl (G.2.1, 144, .inl (tr 5))), ((ta 6), .inl (G.2.1, 144, .inl (tr 6))), ((ta 7), .inl (G.2.1, 144, .inl (tr 7))), ((ta 8), .inl (G.2.1, 864, .inl (tr 8))), ((ta 9), .inl (G.2.1, 6, .inl (tr 9))), ((ta 10), .inl (G.2.1, 12, .inl (tr 10))), ((ta 11), .inl (G.2.1, 12, .inl (tr 11)))] H := hP
  have hD := D_as hP hD rfl
  refine lv_aload_n hx hb dX2_load_16 rfl (lv_at hl 0 rfl) ?_
  refine lv_aload_n hx hb dX2_load_17 rfl (lv_at hl 1 rfl) ?_
  refine va_get (D := G.1) (ci := 4) (v := .ref (ta 9)) (C := RX4) (T := TX4) (N := 12) hx hb hts inX4 hown hK.1 hP 10 rfl rfl 9 (by decide) (hts _ mf_X2_67) (fun _ h9 => h9) rfl dX2_load_18 ?_
  refine lv_iconst (v := 3) hx hb dX2_load_21 (by decide) ?_
  refine xiald hx hb hK hP 16 (3) (rfl) (by decide) (by omega) rfl dX2_load_22 ?_
  refine lv_topi (fun v1 ev1 => ?_)
  refine va_put (D := G.1) (ci := 2) (v := .int v1) (C := RX2) (T := TX2) (N := 15) hx hb hts inX2 tyX2 tyX2_ok nmX2 hown hK.1 hP hD hS 0 rfl rfl 2 (by decide) (hts _ mf_X2_18) (fun _ h9 => h9) rfl (tyX2_ok 2 (by decide)) (rfl) (rfl) (Nat.le_of_ble_eq_true rfl) dX2_load_23 (fun H locs hP hD hS => ?_)
  have hP : PP G [((a 15), .inr (2, [.int (tf 1), .int (tf 2), .int v1, .int (f 3), .int (f 4), .ref (b 3), .ref (a 6), .ref (a 7), .ref (a 8), .ref (a 9), .ref (a 10), .ref (a 11), .ref (a 12), .ref (a 13), .ref (a 14)])), ((a 6), .inl (G.2.2.1, 12, .inl (r 6))), ((a 7), .inl (G.2.1, 12, .inl (r 7))), ((a 8), .inl (G.2.1, 144, .inl (r 8))), ((a 9), .inl (G.2.1, 144, .inl (r 9))), ((a 10), .inl (G.2.1, 144, .inl (r 10))), ((a 11), .inl (G.2.2.1, 144, .inl (r 11))), ((a 12), .inl (G.2.1, 144, .inl (r 12))), ((a 13), .inl (G.2.1, 144, .inl (r 13))), ((a 14), .inl (G.2.1, 144, .inl (r 14))), ((ta 0), .inr (4, [.int (tf 0), .int (tf 1), .int (tf 2), .int (tf 3), .ref (ta 4), .ref (ta 5), .ref (ta 6), .ref (ta 7), .ref (ta 8), .ref (ta 9), .ref (ta 10), .ref (ta 11)])), ((ta 4), .inl (G.2.1, 12, .inl (tr 4))), ((ta 5), .inl (G.2.1, 144, .inl (tr 5))), ((ta 6), .inl (G.2.1, 144, .inl (tr 6))), ((ta 7), .inl (G.2.1, 144, .inl (tr 7))), ((ta 8), .inl (G.2.1, 864, .inl (tr 8))), ((ta 9), .inl (G.2.1, 6, .inl (tr 9))), ((ta 10), .inl (G.2.1, 12, .inl (tr 10))), ((ta 11), .inl (G.2.1, 12, .inl (tr 11)))] H := hP
  have hD := D_as hP hD rfl
  refine lv_aload_n hx hb dX2_load_26 rfl (lv_at hl 0 rfl) ?_
  refine lv_aload_n hx hb dX2_load_27 rfl (lv_at hl 1 rfl) ?_
  refine va_get (D := G.1) (ci := 4) (v := .ref (ta 9)) (C := RX4) (T := TX4) (N := 12) hx hb hts inX4 hown hK.1 hP 10 rfl rfl 9 (by decide) (hts _ mf_X2_67) (fun _ h9 => h9) rfl dX2_load_28 ?_
  refine lv_iconst (v := 4) hx hb dX2_load_31 (by decide) ?_
  refine xiald hx hb hK hP 16 (4) (rfl) (by decide) (by omega) rfl dX2_load_32 ?_
  refine lv_topi (fun v2 ev2 => ?_)
  refine va_put (D := G.1) (ci := 2) (v := .int v2) (C := RX2) (T := TX2) (N := 15) hx hb hts inX2 tyX2 tyX2_ok nmX2 hown hK.1 hP hD hS 0 rfl rfl 3 (by decide) (hts _ mf_X2_21) (fun _ h9 => h9) rfl (tyX2_ok 3 (by decide)) (rfl) (rfl) (Nat.le_of_ble_eq_true rfl) dX2_load_33 (fun H locs hP hD hS => ?_)
  have hP : PP G [((a 15), .inr (2, [.int (tf 1), .int (tf 2), .int v1, .int v2, .int (f 4), .ref (b 3), .ref (a 6), .ref (a 7), .ref (a 8), .ref (a 9), .ref (a 10), .ref (a 11), .ref (a 12), .ref (a 13), .ref (a 14)])), ((a 6), .inl (G.2.2.1, 12, .inl (r 6))), ((a 7), .inl (G.2.1, 12, .inl (r 7))), ((a 8), .inl (G.2.1, 144, .inl (r 8))), ((a 9), .inl (G.2.1, 144, .inl (r 9))), ((a 10), .inl (G.2.1, 144, .inl (r 10))), ((a 11), .inl (G.2.2.1, 144, .inl (r 11))), ((a 12), .inl (G.2.1, 144, .inl (r 12))), ((a 13), .inl (G.2.1, 144, .inl (r 13))), ((a 14), .inl (G.2.1, 144, .inl (r 14))), ((ta 0), .inr (4, [.int (tf 0), .int (tf 1), .int (tf 2), .int (tf 3), .ref (ta 4), .ref (ta 5), .ref (ta 6), .ref (ta 7), .ref (ta 8), .ref (ta 9), .ref (ta 10), .ref (ta 11)])), ((ta 4), .inl (G.2.1, 12, .inl (tr 4))), ((ta 5), .inl (G.2.1, 144, .inl (tr 5))), ((ta 6), .inl (G.2.1, 144, .inl (tr 6))), ((ta 7), .inl (G.2.1, 144, .inl (tr 7))), ((ta 8), .inl (G.2.1, 864, .inl (tr 8))), ((ta 9), .inl (G.2.1, 6, .inl (tr 9))), ((ta 10), .inl (G.2.1, 12, .inl (tr 10))), ((ta 11), .inl (G.2.1, 12, .inl (tr 11)))] H := hP
  have hD := D_as hP hD rfl
  refine lv_aload_n hx hb dX2_load_36 rfl (lv_at hl 0 rfl) ?_
  refine lv_bipush (v := -2) hx hb dX2_load_37 (by decide) ?_
  refine va_put (D := G.1) (ci := 2) (v := .int (-2)) (C := RX2) (T := TX2) (N := 15) hx hb hts inX2 tyX2 tyX2_ok nmX2 hown hK.1 hP hD hS 0 rfl rfl 4 (by decide) (hts _ mf_X2_24) (fun _ h9 => h9) rfl (tyX2_ok 4 (by decide)) (rfl) (rfl) (Nat.le_of_ble_eq_true rfl) dX2_load_39 (fun H locs hP hD hS => ?_)
  have hP : PP G [((a 15), .inr (2, [.int (tf 1), .int (tf 2), .int v1, .int v2, .int (-2), .ref (b 3), .ref (a 6), .ref (a 7), .ref (a 8), .ref (a 9), .ref (a 10), .ref (a 11), .ref (a 12), .ref (a 13), .ref (a 14)])), ((a 6), .inl (G.2.2.1, 12, .inl (r 6))), ((a 7), .inl (G.2.1, 12, .inl (r 7))), ((a 8), .inl (G.2.1, 144, .inl (r 8))), ((a 9), .inl (G.2.1, 144, .inl (r 9))), ((a 10), .inl (G.2.1, 144, .inl (r 10))), ((a 11), .inl (G.2.2.1, 144, .inl (r 11))), ((a 12), .inl (G.2.1, 144, .inl (r 12))), ((a 13), .inl (G.2.1, 144, .inl (r 13))), ((a 14), .inl (G.2.1, 144, .inl (r 14))), ((ta 0), .inr (4, [.int (tf 0), .int (tf 1), .int (tf 2), .int (tf 3), .ref (ta 4), .ref (ta 5), .ref (ta 6), .ref (ta 7), .ref (ta 8), .ref (ta 9), .ref (ta 10), .ref (ta 11)])), ((ta 4), .inl (G.2.1, 12, .inl (tr 4))), ((ta 5), .inl (G.2.1, 144, .inl (tr 5))), ((ta 6), .inl (G.2.1, 144, .inl (tr 6))), ((ta 7), .inl (G.2.1, 144, .inl (tr 7))), ((ta 8), .inl (G.2.1, 864, .inl (tr 8))), ((ta 9), .inl (G.2.1, 6, .inl (tr 9))), ((ta 10), .inl (G.2.1, 12, .inl (tr 10))), ((ta 11), .inl (G.2.1, 12, .inl (tr 11)))] H := hP
  have hD := D_as hP hD rfl
  refine lv_iconst (v := 0) hx hb dX2_load_42 (by decide) ?_
  refine lv_istore_n (lv' := [(2, .int 0), (0, .ref (a 15)), (1, .ref (ta 0))]) hx hb dX2_load_43 rfl hl (by decide) rfl (fun ls hl => ?_)
  have loop : ∀ (k i : Nat) (r2 : Nat → Nat → Int32), i ≤ rw → rw < i + k → ∀ (H : Heap) (locs : List Loc) (ls : Array Slot), PP G ([((a 15), .inr (2, [.int (tf 1), .int (tf 2), .int v1, .int v2, .int (-2), .ref (b 3), .ref (a 6), .ref (a 7), .ref (a 8), .ref (a 9), .ref (a 10), .ref (a 11), .ref (a 12), .ref (a 13), .ref (a 14)])), ((a 6), .inl (G.2.2.1, 12, .inl (r2 6))), ((a 7), .inl (G.2.1, 12, .inl (r2 7))), ((a 8), .inl (G.2.1, 144, .inl (r2 8))), ((a 9), .inl (G.2.1, 144, .inl (r2 9))), ((a 10), .inl (G.2.1, 144, .inl (r2 10))), ((a 11), .inl (G.2.2.1, 144, .inl (r2 11))), ((a 12), .inl (G.2.1, 144, .inl (r2 12))), ((a 13), .inl (G.2.1, 144, .inl (r2 13))), ((a 14), .inl (G.2.1, 144, .inl (r2 14))), ((ta 0), .inr (4, [.int (tf 0), .int (tf 1), .int (tf 2), .int (tf 3), .ref (ta 4), .ref (ta 5), .ref (ta 6), .ref (ta 7), .ref (ta 8), .ref (ta 9), .ref (ta 10), .ref (ta 11)])), ((ta 4), .inl (G.2.1, 12, .inl (tr 4))), ((ta 5), .inl (G.2.1, 144, .inl (tr 5))), ((ta 6), .inl (G.2.1, 144, .inl (tr 6))), ((ta 7), .inl (G.2.1, 144, .inl (tr 7))), ((ta 8), .inl (G.2.1, 864, .inl (tr 8))), ((ta 9), .inl (G.2.1, 6, .inl (tr 9))), ((ta 10), .inl (G.2.1, 12, .inl (tr 10))), ((ta 11), .inl (G.2.1, 12, .inl (tr 11)))]) H → va_S A s.heap H locs → lv_has ls 3 [(0, .ref (a 15)), (1, .ref (ta 0)), (2, .int (nI i))] → W p l e ({ frames := 3, cells := 0, slots := 0, locals := 73 }) s m ([.ref (a 15), .ref (ta 0)] : List Value).toArray below meth c H locs 0 0 (MQ below (QwV G (fun w => ∃ (f2 : Nat → Int32) (r2 : Nat → Nat → Int32), f2 0 = nI rw ∧ f2 1 = nI cl ∧ w = [((a 15), .inr (2, [.int (f2 0), .int (f2 1), .int (f2 2), .int (f2 3), .int (f2 4), .ref (b 3), .ref (a 6), .ref (a 7), .ref (a 8), .ref (a 9), .ref (a 10), .ref (a 11), .ref (a 12), .ref (a 13), .ref (a 14)])), ((a 6), .inl (G.2.2.1, 12, .inl (r2 6))), ((a 7), .inl (G.2.1, 12, .inl (r2 7))), ((a 8), .inl (G.2.1, 144, .inl (r2 8))), ((a 9), .inl (G.2.1, 144, .inl (r2 9))), ((a 10), .inl (G.2.1, 144, .inl (r2 10))), ((a 11), .inl (G.2.2.1, 144, .inl (r2 11))), ((a 12), .inl (G.2.1, 144, .inl (r2 12))), ((a 13), .inl (G.2.1, 144, .inl (r2 13))), ((a 14), .inl (G.2.1, 144, .inl (r2 14))), ((ta 0), .inr (4, [.int (tf 0), .int (tf 1), .int (tf 2), .int (tf 3), .ref (ta 4), .ref (ta 5), .ref (ta 6), .ref (ta 7), .ref (ta 8), .ref (ta 9), .ref (ta 10), .ref (ta 11)])), ((ta 4), .inl (G.2.1, 12, .inl (tr 4))), ((ta 5), .inl (G.2.1, 144, .inl (tr 5))), ((ta 6), .inl (G.2.1, 144, .inl (tr 6))), ((ta 7), .inl (G.2.1, 144, .inl (tr 7))), ((ta 8), .inl (G.2.1, 864, .inl (tr 8))), ((ta 9), .inl (G.2.1, 6, .inl (tr 9))), ((ta 10), .inl (G.2.1, 12, .inl (tr 10))), ((ta 11), .inl (G.2.1, 12, .inl (tr 11)))]) A) ([.ref (a 15), .ref (ta 0)] : List Value).toArray s 0 0 A) (F0 m 44 ls []) := by
    intro k
    induction k with
    | zero => intro i r2 h1 h2; omega
    | succ k ih =>
      intro i r2 hi_i hk_i  H locs ls hP hS hl
      have hD := D_as2 hP hD rfl
      refine lv_iload_n hx hb dX2_load_44 rfl (lv_at hl 2 rfl) ?_
      refine lv_aload_n hx hb dX2_load_45 rfl (lv_at hl 0 rfl) ?_
      refine va_get (D := G.1) (ci := 2) (v := .int (tf 1)) (C := RX2) (T := TX2) (N := 15) hx hb hts inX2 hown hK.1 hP 0 rfl rfl 0 (by decide) (hts _ mf_X2_9) (fun _ h9 => h9) rfl dX2_load_46 ?_
      refine lv_icmp_ge (tgt := 103) hx hb dX2_load_49 (by decide) (fun c3 => ?_) (fun c3 => ?_)
      · rw [t1] at c3
        have hge := ge_t (by omega) (by omega) c3
        have heq : i = rw := by omega
        exact wr_vret hx hb hr hlocks hS hP ⟨(fun k => match k with | 0 => (tf 1) | 1 => (tf 2) | 2 => v1 | 3 => v2 | _ => (-2)), r2, t1, t2, rfl⟩ dX2_load_103
      · rw [t1] at c3
        have hlt := ge_f (by omega) (by omega) c3
        refine lv_aload_n hx hb dX2_load_52 rfl (lv_at hl 0 rfl) ?_
        refine va_get (D := G.1) (ci := 2) (v := .ref (a 6)) (C := RX2) (T := TX2) (N := 15) hx hb hts inX2 hown hK.1 hP 0 rfl rfl 6 (by decide) (hts _ mf_X2_34) (fun _ h9 => h9) rfl dX2_load_53 ?_
        refine lv_iload_n hx hb dX2_load_56 rfl (lv_at hl 2 rfl) ?_
        refine lv_aload_n hx hb dX2_load_57 rfl (lv_at hl 1 rfl) ?_
        refine lv_iload_n hx hb dX2_load_58 rfl (lv_at hl 2 rfl) ?_
        refine rdV (rest := [.int (nI i), .ref (a 6)]) (q0 := 0) ⟨hx, hb, hml, hown, hts⟩ (c_X4_isSound l G ta tf tr i cl (by omega) hcl t2) mi_yX4_isSound mv_yX4_isSound ml_X2_70 ⟨rfl, rfl, Nat.le_of_ble_eq_true rfl, Nat.le_of_ble_eq_true rfl⟩ hK (hP.sub (ws' := tW G ta tf tr) [10, 11, 12, 13, 14, 15, 16, 17, 18] rfl) rfl rfl rfl hl.1 rfl (Nat.le_of_ble_eq_true rfl) dX2_load_59 ⟨Nat.zero_le _, Nat.zero_le _⟩ hS hA hP (fun r4 H locs hr4 hP hS => ?_)
        refine xzast (x := r4) hx hb hK hP hD hS 1 (i) (rfl) (by omega) (by omega) (hr4.elim (fun q => Or.inr q.1) (fun q => Or.inl q.1)) rfl dX2_load_62 (fun H locs hP hD hS => ?_)
        have hP : PP G [((a 15), .inr (2, [.int (tf 1), .int (tf 2), .int v1, .int v2, .int (-2), .ref (b 3), .ref (a 6), .ref (a 7), .ref (a 8), .ref (a 9), .ref (a 10), .ref (a 11), .ref (a 12), .ref (a 13), .ref (a 14)])), ((a 6), .inl (G.2.2.1, 12, .inl (upd (r2 6) (i) (r4)))), ((a 7), .inl (G.2.1, 12, .inl (r2 7))), ((a 8), .inl (G.2.1, 144, .inl (r2 8))), ((a 9), .inl (G.2.1, 144, .inl (r2 9))), ((a 10), .inl (G.2.1, 144, .inl (r2 10))), ((a 11), .inl (G.2.2.1, 144, .inl (r2 11))), ((a 12), .inl (G.2.1, 144, .inl (r2 12))), ((a 13), .inl (G.2.1, 144, .inl (r2 13))), ((a 14), .inl (G.2.1, 144, .inl (r2 14))), ((ta 0), .inr (4, [.int (tf 0), .int (tf 1), .int (tf 2), .int (tf 3), .ref (ta 4), .ref (ta 5), .ref (ta 6), .ref (ta 7), .ref (ta 8), .ref (ta 9), .ref (ta 10), .ref (ta 11)])), ((ta 4), .inl (G.2.1, 12, .inl (tr 4))), ((ta 5), .inl (G.2.1, 144, .inl (tr 5))), ((ta 6), .inl (G.2.1, 144, .inl (tr 6))), ((ta 7), .inl (G.2.1, 144, .inl (tr 7))), ((ta 8), .inl (G.2.1, 864, .inl (tr 8))), ((ta 9), .inl (G.2.1, 6, .inl (tr 9))), ((ta 10), .inl (G.2.1, 12, .inl (tr 10))), ((ta 11), .inl (G.2.1, 12, .inl (tr 11)))] H := hP
        have hD := D_as hP hD rfl
        refine lv_aload_n hx hb dX2_load_63 rfl (lv_at hl 0 rfl) ?_
        refine va_get (D := G.1) (ci := 2) (v := .ref (a 7)) (C := RX2) (T := TX2) (N := 15) hx hb hts inX2 hown hK.1 hP 0 rfl rfl 7 (by decide) (hts _ mf_X2_38) (fun _ h9 => h9) rfl dX2_load_64 ?_
        refine lv_iload_n hx hb dX2_load_67 rfl (lv_at hl 2 rfl) ?_
        refine lv_aload_n hx hb dX2_load_68 rfl (lv_at hl 1 rfl) ?_
        refine lv_iload_n hx hb dX2_load_69 rfl (lv_at hl 2 rfl) ?_
        refine rdV (rest := [.int (nI i), .ref (a 7)]) (q0 := 0) ⟨hx, hb, hml, hown, hts⟩ (c_X4_classOf l G ta tf tr i bk hbk t3) mi_yX4_classOf mv_yX4_classOf ml_X2_74 ⟨rfl, rfl, Nat.le_of_ble_eq_true rfl, Nat.le_of_ble_eq_true rfl⟩ hK (hP.sub (ws' := tW G ta tf tr) [10, 11, 12, 13, 14, 15, 16, 17, 18] rfl) rfl rfl rfl hl.1 rfl (Nat.le_of_ble_eq_true rfl) dX2_load_70 ⟨Nat.zero_le _, Nat.zero_le _⟩ hS hA hP (fun r5 H locs hr5 hP hS => ?_)
        refine xiast (x := r5) hx hb hK hP hD hS 2 (i) (rfl) (by omega) (by omega) rfl dX2_load_73 (fun H locs hP hD hS => ?_)
        have hP : PP G [((a 15), .inr (2, [.int (tf 1), .int (tf 2), .int v1, .int v2, .int (-2), .ref (b 3), .ref (a 6), .ref (a 7), .ref (a 8), .ref (a 9), .ref (a 10), .ref (a 11), .ref (a 12), .ref (a 13), .ref (a 14)])), ((a 6), .inl (G.2.2.1, 12, .inl (upd (r2 6) (i) (r4)))), ((a 7), .inl (G.2.1, 12, .inl (upd (r2 7) (i) (r5)))), ((a 8), .inl (G.2.1, 144, .inl (r2 8))), ((a 9), .inl (G.2.1, 144, .inl (r2 9))), ((a 10), .inl (G.2.1, 144, .inl (r2 10))), ((a 11), .inl (G.2.2.1, 144, .inl (r2 11))), ((a 12), .inl (G.2.1, 144, .inl (r2 12))), ((a 13), .inl (G.2.1, 144, .inl (r2 13))), ((a 14), .inl (G.2.1, 144, .inl (r2 14))), ((ta 0), .inr (4, [.int (tf 0), .int (tf 1), .int (tf 2), .int (tf 3), .ref (ta 4), .ref (ta 5), .ref (ta 6), .ref (ta 7), .ref (ta 8), .ref (ta 9), .ref (ta 10), .ref (ta 11)])), ((ta 4), .inl (G.2.1, 12, .inl (tr 4))), ((ta 5), .inl (G.2.1, 144, .inl (tr 5))), ((ta 6), .inl (G.2.1, 144, .inl (tr 6))), ((ta 7), .inl (G.2.1, 144, .inl (tr 7))), ((ta 8), .inl (G.2.1, 864, .inl (tr 8))), ((ta 9), .inl (G.2.1, 6, .inl (tr 9))), ((ta 10), .inl (G.2.1, 12, .inl (tr 10))), ((ta 11), .inl (G.2.1, 12, .inl (tr 11)))] H := hP
        have hD := D_as hP hD rfl
        refine lv_aload_n hx hb dX2_load_74 rfl (lv_at hl 0 rfl) ?_
        refine va_get (D := G.1) (ci := 2) (v := .ref (a 6)) (C := RX2) (T := TX2) (N := 15) hx hb hts inX2 hown hK.1 hP 0 rfl rfl 6 (by decide) (hts _ mf_X2_34) (fun _ h9 => h9) rfl dX2_load_75 ?_
        refine lv_iload_n hx hb dX2_load_78 rfl (lv_at hl 2 rfl) ?_
        refine xzald hx hb hK hP 1 (i) (rfl) (by omega) (by omega) rfl dX2_load_79 ?_
        refine lv_topi (fun v6 ev6 => ?_)
        refine lv_if_eq (tgt := 92) hx hb dX2_load_80 (by decide) (fun c7 => ?_) (fun c7 => ?_)
        · refine lv_aload_n hx hb dX2_load_92 rfl (lv_at hl 0 rfl) ?_
          refine lv_iload_n hx hb dX2_load_93 rfl (lv_at hl 2 rfl) ?_
          refine wrVV (rest := []) (q0 := 0) ⟨hx, hb, hml, hown, hts⟩ (c_X2_blankRow l G a b (fun k => match k with | 0 => (tf 1) | 1 => (tf 2) | 2 => v1 | 3 => v2 | _ => (-2)) (fun k => match k with | 6 => (upd (r2 6) (i) (r4)) | 7 => (upd (r2 7) (i) (r5)) | 8 => (r2 8) | 9 => (r2 9) | 10 => (r2 10) | 11 => (r2 11) | 12 => (r2 12) | 13 => (r2 13) | 14 => (r2 14) | _ => (fun _ => 0)) rw cl hrw hcl t1 t2 i (by omega)) mi_yX2_blankRow mv_yX2_blankRow ml_X2_82 ⟨rfl, rfl, Nat.le_of_ble_eq_true rfl, Nat.le_of_ble_eq_true rfl⟩ hK hP hD [0, 1, 2, 3, 4, 5, 6, 7, 8, 9] rfl (by decide) rfl rfl rfl hl.1 rfl (Nat.le_of_ble_eq_true rfl) dX2_load_94 ⟨Nat.zero_le _, Nat.zero_le _⟩ hS hA (fun w9 H locs hw9 hP hS => ?_)
          obtain ⟨r10, rfl⟩ := hw9
          have h9_ := P_rg (s := 0) (hP rfl) rfl (Nat.le_of_ble_eq_true rfl)
          have hP : PP G [((a 15), .inr (2, [.int (tf 1), .int (tf 2), .int v1, .int v2, .int (-2), .ref (b 3), .ref (a 6), .ref (a 7), .ref (a 8), .ref (a 9), .ref (a 10), .ref (a 11), .ref (a 12), .ref (a 13), .ref (a 14)])), ((a 6), .inl (G.2.2.1, 12, .inl (r10 6))), ((a 7), .inl (G.2.1, 12, .inl (r10 7))), ((a 8), .inl (G.2.1, 144, .inl (r10 8))), ((a 9), .inl (G.2.1, 144, .inl (r10 9))), ((a 10), .inl (G.2.1, 144, .inl (r10 10))), ((a 11), .inl (G.2.2.1, 144, .inl (r10 11))), ((a 12), .inl (G.2.1, 144, .inl (r10 12))), ((a 13), .inl (G.2.1, 144, .inl (r10 13))), ((a 14), .inl (G.2.1, 144, .inl (r10 14))), ((ta 0), .inr (4, [.int (tf 0), .int (tf 1), .int (tf 2), .int (tf 3), .ref (ta 4), .ref (ta 5), .ref (ta 6), .ref (ta 7), .ref (ta 8), .ref (ta 9), .ref (ta 10), .ref (ta 11)])), ((ta 4), .inl (G.2.1, 12, .inl (tr 4))), ((ta 5), .inl (G.2.1, 144, .inl (tr 5))), ((ta 6), .inl (G.2.1, 144, .inl (tr 6))), ((ta 7), .inl (G.2.1, 144, .inl (tr 7))), ((ta 8), .inl (G.2.1, 864, .inl (tr 8))), ((ta 9), .inl (G.2.1, 6, .inl (tr 9))), ((ta 10), .inl (G.2.1, 12, .inl (tr 10))), ((ta 11), .inl (G.2.1, 12, .inl (tr 11)))] H := h9_
          have hD := D_as2 hP hD rfl
          obtain ⟨v11, ev11⟩ : ∃ y : Int32, y = (nI i) + Int32.ofInt (1) := ⟨_, rfl⟩
          refine lv_iinc (v := v11) (lv' := [(2, .int v11), (0, .ref (a 15)), (1, .ref (ta 0))]) hx hb dX2_load_97 hl (k := 2) rfl ev11.symm (by decide) rfl (fun ls hl => ?_)
          refine lv_goto (tgt := 44) hx hb dX2_load_100 (by decide) ?_
          exact ih (i + 1) (fun k => match k with | 6 => (r10 6) | 7 => (r10 7) | 8 => (r10 8) | 9 => (r10 9) | 10 => (r10 10) | 11 => (r10 11) | 12 => (r10 12) | 13 => (r10 13) | 14 => (r10 14) | _ => (fun _ => 0)) (by omega) (by omega) _ _ _ hP hS (by have e := nI_inc ev11; rw [e] at hl; exact lv_sub hl [1, 2, 0] rfl)
        · refine lv_aload_n hx hb dX2_load_83 rfl (lv_at hl 0 rfl) ?_
          refine lv_aload_n hx hb dX2_load_84 rfl (lv_at hl 1 rfl) ?_
          refine lv_iload_n hx hb dX2_load_85 rfl (lv_at hl 2 rfl) ?_
          refine wrVV (rest := []) (q0 := 0) ⟨hx, hb, hml, hown, hts⟩ (c_X2_loadRow l G a b (fun k => match k with | 0 => (tf 1) | 1 => (tf 2) | 2 => v1 | 3 => v2 | _ => (-2)) (fun k => match k with | 6 => (upd (r2 6) (i) (r4)) | 7 => (upd (r2 7) (i) (r5)) | 8 => (r2 8) | 9 => (r2 9) | 10 => (r2 10) | 11 => (r2 11) | 12 => (r2 12) | 13 => (r2 13) | 14 => (r2 14) | _ => (fun _ => 0)) ta tf tr rw cl bk hrw hcl hbk t1 t2 t3 t2 i (by omega)) mi_yX2_loadRow mv_yX2_loadRow ml_X2_78 ⟨rfl, rfl, Nat.le_of_ble_eq_true rfl, Nat.le_of_ble_eq_true rfl⟩ hK hP hD [0, 1, 2, 3, 4, 5, 6, 7, 8, 9, 10, 11, 12, 13, 14, 15, 16, 17, 18] rfl (by decide) rfl rfl rfl hl.1 rfl (Nat.le_of_ble_eq_true rfl) dX2_load_86 ⟨Nat.zero_le _, Nat.zero_le _⟩ hS hA (fun w13 H locs hw13 hP hS => ?_)
          obtain ⟨r14, rfl⟩ := hw13
          have h9_ := P_rg (s := 0) (hP rfl) rfl (Nat.le_of_ble_eq_true rfl)
          have hP : PP G [((a 15), .inr (2, [.int (tf 1), .int (tf 2), .int v1, .int v2, .int (-2), .ref (b 3), .ref (a 6), .ref (a 7), .ref (a 8), .ref (a 9), .ref (a 10), .ref (a 11), .ref (a 12), .ref (a 13), .ref (a 14)])), ((a 6), .inl (G.2.2.1, 12, .inl (r14 6))), ((a 7), .inl (G.2.1, 12, .inl (r14 7))), ((a 8), .inl (G.2.1, 144, .inl (r14 8))), ((a 9), .inl (G.2.1, 144, .inl (r14 9))), ((a 10), .inl (G.2.1, 144, .inl (r14 10))), ((a 11), .inl (G.2.2.1, 144, .inl (r14 11))), ((a 12), .inl (G.2.1, 144, .inl (r14 12))), ((a 13), .inl (G.2.1, 144, .inl (r14 13))), ((a 14), .inl (G.2.1, 144, .inl (r14 14))), ((ta 0), .inr (4, [.int (tf 0), .int (tf 1), .int (tf 2), .int (tf 3), .ref (ta 4), .ref (ta 5), .ref (ta 6), .ref (ta 7), .ref (ta 8), .ref (ta 9), .ref (ta 10), .ref (ta 11)])), ((ta 4), .inl (G.2.1, 12, .inl (tr 4))), ((ta 5), .inl (G.2.1, 144, .inl (tr 5))), ((ta 6), .inl (G.2.1, 144, .inl (tr 6))), ((ta 7), .inl (G.2.1, 144, .inl (tr 7))), ((ta 8), .inl (G.2.1, 864, .inl (tr 8))), ((ta 9), .inl (G.2.1, 6, .inl (tr 9))), ((ta 10), .inl (G.2.1, 12, .inl (tr 10))), ((ta 11), .inl (G.2.1, 12, .inl (tr 11)))] H := h9_
          have hD := D_as2 hP hD rfl
          refine lv_goto (tgt := 97) hx hb dX2_load_89 (by decide) ?_
          obtain ⟨v15, ev15⟩ : ∃ y : Int32, y = (nI i) + Int32.ofInt (1) := ⟨_, rfl⟩
          refine lv_iinc (v := v15) (lv' := [(2, .int v15), (0, .ref (a 15)), (1, .ref (ta 0))]) hx hb dX2_load_97 hl (k := 2) rfl ev15.symm (by decide) rfl (fun ls hl => ?_)
          refine lv_goto (tgt := 44) hx hb dX2_load_100 (by decide) ?_
          exact ih (i + 1) (fun k => match k with | 6 => (r14 6) | 7 => (r14 7) | 8 => (r14 8) | 9 => (r14 9) | 10 => (r14 10) | 11 => (r14 11) | 12 => (r14 12) | 13 => (r14 13) | 14 => (r14 14) | _ => (fun _ => 0)) (by omega) (by omega) _ _ _ hP hS (by have e := nI_inc ev15; rw [e] at hl; exact lv_sub hl [1, 2, 0] rfl)
  exact loop (rw + 1) 0 r (Nat.zero_le _) (by omega) _ _ _ hP hS (lv_sub hl [1, 2, 0] rfl)
