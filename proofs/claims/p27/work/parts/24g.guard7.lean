theorem mf_X0_92 : Cond.fieldLink RX0 92 "CellKeeper$Reader" "kind" "[I" ∈ TB := TB_t1 67 rfl rfl
theorem mf_X0_95 : Cond.fieldLink RX0 95 "CellKeeper$Reader" "kept" "[Z" ∈ TB := TB_t1 73 rfl rfl
theorem ml_X0_98 : Cond.methodLink RX0 98 yX4_priceOf ∈ TB := TB_t3 186 rfl rfl
theorem mk_X0_81 : Cond.constant RX0 81 (1073741824) ∈ TB := TB_t3 181 rfl rfl
theorem mf_X0_44 : Cond.fieldLink RX0 44 "CellKeeper$Reader" "rows" "I" ∈ TB := TB_t1 52 rfl rfl
theorem mf_X0_82 : Cond.fieldLink RX0 82 "CellKeeper$Reader" "sound" "[Z" ∈ TB := TB_t1 62 rfl rfl
theorem mf_X0_85 : Cond.fieldLink RX0 85 "CellKeeper$Reader" "classes" "[I" ∈ TB := TB_t1 65 rfl rfl
theorem ml_X0_88 : Cond.methodLink RX0 88 yX0_priceToKeep ∈ TB := TB_t3 182 rfl rfl
theorem mcode_yX0_priceToKeep : Cond.code yX0_priceToKeep cX0_priceToKeep 4 (some .int) ∈ TB := TB_t3 185 rfl rfl
theorem mi_yX0_priceToKeep : MI yX0_priceToKeep cX0_priceToKeep 4 (some .int) 3 := ⟨mz_RX0, mcode_yX0_priceToKeep, by decide +kernel, by decide +kernel, by decide +kernel⟩
theorem mim_yX0_priceToKeep : Cond.instanceMethod yX0_priceToKeep ∈ TB := TB_t3 184 rfl rfl
theorem msel_yX0_priceToKeep : Cond.selects yX0_priceToKeep.cls yX0_priceToKeep yX0_priceToKeep ∈ TB := TB_s (n := 9) 22 (by decide +kernel)
theorem mv_yX0_priceToKeep : Cond.instanceMethod yX0_priceToKeep ∈ TB ∧ Cond.selects yX0_priceToKeep.cls yX0_priceToKeep yX0_priceToKeep ∈ TB := ⟨mim_yX0_priceToKeep, msel_yX0_priceToKeep⟩
theorem mf_X0_49 : Cond.fieldLink RX0 49 "CellKeeper$Reader" "columns" "I" ∈ TB := TB_t1 54 rfl rfl
theorem ml_X0_106 : Cond.methodLink RX0 106 yX2_alsoKeep ∈ TB := TB_t3 198 rfl rfl
theorem mcode_yX2_alsoKeep : Cond.code yX2_alsoKeep cX2_alsoKeep 2 none ∈ TB := TB_t3 201 rfl rfl
theorem mi_yX2_alsoKeep : MI yX2_alsoKeep cX2_alsoKeep 2 none 1 := ⟨mz_RX2, mcode_yX2_alsoKeep, by decide +kernel, by decide +kernel, by decide +kernel⟩
theorem mim_yX2_alsoKeep : Cond.instanceMethod yX2_alsoKeep ∈ TB := TB_t3 199 rfl rfl
theorem msel_yX2_alsoKeep : Cond.selects yX2_alsoKeep.cls yX2_alsoKeep yX2_alsoKeep ∈ TB := TB_t3 200 rfl rfl
theorem mv_yX2_alsoKeep : Cond.instanceMethod yX2_alsoKeep ∈ TB ∧ Cond.selects yX2_alsoKeep.cls yX2_alsoKeep yX2_alsoKeep ∈ TB := ⟨mim_yX2_alsoKeep, msel_yX2_alsoKeep⟩
theorem ml_X0_102 : Cond.methodLink RX0 102 yX0_keepOne ∈ TB := TB_t3 194 rfl rfl
theorem mcode_yX0_keepOne : Cond.code yX0_keepOne cX0_keepOne 3 (some .int) ∈ TB := TB_t3 197 rfl rfl
theorem mi_yX0_keepOne : MI yX0_keepOne cX0_keepOne 3 (some .int) 2 := ⟨mz_RX0, mcode_yX0_keepOne, by decide +kernel, by decide +kernel, by decide +kernel⟩
theorem mim_yX0_keepOne : Cond.instanceMethod yX0_keepOne ∈ TB := TB_t3 196 rfl rfl
theorem msel_yX0_keepOne : Cond.selects yX0_keepOne.cls yX0_keepOne yX0_keepOne ∈ TB := TB_s (n := 9) 24 (by decide +kernel)
theorem mv_yX0_keepOne : Cond.instanceMethod yX0_keepOne ∈ TB ∧ Cond.selects yX0_keepOne.cls yX0_keepOne yX0_keepOne ∈ TB := ⟨mim_yX0_keepOne, msel_yX0_keepOne⟩
theorem ml_X0_75 : Cond.methodLink RX0 75 yX4_tell ∈ TB := TB_t3 206 rfl rfl
theorem kcX0_priceToKeep_0 : CHb cX0_priceToKeep 0 [44, 180, 0, 92, 29, 46, 7, 160, 0, 5, 2, 172, 44, 180, 0, 95, 29, 51, 153, 0, 7, 3, 167, 0, 8, 43, 29, 182, 0, 98, 172] := CHb_of (by decide +kernel)
theorem dX0_priceToKeep_0 : decode cX0_priceToKeep 0 = .ok (.aload_n 2, 1) := dw_44 (kcX0_priceToKeep_0 0 44 rfl)
theorem dX0_priceToKeep_1 : decode cX0_priceToKeep 1 = .ok (.getfield 92, 3) := dw_180 (kcX0_priceToKeep_0 1 180 rfl) (kcX0_priceToKeep_0 2 0 rfl) (kcX0_priceToKeep_0 3 92 rfl) rfl
theorem dX0_priceToKeep_4 : decode cX0_priceToKeep 4 = .ok (.iload_n 3, 1) := dw_29 (kcX0_priceToKeep_0 4 29 rfl)
theorem dX0_priceToKeep_5 : decode cX0_priceToKeep 5 = .ok (.iaload, 1) := dw_46 (kcX0_priceToKeep_0 5 46 rfl)
theorem dX0_priceToKeep_6 : decode cX0_priceToKeep 6 = .ok (.iconst 4, 1) := dw_7 (kcX0_priceToKeep_0 6 7 rfl)
theorem dX0_priceToKeep_7 : decode cX0_priceToKeep 7 = .ok (.if_icmp .ne 5, 3) := dw_160 (kcX0_priceToKeep_0 7 160 rfl) (kcX0_priceToKeep_0 8 0 rfl) (kcX0_priceToKeep_0 9 5 rfl) rfl
theorem dX0_priceToKeep_12 : decode cX0_priceToKeep 12 = .ok (.aload_n 2, 1) := dw_44 (kcX0_priceToKeep_0 12 44 rfl)
theorem dX0_priceToKeep_13 : decode cX0_priceToKeep 13 = .ok (.getfield 95, 3) := dw_180 (kcX0_priceToKeep_0 13 180 rfl) (kcX0_priceToKeep_0 14 0 rfl) (kcX0_priceToKeep_0 15 95 rfl) rfl
theorem dX0_priceToKeep_16 : decode cX0_priceToKeep 16 = .ok (.iload_n 3, 1) := dw_29 (kcX0_priceToKeep_0 16 29 rfl)
theorem dX0_priceToKeep_17 : decode cX0_priceToKeep 17 = .ok (.baload, 1) := dw_51 (kcX0_priceToKeep_0 17 51 rfl)
theorem dX0_priceToKeep_18 : decode cX0_priceToKeep 18 = .ok (.ifCond .eq 7, 3) := dw_153 (kcX0_priceToKeep_0 18 153 rfl) (kcX0_priceToKeep_0 19 0 rfl) (kcX0_priceToKeep_0 20 7 rfl) rfl
theorem dX0_priceToKeep_25 : decode cX0_priceToKeep 25 = .ok (.aload_n 1, 1) := dw_43 (kcX0_priceToKeep_0 25 43 rfl)
theorem dX0_priceToKeep_26 : decode cX0_priceToKeep 26 = .ok (.iload_n 3, 1) := dw_29 (kcX0_priceToKeep_0 26 29 rfl)
theorem dX0_priceToKeep_27 : decode cX0_priceToKeep 27 = .ok (.invokevirtual 98, 3) := dw_182 (kcX0_priceToKeep_0 27 182 rfl) (kcX0_priceToKeep_0 28 0 rfl) (kcX0_priceToKeep_0 29 98 rfl) rfl
theorem dX0_priceToKeep_30 : decode cX0_priceToKeep 30 = .ok (.ireturn, 1) := dw_172 (kcX0_priceToKeep_0 30 172 rfl)
theorem dX0_priceToKeep_21 : decode cX0_priceToKeep 21 = .ok (.iconst 0, 1) := dw_3 (kcX0_priceToKeep_0 21 3 rfl)
theorem dX0_priceToKeep_22 : decode cX0_priceToKeep 22 = .ok (.goto 8, 3) := dw_167 (kcX0_priceToKeep_0 22 167 rfl) (kcX0_priceToKeep_0 23 0 rfl) (kcX0_priceToKeep_0 24 8 rfl) rfl
theorem dX0_priceToKeep_10 : decode cX0_priceToKeep 10 = .ok (.iconst (-1), 1) := dw_2 (kcX0_priceToKeep_0 10 2 rfl)
theorem dX0_priceToKeep_11 : decode cX0_priceToKeep 11 = .ok (.ireturn, 1) := dw_172 (kcX0_priceToKeep_0 11 172 rfl)
theorem kcX0_findThree_0 : CHb cX0_findThree 0 [18, 81, 54, 5, 42, 2, 181, 0, 35, 42, 2, 181, 0, 38, 3, 54, 6, 21, 6, 44, 180, 0, 44, 162, 0, 184, 21, 6, 29, 159, 0, 172, 44, 180, 0, 82, 21, 6, 51, 153, 0, 162, 44, 180, 0, 85, 21, 6, 46, 44, 180, 0, 85, 29, 46, 159, 0, 6, 167, 0, 143, 42, 43, 44] := CHb_of (by decide +kernel)
theorem dX0_findThree_0 : decode cX0_findThree 0 = .ok (.ldc 81, 2) := dw_18 (kcX0_findThree_0 0 18 rfl) (kcX0_findThree_0 1 81 rfl)
theorem dX0_findThree_2 : decode cX0_findThree 2 = .ok (.istore 5, 2) := dw_54 (kcX0_findThree_0 2 54 rfl) (kcX0_findThree_0 3 5 rfl)
theorem dX0_findThree_4 : decode cX0_findThree 4 = .ok (.aload_n 0, 1) := dw_42 (kcX0_findThree_0 4 42 rfl)
theorem dX0_findThree_5 : decode cX0_findThree 5 = .ok (.iconst (-1), 1) := dw_2 (kcX0_findThree_0 5 2 rfl)
theorem dX0_findThree_6 : decode cX0_findThree 6 = .ok (.putfield 35, 3) := dw_181 (kcX0_findThree_0 6 181 rfl) (kcX0_findThree_0 7 0 rfl) (kcX0_findThree_0 8 35 rfl) rfl
theorem dX0_findThree_9 : decode cX0_findThree 9 = .ok (.aload_n 0, 1) := dw_42 (kcX0_findThree_0 9 42 rfl)
theorem dX0_findThree_10 : decode cX0_findThree 10 = .ok (.iconst (-1), 1) := dw_2 (kcX0_findThree_0 10 2 rfl)
theorem dX0_findThree_11 : decode cX0_findThree 11 = .ok (.putfield 38, 3) := dw_181 (kcX0_findThree_0 11 181 rfl) (kcX0_findThree_0 12 0 rfl) (kcX0_findThree_0 13 38 rfl) rfl
theorem dX0_findThree_14 : decode cX0_findThree 14 = .ok (.iconst 0, 1) := dw_3 (kcX0_findThree_0 14 3 rfl)
theorem dX0_findThree_15 : decode cX0_findThree 15 = .ok (.istore 6, 2) := dw_54 (kcX0_findThree_0 15 54 rfl) (kcX0_findThree_0 16 6 rfl)
theorem dX0_findThree_17 : decode cX0_findThree 17 = .ok (.iload 6, 2) := dw_21 (kcX0_findThree_0 17 21 rfl) (kcX0_findThree_0 18 6 rfl)
theorem dX0_findThree_19 : decode cX0_findThree 19 = .ok (.aload_n 2, 1) := dw_44 (kcX0_findThree_0 19 44 rfl)
theorem dX0_findThree_20 : decode cX0_findThree 20 = .ok (.getfield 44, 3) := dw_180 (kcX0_findThree_0 20 180 rfl) (kcX0_findThree_0 21 0 rfl) (kcX0_findThree_0 22 44 rfl) rfl
theorem dX0_findThree_23 : decode cX0_findThree 23 = .ok (.if_icmp .ge 184, 3) := dw_162 (kcX0_findThree_0 23 162 rfl) (kcX0_findThree_0 24 0 rfl) (kcX0_findThree_0 25 184 rfl) rfl
theorem kcX0_findThree_3 : CHb cX0_findThree 192 [181, 0, 38, 132, 8, 1, 167, 255, 137, 132, 6, 1, 167, 255, 69, 177] := CHb_of (by decide +kernel)
theorem dX0_findThree_207 : decode cX0_findThree 207 = .ok (.return_, 1) := dw_177 (kcX0_findThree_3 15 177 rfl)
theorem dX0_findThree_26 : decode cX0_findThree 26 = .ok (.iload 6, 2) := dw_21 (kcX0_findThree_0 26 21 rfl) (kcX0_findThree_0 27 6 rfl)
theorem dX0_findThree_28 : decode cX0_findThree 28 = .ok (.iload_n 3, 1) := dw_29 (kcX0_findThree_0 28 29 rfl)
theorem dX0_findThree_29 : decode cX0_findThree 29 = .ok (.if_icmp .eq 172, 3) := dw_159 (kcX0_findThree_0 29 159 rfl) (kcX0_findThree_0 30 0 rfl) (kcX0_findThree_0 31 172 rfl) rfl
theorem dX0_findThree_201 : decode cX0_findThree 201 = .ok (.iinc 6 1, 3) := dw_132 (kcX0_findThree_3 9 132 rfl) (kcX0_findThree_3 10 6 rfl) (kcX0_findThree_3 11 1 rfl) rfl
theorem dX0_findThree_204 : decode cX0_findThree 204 = .ok (.goto (-187), 3) := dw_167 (kcX0_findThree_3 12 167 rfl) (kcX0_findThree_3 13 255 rfl) (kcX0_findThree_3 14 69 rfl) rfl
theorem dX0_findThree_32 : decode cX0_findThree 32 = .ok (.aload_n 2, 1) := dw_44 (kcX0_findThree_0 32 44 rfl)
theorem dX0_findThree_33 : decode cX0_findThree 33 = .ok (.getfield 82, 3) := dw_180 (kcX0_findThree_0 33 180 rfl) (kcX0_findThree_0 34 0 rfl) (kcX0_findThree_0 35 82 rfl) rfl
theorem dX0_findThree_36 : decode cX0_findThree 36 = .ok (.iload 6, 2) := dw_21 (kcX0_findThree_0 36 21 rfl) (kcX0_findThree_0 37 6 rfl)
theorem dX0_findThree_38 : decode cX0_findThree 38 = .ok (.baload, 1) := dw_51 (kcX0_findThree_0 38 51 rfl)
theorem dX0_findThree_39 : decode cX0_findThree 39 = .ok (.ifCond .eq 162, 3) := dw_153 (kcX0_findThree_0 39 153 rfl) (kcX0_findThree_0 40 0 rfl) (kcX0_findThree_0 41 162 rfl) rfl
theorem dX0_findThree_42 : decode cX0_findThree 42 = .ok (.aload_n 2, 1) := dw_44 (kcX0_findThree_0 42 44 rfl)
theorem dX0_findThree_43 : decode cX0_findThree 43 = .ok (.getfield 85, 3) := dw_180 (kcX0_findThree_0 43 180 rfl) (kcX0_findThree_0 44 0 rfl) (kcX0_findThree_0 45 85 rfl) rfl
theorem dX0_findThree_46 : decode cX0_findThree 46 = .ok (.iload 6, 2) := dw_21 (kcX0_findThree_0 46 21 rfl) (kcX0_findThree_0 47 6 rfl)
theorem dX0_findThree_48 : decode cX0_findThree 48 = .ok (.iaload, 1) := dw_46 (kcX0_findThree_0 48 46 rfl)
theorem dX0_findThree_49 : decode cX0_findThree 49 = .ok (.aload_n 2, 1) := dw_44 (kcX0_findThree_0 49 44 rfl)
theorem dX0_findThree_50 : decode cX0_findThree 50 = .ok (.getfield 85, 3) := dw_180 (kcX0_findThree_0 50 180 rfl) (kcX0_findThree_0 51 0 rfl) (kcX0_findThree_0 52 85 rfl) rfl
theorem dX0_findThree_53 : decode cX0_findThree 53 = .ok (.iload_n 3, 1) := dw_29 (kcX0_findThree_0 53 29 rfl)
theorem dX0_findThree_54 : decode cX0_findThree 54 = .ok (.iaload, 1) := dw_46 (kcX0_findThree_0 54 46 rfl)
theorem dX0_findThree_55 : decode cX0_findThree 55 = .ok (.if_icmp .eq 6, 3) := dw_159 (kcX0_findThree_0 55 159 rfl) (kcX0_findThree_0 56 0 rfl) (kcX0_findThree_0 57 6 rfl) rfl
theorem dX0_findThree_61 : decode cX0_findThree 61 = .ok (.aload_n 0, 1) := dw_42 (kcX0_findThree_0 61 42 rfl)
theorem dX0_findThree_62 : decode cX0_findThree 62 = .ok (.aload_n 1, 1) := dw_43 (kcX0_findThree_0 62 43 rfl)
theorem dX0_findThree_63 : decode cX0_findThree 63 = .ok (.aload_n 2, 1) := dw_44 (kcX0_findThree_0 63 44 rfl)
theorem kcX0_findThree_1 : CHb cX0_findThree 64 [21, 6, 21, 4, 184, 0, 55, 182, 0, 88, 54, 7, 3, 54, 8, 21, 8, 44, 180, 0, 49, 162, 0, 116, 21, 8, 21, 4, 160, 0, 6, 167, 0, 100, 42, 43, 44, 29, 21, 8, 184, 0, 55, 182, 0, 88, 54, 9, 42, 43, 44, 21, 6, 21, 8, 184, 0, 55, 182, 0, 88, 54, 10, 21] := CHb_of (by decide +kernel)
theorem dX0_findThree_64 : decode cX0_findThree 64 = .ok (.iload 6, 2) := dw_21 (kcX0_findThree_1 0 21 rfl) (kcX0_findThree_1 1 6 rfl)
theorem dX0_findThree_66 : decode cX0_findThree 66 = .ok (.iload 4, 2) := dw_21 (kcX0_findThree_1 2 21 rfl) (kcX0_findThree_1 3 4 rfl)
theorem dX0_findThree_68 : decode cX0_findThree 68 = .ok (.invokestatic 55, 3) := dw_184 (kcX0_findThree_1 4 184 rfl) (kcX0_findThree_1 5 0 rfl) (kcX0_findThree_1 6 55 rfl) rfl
theorem dX0_findThree_71 : decode cX0_findThree 71 = .ok (.invokevirtual 88, 3) := dw_182 (kcX0_findThree_1 7 182 rfl) (kcX0_findThree_1 8 0 rfl) (kcX0_findThree_1 9 88 rfl) rfl
theorem dX0_findThree_74 : decode cX0_findThree 74 = .ok (.istore 7, 2) := dw_54 (kcX0_findThree_1 10 54 rfl) (kcX0_findThree_1 11 7 rfl)
theorem dX0_findThree_76 : decode cX0_findThree 76 = .ok (.iconst 0, 1) := dw_3 (kcX0_findThree_1 12 3 rfl)
theorem dX0_findThree_77 : decode cX0_findThree 77 = .ok (.istore 8, 2) := dw_54 (kcX0_findThree_1 13 54 rfl) (kcX0_findThree_1 14 8 rfl)
theorem dX0_findThree_79 : decode cX0_findThree 79 = .ok (.iload 8, 2) := dw_21 (kcX0_findThree_1 15 21 rfl) (kcX0_findThree_1 16 8 rfl)
theorem dX0_findThree_81 : decode cX0_findThree 81 = .ok (.aload_n 2, 1) := dw_44 (kcX0_findThree_1 17 44 rfl)
theorem dX0_findThree_82 : decode cX0_findThree 82 = .ok (.getfield 49, 3) := dw_180 (kcX0_findThree_1 18 180 rfl) (kcX0_findThree_1 19 0 rfl) (kcX0_findThree_1 20 49 rfl) rfl
theorem dX0_findThree_85 : decode cX0_findThree 85 = .ok (.if_icmp .ge 116, 3) := dw_162 (kcX0_findThree_1 21 162 rfl) (kcX0_findThree_1 22 0 rfl) (kcX0_findThree_1 23 116 rfl) rfl
theorem dX0_findThree_88 : decode cX0_findThree 88 = .ok (.iload 8, 2) := dw_21 (kcX0_findThree_1 24 21 rfl) (kcX0_findThree_1 25 8 rfl)
theorem dX0_findThree_90 : decode cX0_findThree 90 = .ok (.iload 4, 2) := dw_21 (kcX0_findThree_1 26 21 rfl) (kcX0_findThree_1 27 4 rfl)
theorem dX0_findThree_92 : decode cX0_findThree 92 = .ok (.if_icmp .ne 6, 3) := dw_160 (kcX0_findThree_1 28 160 rfl) (kcX0_findThree_1 29 0 rfl) (kcX0_findThree_1 30 6 rfl) rfl
theorem dX0_findThree_98 : decode cX0_findThree 98 = .ok (.aload_n 0, 1) := dw_42 (kcX0_findThree_1 34 42 rfl)
theorem dX0_findThree_99 : decode cX0_findThree 99 = .ok (.aload_n 1, 1) := dw_43 (kcX0_findThree_1 35 43 rfl)
theorem dX0_findThree_100 : decode cX0_findThree 100 = .ok (.aload_n 2, 1) := dw_44 (kcX0_findThree_1 36 44 rfl)
theorem dX0_findThree_101 : decode cX0_findThree 101 = .ok (.iload_n 3, 1) := dw_29 (kcX0_findThree_1 37 29 rfl)
theorem dX0_findThree_102 : decode cX0_findThree 102 = .ok (.iload 8, 2) := dw_21 (kcX0_findThree_1 38 21 rfl) (kcX0_findThree_1 39 8 rfl)
theorem dX0_findThree_104 : decode cX0_findThree 104 = .ok (.invokestatic 55, 3) := dw_184 (kcX0_findThree_1 40 184 rfl) (kcX0_findThree_1 41 0 rfl) (kcX0_findThree_1 42 55 rfl) rfl
theorem dX0_findThree_107 : decode cX0_findThree 107 = .ok (.invokevirtual 88, 3) := dw_182 (kcX0_findThree_1 43 182 rfl) (kcX0_findThree_1 44 0 rfl) (kcX0_findThree_1 45 88 rfl) rfl
theorem dX0_findThree_110 : decode cX0_findThree 110 = .ok (.istore 9, 2) := dw_54 (kcX0_findThree_1 46 54 rfl) (kcX0_findThree_1 47 9 rfl)
theorem dX0_findThree_112 : decode cX0_findThree 112 = .ok (.aload_n 0, 1) := dw_42 (kcX0_findThree_1 48 42 rfl)
theorem dX0_findThree_113 : decode cX0_findThree 113 = .ok (.aload_n 1, 1) := dw_43 (kcX0_findThree_1 49 43 rfl)
theorem dX0_findThree_114 : decode cX0_findThree 114 = .ok (.aload_n 2, 1) := dw_44 (kcX0_findThree_1 50 44 rfl)
theorem dX0_findThree_115 : decode cX0_findThree 115 = .ok (.iload 6, 2) := dw_21 (kcX0_findThree_1 51 21 rfl) (kcX0_findThree_1 52 6 rfl)
theorem dX0_findThree_117 : decode cX0_findThree 117 = .ok (.iload 8, 2) := dw_21 (kcX0_findThree_1 53 21 rfl) (kcX0_findThree_1 54 8 rfl)
theorem dX0_findThree_119 : decode cX0_findThree 119 = .ok (.invokestatic 55, 3) := dw_184 (kcX0_findThree_1 55 184 rfl) (kcX0_findThree_1 56 0 rfl) (kcX0_findThree_1 57 55 rfl) rfl
theorem dX0_findThree_122 : decode cX0_findThree 122 = .ok (.invokevirtual 88, 3) := dw_182 (kcX0_findThree_1 58 182 rfl) (kcX0_findThree_1 59 0 rfl) (kcX0_findThree_1 60 88 rfl) rfl
theorem dX0_findThree_125 : decode cX0_findThree 125 = .ok (.istore 10, 2) := dw_54 (kcX0_findThree_1 61 54 rfl) (kcX0_findThree_1 62 10 rfl)
theorem kcX0_findThree_2 : CHb cX0_findThree 128 [7, 2, 159, 0, 19, 21, 9, 2, 159, 0, 13, 21, 10, 2, 159, 0, 7, 4, 167, 0, 4, 3, 54, 11, 21, 7, 21, 9, 96, 21, 10, 96, 54, 12, 21, 11, 153, 0, 31, 21, 12, 158, 0, 26, 21, 12, 21, 5, 162, 0, 19, 21, 12, 54, 5, 42, 21, 6, 181, 0, 35, 42, 21, 8] := CHb_of (by decide +kernel)
theorem dX0_findThree_127 : decode cX0_findThree 127 = .ok (.iload 7, 2) := dw_21 (kcX0_findThree_1 63 21 rfl) (kcX0_findThree_2 0 7 rfl)
theorem dX0_findThree_129 : decode cX0_findThree 129 = .ok (.iconst (-1), 1) := dw_2 (kcX0_findThree_2 1 2 rfl)
theorem dX0_findThree_130 : decode cX0_findThree 130 = .ok (.if_icmp .eq 19, 3) := dw_159 (kcX0_findThree_2 2 159 rfl) (kcX0_findThree_2 3 0 rfl) (kcX0_findThree_2 4 19 rfl) rfl
theorem dX0_findThree_149 : decode cX0_findThree 149 = .ok (.iconst 0, 1) := dw_3 (kcX0_findThree_2 21 3 rfl)
theorem dX0_findThree_150 : decode cX0_findThree 150 = .ok (.istore 11, 2) := dw_54 (kcX0_findThree_2 22 54 rfl) (kcX0_findThree_2 23 11 rfl)
theorem dX0_findThree_152 : decode cX0_findThree 152 = .ok (.iload 7, 2) := dw_21 (kcX0_findThree_2 24 21 rfl) (kcX0_findThree_2 25 7 rfl)
theorem dX0_findThree_154 : decode cX0_findThree 154 = .ok (.iload 9, 2) := dw_21 (kcX0_findThree_2 26 21 rfl) (kcX0_findThree_2 27 9 rfl)
theorem dX0_findThree_156 : decode cX0_findThree 156 = .ok (.iadd, 1) := dw_96 (kcX0_findThree_2 28 96 rfl)
theorem dX0_findThree_157 : decode cX0_findThree 157 = .ok (.iload 10, 2) := dw_21 (kcX0_findThree_2 29 21 rfl) (kcX0_findThree_2 30 10 rfl)
theorem dX0_findThree_159 : decode cX0_findThree 159 = .ok (.iadd, 1) := dw_96 (kcX0_findThree_2 31 96 rfl)
theorem dX0_findThree_160 : decode cX0_findThree 160 = .ok (.istore 12, 2) := dw_54 (kcX0_findThree_2 32 54 rfl) (kcX0_findThree_2 33 12 rfl)
theorem dX0_findThree_162 : decode cX0_findThree 162 = .ok (.iload 11, 2) := dw_21 (kcX0_findThree_2 34 21 rfl) (kcX0_findThree_2 35 11 rfl)
theorem dX0_findThree_164 : decode cX0_findThree 164 = .ok (.ifCond .eq 31, 3) := dw_153 (kcX0_findThree_2 36 153 rfl) (kcX0_findThree_2 37 0 rfl) (kcX0_findThree_2 38 31 rfl) rfl
theorem dX0_findThree_195 : decode cX0_findThree 195 = .ok (.iinc 8 1, 3) := dw_132 (kcX0_findThree_3 3 132 rfl) (kcX0_findThree_3 4 8 rfl) (kcX0_findThree_3 5 1 rfl) rfl
theorem dX0_findThree_198 : decode cX0_findThree 198 = .ok (.goto (-119), 3) := dw_167 (kcX0_findThree_3 6 167 rfl) (kcX0_findThree_3 7 255 rfl) (kcX0_findThree_3 8 137 rfl) rfl
theorem dX0_findThree_133 : decode cX0_findThree 133 = .ok (.iload 9, 2) := dw_21 (kcX0_findThree_2 5 21 rfl) (kcX0_findThree_2 6 9 rfl)
theorem dX0_findThree_135 : decode cX0_findThree 135 = .ok (.iconst (-1), 1) := dw_2 (kcX0_findThree_2 7 2 rfl)
theorem dX0_findThree_136 : decode cX0_findThree 136 = .ok (.if_icmp .eq 13, 3) := dw_159 (kcX0_findThree_2 8 159 rfl) (kcX0_findThree_2 9 0 rfl) (kcX0_findThree_2 10 13 rfl) rfl
theorem dX0_findThree_139 : decode cX0_findThree 139 = .ok (.iload 10, 2) := dw_21 (kcX0_findThree_2 11 21 rfl) (kcX0_findThree_2 12 10 rfl)
theorem dX0_findThree_141 : decode cX0_findThree 141 = .ok (.iconst (-1), 1) := dw_2 (kcX0_findThree_2 13 2 rfl)
theorem dX0_findThree_142 : decode cX0_findThree 142 = .ok (.if_icmp .eq 7, 3) := dw_159 (kcX0_findThree_2 14 159 rfl) (kcX0_findThree_2 15 0 rfl) (kcX0_findThree_2 16 7 rfl) rfl
theorem dX0_findThree_145 : decode cX0_findThree 145 = .ok (.iconst 1, 1) := dw_4 (kcX0_findThree_2 17 4 rfl)
theorem dX0_findThree_146 : decode cX0_findThree 146 = .ok (.goto 4, 3) := dw_167 (kcX0_findThree_2 18 167 rfl) (kcX0_findThree_2 19 0 rfl) (kcX0_findThree_2 20 4 rfl) rfl
theorem dX0_findThree_167 : decode cX0_findThree 167 = .ok (.iload 12, 2) := dw_21 (kcX0_findThree_2 39 21 rfl) (kcX0_findThree_2 40 12 rfl)
theorem dX0_findThree_169 : decode cX0_findThree 169 = .ok (.ifCond .le 26, 3) := dw_158 (kcX0_findThree_2 41 158 rfl) (kcX0_findThree_2 42 0 rfl) (kcX0_findThree_2 43 26 rfl) rfl
theorem dX0_findThree_172 : decode cX0_findThree 172 = .ok (.iload 12, 2) := dw_21 (kcX0_findThree_2 44 21 rfl) (kcX0_findThree_2 45 12 rfl)
theorem dX0_findThree_174 : decode cX0_findThree 174 = .ok (.iload 5, 2) := dw_21 (kcX0_findThree_2 46 21 rfl) (kcX0_findThree_2 47 5 rfl)
theorem dX0_findThree_176 : decode cX0_findThree 176 = .ok (.if_icmp .ge 19, 3) := dw_162 (kcX0_findThree_2 48 162 rfl) (kcX0_findThree_2 49 0 rfl) (kcX0_findThree_2 50 19 rfl) rfl
theorem dX0_findThree_179 : decode cX0_findThree 179 = .ok (.iload 12, 2) := dw_21 (kcX0_findThree_2 51 21 rfl) (kcX0_findThree_2 52 12 rfl)
theorem dX0_findThree_181 : decode cX0_findThree 181 = .ok (.istore 5, 2) := dw_54 (kcX0_findThree_2 53 54 rfl) (kcX0_findThree_2 54 5 rfl)
theorem dX0_findThree_183 : decode cX0_findThree 183 = .ok (.aload_n 0, 1) := dw_42 (kcX0_findThree_2 55 42 rfl)
theorem dX0_findThree_184 : decode cX0_findThree 184 = .ok (.iload 6, 2) := dw_21 (kcX0_findThree_2 56 21 rfl) (kcX0_findThree_2 57 6 rfl)
theorem dX0_findThree_186 : decode cX0_findThree 186 = .ok (.putfield 35, 3) := dw_181 (kcX0_findThree_2 58 181 rfl) (kcX0_findThree_2 59 0 rfl) (kcX0_findThree_2 60 35 rfl) rfl
theorem dX0_findThree_189 : decode cX0_findThree 189 = .ok (.aload_n 0, 1) := dw_42 (kcX0_findThree_2 61 42 rfl)
theorem dX0_findThree_190 : decode cX0_findThree 190 = .ok (.iload 8, 2) := dw_21 (kcX0_findThree_2 62 21 rfl) (kcX0_findThree_2 63 8 rfl)
theorem dX0_findThree_192 : decode cX0_findThree 192 = .ok (.putfield 38, 3) := dw_181 (kcX0_findThree_3 0 181 rfl) (kcX0_findThree_3 1 0 rfl) (kcX0_findThree_3 2 38 rfl) rfl
theorem dX0_findThree_95 : decode cX0_findThree 95 = .ok (.goto 100, 3) := dw_167 (kcX0_findThree_1 31 167 rfl) (kcX0_findThree_1 32 0 rfl) (kcX0_findThree_1 33 100 rfl) rfl
theorem dX0_findThree_58 : decode cX0_findThree 58 = .ok (.goto 143, 3) := dw_167 (kcX0_findThree_0 58 167 rfl) (kcX0_findThree_0 59 0 rfl) (kcX0_findThree_0 60 143 rfl) rfl
theorem kcX0_keepOne_0 : CHb cX0_keepOne 0 [42, 180, 0, 9, 28, 4, 84, 43, 180, 0, 95, 28, 51, 153, 0, 5, 3, 172, 43, 28, 182, 0, 106, 4, 172] := CHb_of (by decide +kernel)
theorem dX0_keepOne_0 : decode cX0_keepOne 0 = .ok (.aload_n 0, 1) := dw_42 (kcX0_keepOne_0 0 42 rfl)
theorem dX0_keepOne_1 : decode cX0_keepOne 1 = .ok (.getfield 9, 3) := dw_180 (kcX0_keepOne_0 1 180 rfl) (kcX0_keepOne_0 2 0 rfl) (kcX0_keepOne_0 3 9 rfl) rfl
theorem dX0_keepOne_4 : decode cX0_keepOne 4 = .ok (.iload_n 2, 1) := dw_28 (kcX0_keepOne_0 4 28 rfl)
theorem dX0_keepOne_5 : decode cX0_keepOne 5 = .ok (.iconst 1, 1) := dw_4 (kcX0_keepOne_0 5 4 rfl)
theorem dX0_keepOne_6 : decode cX0_keepOne 6 = .ok (.bastore, 1) := dw_84 (kcX0_keepOne_0 6 84 rfl)
theorem dX0_keepOne_7 : decode cX0_keepOne 7 = .ok (.aload_n 1, 1) := dw_43 (kcX0_keepOne_0 7 43 rfl)
theorem dX0_keepOne_8 : decode cX0_keepOne 8 = .ok (.getfield 95, 3) := dw_180 (kcX0_keepOne_0 8 180 rfl) (kcX0_keepOne_0 9 0 rfl) (kcX0_keepOne_0 10 95 rfl) rfl
theorem dX0_keepOne_11 : decode cX0_keepOne 11 = .ok (.iload_n 2, 1) := dw_28 (kcX0_keepOne_0 11 28 rfl)
theorem dX0_keepOne_12 : decode cX0_keepOne 12 = .ok (.baload, 1) := dw_51 (kcX0_keepOne_0 12 51 rfl)
theorem dX0_keepOne_13 : decode cX0_keepOne 13 = .ok (.ifCond .eq 5, 3) := dw_153 (kcX0_keepOne_0 13 153 rfl) (kcX0_keepOne_0 14 0 rfl) (kcX0_keepOne_0 15 5 rfl) rfl
theorem dX0_keepOne_18 : decode cX0_keepOne 18 = .ok (.aload_n 1, 1) := dw_43 (kcX0_keepOne_0 18 43 rfl)
theorem dX0_keepOne_19 : decode cX0_keepOne 19 = .ok (.iload_n 2, 1) := dw_28 (kcX0_keepOne_0 19 28 rfl)
theorem dX0_keepOne_20 : decode cX0_keepOne 20 = .ok (.invokevirtual 106, 3) := dw_182 (kcX0_keepOne_0 20 182 rfl) (kcX0_keepOne_0 21 0 rfl) (kcX0_keepOne_0 22 106 rfl) rfl
theorem dX0_keepOne_23 : decode cX0_keepOne 23 = .ok (.iconst 1, 1) := dw_4 (kcX0_keepOne_0 23 4 rfl)
theorem dX0_keepOne_24 : decode cX0_keepOne 24 = .ok (.ireturn, 1) := dw_172 (kcX0_keepOne_0 24 172 rfl)
theorem dX0_keepOne_16 : decode cX0_keepOne 16 = .ok (.iconst 0, 1) := dw_3 (kcX0_keepOne_0 16 3 rfl)
theorem dX0_keepOne_17 : decode cX0_keepOne 17 = .ok (.ireturn, 1) := dw_172 (kcX0_keepOne_0 17 172 rfl)
theorem kcX0_keepThree_0 : CHb cX0_keepThree 0 [42, 43, 28, 42, 180, 0, 38, 184, 0, 55, 182, 0, 102, 42, 43, 42, 180, 0, 35, 29, 184, 0, 55, 182, 0, 102, 96, 42, 43, 42, 180, 0, 35, 42, 180, 0, 38, 184, 0, 55, 182, 0, 102, 96, 172] := CHb_of (by decide +kernel)
theorem dX0_keepThree_0 : decode cX0_keepThree 0 = .ok (.aload_n 0, 1) := dw_42 (kcX0_keepThree_0 0 42 rfl)
theorem dX0_keepThree_1 : decode cX0_keepThree 1 = .ok (.aload_n 1, 1) := dw_43 (kcX0_keepThree_0 1 43 rfl)
theorem dX0_keepThree_2 : decode cX0_keepThree 2 = .ok (.iload_n 2, 1) := dw_28 (kcX0_keepThree_0 2 28 rfl)
theorem dX0_keepThree_3 : decode cX0_keepThree 3 = .ok (.aload_n 0, 1) := dw_42 (kcX0_keepThree_0 3 42 rfl)
theorem dX0_keepThree_4 : decode cX0_keepThree 4 = .ok (.getfield 38, 3) := dw_180 (kcX0_keepThree_0 4 180 rfl) (kcX0_keepThree_0 5 0 rfl) (kcX0_keepThree_0 6 38 rfl) rfl
theorem dX0_keepThree_7 : decode cX0_keepThree 7 = .ok (.invokestatic 55, 3) := dw_184 (kcX0_keepThree_0 7 184 rfl) (kcX0_keepThree_0 8 0 rfl) (kcX0_keepThree_0 9 55 rfl) rfl
theorem dX0_keepThree_10 : decode cX0_keepThree 10 = .ok (.invokevirtual 102, 3) := dw_182 (kcX0_keepThree_0 10 182 rfl) (kcX0_keepThree_0 11 0 rfl) (kcX0_keepThree_0 12 102 rfl) rfl
theorem dX0_keepThree_13 : decode cX0_keepThree 13 = .ok (.aload_n 0, 1) := dw_42 (kcX0_keepThree_0 13 42 rfl)
theorem dX0_keepThree_14 : decode cX0_keepThree 14 = .ok (.aload_n 1, 1) := dw_43 (kcX0_keepThree_0 14 43 rfl)
theorem dX0_keepThree_15 : decode cX0_keepThree 15 = .ok (.aload_n 0, 1) := dw_42 (kcX0_keepThree_0 15 42 rfl)
theorem dX0_keepThree_16 : decode cX0_keepThree 16 = .ok (.getfield 35, 3) := dw_180 (kcX0_keepThree_0 16 180 rfl) (kcX0_keepThree_0 17 0 rfl) (kcX0_keepThree_0 18 35 rfl) rfl
theorem dX0_keepThree_19 : decode cX0_keepThree 19 = .ok (.iload_n 3, 1) := dw_29 (kcX0_keepThree_0 19 29 rfl)
theorem dX0_keepThree_20 : decode cX0_keepThree 20 = .ok (.invokestatic 55, 3) := dw_184 (kcX0_keepThree_0 20 184 rfl) (kcX0_keepThree_0 21 0 rfl) (kcX0_keepThree_0 22 55 rfl) rfl
theorem dX0_keepThree_23 : decode cX0_keepThree 23 = .ok (.invokevirtual 102, 3) := dw_182 (kcX0_keepThree_0 23 182 rfl) (kcX0_keepThree_0 24 0 rfl) (kcX0_keepThree_0 25 102 rfl) rfl
theorem dX0_keepThree_26 : decode cX0_keepThree 26 = .ok (.iadd, 1) := dw_96 (kcX0_keepThree_0 26 96 rfl)
theorem dX0_keepThree_27 : decode cX0_keepThree 27 = .ok (.aload_n 0, 1) := dw_42 (kcX0_keepThree_0 27 42 rfl)
theorem dX0_keepThree_28 : decode cX0_keepThree 28 = .ok (.aload_n 1, 1) := dw_43 (kcX0_keepThree_0 28 43 rfl)
theorem dX0_keepThree_29 : decode cX0_keepThree 29 = .ok (.aload_n 0, 1) := dw_42 (kcX0_keepThree_0 29 42 rfl)
theorem dX0_keepThree_30 : decode cX0_keepThree 30 = .ok (.getfield 35, 3) := dw_180 (kcX0_keepThree_0 30 180 rfl) (kcX0_keepThree_0 31 0 rfl) (kcX0_keepThree_0 32 35 rfl) rfl
theorem dX0_keepThree_33 : decode cX0_keepThree 33 = .ok (.aload_n 0, 1) := dw_42 (kcX0_keepThree_0 33 42 rfl)
theorem dX0_keepThree_34 : decode cX0_keepThree 34 = .ok (.getfield 38, 3) := dw_180 (kcX0_keepThree_0 34 180 rfl) (kcX0_keepThree_0 35 0 rfl) (kcX0_keepThree_0 36 38 rfl) rfl
theorem dX0_keepThree_37 : decode cX0_keepThree 37 = .ok (.invokestatic 55, 3) := dw_184 (kcX0_keepThree_0 37 184 rfl) (kcX0_keepThree_0 38 0 rfl) (kcX0_keepThree_0 39 55 rfl) rfl
theorem dX0_keepThree_40 : decode cX0_keepThree 40 = .ok (.invokevirtual 102, 3) := dw_182 (kcX0_keepThree_0 40 182 rfl) (kcX0_keepThree_0 41 0 rfl) (kcX0_keepThree_0 42 102 rfl) rfl
theorem dX0_keepThree_43 : decode cX0_keepThree 43 = .ok (.iadd, 1) := dw_96 (kcX0_keepThree_0 43 96 rfl)
theorem dX0_keepThree_44 : decode cX0_keepThree 44 = .ok (.ireturn, 1) := dw_172 (kcX0_keepThree_0 44 172 rfl)
theorem kcX0_forgetPlan_0 : CHb cX0_forgetPlan 0 [3, 60, 27, 17, 0, 144, 162, 0, 16, 42, 180, 0, 9, 27, 3, 84, 132, 1, 1, 167, 255, 239, 177] := CHb_of (by decide +kernel)
theorem dX0_forgetPlan_0 : decode cX0_forgetPlan 0 = .ok (.iconst 0, 1) := dw_3 (kcX0_forgetPlan_0 0 3 rfl)
theorem dX0_forgetPlan_1 : decode cX0_forgetPlan 1 = .ok (.istore_n 1, 1) := dw_60 (kcX0_forgetPlan_0 1 60 rfl)
theorem dX0_forgetPlan_2 : decode cX0_forgetPlan 2 = .ok (.iload_n 1, 1) := dw_27 (kcX0_forgetPlan_0 2 27 rfl)
theorem dX0_forgetPlan_3 : decode cX0_forgetPlan 3 = .ok (.sipush 144, 3) := dw_17 (kcX0_forgetPlan_0 3 17 rfl) (kcX0_forgetPlan_0 4 0 rfl) (kcX0_forgetPlan_0 5 144 rfl) rfl
theorem dX0_forgetPlan_6 : decode cX0_forgetPlan 6 = .ok (.if_icmp .ge 16, 3) := dw_162 (kcX0_forgetPlan_0 6 162 rfl) (kcX0_forgetPlan_0 7 0 rfl) (kcX0_forgetPlan_0 8 16 rfl) rfl
theorem dX0_forgetPlan_22 : decode cX0_forgetPlan 22 = .ok (.return_, 1) := dw_177 (kcX0_forgetPlan_0 22 177 rfl)
theorem dX0_forgetPlan_9 : decode cX0_forgetPlan 9 = .ok (.aload_n 0, 1) := dw_42 (kcX0_forgetPlan_0 9 42 rfl)
theorem dX0_forgetPlan_10 : decode cX0_forgetPlan 10 = .ok (.getfield 9, 3) := dw_180 (kcX0_forgetPlan_0 10 180 rfl) (kcX0_forgetPlan_0 11 0 rfl) (kcX0_forgetPlan_0 12 9 rfl) rfl
theorem dX0_forgetPlan_13 : decode cX0_forgetPlan 13 = .ok (.iload_n 1, 1) := dw_27 (kcX0_forgetPlan_0 13 27 rfl)
theorem dX0_forgetPlan_14 : decode cX0_forgetPlan 14 = .ok (.iconst 0, 1) := dw_3 (kcX0_forgetPlan_0 14 3 rfl)
theorem dX0_forgetPlan_15 : decode cX0_forgetPlan 15 = .ok (.bastore, 1) := dw_84 (kcX0_forgetPlan_0 15 84 rfl)
theorem dX0_forgetPlan_16 : decode cX0_forgetPlan 16 = .ok (.iinc 1 1, 3) := dw_132 (kcX0_forgetPlan_0 16 132 rfl) (kcX0_forgetPlan_0 17 1 rfl) (kcX0_forgetPlan_0 18 1 rfl) rfl
theorem dX0_forgetPlan_19 : decode cX0_forgetPlan 19 = .ok (.goto (-17), 3) := dw_167 (kcX0_forgetPlan_0 19 167 rfl) (kcX0_forgetPlan_0 20 255 rfl) (kcX0_forgetPlan_0 21 239 rfl) rfl
theorem kcX0_tellPlanned_0 : CHb cX0_tellPlanned 0 [3, 61, 28, 17, 0, 144, 162, 0, 25, 42, 180, 0, 9, 28, 51, 153, 0, 10, 43, 28, 5, 4, 182, 0, 75, 132, 2, 1, 167, 255, 230, 177] := CHb_of (by decide +kernel)
theorem dX0_tellPlanned_0 : decode cX0_tellPlanned 0 = .ok (.iconst 0, 1) := dw_3 (kcX0_tellPlanned_0 0 3 rfl)
theorem dX0_tellPlanned_1 : decode cX0_tellPlanned 1 = .ok (.istore_n 2, 1) := dw_61 (kcX0_tellPlanned_0 1 61 rfl)
theorem dX0_tellPlanned_2 : decode cX0_tellPlanned 2 = .ok (.iload_n 2, 1) := dw_28 (kcX0_tellPlanned_0 2 28 rfl)
theorem dX0_tellPlanned_3 : decode cX0_tellPlanned 3 = .ok (.sipush 144, 3) := dw_17 (kcX0_tellPlanned_0 3 17 rfl) (kcX0_tellPlanned_0 4 0 rfl) (kcX0_tellPlanned_0 5 144 rfl) rfl
theorem dX0_tellPlanned_6 : decode cX0_tellPlanned 6 = .ok (.if_icmp .ge 25, 3) := dw_162 (kcX0_tellPlanned_0 6 162 rfl) (kcX0_tellPlanned_0 7 0 rfl) (kcX0_tellPlanned_0 8 25 rfl) rfl
theorem dX0_tellPlanned_31 : decode cX0_tellPlanned 31 = .ok (.return_, 1) := dw_177 (kcX0_tellPlanned_0 31 177 rfl)
theorem dX0_tellPlanned_9 : decode cX0_tellPlanned 9 = .ok (.aload_n 0, 1) := dw_42 (kcX0_tellPlanned_0 9 42 rfl)
theorem dX0_tellPlanned_10 : decode cX0_tellPlanned 10 = .ok (.getfield 9, 3) := dw_180 (kcX0_tellPlanned_0 10 180 rfl) (kcX0_tellPlanned_0 11 0 rfl) (kcX0_tellPlanned_0 12 9 rfl) rfl
theorem dX0_tellPlanned_13 : decode cX0_tellPlanned 13 = .ok (.iload_n 2, 1) := dw_28 (kcX0_tellPlanned_0 13 28 rfl)
theorem dX0_tellPlanned_14 : decode cX0_tellPlanned 14 = .ok (.baload, 1) := dw_51 (kcX0_tellPlanned_0 14 51 rfl)
theorem dX0_tellPlanned_15 : decode cX0_tellPlanned 15 = .ok (.ifCond .eq 10, 3) := dw_153 (kcX0_tellPlanned_0 15 153 rfl) (kcX0_tellPlanned_0 16 0 rfl) (kcX0_tellPlanned_0 17 10 rfl) rfl
theorem dX0_tellPlanned_25 : decode cX0_tellPlanned 25 = .ok (.iinc 2 1, 3) := dw_132 (kcX0_tellPlanned_0 25 132 rfl) (kcX0_tellPlanned_0 26 2 rfl) (kcX0_tellPlanned_0 27 1 rfl) rfl
theorem dX0_tellPlanned_28 : decode cX0_tellPlanned 28 = .ok (.goto (-26), 3) := dw_167 (kcX0_tellPlanned_0 28 167 rfl) (kcX0_tellPlanned_0 29 255 rfl) (kcX0_tellPlanned_0 30 230 rfl) rfl
theorem dX0_tellPlanned_18 : decode cX0_tellPlanned 18 = .ok (.aload_n 1, 1) := dw_43 (kcX0_tellPlanned_0 18 43 rfl)
theorem dX0_tellPlanned_19 : decode cX0_tellPlanned 19 = .ok (.iload_n 2, 1) := dw_28 (kcX0_tellPlanned_0 19 28 rfl)
theorem dX0_tellPlanned_20 : decode cX0_tellPlanned 20 = .ok (.iconst 2, 1) := dw_5 (kcX0_tellPlanned_0 20 5 rfl)
theorem dX0_tellPlanned_21 : decode cX0_tellPlanned 21 = .ok (.iconst 1, 1) := dw_4 (kcX0_tellPlanned_0 21 4 rfl)
theorem dX0_tellPlanned_22 : decode cX0_tellPlanned 22 = .ok (.invokevirtual 75, 3) := dw_182 (kcX0_tellPlanned_0 22 182 rfl) (kcX0_tellPlanned_0 23 0 rfl) (kcX0_tellPlanned_0 24 75 rfl) rfl
def KA (kp : Nat → Int32) (x y : Nat) : Bool := !decide (kp (x * 12 + y) = 0)
def mtA (so cs : Nat → Int32) (i q : Nat) : Prop := ¬ so q = 0 ∧ cs q = cs i
def zzA (kd : Nat → Int32) (x y : Nat) : Prop := kd (x * 12 + y) = 4
def prN (ru nu : Int32) : Nat := if ru = 0 then 1 else nu.toNatClampNeg + 1
def prA (ru nu : Nat → Int32) (x y : Nat) : Nat := prN (ru 5) (nu (x * 12 + y))
def ptk (kd kp ru nu : Int32) : Int32 := if kd = 4 then -1 else if kp = 0 then (if ru = 0 then 1 else nu + 1) else 0
theorem KA_t {kp : Nat → Int32} {x y : Nat} (h : ¬ kp (x * 12 + y) = 0) : KA kp x y = true := by unfold KA; rw [decide_eq_false h]; rfl
theorem KA_f {kp : Nat → Int32} {x y : Nat} (h : kp (x * 12 + y) = 0) : KA kp x y = false := by unfold KA; rw [decide_eq_true h]; rfl
theorem KA_i {kp : Nat → Int32} {x y : Nat} (h : KA kp x y = true) : ¬ kp (x * 12 + y) = 0 := fun z => by rw [KA_f z] at h; exact absurd h (by decide)
theorem ptk_n {kd kp : Int32} {ru nu : Int32} {m : Nat} (h4 : ¬ kd = 4) (hm : m ≤ 1000000) (hn : nu = nI m) : ptk kd kp ru nu = nI (if (!decide (kp = 0)) = true then 0 else prN ru nu) := by
  unfold ptk prN
  rw [if_neg h4]
  by_cases e : kp = 0
  · have e2 : (!decide (kp = 0)) = false := by rw [decide_eq_true e]; rfl
    rw [if_pos e, e2, if_neg (show ¬ false = true by decide)]
    by_cases c : ru = 0
    · rw [if_pos c, if_pos c]; rfl
    · rw [if_neg c, if_neg c, hn, nI_clamp (by omega)]; exact nI_add m 1
  · have e2 : (!decide (kp = 0)) = true := by rw [decide_eq_false e]; rfl
    rw [if_neg e, e2, if_pos rfl]; rfl
def coR (ru nu : Int32) : Int32 := if ru = 0 then 1 else nu + 1
theorem co_n {ru nu : Int32} {m : Nat} (hm : m ≤ 1000000) (hn : nu = nI m) : coR ru nu = nI (prN ru nu) := by
  unfold coR prN
  by_cases c : ru = 0
  · rw [if_pos c, if_pos c]; rfl
  · rw [if_neg c, if_neg c, hn, nI_clamp (by omega)]; exact nI_add m 1
theorem pr_le {ru nu : Int32} {m : Nat} (hm : m ≤ 1000000) (hn : nu = nI m) : 1 ≤ prN ru nu ∧ prN ru nu ≤ 1000001 := by
  unfold prN
  by_cases c : ru = 0
  · rw [if_pos c]; omega
  · rw [if_neg c, hn, nI_clamp (by omega)]; omega
theorem ptk_z {kd kp ru nu : Int32} {m : Nat} (hm : m ≤ 1000000) (hn : nu = nI m) (h : ptk kd kp ru nu = -1) : kd = 4 := by
  by_cases h4 : kd = 4
  · exact h4
  · rw [ptk_n h4 hm hn] at h
    have := pr_le (ru := ru) hm hn
    exact absurd h (nI_nm1 (by split <;> omega))
theorem ptk_4 {kd kp ru nu : Int32} (h : ¬ ptk kd kp ru nu = -1) : ¬ kd = 4 := fun z => h (by unfold ptk; rw [if_pos z])
theorem pcT_n {kd kp : Int32} {ru nu k11 : Nat → Int32} {x y m : Nat} (h4 : ¬ kd = 4) (hm : m ≤ 1000000) (hn : nu (x * 12 + y) = nI m) (hk : kp = k11 (x * 12 + y)) : ptk kd kp (ru 5) (nu (x * 12 + y)) = nI (pcT (prA ru nu) (KA k11) x y) := by
  rw [ptk_n h4 hm hn]
  unfold pcT prA KA
  rw [hk]
section BS2
variable {rw cl : Nat} {mt zz : Nat → Nat → Prop} {pr : Nat → Nat → Nat} {K : Nat → Nat → Bool} {i j q d bq bd : Nat} {fd fd2 : Prop}
theorem BST_q (h : BST rw cl mt zz pr K i j (12 * q) fd bq bd) (hcl : cl ≤ 12) (hno : ∀ d, ¬ CAND rw cl mt zz K i j q d) : BST rw cl mt zz pr K i j (12 * (q + 1)) fd bq bd := BST_skip h (by omega) (fun q2 d2 hc z z2 => by
  have e := hc.2.1
  obtain rfl : q2 = q := by omega
  exact hno d2 hc)
theorem BST_r (h : BST rw cl mt zz pr K i j (12 * q + d) fd bq bd) (hcl : cl ≤ 12) (hd : cl ≤ d) (hd2 : d ≤ 12) : BST rw cl mt zz pr K i j (12 * (q + 1)) fd bq bd := BST_skip h (by omega) (fun q2 d2 hc z z2 => by
  have e := hc.2.1
  omega)
theorem BST_n (h : BST rw cl mt zz pr K i j (12 * q + d) fd bq bd) (hcl : cl ≤ 12) (hd : d < 12) (hno : ¬ CAND rw cl mt zz K i j q d) : BST rw cl mt zz pr K i j (12 * q + (d + 1)) fd bq bd := BST_skip h (by omega) (fun q2 d2 hc z z2 => by
  have e := hc.2.1
  obtain ⟨rfl, rfl⟩ : q2 = q ∧ d2 = d := by omega
  exact hno hc)
theorem pc3_0 {K : Nat → Nat → Bool} (h : pc3 pr K i j q d ≤ 0) (h1 : 1 ≤ pr q j) (h2 : 1 ≤ pr i d) (h3 : 1 ≤ pr q d) : K i d = true ∧ K q j = true ∧ K q d = true := by
  unfold pc3 pcT at h
  by_cases z1 : K i d = true
  · by_cases z2 : K q j = true
    · by_cases z3 : K q d = true
      · exact ⟨z1, z2, z3⟩
      · rw [if_neg z3] at h; omega
    · rw [if_neg z2] at h; omega
  · rw [if_neg z1] at h; omega
theorem pc3_p {K : Nat → Nat → Bool} (h : 0 < pc3 pr K i j q d) : ¬ (K i d = true ∧ K q j = true ∧ K q d = true) := fun z => by
  unfold pc3 pcT at h
  rw [if_pos z.1, if_pos z.2.1, if_pos z.2.2] at h; omega
end BS2
set_option maxHeartbeats 4000000 in
set_option maxRecDepth 100000 in
theorem x_X0_priceToKeep (l : Launch) (G : GG) (x : Nat) (xa ta a b ga ua la lb lc : Nat → Nat) (tg gg : Nat → Option Nat) (xf tf f qf gf uf lf mf nf : Nat → Int32) (tr r q gr ur lr mr nr : Nat → Nat → Int32) (sp : Nat) (hsp : sp < 144) : RdI l yX0_priceToKeep cX0_priceToKeep 4 (some .int) ({ frames := 1, cells := 0, slots := 0, locals := 21 }) G (xM G x xa ta a b ga ua la lb lc tg gg xf tf f qf gf uf lf mf nf tr r q gr ur lr mr nr) [.ref (ga 9), .ref (ta 0), .ref (a 15), .int (nI sp)] (fun qz => qz = ptk ((r 8) sp) ((r 11) sp) ((tr 9) 5) ((tr 6) sp)) := by
  refine rd_entry (by decide +kernel) (Nat.le_of_ble_eq_true rfl) ?_
  intro p e s m below meth c C0 hP hK ls hl
  have hS : va_S (fun q => s.heap.size ≤ q) s.heap s.heap [] := va_S.rf
  have hA : ∀ q, s.heap.size ≤ q → (fun q => s.heap.size ≤ q) q := fun _ h => h
  obtain ⟨hx, hb, hml, hown, hts, hr, hlocks, hin⟩ := C0
  have hown : s.vm.findClass RX0 = some m.cls := hown
  have hl : lv_has ls 4 [(0, .ref (ga 9)), (1, .ref (ta 0)), (2, .ref (a 15)), (3, .int (nI sp))] := hl
  refine lv_aload_n hx hb dX0_priceToKeep_0 rfl (lv_at hl 2 rfl) ?_
  refine va_get (D := G.1) (ci := 2) (v := .ref (a 8)) (C := RX2) (T := TX2) (N := 15) hx hb hts inX2 hown hK.1 hP 11 rfl rfl 8 (by decide) (hts _ mf_X0_92) (fun _ h9 => h9) rfl dX0_priceToKeep_1 ?_
  refine lv_iload_n hx hb dX0_priceToKeep_4 rfl (lv_at hl 3 rfl) ?_
  refine xiald (f := (r 8)) hx hb hK hP 14 (sp) (rfl) (by omega) (by decide) rfl dX0_priceToKeep_5 ?_
  refine lv_topi (fun v1 ev1 => ?_)
  obtain rfl : v1 = (r 8 sp) := ev1.trans (rfl)
  refine lv_iconst (v := 4) hx hb dX0_priceToKeep_6 (by decide) ?_
  refine lv_icmp_ne (tgt := 12) hx hb dX0_priceToKeep_7 (by decide) (fun c2 => ?_) (fun c2 => ?_)
  · refine lv_aload_n hx hb dX0_priceToKeep_12 rfl (lv_at hl 2 rfl) ?_
    refine va_get (D := G.1) (ci := 2) (v := .ref (a 11)) (C := RX2) (T := TX2) (N := 15) hx hb hts inX2 hown hK.1 hP 11 rfl rfl 11 (by decide) (hts _ mf_X0_95) (fun _ h9 => h9) rfl dX0_priceToKeep_13 ?_
    refine lv_iload_n hx hb dX0_priceToKeep_16 rfl (lv_at hl 3 rfl) ?_
    refine xzald (f := (r 11)) hx hb hK hP 17 (sp) (rfl) (by omega) (by decide) rfl dX0_priceToKeep_17 ?_
    refine lv_topi (fun v3 ev3 => ?_)
    obtain rfl : v3 = (r 11 sp) := ev3.trans (rfl)
    refine lv_if_eq (tgt := 25) hx hb dX0_priceToKeep_18 (by decide) (fun c4 => ?_) (fun c4 => ?_)
    · refine lv_aload_n hx hb dX0_priceToKeep_25 rfl (lv_at hl 1 rfl) ?_
      refine lv_iload_n hx hb dX0_priceToKeep_26 rfl (lv_at hl 3 rfl) ?_
      refine rdV (rest := []) (q0 := 0) ⟨hx, hb, hml, hown, hts⟩ (c_X4_priceOf l G ta tf tr sp (by omega)) mi_yX4_priceOf mv_yX4_priceOf ml_X0_98 ⟨rfl, rfl, Nat.le_of_ble_eq_true rfl, Nat.le_of_ble_eq_true rfl⟩ hK (blk_sub (ws' := tW G ta tf tr) (xBlk G x xa ta a b ga ua la lb lc tg gg xf tf f qf gf uf lf mf nf tr r q gr ur lr mr nr) (i := 1) hP rfl (by decide)) rfl rfl rfl hl.1 rfl (Nat.le_of_ble_eq_true rfl) dX0_priceToKeep_27 ⟨Nat.zero_le _, Nat.zero_le _⟩ hS hA hP (fun r5 H locs hr5 hP hS => ?_)
      obtain rfl := hr5
      exact rd_iret hx hb hr hlocks hS ((by unfold ptk; rw [if_neg c2, if_pos c4])) dX0_priceToKeep_30
    · refine lv_iconst (v := 0) hx hb dX0_priceToKeep_21 (by decide) ?_
      refine lv_goto (tgt := 30) hx hb dX0_priceToKeep_22 (by decide) ?_
      exact rd_iret hx hb hr hlocks hS ((by unfold ptk; rw [if_neg c2, if_neg c4])) dX0_priceToKeep_30
  · refine lv_iconst (v := -1) hx hb dX0_priceToKeep_10 (by decide) ?_
    exact rd_iret hx hb hr hlocks hS ((by unfold ptk; rw [if_pos c2])) dX0_priceToKeep_11
set_option maxHeartbeats 4000000 in
set_option maxRecDepth 100000 in
theorem x_X0_findThree (l : Launch) (G : GG) (x : Nat) (xa ta a b ga ua la lb lc : Nat → Nat) (tg gg : Nat → Option Nat) (xf tf f qf gf uf lf mf nf : Nat → Int32) (tr r q gr ur lr mr nr : Nat → Nat → Int32) (i : Nat) (j : Nat) (rw : Nat) (cl : Nat) (hrw : rw ≤ 12) (hcl : cl ≤ 12) (hi : i < rw) (hj : j < cl) (h0 : (f 0) = nI rw) (h1 : (f 1) = nI cl) (hsi : ¬ (r 6) i = 0) (hNN : ∀ x y, x < rw → y < cl → ¬ (r 6) x = 0 → ∃ m, m ≤ 1000000 ∧ (tr 6) (x * 12 + y) = nI m) : WrV l yX0_findThree cX0_findThree 13 ({ frames := 2, cells := 0, slots := 0, locals := 44 }) G (xM G x xa ta a b ga ua la lb lc tg gg xf tf f qf gf uf lf mf nf tr r q gr ur lr mr nr) [.ref (ga 9), .ref (ta 0), .ref (a 15), .int (nI i), .int (nI j)] (fun w => ∃ (n_gf_7 : Int32) (n_gf_8 : Int32), w = xM G x xa ta a b ga ua la lb lc tg gg xf tf f qf (upd (upd gf 7 n_gf_7) 8 n_gf_8) uf lf mf nf tr r q gr ur lr mr nr ∧ ((n_gf_7 = -1 ∧ NON rw cl (mtA (r 6) (r 7)) (zzA (r 8)) (KA (r 11)) i j 144) ∨ ∃ qq dd, n_gf_7 = nI qq ∧ n_gf_8 = nI dd ∧ BSN rw cl (mtA (r 6) (r 7)) (zzA (r 8)) (prA (tr 9) (tr 6)) (KA (r 11)) i j 144 qq dd)) := by
  refine wr_entryV (by decide +kernel) (Nat.le_of_ble_eq_true rfl) ?_
  intro p e s m below meth c A C0 hP hK hD hA ls hl
  have hS : va_S A s.heap s.heap [] := va_S.rf
  obtain ⟨hx, hb, hml, hown, hts, hr, hlocks, hin⟩ := C0
  have hown : s.vm.findClass RX0 = some m.cls := hown
  have hDD : ∀ xf' tf' f' qf' gf' uf' lf' mf' nf' tr' r' q' gr' ur' lr' mr' nr', va_D A (xM G x xa ta a b ga ua la lb lc tg gg xf' tf' f' qf' gf' uf' lf' mf' nf' tr' r' q' gr' ur' lr' mr' nr') := fun xf' tf' f' qf' gf' uf' lf' mf' nf' tr' r' q' gr' ur' lr' mr' nr' => D_same hD rfl
  have hl : lv_has ls 13 [(0, .ref (ga 9)), (1, .ref (ta 0)), (2, .ref (a 15)), (3, .int (nI i)), (4, .int (nI j))] := hl
  refine lv_ldc hx hb hown (hts _ mk_X0_81) dX0_findThree_0 ?_
  refine lv_istore (lv' := [(5, .int 1073741824), (0, .ref (ga 9)), (1, .ref (ta 0)), (2, .ref (a 15)), (3, .int (nI i)), (4, .int (nI j))]) hx hb dX0_findThree_2 hl (by decide) rfl (fun ls hl => ?_)
  refine lv_aload_n hx hb dX0_findThree_4 rfl (lv_at hl 1 rfl) ?_
  refine lv_iconst (v := -1) hx hb dX0_findThree_5 (by decide) ?_
  refine va_put (D := G.1) (ci := 0) (v := .int (-1)) (C := RX0) (T := TX0) (N := 9) hx hb hts inX0 tyX0 tyX0_ok nmX0 hown hK.1 hP (hDD _ _ _ _ _ _ _ _ _ _ _ _ _ _ _ _ _) hS 25 rfl rfl 7 (by decide) (hts _ mf_X0_35) (fun _ h9 => h9) rfl (tyX0_ok 7 (by decide)) (rfl) (rfl) (Nat.le_of_ble_eq_true rfl) dX0_findThree_6 (fun H locs hP _ hS => ?_)
  have hP : PP G (xM G x xa ta a b ga ua la lb lc tg gg xf tf f qf (upd gf 7 (-1)) uf lf mf nf tr r q gr ur lr mr nr) H := hP
  refine lv_aload_n hx hb dX0_findThree_9 rfl (lv_at hl 1 rfl) ?_
  refine lv_iconst (v := -1) hx hb dX0_findThree_10 (by decide) ?_
  refine va_put (D := G.1) (ci := 0) (v := .int (-1)) (C := RX0) (T := TX0) (N := 9) hx hb hts inX0 tyX0 tyX0_ok nmX0 hown hK.1 hP (hDD _ _ _ _ _ _ _ _ _ _ _ _ _ _ _ _ _) hS 25 rfl rfl 8 (by decide) (hts _ mf_X0_38) (fun _ h9 => h9) rfl (tyX0_ok 8 (by decide)) (rfl) (rfl) (Nat.le_of_ble_eq_true rfl) dX0_findThree_11 (fun H locs hP _ hS => ?_)
  have hP : PP G (xM G x xa ta a b ga ua la lb lc tg gg xf tf f qf (upd (upd gf 7 (-1)) 8 (-1)) uf lf mf nf tr r q gr ur lr mr nr) H := hP
  refine lv_iconst (v := 0) hx hb dX0_findThree_14 (by decide) ?_
  refine lv_istore (lv' := [(6, .int 0), (5, .int 1073741824), (0, .ref (ga 9)), (1, .ref (ta 0)), (2, .ref (a 15)), (3, .int (nI i)), (4, .int (nI j))]) hx hb dX0_findThree_15 hl (by decide) rfl (fun ls hl => ?_)
  have loop17 : ∀ (k1 qq : Nat) (bs : Nat) (bq : Nat) (bd : Nat) (x3 : Int32) (x4 : Int32), qq ≤ rw → rw < qq + k1 → (bs ≤ 1073741824) → ((x3 = -1 ∧ bs = 1073741824) ∨ (x3 = nI bq ∧ x4 = nI bd ∧ bq < 12 ∧ bs = pc3 (prA (tr 9) (tr 6)) (KA (r 11)) i j bq bd)) → (BST rw cl (mtA (r 6) (r 7)) (zzA (r 8)) (prA (tr 9) (tr 6)) (KA (r 11)) i j (12 * qq) (¬ x3 = -1) bq bd) → ∀ (H : Heap) (locs : List Loc) (ls : Array Slot), PP G (xM G x xa ta a b ga ua la lb lc tg gg xf tf f qf (upd (upd gf 7 x3) 8 x4) uf lf mf nf tr r q gr ur lr mr nr) H → va_S A s.heap H locs → lv_has ls 13 [(6, .int (nI qq)), (5, .int (nI bs)), (0, .ref (ga 9)), (1, .ref (ta 0)), (2, .ref (a 15)), (3, .int (nI i)), (4, .int (nI j))] → W p l e ({ frames := 2, cells := 0, slots := 0, locals := 44 }) s m ([.ref (ga 9), .ref (ta 0), .ref (a 15), .int (nI i), .int (nI j)] : List Value).toArray below meth c H locs 0 0 (MQ below (QwV G (fun w => ∃ (n_gf_7 : Int32) (n_gf_8 : Int32), w = xM G x xa ta a b ga ua la lb lc tg gg xf tf f qf (upd (upd gf 7 n_gf_7) 8 n_gf_8) uf lf mf nf tr r q gr ur lr mr nr ∧ ((n_gf_7 = -1 ∧ NON rw cl (mtA (r 6) (r 7)) (zzA (r 8)) (KA (r 11)) i j 144) ∨ ∃ qq dd, n_gf_7 = nI qq ∧ n_gf_8 = nI dd ∧ BSN rw cl (mtA (r 6) (r 7)) (zzA (r 8)) (prA (tr 9) (tr 6)) (KA (r 11)) i j 144 qq dd)) A) ([.ref (ga 9), .ref (ta 0), .ref (a 15), .int (nI i), .int (nI j)] : List Value).toArray s 0 0 A) (F0 m 17 ls []) := by
    intro k1
    induction k1 with
    | zero => intro qq bs bq bd x3 x4 h1 h2; exact absurd h1 (by omega)
    | succ k1 ih17k1 =>
      intro qq bs bq bd x3 x4 hi_qq hk_qq gbs hbv hbs H locs ls hP hS hl
      refine lv_iload hx hb dX0_findThree_17 (lv_at hl 0 rfl) ?_
      refine lv_aload_n hx hb dX0_findThree_19 rfl (lv_at hl 4 rfl) ?_
      refine va_get (D := G.1) (ci := 2) (v := .int (f 0)) (C := RX2) (T := TX2) (N := 15) hx hb hts inX2 hown hK.1 hP 11 rfl rfl 0 (by decide) (hts _ mf_X0_44) (fun _ h9 => h9) rfl dX0_findThree_20 ?_
      rw [show (f 0) = nI (rw) from h0]
      refine lv_icmp_ge (tgt := 207) hx hb dX0_findThree_23 (by decide) (fun c5 => ?_) (fun c5 => ?_)
      · have b23 := qge_t (a := qq) (b := (rw)) (by omega) (by omega) c5
        exact wr_vret hx hb hr hlocks hS hP ⟨x3, x4, rfl, (by rcases hbs with ⟨z8, z9⟩ | ⟨z8, z9⟩; exact Or.inl ⟨Classical.byContradiction z8, fun q9 d9 h8 h9 => z9 q9 d9 h8 (by have e9 := h8.1; have e8 := h8.2.1; omega)⟩; exact Or.inr ⟨bq, bd, (hbv.resolve_left (fun y9 => z8 y9.1)).1, (hbv.resolve_left (fun y9 => z8 y9.1)).2.1, z9.1, by have e9 := z9.1.1; have e8 := z9.1.2.1; omega, fun q9 d9 h8 h9 => z9.2.2 q9 d9 h8 (by have e9 := h8.1; have e8 := h8.2.1; omega)⟩)⟩ dX0_findThree_207
      · have b23 := qge_f (a := qq) (b := (rw)) (by omega) (by omega) c5
        refine lv_iload hx hb dX0_findThree_26 (lv_at hl 0 rfl) ?_
        refine lv_iload_n hx hb dX0_findThree_28 rfl (lv_at hl 5 rfl) ?_
        refine lv_icmp_eq (tgt := 201) hx hb dX0_findThree_29 (by decide) (fun c6 => ?_) (fun c6 => ?_)
        · have b29 := qeq_t (a := qq) (b := i) (by omega) (by omega) c6
          obtain ⟨v7, ev7⟩ : ∃ y9 : Int32, y9 = (nI qq) + Int32.ofInt (1) := ⟨_, rfl⟩
          refine lv_iinc (v := v7) (lv' := [(6, .int v7), (5, .int (nI bs)), (0, .ref (ga 9)), (1, .ref (ta 0)), (2, .ref (a 15)), (3, .int (nI i)), (4, .int (nI j))]) hx hb dX0_findThree_201 hl (k := 0) rfl ev7.symm (by decide) rfl (fun ls hl => ?_)
          obtain rfl : v7 = nI (qq + 1) := nI_plus (i := qq) (j := 1) ev7 rfl (by decide)
          refine lv_goto (tgt := 17) hx hb dX0_findThree_204 (by decide) ?_
          exact ih17k1 (qq + 1) bs bq bd x3 x4 (by omega) (by omega) (by omega) (hbv) (BST_q hbs hcl (fun d9 h9 => h9.2.2.1 b29)) _ _ _ hP hS (lv_sub hl [0, 1, 2, 3, 4, 5, 6] rfl)
        · have b29 := qeq_f (a := qq) (b := i) (by omega) (by omega) c6
          refine lv_aload_n hx hb dX0_findThree_32 rfl (lv_at hl 4 rfl) ?_
          refine va_get (D := G.1) (ci := 2) (v := .ref (a 6)) (C := RX2) (T := TX2) (N := 15) hx hb hts inX2 hown hK.1 hP 11 rfl rfl 6 (by decide) (hts _ mf_X0_82) (fun _ h9 => h9) rfl dX0_findThree_33 ?_
          refine lv_iload hx hb dX0_findThree_36 (lv_at hl 0 rfl) ?_
          refine xzald (f := (r 6)) hx hb hK hP 12 (qq) (rfl) (by omega) (by decide) rfl dX0_findThree_38 ?_
          refine lv_topi (fun v8 ev8 => ?_)
          refine lv_if_eq (tgt := 201) hx hb dX0_findThree_39 (by decide) (fun c9 => ?_) (fun c9 => ?_)
          · obtain ⟨v10, ev10⟩ : ∃ y9 : Int32, y9 = (nI qq) + Int32.ofInt (1) := ⟨_, rfl⟩
            refine lv_iinc (v := v10) (lv' := [(6, .int v10), (5, .int (nI bs)), (0, .ref (ga 9)), (1, .ref (ta 0)), (2, .ref (a 15)), (3, .int (nI i)), (4, .int (nI j))]) hx hb dX0_findThree_201 hl (k := 0) rfl ev10.symm (by decide) rfl (fun ls hl => ?_)
            obtain rfl : v10 = nI (qq + 1) := nI_plus (i := qq) (j := 1) ev10 rfl (by decide)
            refine lv_goto (tgt := 17) hx hb dX0_findThree_204 (by decide) ?_
            exact ih17k1 (qq + 1) bs bq bd x3 x4 (by omega) (by omega) (by omega) (hbv) (BST_q hbs hcl (fun d9 h9 => h9.2.2.2.2.1.1 (ev8.symm.trans c9))) _ _ _ hP hS (lv_sub hl [0, 1, 2, 3, 4, 5, 6] rfl)
          · have hsq : ¬ r 6 qq = 0 := fun z9 => c9 (ev8.trans z9)
            refine lv_aload_n hx hb dX0_findThree_42 rfl (lv_at hl 4 rfl) ?_
            refine va_get (D := G.1) (ci := 2) (v := .ref (a 7)) (C := RX2) (T := TX2) (N := 15) hx hb hts inX2 hown hK.1 hP 11 rfl rfl 7 (by decide) (hts _ mf_X0_85) (fun _ h9 => h9) rfl dX0_findThree_43 ?_
            refine lv_iload hx hb dX0_findThree_46 (lv_at hl 0 rfl) ?_
            refine xiald (f := (r 7)) hx hb hK hP 13 (qq) (rfl) (by omega) (by decide) rfl dX0_findThree_48 ?_
            refine lv_topi (fun v11 ev11 => ?_)
            obtain rfl : v11 = (r 7 qq) := ev11.trans (rfl)
            refine lv_aload_n hx hb dX0_findThree_49 rfl (lv_at hl 4 rfl) ?_
            refine va_get (D := G.1) (ci := 2) (v := .ref (a 7)) (C := RX2) (T := TX2) (N := 15) hx hb hts inX2 hown hK.1 hP 11 rfl rfl 7 (by decide) (hts _ mf_X0_85) (fun _ h9 => h9) rfl dX0_findThree_50 ?_
            refine lv_iload_n hx hb dX0_findThree_53 rfl (lv_at hl 5 rfl) ?_
            refine xiald (f := (r 7)) hx hb hK hP 13 (i) (rfl) (by omega) (by decide) rfl dX0_findThree_54 ?_
            refine lv_topi (fun v12 ev12 => ?_)
            obtain rfl : v12 = (r 7 i) := ev12.trans (rfl)
            refine lv_icmp_eq (tgt := 61) hx hb dX0_findThree_55 (by decide) (fun c13 => ?_) (fun c13 => ?_)
            · have hmt : (mtA (r 6) (r 7)) i qq := ⟨hsq, c13⟩
              obtain ⟨m7, hm7, em7⟩ := hNN qq j b23 hj hsq
              have hp7 := pr_le (ru := tr 9 5) hm7 em7
              refine lv_aload_n hx hb dX0_findThree_61 rfl (lv_at hl 2 rfl) ?_
              refine lv_aload_n hx hb dX0_findThree_62 rfl (lv_at hl 3 rfl) ?_
              refine lv_aload_n hx hb dX0_findThree_63 rfl (lv_at hl 4 rfl) ?_
              refine lv_iload hx hb dX0_findThree_64 (lv_at hl 0 rfl) ?_
              refine lv_iload hx hb dX0_findThree_66 (lv_at hl 6 rfl) ?_
              refine rdSN (rest := [.ref (a 15), .ref (ta 0), .ref (ga 9)]) ⟨hx, hb, hml, hown, hts⟩ (c_X6_spotOf l G ((nI qq)) ((nI j))) mi_yX6_spotOf mst_yX6_spotOf (by decide +kernel) ⟨rfl, rfl, Nat.le_of_ble_eq_true rfl, Nat.le_of_ble_eq_true rfl⟩ hK (fun k q h => by simp at h) rfl hl.1 rfl (Nat.le_of_ble_eq_true rfl) dX0_findThree_68 ⟨Nat.zero_le _, Nat.zero_le _⟩ hS hA hP (fun r14 H locs hr14 hP hS => ?_)
              obtain rfl : r14 = nI (qq * 12 + j) := spot_eq hr14
              refine rdV (rest := []) (q0 := 25) ⟨hx, hb, hml, hown, hts⟩ (x_X0_priceToKeep l G x xa ta a b ga ua la lb lc tg gg xf tf f qf (upd (upd gf 7 x3) 8 x4) uf lf mf nf tr r q gr ur lr mr nr (qq * 12 + j)  (by omega)) mi_yX0_priceToKeep mv_yX0_priceToKeep ml_X0_88 ⟨rfl, rfl, Nat.le_of_ble_eq_true rfl, Nat.le_of_ble_eq_true rfl⟩ hK (hP) rfl rfl rfl hl.1 rfl (Nat.le_of_ble_eq_true rfl) dX0_findThree_71 ⟨Nat.zero_le _, Nat.zero_le _⟩ hS hA hP (fun r15 H locs hr15 hP hS => ?_)
              obtain rfl := hr15
              refine lv_istore (lv' := [(7, .int (ptk ((r 8) (qq * 12 + j)) ((r 11) (qq * 12 + j)) ((tr 9) 5) ((tr 6) (qq * 12 + j)))), (6, .int (nI qq)), (5, .int (nI bs)), (0, .ref (ga 9)), (1, .ref (ta 0)), (2, .ref (a 15)), (3, .int (nI i)), (4, .int (nI j))]) hx hb dX0_findThree_74 hl (by decide) rfl (fun ls hl => ?_)
              refine lv_iconst (v := 0) hx hb dX0_findThree_76 (by decide) ?_
              refine lv_istore (lv' := [(8, .int 0), (7, .int (ptk ((r 8) (qq * 12 + j)) ((r 11) (qq * 12 + j)) ((tr 9) 5) ((tr 6) (qq * 12 + j)))), (6, .int (nI qq)), (5, .int (nI bs)), (0, .ref (ga 9)), (1, .ref (ta 0)), (2, .ref (a 15)), (3, .int (nI i)), (4, .int (nI j))]) hx hb dX0_findThree_77 hl (by decide) rfl (fun ls hl => ?_)
              have loop79 : ∀ (k16 dd : Nat) (bs : Nat) (bq : Nat) (bd : Nat) (x18 : Int32) (x19 : Int32), dd ≤ cl → cl < dd + k16 → (bs ≤ 1073741824) → ((x18 = -1 ∧ bs = 1073741824) ∨ (x18 = nI bq ∧ x19 = nI bd ∧ bq < 12 ∧ bs = pc3 (prA (tr 9) (tr 6)) (KA (r 11)) i j bq bd)) → (BST rw cl (mtA (r 6) (r 7)) (zzA (r 8)) (prA (tr 9) (tr 6)) (KA (r 11)) i j (12 * qq + dd) (¬ x18 = -1) bq bd) → ∀ (H : Heap) (locs : List Loc) (ls : Array Slot), PP G (xM G x xa ta a b ga ua la lb lc tg gg xf tf f qf (upd (upd gf 7 x18) 8 x19) uf lf mf nf tr r q gr ur lr mr nr) H → va_S A s.heap H locs → lv_has ls 13 [(8, .int (nI dd)), (7, .int (ptk ((r 8) (qq * 12 + j)) ((r 11) (qq * 12 + j)) ((tr 9) 5) ((tr 6) (qq * 12 + j)))), (6, .int (nI qq)), (5, .int (nI bs)), (0, .ref (ga 9)), (1, .ref (ta 0)), (2, .ref (a 15)), (3, .int (nI i)), (4, .int (nI j))] → W p l e ({ frames := 2, cells := 0, slots := 0, locals := 44 }) s m ([.ref (ga 9), .ref (ta 0), .ref (a 15), .int (nI i), .int (nI j)] : List Value).toArray below meth c H locs 0 0 (MQ below (QwV G (fun w => ∃ (n_gf_7 : Int32) (n_gf_8 : Int32), w = xM G x xa ta a b ga ua la lb lc tg gg xf tf f qf (upd (upd gf 7 n_gf_7) 8 n_gf_8) uf lf mf nf tr r q gr ur lr mr nr ∧ ((n_gf_7 = -1 ∧ NON rw cl (mtA (r 6) (r 7)) (zzA (r 8)) (KA (r 11)) i j 144) ∨ ∃ qq dd, n_gf_7 = nI qq ∧ n_gf_8 = nI dd ∧ BSN rw cl (mtA (r 6) (r 7)) (zzA (r 8)) (prA (tr 9) (tr 6)) (KA (r 11)) i j 144 qq dd)) A) ([.ref (ga 9), .ref (ta 0), .ref (a 15), .int (nI i), .int (nI j)] : List Value).toArray s 0 0 A) (F0 m 79 ls []) := by
                intro k16
                induction k16 with
                | zero => intro dd bs bq bd x18 x19 h1 h2; exact absurd h1 (by omega)
                | succ k16 ih79k16 =>
                  intro dd bs bq bd x18 x19 hi_dd hk_dd gbs hbv hbs H locs ls hP hS hl
                  refine lv_iload hx hb dX0_findThree_79 (lv_at hl 0 rfl) ?_
                  refine lv_aload_n hx hb dX0_findThree_81 rfl (lv_at hl 6 rfl) ?_
                  refine va_get (D := G.1) (ci := 2) (v := .int (f 1)) (C := RX2) (T := TX2) (N := 15) hx hb hts inX2 hown hK.1 hP 11 rfl rfl 1 (by decide) (hts _ mf_X0_49) (fun _ h9 => h9) rfl dX0_findThree_82 ?_
                  rw [show (f 1) = nI (cl) from h1]
                  refine lv_icmp_ge (tgt := 201) hx hb dX0_findThree_85 (by decide) (fun c20 => ?_) (fun c20 => ?_)
                  · have b85 := qge_t (a := dd) (b := (cl)) (by omega) (by omega) c20
                    obtain ⟨v21, ev21⟩ : ∃ y9 : Int32, y9 = (nI qq) + Int32.ofInt (1) := ⟨_, rfl⟩
                    refine lv_iinc (v := v21) (lv' := [(6, .int v21), (8, .int (nI dd)), (7, .int (ptk ((r 8) (qq * 12 + j)) ((r 11) (qq * 12 + j)) ((tr 9) 5) ((tr 6) (qq * 12 + j)))), (5, .int (nI bs)), (0, .ref (ga 9)), (1, .ref (ta 0)), (2, .ref (a 15)), (3, .int (nI i)), (4, .int (nI j))]) hx hb dX0_findThree_201 hl (k := 2) rfl ev21.symm (by decide) rfl (fun ls hl => ?_)
                    obtain rfl : v21 = nI (qq + 1) := nI_plus (i := qq) (j := 1) ev21 rfl (by decide)
                    refine lv_goto (tgt := 17) hx hb dX0_findThree_204 (by decide) ?_
                    exact ih17k1 (qq + 1) bs bq bd x18 x19 (by omega) (by omega) (by omega) (hbv) (BST_r hbs hcl (by omega) (by omega)) _ _ _ hP hS (lv_sub hl [0, 3, 4, 5, 6, 7, 8] rfl)
                  · have b85 := qge_f (a := dd) (b := (cl)) (by omega) (by omega) c20
                    refine lv_iload hx hb dX0_findThree_88 (lv_at hl 0 rfl) ?_
                    refine lv_iload hx hb dX0_findThree_90 (lv_at hl 8 rfl) ?_
                    refine lv_icmp_ne (tgt := 98) hx hb dX0_findThree_92 (by decide) (fun c22 => ?_) (fun c22 => ?_)
                    · have b92 := qeq_f (a := dd) (b := j) (by omega) (by omega) c22
                      obtain ⟨m9, hm9, em9⟩ := hNN i dd hi b85 hsi
                      obtain ⟨m10, hm10, em10⟩ := hNN qq dd b23 b85 hsq
                      have hp9 := pr_le (ru := tr 9 5) hm9 em9
                      have hp10 := pr_le (ru := tr 9 5) hm10 em10
                      refine lv_aload_n hx hb dX0_findThree_98 rfl (lv_at hl 4 rfl) ?_
                      refine lv_aload_n hx hb dX0_findThree_99 rfl (lv_at hl 5 rfl) ?_
                      refine lv_aload_n hx hb dX0_findThree_100 rfl (lv_at hl 6 rfl) ?_
                      refine lv_iload_n hx hb dX0_findThree_101 rfl (lv_at hl 7 rfl) ?_
                      refine lv_iload hx hb dX0_findThree_102 (lv_at hl 0 rfl) ?_
                      refine rdSN (rest := [.ref (a 15), .ref (ta 0), .ref (ga 9)]) ⟨hx, hb, hml, hown, hts⟩ (c_X6_spotOf l G ((nI i)) ((nI dd))) mi_yX6_spotOf mst_yX6_spotOf (by decide +kernel) ⟨rfl, rfl, Nat.le_of_ble_eq_true rfl, Nat.le_of_ble_eq_true rfl⟩ hK (fun k q h => by simp at h) rfl hl.1 rfl (Nat.le_of_ble_eq_true rfl) dX0_findThree_104 ⟨Nat.zero_le _, Nat.zero_le _⟩ hS hA hP (fun r23 H locs hr23 hP hS => ?_)
                      obtain rfl : r23 = nI (i * 12 + dd) := spot_eq hr23
                      refine rdV (rest := []) (q0 := 25) ⟨hx, hb, hml, hown, hts⟩ (x_X0_priceToKeep l G x xa ta a b ga ua la lb lc tg gg xf tf f qf (upd (upd gf 7 x18) 8 x19) uf lf mf nf tr r q gr ur lr mr nr (i * 12 + dd)  (by omega)) mi_yX0_priceToKeep mv_yX0_priceToKeep ml_X0_88 ⟨rfl, rfl, Nat.le_of_ble_eq_true rfl, Nat.le_of_ble_eq_true rfl⟩ hK (hP) rfl rfl rfl hl.1 rfl (Nat.le_of_ble_eq_true rfl) dX0_findThree_107 ⟨Nat.zero_le _, Nat.zero_le _⟩ hS hA hP (fun r24 H locs hr24 hP hS => ?_)
                      obtain rfl := hr24
                      refine lv_istore (lv' := [(9, .int (ptk ((r 8) (i * 12 + dd)) ((r 11) (i * 12 + dd)) ((tr 9) 5) ((tr 6) (i * 12 + dd)))), (8, .int (nI dd)), (7, .int (ptk ((r 8) (qq * 12 + j)) ((r 11) (qq * 12 + j)) ((tr 9) 5) ((tr 6) (qq * 12 + j)))), (6, .int (nI qq)), (5, .int (nI bs)), (0, .ref (ga 9)), (1, .ref (ta 0)), (2, .ref (a 15)), (3, .int (nI i)), (4, .int (nI j))]) hx hb dX0_findThree_110 hl (by decide) rfl (fun ls hl => ?_)
                      refine lv_aload_n hx hb dX0_findThree_112 rfl (lv_at hl 5 rfl) ?_
                      refine lv_aload_n hx hb dX0_findThree_113 rfl (lv_at hl 6 rfl) ?_
                      refine lv_aload_n hx hb dX0_findThree_114 rfl (lv_at hl 7 rfl) ?_
                      refine lv_iload hx hb dX0_findThree_115 (lv_at hl 3 rfl) ?_
                      refine lv_iload hx hb dX0_findThree_117 (lv_at hl 1 rfl) ?_
                      refine rdSN (rest := [.ref (a 15), .ref (ta 0), .ref (ga 9)]) ⟨hx, hb, hml, hown, hts⟩ (c_X6_spotOf l G ((nI qq)) ((nI dd))) mi_yX6_spotOf mst_yX6_spotOf (by decide +kernel) ⟨rfl, rfl, Nat.le_of_ble_eq_true rfl, Nat.le_of_ble_eq_true rfl⟩ hK (fun k q h => by simp at h) rfl hl.1 rfl (Nat.le_of_ble_eq_true rfl) dX0_findThree_119 ⟨Nat.zero_le _, Nat.zero_le _⟩ hS hA hP (fun r25 H locs hr25 hP hS => ?_)
                      obtain rfl : r25 = nI (qq * 12 + dd) := spot_eq hr25
                      refine rdV (rest := []) (q0 := 25) ⟨hx, hb, hml, hown, hts⟩ (x_X0_priceToKeep l G x xa ta a b ga ua la lb lc tg gg xf tf f qf (upd (upd gf 7 x18) 8 x19) uf lf mf nf tr r q gr ur lr mr nr (qq * 12 + dd)  (by omega)) mi_yX0_priceToKeep mv_yX0_priceToKeep ml_X0_88 ⟨rfl, rfl, Nat.le_of_ble_eq_true rfl, Nat.le_of_ble_eq_true rfl⟩ hK (hP) rfl rfl rfl hl.1 rfl (Nat.le_of_ble_eq_true rfl) dX0_findThree_122 ⟨Nat.zero_le _, Nat.zero_le _⟩ hS hA hP (fun r26 H locs hr26 hP hS => ?_)
                      obtain rfl := hr26
                      refine lv_istore (lv' := [(10, .int (ptk ((r 8) (qq * 12 + dd)) ((r 11) (qq * 12 + dd)) ((tr 9) 5) ((tr 6) (qq * 12 + dd)))), (9, .int (ptk ((r 8) (i * 12 + dd)) ((r 11) (i * 12 + dd)) ((tr 9) 5) ((tr 6) (i * 12 + dd)))), (8, .int (nI dd)), (7, .int (ptk ((r 8) (qq * 12 + j)) ((r 11) (qq * 12 + j)) ((tr 9) 5) ((tr 6) (qq * 12 + j)))), (6, .int (nI qq)), (5, .int (nI bs)), (0, .ref (ga 9)), (1, .ref (ta 0)), (2, .ref (a 15)), (3, .int (nI i)), (4, .int (nI j))]) hx hb dX0_findThree_125 hl (by decide) rfl (fun ls hl => ?_)
                      refine lv_iload hx hb dX0_findThree_127 (lv_at hl 3 rfl) ?_
                      refine lv_iconst (v := -1) hx hb dX0_findThree_129 (by decide) ?_
                      refine lv_icmp_eq (tgt := 149) hx hb dX0_findThree_130 (by decide) (fun c27 => ?_) (fun c27 => ?_)
                      · refine lv_iconst (v := 0) hx hb dX0_findThree_149 (by decide) ?_
                        refine lv_istore (lv' := [(11, .int 0), (10, .int (ptk ((r 8) (qq * 12 + dd)) ((r 11) (qq * 12 + dd)) ((tr 9) 5) ((tr 6) (qq * 12 + dd)))), (9, .int (ptk ((r 8) (i * 12 + dd)) ((r 11) (i * 12 + dd)) ((tr 9) 5) ((tr 6) (i * 12 + dd)))), (8, .int (nI dd)), (7, .int (ptk ((r 8) (qq * 12 + j)) ((r 11) (qq * 12 + j)) ((tr 9) 5) ((tr 6) (qq * 12 + j)))), (6, .int (nI qq)), (5, .int (nI bs)), (0, .ref (ga 9)), (1, .ref (ta 0)), (2, .ref (a 15)), (3, .int (nI i)), (4, .int (nI j))]) hx hb dX0_findThree_150 hl (by decide) rfl (fun ls hl => ?_)
                        refine lv_iload hx hb dX0_findThree_152 (lv_at hl 4 rfl) ?_
                        refine lv_iload hx hb dX0_findThree_154 (lv_at hl 2 rfl) ?_
                        refine lv_iadd hx hb dX0_findThree_156 ?_
                        refine lv_topi (fun v28 ev28 => ?_)
                        refine lv_iload hx hb dX0_findThree_157 (lv_at hl 1 rfl) ?_
                        refine lv_iadd hx hb dX0_findThree_159 ?_
                        refine lv_topi (fun v29 ev29 => ?_)
                        refine lv_istore (lv' := [(12, .int v29), (11, .int 0), (10, .int (ptk ((r 8) (qq * 12 + dd)) ((r 11) (qq * 12 + dd)) ((tr 9) 5) ((tr 6) (qq * 12 + dd)))), (9, .int (ptk ((r 8) (i * 12 + dd)) ((r 11) (i * 12 + dd)) ((tr 9) 5) ((tr 6) (i * 12 + dd)))), (8, .int (nI dd)), (7, .int (ptk ((r 8) (qq * 12 + j)) ((r 11) (qq * 12 + j)) ((tr 9) 5) ((tr 6) (qq * 12 + j)))), (6, .int (nI qq)), (5, .int (nI bs)), (0, .ref (ga 9)), (1, .ref (ta 0)), (2, .ref (a 15)), (3, .int (nI i)), (4, .int (nI j))]) hx hb dX0_findThree_160 hl (by decide) rfl (fun ls hl => ?_)
                        refine lv_iload hx hb dX0_findThree_162 (lv_at hl 1 rfl) ?_
                        refine lv_if_eq (tgt := 195) hx hb dX0_findThree_164 (by decide) (fun c30 => ?_) (fun c30 => absurd (by decide) c30)
                        obtain ⟨v31, ev31⟩ : ∃ y9 : Int32, y9 = (nI dd) + Int32.ofInt (1) := ⟨_, rfl⟩
                        refine lv_iinc (v := v31) (lv' := [(8, .int v31), (12, .int v29), (11, .int 0), (10, .int (ptk ((r 8) (qq * 12 + dd)) ((r 11) (qq * 12 + dd)) ((tr 9) 5) ((tr 6) (qq * 12 + dd)))), (9, .int (ptk ((r 8) (i * 12 + dd)) ((r 11) (i * 12 + dd)) ((tr 9) 5) ((tr 6) (i * 12 + dd)))), (7, .int (ptk ((r 8) (qq * 12 + j)) ((r 11) (qq * 12 + j)) ((tr 9) 5) ((tr 6) (qq * 12 + j)))), (6, .int (nI qq)), (5, .int (nI bs)), (0, .ref (ga 9)), (1, .ref (ta 0)), (2, .ref (a 15)), (3, .int (nI i)), (4, .int (nI j))]) hx hb dX0_findThree_195 hl (k := 4) rfl ev31.symm (by decide) rfl (fun ls hl => ?_)
                        obtain rfl : v31 = nI (dd + 1) := nI_plus (i := dd) (j := 1) ev31 rfl (by decide)
                        refine lv_goto (tgt := 79) hx hb dX0_findThree_198 (by decide) ?_
                        exact ih79k16 (dd + 1) bs bq bd x18 x19 (by omega) (by omega) (by omega) (hbv) (BST_n hbs hcl (by omega) (fun h9 => h9.2.2.2.2.2.2.1 (ptk_z hm7 em7 c27))) _ _ _ hP hS (lv_sub hl [0, 5, 6, 7, 8, 9, 10, 11, 12] rfl)
                      · refine lv_iload hx hb dX0_findThree_133 (lv_at hl 1 rfl) ?_
                        refine lv_iconst (v := -1) hx hb dX0_findThree_135 (by decide) ?_
                        refine lv_icmp_eq (tgt := 149) hx hb dX0_findThree_136 (by decide) (fun c32 => ?_) (fun c32 => ?_)
                        · refine lv_iconst (v := 0) hx hb dX0_findThree_149 (by decide) ?_
                          refine lv_istore (lv' := [(11, .int 0), (10, .int (ptk ((r 8) (qq * 12 + dd)) ((r 11) (qq * 12 + dd)) ((tr 9) 5) ((tr 6) (qq * 12 + dd)))), (9, .int (ptk ((r 8) (i * 12 + dd)) ((r 11) (i * 12 + dd)) ((tr 9) 5) ((tr 6) (i * 12 + dd)))), (8, .int (nI dd)), (7, .int (ptk ((r 8) (qq * 12 + j)) ((r 11) (qq * 12 + j)) ((tr 9) 5) ((tr 6) (qq * 12 + j)))), (6, .int (nI qq)), (5, .int (nI bs)), (0, .ref (ga 9)), (1, .ref (ta 0)), (2, .ref (a 15)), (3, .int (nI i)), (4, .int (nI j))]) hx hb dX0_findThree_150 hl (by decide) rfl (fun ls hl => ?_)
                          refine lv_iload hx hb dX0_findThree_152 (lv_at hl 4 rfl) ?_
                          refine lv_iload hx hb dX0_findThree_154 (lv_at hl 2 rfl) ?_
                          refine lv_iadd hx hb dX0_findThree_156 ?_
                          refine lv_topi (fun v33 ev33 => ?_)
                          refine lv_iload hx hb dX0_findThree_157 (lv_at hl 1 rfl) ?_
                          refine lv_iadd hx hb dX0_findThree_159 ?_
                          refine lv_topi (fun v34 ev34 => ?_)
                          refine lv_istore (lv' := [(12, .int v34), (11, .int 0), (10, .int (ptk ((r 8) (qq * 12 + dd)) ((r 11) (qq * 12 + dd)) ((tr 9) 5) ((tr 6) (qq * 12 + dd)))), (9, .int (ptk ((r 8) (i * 12 + dd)) ((r 11) (i * 12 + dd)) ((tr 9) 5) ((tr 6) (i * 12 + dd)))), (8, .int (nI dd)), (7, .int (ptk ((r 8) (qq * 12 + j)) ((r 11) (qq * 12 + j)) ((tr 9) 5) ((tr 6) (qq * 12 + j)))), (6, .int (nI qq)), (5, .int (nI bs)), (0, .ref (ga 9)), (1, .ref (ta 0)), (2, .ref (a 15)), (3, .int (nI i)), (4, .int (nI j))]) hx hb dX0_findThree_160 hl (by decide) rfl (fun ls hl => ?_)
                          refine lv_iload hx hb dX0_findThree_162 (lv_at hl 1 rfl) ?_
                          refine lv_if_eq (tgt := 195) hx hb dX0_findThree_164 (by decide) (fun c35 => ?_) (fun c35 => absurd (by decide) c35)
                          obtain ⟨v36, ev36⟩ : ∃ y9 : Int32, y9 = (nI dd) + Int32.ofInt (1) := ⟨_, rfl⟩
                          refine lv_iinc (v := v36) (lv' := [(8, .int v36), (12, .int v34), (11, .int 0), (10, .int (ptk ((r 8) (qq * 12 + dd)) ((r 11) (qq * 12 + dd)) ((tr 9) 5) ((tr 6) (qq * 12 + dd)))), (9, .int (ptk ((r 8) (i * 12 + dd)) ((r 11) (i * 12 + dd)) ((tr 9) 5) ((tr 6) (i * 12 + dd)))), (7, .int (ptk ((r 8) (qq * 12 + j)) ((r 11) (qq * 12 + j)) ((tr 9) 5) ((tr 6) (qq * 12 + j)))), (6, .int (nI qq)), (5, .int (nI bs)), (0, .ref (ga 9)), (1, .ref (ta 0)), (2, .ref (a 15)), (3, .int (nI i)), (4, .int (nI j))]) hx hb dX0_findThree_195 hl (k := 4) rfl ev36.symm (by decide) rfl (fun ls hl => ?_)
                          obtain rfl : v36 = nI (dd + 1) := nI_plus (i := dd) (j := 1) ev36 rfl (by decide)
                          refine lv_goto (tgt := 79) hx hb dX0_findThree_198 (by decide) ?_
                          exact ih79k16 (dd + 1) bs bq bd x18 x19 (by omega) (by omega) (by omega) (hbv) (BST_n hbs hcl (by omega) (fun h9 => h9.2.2.2.2.2.1 (ptk_z hm9 em9 c32))) _ _ _ hP hS (lv_sub hl [0, 5, 6, 7, 8, 9, 10, 11, 12] rfl)
                        · refine lv_iload hx hb dX0_findThree_139 (lv_at hl 0 rfl) ?_
                          refine lv_iconst (v := -1) hx hb dX0_findThree_141 (by decide) ?_
                          refine lv_icmp_eq (tgt := 149) hx hb dX0_findThree_142 (by decide) (fun c37 => ?_) (fun c37 => ?_)
                          · refine lv_iconst (v := 0) hx hb dX0_findThree_149 (by decide) ?_
                            refine lv_istore (lv' := [(11, .int 0), (10, .int (ptk ((r 8) (qq * 12 + dd)) ((r 11) (qq * 12 + dd)) ((tr 9) 5) ((tr 6) (qq * 12 + dd)))), (9, .int (ptk ((r 8) (i * 12 + dd)) ((r 11) (i * 12 + dd)) ((tr 9) 5) ((tr 6) (i * 12 + dd)))), (8, .int (nI dd)), (7, .int (ptk ((r 8) (qq * 12 + j)) ((r 11) (qq * 12 + j)) ((tr 9) 5) ((tr 6) (qq * 12 + j)))), (6, .int (nI qq)), (5, .int (nI bs)), (0, .ref (ga 9)), (1, .ref (ta 0)), (2, .ref (a 15)), (3, .int (nI i)), (4, .int (nI j))]) hx hb dX0_findThree_150 hl (by decide) rfl (fun ls hl => ?_)
                            refine lv_iload hx hb dX0_findThree_152 (lv_at hl 4 rfl) ?_
                            refine lv_iload hx hb dX0_findThree_154 (lv_at hl 2 rfl) ?_
                            refine lv_iadd hx hb dX0_findThree_156 ?_
                            refine lv_topi (fun v38 ev38 => ?_)
                            refine lv_iload hx hb dX0_findThree_157 (lv_at hl 1 rfl) ?_
                            refine lv_iadd hx hb dX0_findThree_159 ?_
                            refine lv_topi (fun v39 ev39 => ?_)
                            refine lv_istore (lv' := [(12, .int v39), (11, .int 0), (10, .int (ptk ((r 8) (qq * 12 + dd)) ((r 11) (qq * 12 + dd)) ((tr 9) 5) ((tr 6) (qq * 12 + dd)))), (9, .int (ptk ((r 8) (i * 12 + dd)) ((r 11) (i * 12 + dd)) ((tr 9) 5) ((tr 6) (i * 12 + dd)))), (8, .int (nI dd)), (7, .int (ptk ((r 8) (qq * 12 + j)) ((r 11) (qq * 12 + j)) ((tr 9) 5) ((tr 6) (qq * 12 + j)))), (6, .int (nI qq)), (5, .int (nI bs)), (0, .ref (ga 9)), (1, .ref (ta 0)), (2, .ref (a 15)), (3, .int (nI i)), (4, .int (nI j))]) hx hb dX0_findThree_160 hl (by decide) rfl (fun ls hl => ?_)
                            refine lv_iload hx hb dX0_findThree_162 (lv_at hl 1 rfl) ?_
                            refine lv_if_eq (tgt := 195) hx hb dX0_findThree_164 (by decide) (fun c40 => ?_) (fun c40 => absurd (by decide) c40)
                            obtain ⟨v41, ev41⟩ : ∃ y9 : Int32, y9 = (nI dd) + Int32.ofInt (1) := ⟨_, rfl⟩
                            refine lv_iinc (v := v41) (lv' := [(8, .int v41), (12, .int v39), (11, .int 0), (10, .int (ptk ((r 8) (qq * 12 + dd)) ((r 11) (qq * 12 + dd)) ((tr 9) 5) ((tr 6) (qq * 12 + dd)))), (9, .int (ptk ((r 8) (i * 12 + dd)) ((r 11) (i * 12 + dd)) ((tr 9) 5) ((tr 6) (i * 12 + dd)))), (7, .int (ptk ((r 8) (qq * 12 + j)) ((r 11) (qq * 12 + j)) ((tr 9) 5) ((tr 6) (qq * 12 + j)))), (6, .int (nI qq)), (5, .int (nI bs)), (0, .ref (ga 9)), (1, .ref (ta 0)), (2, .ref (a 15)), (3, .int (nI i)), (4, .int (nI j))]) hx hb dX0_findThree_195 hl (k := 4) rfl ev41.symm (by decide) rfl (fun ls hl => ?_)
                            obtain rfl : v41 = nI (dd + 1) := nI_plus (i := dd) (j := 1) ev41 rfl (by decide)
                            refine lv_goto (tgt := 79) hx hb dX0_findThree_198 (by decide) ?_
                            exact ih79k16 (dd + 1) bs bq bd x18 x19 (by omega) (by omega) (by omega) (hbv) (BST_n hbs hcl (by omega) (fun h9 => h9.2.2.2.2.2.2.2.1 (ptk_z hm10 em10 c37))) _ _ _ hP hS (lv_sub hl [0, 5, 6, 7, 8, 9, 10, 11, 12] rfl)
                          · have f7 := pcT_n (ru := tr 9) (nu := tr 6) (k11 := r 11) (x := qq) (y := j) (ptk_4 c27) hm7 em7 rfl
                            rw [f7] at hl
                            have l7 : pcT (prA (tr 9) (tr 6)) (KA (r 11)) qq j ≤ 1000001 := by unfold pcT; split; omega; exact (hp7).2
                            have f9 := pcT_n (ru := tr 9) (nu := tr 6) (k11 := r 11) (x := i) (y := dd) (ptk_4 c32) hm9 em9 rfl
                            rw [f9] at hl
                            have l9 : pcT (prA (tr 9) (tr 6)) (KA (r 11)) i dd ≤ 1000001 := by unfold pcT; split; omega; exact (hp9).2
                            have f10 := pcT_n (ru := tr 9) (nu := tr 6) (k11 := r 11) (x := qq) (y := dd) (ptk_4 c37) hm10 em10 rfl
                            rw [f10] at hl
                            have l10 : pcT (prA (tr 9) (tr 6)) (KA (r 11)) qq dd ≤ 1000001 := by unfold pcT; split; omega; exact (hp10).2
                            have hzz : ¬ (zzA (r 8)) i dd ∧ ¬ (zzA (r 8)) qq j ∧ ¬ (zzA (r 8)) qq dd := ⟨ptk_4 c32, ptk_4 c27, ptk_4 c37⟩
                            refine lv_iconst (v := 1) hx hb dX0_findThree_145 (by decide) ?_
                            refine lv_goto (tgt := 150) hx hb dX0_findThree_146 (by decide) ?_
                            refine lv_istore (lv' := [(11, .int 1), (10, .int (nI (pcT (prA (tr 9) (tr 6)) (KA (r 11)) qq dd))), (9, .int (nI (pcT (prA (tr 9) (tr 6)) (KA (r 11)) i dd))), (8, .int (nI dd)), (7, .int (nI (pcT (prA (tr 9) (tr 6)) (KA (r 11)) qq j))), (6, .int (nI qq)), (5, .int (nI bs)), (0, .ref (ga 9)), (1, .ref (ta 0)), (2, .ref (a 15)), (3, .int (nI i)), (4, .int (nI j))]) hx hb dX0_findThree_150 hl (by decide) rfl (fun ls hl => ?_)
                            refine lv_iload hx hb dX0_findThree_152 (lv_at hl 4 rfl) ?_
                            refine lv_iload hx hb dX0_findThree_154 (lv_at hl 2 rfl) ?_
                            refine lv_iadd hx hb dX0_findThree_156 ?_
                            refine lv_topi (fun v42 ev42 => ?_)
                            obtain rfl : v42 = nI ((pcT (prA (tr 9) (tr 6)) (KA (r 11)) qq j) + (pcT (prA (tr 9) (tr 6)) (KA (r 11)) i dd)) := nI_plus ev42 rfl rfl
                            refine lv_iload hx hb dX0_findThree_157 (lv_at hl 1 rfl) ?_
                            refine lv_iadd hx hb dX0_findThree_159 ?_
                            refine lv_topi (fun v43 ev43 => ?_)
                            obtain rfl : v43 = nI (((pcT (prA (tr 9) (tr 6)) (KA (r 11)) qq j) + (pcT (prA (tr 9) (tr 6)) (KA (r 11)) i dd)) + (pcT (prA (tr 9) (tr 6)) (KA (r 11)) qq dd)) := nI_plus ev43 rfl rfl
                            refine lv_istore (lv' := [(12, .int (nI (((pcT (prA (tr 9) (tr 6)) (KA (r 11)) qq j) + (pcT (prA (tr 9) (tr 6)) (KA (r 11)) i dd)) + (pcT (prA (tr 9) (tr 6)) (KA (r 11)) qq dd)))), (11, .int 1), (10, .int (nI (pcT (prA (tr 9) (tr 6)) (KA (r 11)) qq dd))), (9, .int (nI (pcT (prA (tr 9) (tr 6)) (KA (r 11)) i dd))), (8, .int (nI dd)), (7, .int (nI (pcT (prA (tr 9) (tr 6)) (KA (r 11)) qq j))), (6, .int (nI qq)), (5, .int (nI bs)), (0, .ref (ga 9)), (1, .ref (ta 0)), (2, .ref (a 15)), (3, .int (nI i)), (4, .int (nI j))]) hx hb dX0_findThree_160 hl (by decide) rfl (fun ls hl => ?_)
                            refine lv_iload hx hb dX0_findThree_162 (lv_at hl 1 rfl) ?_
                            refine lv_if_eq (tgt := 195) hx hb dX0_findThree_164 (by decide) (fun c44 => absurd c44 (by decide)) (fun c44 => ?_)
                            refine lv_iload hx hb dX0_findThree_167 (lv_at hl 0 rfl) ?_
                            refine lv_if_le (tgt := 195) hx hb dX0_findThree_169 (by decide) (fun c45 => ?_) (fun c45 => ?_)
                            · have b169 := qle_t (a := (((pcT (prA (tr 9) (tr 6)) (KA (r 11)) qq j) + (pcT (prA (tr 9) (tr 6)) (KA (r 11)) i dd)) + (pcT (prA (tr 9) (tr 6)) (KA (r 11)) qq dd))) (b := 0) (by omega) (by omega) c45
                              rw [← f7] at hl
                              obtain ⟨v46, ev46⟩ : ∃ y9 : Int32, y9 = (nI dd) + Int32.ofInt (1) := ⟨_, rfl⟩
                              refine lv_iinc (v := v46) (lv' := [(8, .int v46), (12, .int (nI (((pcT (prA (tr 9) (tr 6)) (KA (r 11)) qq j) + (pcT (prA (tr 9) (tr 6)) (KA (r 11)) i dd)) + (pcT (prA (tr 9) (tr 6)) (KA (r 11)) qq dd)))), (11, .int 1), (10, .int (nI (pcT (prA (tr 9) (tr 6)) (KA (r 11)) qq dd))), (9, .int (nI (pcT (prA (tr 9) (tr 6)) (KA (r 11)) i dd))), (7, .int (ptk ((r 8) (qq * 12 + j)) ((r 11) (qq * 12 + j)) ((tr 9) 5) ((tr 6) (qq * 12 + j)))), (6, .int (nI qq)), (5, .int (nI bs)), (0, .ref (ga 9)), (1, .ref (ta 0)), (2, .ref (a 15)), (3, .int (nI i)), (4, .int (nI j))]) hx hb dX0_findThree_195 hl (k := 4) rfl ev46.symm (by decide) rfl (fun ls hl => ?_)
                              obtain rfl : v46 = nI (dd + 1) := nI_plus (i := dd) (j := 1) ev46 rfl (by decide)
                              refine lv_goto (tgt := 79) hx hb dX0_findThree_198 (by decide) ?_
                              exact ih79k16 (dd + 1) bs bq bd x18 x19 (by omega) (by omega) (by omega) (hbv) (BST_n hbs hcl (by omega) (fun h9 => h9.2.2.2.2.2.2.2.2 (pc3_0 (pr := (prA (tr 9) (tr 6))) b169 hp7.1 hp9.1 hp10.1))) _ _ _ hP hS (lv_sub hl [0, 5, 6, 7, 8, 9, 10, 11, 12] rfl)
                            · have b169 := qle_f (a := (((pcT (prA (tr 9) (tr 6)) (KA (r 11)) qq j) + (pcT (prA (tr 9) (tr 6)) (KA (r 11)) i dd)) + (pcT (prA (tr 9) (tr 6)) (KA (r 11)) qq dd))) (b := 0) (by omega) (by omega) c45
                              have hcd : CAND rw cl (mtA (r 6) (r 7)) (zzA (r 8)) (KA (r 11)) i j qq dd := ⟨b23, b85, b29, b92, hmt, hzz.1, hzz.2.1, hzz.2.2, pc3_p (pr := (prA (tr 9) (tr 6))) b169⟩
                              refine lv_iload hx hb dX0_findThree_172 (lv_at hl 0 rfl) ?_
                              refine lv_iload hx hb dX0_findThree_174 (lv_at hl 7 rfl) ?_
                              refine lv_icmp_ge (tgt := 195) hx hb dX0_findThree_176 (by decide) (fun c47 => ?_) (fun c47 => ?_)
                              · have b176 := qge_t (a := (((pcT (prA (tr 9) (tr 6)) (KA (r 11)) qq j) + (pcT (prA (tr 9) (tr 6)) (KA (r 11)) i dd)) + (pcT (prA (tr 9) (tr 6)) (KA (r 11)) qq dd))) (b := bs) (by omega) (by omega) c47
                                rw [← f7] at hl
                                obtain ⟨v48, ev48⟩ : ∃ y9 : Int32, y9 = (nI dd) + Int32.ofInt (1) := ⟨_, rfl⟩
                                refine lv_iinc (v := v48) (lv' := [(8, .int v48), (12, .int (nI (((pcT (prA (tr 9) (tr 6)) (KA (r 11)) qq j) + (pcT (prA (tr 9) (tr 6)) (KA (r 11)) i dd)) + (pcT (prA (tr 9) (tr 6)) (KA (r 11)) qq dd)))), (11, .int 1), (10, .int (nI (pcT (prA (tr 9) (tr 6)) (KA (r 11)) qq dd))), (9, .int (nI (pcT (prA (tr 9) (tr 6)) (KA (r 11)) i dd))), (7, .int (ptk ((r 8) (qq * 12 + j)) ((r 11) (qq * 12 + j)) ((tr 9) 5) ((tr 6) (qq * 12 + j)))), (6, .int (nI qq)), (5, .int (nI bs)), (0, .ref (ga 9)), (1, .ref (ta 0)), (2, .ref (a 15)), (3, .int (nI i)), (4, .int (nI j))]) hx hb dX0_findThree_195 hl (k := 4) rfl ev48.symm (by decide) rfl (fun ls hl => ?_)
                                obtain rfl : v48 = nI (dd + 1) := nI_plus (i := dd) (j := 1) ev48 rfl (by decide)
                                refine lv_goto (tgt := 79) hx hb dX0_findThree_198 (by decide) ?_
                                exact ih79k16 (dd + 1) bs bq bd x18 x19 (by omega) (by omega) (by omega) (hbv) (hbv.elim (fun z9 => absurd b176 (by omega)) (fun z9 => BST_keep hbs hcl (by omega) (fun h9 => nI_nm1 (by omega) (z9.1.symm.trans h9)) (by have h8 := z9.2.2.2; unfold pc3 at h8 ⊢; omega))) _ _ _ hP hS (lv_sub hl [0, 5, 6, 7, 8, 9, 10, 11, 12] rfl)
                              · have b176 := qge_f (a := (((pcT (prA (tr 9) (tr 6)) (KA (r 11)) qq j) + (pcT (prA (tr 9) (tr 6)) (KA (r 11)) i dd)) + (pcT (prA (tr 9) (tr 6)) (KA (r 11)) qq dd))) (b := bs) (by omega) (by omega) c47
                                refine lv_iload hx hb dX0_findThree_179 (lv_at hl 0 rfl) ?_
                                refine lv_istore (lv' := [(5, .int (nI (((pcT (prA (tr 9) (tr 6)) (KA (r 11)) qq j) + (pcT (prA (tr 9) (tr 6)) (KA (r 11)) i dd)) + (pcT (prA (tr 9) (tr 6)) (KA (r 11)) qq dd)))), (12, .int (nI (((pcT (prA (tr 9) (tr 6)) (KA (r 11)) qq j) + (pcT (prA (tr 9) (tr 6)) (KA (r 11)) i dd)) + (pcT (prA (tr 9) (tr 6)) (KA (r 11)) qq dd)))), (11, .int 1), (10, .int (nI (pcT (prA (tr 9) (tr 6)) (KA (r 11)) qq dd))), (9, .int (nI (pcT (prA (tr 9) (tr 6)) (KA (r 11)) i dd))), (8, .int (nI dd)), (7, .int (nI (pcT (prA (tr 9) (tr 6)) (KA (r 11)) qq j))), (6, .int (nI qq)), (0, .ref (ga 9)), (1, .ref (ta 0)), (2, .ref (a 15)), (3, .int (nI i)), (4, .int (nI j))]) hx hb dX0_findThree_181 hl (by decide) rfl (fun ls hl => ?_)
                                refine lv_aload_n hx hb dX0_findThree_183 rfl (lv_at hl 8 rfl) ?_
                                refine lv_iload hx hb dX0_findThree_184 (lv_at hl 7 rfl) ?_
                                refine va_put (D := G.1) (ci := 0) (v := .int (nI qq)) (C := RX0) (T := TX0) (N := 9) hx hb hts inX0 tyX0 tyX0_ok nmX0 hown hK.1 hP (hDD _ _ _ _ _ _ _ _ _ _ _ _ _ _ _ _ _) hS 25 rfl rfl 7 (by decide) (hts _ mf_X0_35) (fun _ h9 => h9) rfl (tyX0_ok 7 (by decide)) (rfl) (rfl) (Nat.le_of_ble_eq_true rfl) dX0_findThree_186 (fun H locs hP _ hS => ?_)
                                have hP : PP G (xM G x xa ta a b ga ua la lb lc tg gg xf tf f qf (upd (upd gf 7 (nI qq)) 8 x19) uf lf mf nf tr r q gr ur lr mr nr) H := hP
                                refine lv_aload_n hx hb dX0_findThree_189 rfl (lv_at hl 8 rfl) ?_
                                refine lv_iload hx hb dX0_findThree_190 (lv_at hl 5 rfl) ?_
                                refine va_put (D := G.1) (ci := 0) (v := .int (nI dd)) (C := RX0) (T := TX0) (N := 9) hx hb hts inX0 tyX0 tyX0_ok nmX0 hown hK.1 hP (hDD _ _ _ _ _ _ _ _ _ _ _ _ _ _ _ _ _) hS 25 rfl rfl 8 (by decide) (hts _ mf_X0_38) (fun _ h9 => h9) rfl (tyX0_ok 8 (by decide)) (rfl) (rfl) (Nat.le_of_ble_eq_true rfl) dX0_findThree_192 (fun H locs hP _ hS => ?_)
                                have hP : PP G (xM G x xa ta a b ga ua la lb lc tg gg xf tf f qf (upd (upd gf 7 (nI qq)) 8 (nI dd)) uf lf mf nf tr r q gr ur lr mr nr) H := hP
                                rw [← f7] at hl
                                obtain ⟨v49, ev49⟩ : ∃ y9 : Int32, y9 = (nI dd) + Int32.ofInt (1) := ⟨_, rfl⟩
                                refine lv_iinc (v := v49) (lv' := [(8, .int v49), (5, .int (nI (((pcT (prA (tr 9) (tr 6)) (KA (r 11)) qq j) + (pcT (prA (tr 9) (tr 6)) (KA (r 11)) i dd)) + (pcT (prA (tr 9) (tr 6)) (KA (r 11)) qq dd)))), (12, .int (nI (((pcT (prA (tr 9) (tr 6)) (KA (r 11)) qq j) + (pcT (prA (tr 9) (tr 6)) (KA (r 11)) i dd)) + (pcT (prA (tr 9) (tr 6)) (KA (r 11)) qq dd)))), (11, .int 1), (10, .int (nI (pcT (prA (tr 9) (tr 6)) (KA (r 11)) qq dd))), (9, .int (nI (pcT (prA (tr 9) (tr 6)) (KA (r 11)) i dd))), (7, .int (ptk ((r 8) (qq * 12 + j)) ((r 11) (qq * 12 + j)) ((tr 9) 5) ((tr 6) (qq * 12 + j)))), (6, .int (nI qq)), (0, .ref (ga 9)), (1, .ref (ta 0)), (2, .ref (a 15)), (3, .int (nI i)), (4, .int (nI j))]) hx hb dX0_findThree_195 hl (k := 5) rfl ev49.symm (by decide) rfl (fun ls hl => ?_)
                                obtain rfl : v49 = nI (dd + 1) := nI_plus (i := dd) (j := 1) ev49 rfl (by decide)
                                refine lv_goto (tgt := 79) hx hb dX0_findThree_198 (by decide) ?_
                                exact ih79k16 (dd + 1) (((pcT (prA (tr 9) (tr 6)) (KA (r 11)) qq j) + (pcT (prA (tr 9) (tr 6)) (KA (r 11)) i dd)) + (pcT (prA (tr 9) (tr 6)) (KA (r 11)) qq dd)) qq dd (nI qq) (nI dd) (by omega) (by omega) (by omega) (Or.inr ⟨rfl, rfl, by omega, rfl⟩) (BST_take hbs hcl hcd (fun h9 => by have h8 := (hbv.resolve_left (fun z9 => h9 z9.1)).2.2.2; unfold pc3 at h8 ⊢; omega) (nI_nm1 (by omega))) _ _ _ hP hS (lv_sub hl [0, 6, 7, 1, 8, 9, 10, 11, 12] rfl)
                    · have b92 := qeq_t (a := dd) (b := j) (by omega) (by omega) c22
                      refine lv_goto (tgt := 195) hx hb dX0_findThree_95 (by decide) ?_
                      obtain ⟨v50, ev50⟩ : ∃ y9 : Int32, y9 = (nI dd) + Int32.ofInt (1) := ⟨_, rfl⟩
                      refine lv_iinc (v := v50) (lv' := [(8, .int v50), (7, .int (ptk ((r 8) (qq * 12 + j)) ((r 11) (qq * 12 + j)) ((tr 9) 5) ((tr 6) (qq * 12 + j)))), (6, .int (nI qq)), (5, .int (nI bs)), (0, .ref (ga 9)), (1, .ref (ta 0)), (2, .ref (a 15)), (3, .int (nI i)), (4, .int (nI j))]) hx hb dX0_findThree_195 hl (k := 0) rfl ev50.symm (by decide) rfl (fun ls hl => ?_)
                      obtain rfl : v50 = nI (dd + 1) := nI_plus (i := dd) (j := 1) ev50 rfl (by decide)
                      refine lv_goto (tgt := 79) hx hb dX0_findThree_198 (by decide) ?_
                      exact ih79k16 (dd + 1) bs bq bd x18 x19 (by omega) (by omega) (by omega) (hbv) (BST_n hbs hcl (by omega) (fun h9 => h9.2.2.2.1 b92)) _ _ _ hP hS (lv_sub hl [0, 1, 2, 3, 4, 5, 6, 7, 8] rfl)
              exact loop79 (cl + 1) 0 bs bq bd x3 x4 (by omega) (by omega) (by omega) (hbv) (by rw [Nat.add_zero]; exact hbs) _ _ _ hP hS (lv_sub hl [0, 1, 2, 3, 4, 5, 6, 7, 8] rfl)
            · refine lv_goto (tgt := 201) hx hb dX0_findThree_58 (by decide) ?_
              obtain ⟨v51, ev51⟩ : ∃ y9 : Int32, y9 = (nI qq) + Int32.ofInt (1) := ⟨_, rfl⟩
              refine lv_iinc (v := v51) (lv' := [(6, .int v51), (5, .int (nI bs)), (0, .ref (ga 9)), (1, .ref (ta 0)), (2, .ref (a 15)), (3, .int (nI i)), (4, .int (nI j))]) hx hb dX0_findThree_201 hl (k := 0) rfl ev51.symm (by decide) rfl (fun ls hl => ?_)
              obtain rfl : v51 = nI (qq + 1) := nI_plus (i := qq) (j := 1) ev51 rfl (by decide)
              refine lv_goto (tgt := 17) hx hb dX0_findThree_204 (by decide) ?_
              exact ih17k1 (qq + 1) bs bq bd x3 x4 (by omega) (by omega) (by omega) (hbv) (BST_q hbs hcl (fun d9 h9 => c13 h9.2.2.2.2.1.2)) _ _ _ hP hS (lv_sub hl [0, 1, 2, 3, 4, 5, 6] rfl)
  exact loop17 (rw + 1) 0 1073741824 0 0 (-1) (-1) (by omega) (by omega) (by omega) (Or.inl ⟨rfl, rfl⟩) (Or.inl ⟨fun h9 => h9 rfl, fun _ _ _ h9 => absurd h9 (by omega)⟩) _ _ _ hP hS (lv_sub hl [0, 1, 2, 3, 4, 5, 6] rfl)
set_option maxHeartbeats 4000000 in
set_option maxRecDepth 100000 in
theorem x_X0_keepOne (l : Launch) (G : GG) (x : Nat) (xa ta a b ga ua la lb lc : Nat → Nat) (tg gg : Nat → Option Nat) (xf tf f qf gf uf lf mf nf : Nat → Int32) (tr r q gr ur lr mr nr : Nat → Nat → Int32) (sp : Nat) (hsp : sp < 144) : WrI l yX0_keepOne cX0_keepOne 3 (some .int) ({ frames := 1, cells := 0, slots := 0, locals := 21 }) G (xM G x xa ta a b ga ua la lb lc tg gg xf tf f qf gf uf lf mf nf tr r q gr ur lr mr nr) [.ref (ga 9), .ref (a 15), .int (nI sp)] (fun qz w => ∃ (n_f_4 : Int32) (n_gr_0 : Nat → Int32) (n_r_11 : Nat → Int32), w = xM G x xa ta a b ga ua la lb lc tg gg xf tf (upd f 4 n_f_4) qf gf uf lf mf nf tr (up2 r 11 n_r_11) q (up2 gr 0 n_gr_0) ur lr mr nr ∧ qz = nI (if (r 11) sp = 0 then 1 else 0) ∧ (n_gr_0 = upd (gr 0) sp 1) ∧ (((r 11) sp = 0 ∧ n_r_11 = upd (r 11) sp 1 ∧ n_f_4 = -2) ∨ (¬ (r 11) sp = 0 ∧ n_r_11 = (r 11) ∧ n_f_4 = (f 4)))) := by
  refine wr_entryI (by decide +kernel) (Nat.le_of_ble_eq_true rfl) ?_
  intro p e s m below meth c A C0 hP hK hD hA ls hl
  have hS : va_S A s.heap s.heap [] := va_S.rf
  obtain ⟨hx, hb, hml, hown, hts, hr, hlocks, hin⟩ := C0
  have hown : s.vm.findClass RX0 = some m.cls := hown
  have hDD : ∀ xf' tf' f' qf' gf' uf' lf' mf' nf' tr' r' q' gr' ur' lr' mr' nr', va_D A (xM G x xa ta a b ga ua la lb lc tg gg xf' tf' f' qf' gf' uf' lf' mf' nf' tr' r' q' gr' ur' lr' mr' nr') := fun xf' tf' f' qf' gf' uf' lf' mf' nf' tr' r' q' gr' ur' lr' mr' nr' => D_same hD rfl
  have hl : lv_has ls 3 [(0, .ref (ga 9)), (1, .ref (a 15)), (2, .int (nI sp))] := hl
  refine lv_aload_n hx hb dX0_keepOne_0 rfl (lv_at hl 0 rfl) ?_
  refine va_get (D := G.1) (ci := 0) (v := .ref (ga 0)) (C := RX0) (T := TX0) (N := 9) hx hb hts inX0 hown hK.1 hP 25 rfl rfl 0 (by decide) (hts _ mf_X0_9) (fun _ h9 => h9) rfl dX0_keepOne_1 ?_
  refine lv_iload_n hx hb dX0_keepOne_4 rfl (lv_at hl 2 rfl) ?_
  refine lv_iconst (v := 1) hx hb dX0_keepOne_5 (by decide) ?_
  refine xzast (f := (gr 0)) (x := 1) hx hb hK hP (hDD _ _ _ _ _ _ _ _ _ _ _ _ _ _ _ _ _) hS 26 (sp) (rfl) (by omega) (by decide) (Or.inr rfl) rfl dX0_keepOne_6 (fun H locs hP _ hS => ?_)
  have hP : PP G (xM G x xa ta a b ga ua la lb lc tg gg xf tf f qf gf uf lf mf nf tr r q (up2 gr 0 (upd (gr 0) (sp) (1))) ur lr mr nr) H := hP
  refine lv_aload_n hx hb dX0_keepOne_7 rfl (lv_at hl 1 rfl) ?_
  refine va_get (D := G.1) (ci := 2) (v := .ref (a 11)) (C := RX2) (T := TX2) (N := 15) hx hb hts inX2 hown hK.1 hP 11 rfl rfl 11 (by decide) (hts _ mf_X0_95) (fun _ h9 => h9) rfl dX0_keepOne_8 ?_
  refine lv_iload_n hx hb dX0_keepOne_11 rfl (lv_at hl 2 rfl) ?_
  refine xzald (f := (r 11)) hx hb hK hP 17 (sp) (rfl) (by omega) (by decide) rfl dX0_keepOne_12 ?_
  refine lv_topi (fun v1 ev1 => ?_)
  obtain rfl : v1 = (r 11 sp) := ev1.trans (rfl)
  refine lv_if_eq (tgt := 18) hx hb dX0_keepOne_13 (by decide) (fun c2 => ?_) (fun c2 => ?_)
  · refine lv_aload_n hx hb dX0_keepOne_18 rfl (lv_at hl 1 rfl) ?_
    refine lv_iload_n hx hb dX0_keepOne_19 rfl (lv_at hl 2 rfl) ?_
    refine lawV (rest := []) (q0 := 0) ⟨hx, hb, hml, hown, hts⟩ (c_X2_alsoKeep l G a b f r sp (by omega)) mi_yX2_alsoKeep mv_yX2_alsoKeep ml_X0_106 ⟨rfl, rfl, Nat.le_of_ble_eq_true rfl, Nat.le_of_ble_eq_true rfl⟩ hK hP (hDD _ _ _ _ _ _ _ _ _ _ _ _ _ _ _ _ _) (pl_perm (xBlk G x xa ta a b ga ua la lb lc tg gg xf tf f qf gf uf lf mf nf tr r q (up2 gr 0 (upd (gr 0) (sp) (1))) ur lr mr nr) (sel := [2]) (oth := [0, 1, 3, 4, 5, 6, 7, 8, 9]) (by decide)) rfl rfl rfl hl.1 rfl (Nat.le_of_ble_eq_true rfl) dX0_keepOne_20 ⟨Nat.zero_le _, Nat.zero_le _⟩ hS hA (fun w4 H locs hw4 hP hS => ?_)
    obtain rfl := hw4
    have hP : PP G (xM G x xa ta a b ga ua la lb lc tg gg xf tf (upd f 4 (-2)) qf gf uf lf mf nf tr (up2 r 11 (upd (r 11) sp 1)) q (up2 gr 0 (upd (gr 0) (sp) (1))) ur lr mr nr) H := (hP rfl (xM G x xa ta a b ga ua la lb lc tg gg xf tf (upd f 4 (-2)) qf gf uf lf mf nf tr (up2 r 11 (upd (r 11) sp 1)) q (up2 gr 0 (upd (gr 0) (sp) (1))) ur lr mr nr) (pl_perm (xBlk G x xa ta a b ga ua la lb lc tg gg xf tf (upd f 4 (-2)) qf gf uf lf mf nf tr (up2 r 11 (upd (r 11) sp 1)) q (up2 gr 0 (upd (gr 0) (sp) (1))) ur lr mr nr) (sel := [2]) (oth := [0, 1, 3, 4, 5, 6, 7, 8, 9]) (by decide))).1
    refine lv_iconst (v := 1) hx hb dX0_keepOne_23 (by decide) ?_
    exact wr_iret hx hb hr hlocks hS hP ⟨(-2), (upd (gr 0) (sp) (1)), (upd (r 11) sp 1), rfl, (by rw [if_pos c2]; rfl), rfl, (Or.inl ⟨c2, rfl, rfl⟩)⟩ dX0_keepOne_24
  · refine lv_iconst (v := 0) hx hb dX0_keepOne_16 (by decide) ?_
    exact wr_iret hx hb hr hlocks hS hP ⟨(f 4), (upd (gr 0) (sp) (1)), (r 11), rfl, (by rw [if_neg c2]; rfl), rfl, (Or.inr ⟨c2, rfl, rfl⟩)⟩ dX0_keepOne_17
theorem KA_u {f : Nat → Int32} {a b x y : Nat} (hb : b < 12) (hy : y < 12) : KA (upd f (a * 12 + b) 1) x y = ad1 (KA f) a b x y := by
  unfold ad1
  by_cases e : x = a ∧ y = b
  · obtain ⟨rfl, rfl⟩ := e
    rw [decide_eq_true (rfl : x = x), decide_eq_true (rfl : y = y)]
    unfold KA; rw [pk_us]; simp
  · have e2 : (decide (x = a) && decide (y = b)) = false := by
      by_cases c : x = a
      · rw [decide_eq_false (fun z => e ⟨c, z⟩), Bool.and_false]
      · rw [decide_eq_false c, Bool.false_and]
    rw [e2, Bool.or_false]
    unfold KA; rw [pk_un (by omega)]
theorem KO_k {kp kp2 : Nat → Int32} {f4 f5 : Int32} {a b : Nat} (hb : b < 12) (h : (kp (a * 12 + b) = 0 ∧ kp2 = upd kp (a * 12 + b) 1 ∧ f5 = -2) ∨ (¬ kp (a * 12 + b) = 0 ∧ kp2 = kp ∧ f5 = f4)) : (∀ x y, y < 12 → KA kp2 x y = ad1 (KA kp) a b x y) ∧ (f5 = -2 ∨ (f5 = f4 ∧ kp2 = kp)) := by
  rcases h with ⟨h1, h2, h3⟩ | ⟨h1, h2, h3⟩
  · rw [h2]; exact ⟨fun x y hy => KA_u hb hy, Or.inl h3⟩
  · refine ⟨fun x y hy => ?_, Or.inr ⟨h3, h2⟩⟩
    rw [h2]
    unfold ad1
    by_cases e : x = a ∧ y = b
    · rw [e.1, e.2, KA_t h1]; rfl
    · have e2 : (decide (x = a) && decide (y = b)) = false := by
        by_cases c : x = a
        · rw [decide_eq_false (fun z => e ⟨c, z⟩), Bool.and_false]
        · rw [decide_eq_false c, Bool.false_and]
      rw [e2, Bool.or_false]
theorem KO_n {kp : Nat → Int32} {a b : Nat} : (if kp (a * 12 + b) = 0 then 1 else 0) = nw1 (KA kp) a b := by
  unfold nw1
  by_cases c : kp (a * 12 + b) = 0
  · rw [if_pos c, KA_f c, if_neg (by decide)]
  · rw [if_neg c, KA_t c, if_pos rfl]
theorem ad1_c {A B : Nat → Nat → Bool} {a b x y : Nat} (h : A x y = B x y) : ad1 A a b x y = ad1 B a b x y := by unfold ad1; rw [h]
theorem nw1_c {A B : Nat → Nat → Bool} {x y : Nat} (h : A x y = B x y) : nw1 A x y = nw1 B x y := by unfold nw1; rw [h]
set_option maxHeartbeats 4000000 in
set_option maxRecDepth 100000 in
theorem x_X0_keepThree (l : Launch) (G : GG) (x : Nat) (xa ta a b ga ua la lb lc : Nat → Nat) (tg gg : Nat → Option Nat) (xf tf f qf gf uf lf mf nf : Nat → Int32) (tr r q gr ur lr mr nr : Nat → Nat → Int32) (i : Nat) (j : Nat) (qq : Nat) (dd : Nat) (hi : i < 12) (hj : j < 12) (hq : qq < 12) (hd : dd < 12) (hqi : qq ≠ i) (hdj : dd ≠ j) (g7 : (gf 7) = nI qq) (g8 : (gf 8) = nI dd) : WrI l yX0_keepThree cX0_keepThree 4 (some .int) ({ frames := 2, cells := 0, slots := 0, locals := 43 }) G (xM G x xa ta a b ga ua la lb lc tg gg xf tf f qf gf uf lf mf nf tr r q gr ur lr mr nr) [.ref (ga 9), .ref (a 15), .int (nI i), .int (nI j)] (fun qz w => ∃ (n_f_4 : Int32) (n_gr_0 : Nat → Int32) (n_r_11 : Nat → Int32), w = xM G x xa ta a b ga ua la lb lc tg gg xf tf (upd f 4 n_f_4) qf gf uf lf mf nf tr (up2 r 11 n_r_11) q (up2 gr 0 n_gr_0) ur lr mr nr ∧ qz = nI (nw3 (KA (r 11)) i j qq dd) ∧ (∀ x y, y < 12 → KA n_gr_0 x y = ad3 (KA (gr 0)) i j qq dd x y) ∧ (∀ x y, y < 12 → KA n_r_11 x y = ad3 (KA (r 11)) i j qq dd x y) ∧ (n_f_4 = -2 ∨ (n_f_4 = (f 4) ∧ n_r_11 = (r 11)))) := by
  refine wr_entryI (by decide +kernel) (Nat.le_of_ble_eq_true rfl) ?_
  intro p e s m below meth c A C0 hP hK hD hA ls hl
  have hS : va_S A s.heap s.heap [] := va_S.rf
  obtain ⟨hx, hb, hml, hown, hts, hr, hlocks, hin⟩ := C0
  have hown : s.vm.findClass RX0 = some m.cls := hown
  have hDD : ∀ xf' tf' f' qf' gf' uf' lf' mf' nf' tr' r' q' gr' ur' lr' mr' nr', va_D A (xM G x xa ta a b ga ua la lb lc tg gg xf' tf' f' qf' gf' uf' lf' mf' nf' tr' r' q' gr' ur' lr' mr' nr') := fun xf' tf' f' qf' gf' uf' lf' mf' nf' tr' r' q' gr' ur' lr' mr' nr' => D_same hD rfl
  have hl : lv_has ls 4 [(0, .ref (ga 9)), (1, .ref (a 15)), (2, .int (nI i)), (3, .int (nI j))] := hl
  refine lv_aload_n hx hb dX0_keepThree_0 rfl (lv_at hl 0 rfl) ?_
  refine lv_aload_n hx hb dX0_keepThree_1 rfl (lv_at hl 1 rfl) ?_
  refine lv_iload_n hx hb dX0_keepThree_2 rfl (lv_at hl 2 rfl) ?_
  refine lv_aload_n hx hb dX0_keepThree_3 rfl (lv_at hl 0 rfl) ?_
  refine va_get (D := G.1) (ci := 0) (v := .int (gf 8)) (C := RX0) (T := TX0) (N := 9) hx hb hts inX0 hown hK.1 hP 25 rfl rfl 8 (by decide) (hts _ mf_X0_38) (fun _ h9 => h9) rfl dX0_keepThree_4 ?_
  rw [show (gf 8) = nI (dd) from g8]
  refine rdSN (rest := [.ref (a 15), .ref (ga 9)]) ⟨hx, hb, hml, hown, hts⟩ (c_X6_spotOf l G ((nI i)) ((nI (dd)))) mi_yX6_spotOf mst_yX6_spotOf (by decide +kernel) ⟨rfl, rfl, Nat.le_of_ble_eq_true rfl, Nat.le_of_ble_eq_true rfl⟩ hK (fun k q h => by simp at h) rfl hl.1 rfl (Nat.le_of_ble_eq_true rfl) dX0_keepThree_7 ⟨Nat.zero_le _, Nat.zero_le _⟩ hS hA hP (fun r1 H locs hr1 hP hS => ?_)
  obtain rfl : r1 = nI (i * 12 + (dd)) := spot_eq hr1
  refine wrVIa (rest := []) (q0 := 25) ⟨hx, hb, hml, hown, hts⟩ (x_X0_keepOne l G x xa ta a b ga ua la lb lc tg gg xf tf f qf gf uf lf mf nf tr r q gr ur lr mr nr (i * 12 + (dd))  (by omega)) mi_yX0_keepOne mv_yX0_keepOne ml_X0_102 ⟨rfl, rfl, Nat.le_of_ble_eq_true rfl, Nat.le_of_ble_eq_true rfl⟩ hK hP (hDD _ _ _ _ _ _ _ _ _ _ _ _ _ _ _ _ _) rfl rfl rfl hl.1 rfl (Nat.le_of_ble_eq_true rfl) dX0_keepThree_10 ⟨Nat.zero_le _, Nat.zero_le _⟩ hS hA (fun r2 w3 H locs hw3 hP hS => ?_)
  obtain ⟨x4, x5, x6, rfl, hw3r, hg0, hk1⟩ := hw3
  have hP : PP G (xM G x xa ta a b ga ua la lb lc tg gg xf tf (upd f 4 x4) qf gf uf lf mf nf tr (up2 r 11 x6) q (up2 gr 0 x5) ur lr mr nr) H := hP
  have hg0 : x5 = upd (gr 0) (i * 12 + (dd)) 1 := hg0
  have hk1 : ((r 11) (i * 12 + (dd)) = 0 ∧ x6 = upd (r 11) (i * 12 + (dd)) 1 ∧ x4 = -2) ∨ (¬ (r 11) (i * 12 + (dd)) = 0 ∧ x6 = (r 11) ∧ x4 = (f 4)) := hk1
  obtain rfl := hw3r
  obtain ⟨ka1, kf1⟩ := KO_k (a := i) (b := dd) (by omega) hk1
  have ga1 : ∀ x y, y < 12 → KA x5 x y = ad1 (KA (gr 0)) i dd x y := fun x y h9 => by rw [hg0]; exact KA_u (by omega) h9
  have en1 : (if (r 11) (i * 12 + dd) = 0 then 1 else 0) = nw1 (KA (r 11)) i dd := KO_n
  refine lv_topi (fun v7 ev7 => ?_)
  obtain rfl : v7 = nI (nw1 (KA (r 11)) i dd) := ev7.trans (congrArg nI en1)
  refine lv_aload_n hx hb dX0_keepThree_13 rfl (lv_at hl 0 rfl) ?_
  refine lv_aload_n hx hb dX0_keepThree_14 rfl (lv_at hl 1 rfl) ?_
  refine lv_aload_n hx hb dX0_keepThree_15 rfl (lv_at hl 0 rfl) ?_
  refine va_get (D := G.1) (ci := 0) (v := .int (gf 7)) (C := RX0) (T := TX0) (N := 9) hx hb hts inX0 hown hK.1 hP 25 rfl rfl 7 (by decide) (hts _ mf_X0_35) (fun _ h9 => h9) rfl dX0_keepThree_16 ?_
  rw [show (gf 7) = nI (qq) from g7]
  refine lv_iload_n hx hb dX0_keepThree_19 rfl (lv_at hl 3 rfl) ?_
  refine rdSN (rest := [.ref (a 15), .ref (ga 9), .int (nI (nw1 (KA (r 11)) i dd))]) ⟨hx, hb, hml, hown, hts⟩ (c_X6_spotOf l G ((nI (qq))) ((nI j))) mi_yX6_spotOf mst_yX6_spotOf (by decide +kernel) ⟨rfl, rfl, Nat.le_of_ble_eq_true rfl, Nat.le_of_ble_eq_true rfl⟩ hK (fun k q h => by simp at h) rfl hl.1 rfl (Nat.le_of_ble_eq_true rfl) dX0_keepThree_20 ⟨Nat.zero_le _, Nat.zero_le _⟩ hS hA hP (fun r8 H locs hr8 hP hS => ?_)
  obtain rfl : r8 = nI ((qq) * 12 + j) := spot_eq hr8
  refine wrVIa (rest := [.int (nI (nw1 (KA (r 11)) i dd))]) (q0 := 25) ⟨hx, hb, hml, hown, hts⟩ (x_X0_keepOne l G x xa ta a b ga ua la lb lc tg gg xf tf (upd f 4 x4) qf gf uf lf mf nf tr (up2 r 11 x6) q (up2 gr 0 x5) ur lr mr nr ((qq) * 12 + j)  (by omega)) mi_yX0_keepOne mv_yX0_keepOne ml_X0_102 ⟨rfl, rfl, Nat.le_of_ble_eq_true rfl, Nat.le_of_ble_eq_true rfl⟩ hK hP (hDD _ _ _ _ _ _ _ _ _ _ _ _ _ _ _ _ _) rfl rfl rfl hl.1 rfl (Nat.le_of_ble_eq_true rfl) dX0_keepThree_23 ⟨Nat.zero_le _, Nat.zero_le _⟩ hS hA (fun r9 w10 H locs hw10 hP hS => ?_)
  obtain ⟨x11, x12, x13, rfl, hw10r, hg0, hk1⟩ := hw10
  have hP : PP G (xM G x xa ta a b ga ua la lb lc tg gg xf tf (upd f 4 x11) qf gf uf lf mf nf tr (up2 r 11 x13) q (up2 gr 0 x12) ur lr mr nr) H := hP
  have hg0 : x12 = upd x5 ((qq) * 12 + j) 1 := hg0
  have hk1 : (x6 ((qq) * 12 + j) = 0 ∧ x13 = upd x6 ((qq) * 12 + j) 1 ∧ x11 = -2) ∨ (¬ x6 ((qq) * 12 + j) = 0 ∧ x13 = x6 ∧ x11 = x4) := hk1
  obtain rfl := hw10r
  obtain ⟨ka2, kf2⟩ := KO_k (a := qq) (b := j) (by omega) hk1
  have ga2 : ∀ x y, y < 12 → KA x12 x y = ad1 (KA x5) qq j x y := fun x y h9 => by rw [hg0]; exact KA_u (by omega) h9
  have en2 : (if x6 (qq * 12 + j) = 0 then 1 else 0) = nw1 (KA x6) qq j := KO_n
  refine lv_topi (fun v14 ev14 => ?_)
  obtain rfl : v14 = nI (nw1 (KA x6) qq j) := ev14.trans (congrArg nI en2)
  refine lv_iadd hx hb dX0_keepThree_26 ?_
  refine lv_topi (fun v15 ev15 => ?_)
  obtain rfl : v15 = nI ((nw1 (KA (r 11)) i dd) + (nw1 (KA x6) qq j)) := nI_plus ev15 rfl rfl
  refine lv_aload_n hx hb dX0_keepThree_27 rfl (lv_at hl 0 rfl) ?_
  refine lv_aload_n hx hb dX0_keepThree_28 rfl (lv_at hl 1 rfl) ?_
  refine lv_aload_n hx hb dX0_keepThree_29 rfl (lv_at hl 0 rfl) ?_
  refine va_get (D := G.1) (ci := 0) (v := .int (gf 7)) (C := RX0) (T := TX0) (N := 9) hx hb hts inX0 hown hK.1 hP 25 rfl rfl 7 (by decide) (hts _ mf_X0_35) (fun _ h9 => h9) rfl dX0_keepThree_30 ?_
  rw [show (gf 7) = nI (qq) from g7]
  refine lv_aload_n hx hb dX0_keepThree_33 rfl (lv_at hl 0 rfl) ?_
  refine va_get (D := G.1) (ci := 0) (v := .int (gf 8)) (C := RX0) (T := TX0) (N := 9) hx hb hts inX0 hown hK.1 hP 25 rfl rfl 8 (by decide) (hts _ mf_X0_38) (fun _ h9 => h9) rfl dX0_keepThree_34 ?_
  rw [show (gf 8) = nI (dd) from g8]
  refine rdSN (rest := [.ref (a 15), .ref (ga 9), .int (nI ((nw1 (KA (r 11)) i dd) + (nw1 (KA x6) qq j)))]) ⟨hx, hb, hml, hown, hts⟩ (c_X6_spotOf l G ((nI (qq))) ((nI (dd)))) mi_yX6_spotOf mst_yX6_spotOf (by decide +kernel) ⟨rfl, rfl, Nat.le_of_ble_eq_true rfl, Nat.le_of_ble_eq_true rfl⟩ hK (fun k q h => by simp at h) rfl hl.1 rfl (Nat.le_of_ble_eq_true rfl) dX0_keepThree_37 ⟨Nat.zero_le _, Nat.zero_le _⟩ hS hA hP (fun r16 H locs hr16 hP hS => ?_)
  obtain rfl : r16 = nI ((qq) * 12 + (dd)) := spot_eq hr16
  refine wrVIa (rest := [.int (nI ((nw1 (KA (r 11)) i dd) + (nw1 (KA x6) qq j)))]) (q0 := 25) ⟨hx, hb, hml, hown, hts⟩ (x_X0_keepOne l G x xa ta a b ga ua la lb lc tg gg xf tf (upd f 4 x11) qf gf uf lf mf nf tr (up2 r 11 x13) q (up2 gr 0 x12) ur lr mr nr ((qq) * 12 + (dd))  (by omega)) mi_yX0_keepOne mv_yX0_keepOne ml_X0_102 ⟨rfl, rfl, Nat.le_of_ble_eq_true rfl, Nat.le_of_ble_eq_true rfl⟩ hK hP (hDD _ _ _ _ _ _ _ _ _ _ _ _ _ _ _ _ _) rfl rfl rfl hl.1 rfl (Nat.le_of_ble_eq_true rfl) dX0_keepThree_40 ⟨Nat.zero_le _, Nat.zero_le _⟩ hS hA (fun r17 w18 H locs hw18 hP hS => ?_)
  obtain ⟨x19, x20, x21, rfl, hw18r, hg0, hk1⟩ := hw18
  have hP : PP G (xM G x xa ta a b ga ua la lb lc tg gg xf tf (upd f 4 x19) qf gf uf lf mf nf tr (up2 r 11 x21) q (up2 gr 0 x20) ur lr mr nr) H := hP
  have hg0 : x20 = upd x12 ((qq) * 12 + (dd)) 1 := hg0
  have hk1 : (x13 ((qq) * 12 + (dd)) = 0 ∧ x21 = upd x13 ((qq) * 12 + (dd)) 1 ∧ x19 = -2) ∨ (¬ x13 ((qq) * 12 + (dd)) = 0 ∧ x21 = x13 ∧ x19 = x11) := hk1
  obtain rfl := hw18r
  obtain ⟨ka3, kf3⟩ := KO_k (a := qq) (b := dd) (by omega) hk1
  have ga3 : ∀ x y, y < 12 → KA x20 x y = ad1 (KA x12) qq dd x y := fun x y h9 => by rw [hg0]; exact KA_u (by omega) h9
  have en3 : (if x13 (qq * 12 + dd) = 0 then 1 else 0) = nw1 (KA x13) qq dd := KO_n
  refine lv_topi (fun v22 ev22 => ?_)
  obtain rfl : v22 = nI (nw1 (KA x13) qq dd) := ev22.trans (congrArg nI en3)
  refine lv_iadd hx hb dX0_keepThree_43 ?_
  refine lv_topi (fun v23 ev23 => ?_)
  obtain rfl : v23 = nI (((nw1 (KA (r 11)) i dd) + (nw1 (KA x6) qq j)) + (nw1 (KA x13) qq dd)) := nI_plus ev23 rfl rfl
  exact wr_iret hx hb hr hlocks hS hP ⟨x19, x20, x21, rfl, (by unfold nw3; rw [nw1_c (ka1 qq j hj), nw_ad (by omega), nw1_c (ka2 qq dd hd), nw_ad (by omega), nw1_c (ka1 qq dd hd), nw_ad (by omega)]), (fun x y h9 => by rw [ga3 x y h9]; exact ad1_c ((ga2 x y h9).trans (ad1_c (ga1 x y h9)))), (fun x y h9 => by rw [ka3 x y h9]; exact ad1_c ((ka2 x y h9).trans (ad1_c (ka1 x y h9)))), (by rcases kf3 with z3 | z3; exact Or.inl z3; rcases kf2 with z2 | z2; exact Or.inl (z3.1.trans z2); rcases kf1 with z1 | z1; exact Or.inl (z3.1.trans (z2.1.trans z1)); exact Or.inr ⟨z3.1.trans (z2.1.trans z1.1), z3.2.trans (z2.2.trans z1.2)⟩)⟩ dX0_keepThree_44
theorem fg_s {g : Nat → Int32} {n : Nat} (h : ∀ p, p < n → g p = 0) : ∀ p, p < n + 1 → upd g n 0 p = 0 := fun p hp => by
  by_cases e : p = n
  · subst e; exact pk_us
  · rw [pk_un e]; exact h p (by omega)
def tlP (g td : Nat → Int32) (n p : Nat) : Int32 := if p < n ∧ ¬ g p = 0 then td p ||| 2 else td p
theorem tl_y {g td t2 : Nat → Int32} {n : Nat} {v : Int32} (h : ∀ p, p < 144 → t2 p = tlP g td n p) (hg : ¬ g n = 0) (hn : n < 144) (hv : v = t2 n ||| 2) : ∀ p, p < 144 → upd t2 n v p = tlP g td (n + 1) p := fun p hp => by
  unfold tlP
  by_cases e : p = n
  · subst e
    rw [pk_us, if_pos ⟨by omega, hg⟩, hv, h p hp]
    unfold tlP; rw [if_neg (by omega)]
  · rw [pk_un e, h p hp]
    unfold tlP
    by_cases c : p < n ∧ ¬ g p = 0
    · rw [if_pos c, if_pos ⟨by omega, c.2⟩]
    · rw [if_neg c, if_neg (fun z => c ⟨by omega, z.2⟩)]
theorem tl_n {g td t2 : Nat → Int32} {n : Nat} (h : ∀ p, p < 144 → t2 p = tlP g td n p) (hg : g n = 0) : ∀ p, p < 144 → t2 p = tlP g td (n + 1) p := fun p hp => by
  rw [h p hp]
  unfold tlP
  by_cases c : p < n ∧ ¬ g p = 0
  · rw [if_pos c, if_pos ⟨by omega, c.2⟩]
  · rw [if_neg c, if_neg (fun z => c ⟨by
      have : p ≠ n := fun q => z.2 (by rw [q]; exact hg)
      omega, z.2⟩)]
set_option maxHeartbeats 4000000 in
set_option maxRecDepth 100000 in
theorem x_X0_forgetPlan (l : Launch) (G : GG) (x : Nat) (xa ta a b ga ua la lb lc : Nat → Nat) (tg gg : Nat → Option Nat) (xf tf f qf gf uf lf mf nf : Nat → Int32) (tr r q gr ur lr mr nr : Nat → Nat → Int32) : WrV l yX0_forgetPlan cX0_forgetPlan 2 ({ frames := 0, cells := 0, slots := 0, locals := 0 }) G (xM G x xa ta a b ga ua la lb lc tg gg xf tf f qf gf uf lf mf nf tr r q gr ur lr mr nr) [.ref (ga 9)] (fun w => ∃ (n_gr_0 : Nat → Int32), w = xM G x xa ta a b ga ua la lb lc tg gg xf tf f qf gf uf lf mf nf tr r q (up2 gr 0 n_gr_0) ur lr mr nr ∧ (∀ p, p < 144 → n_gr_0 p = 0)) := by
  refine wr_entryV (by decide +kernel) (Nat.le_of_ble_eq_true rfl) ?_
  intro p e s m below meth c A C0 hP hK hD hA ls hl
  have hS : va_S A s.heap s.heap [] := va_S.rf
  obtain ⟨hx, hb, hml, hown, hts, hr, hlocks, hin⟩ := C0
  have hown : s.vm.findClass RX0 = some m.cls := hown
  have hDD : ∀ xf' tf' f' qf' gf' uf' lf' mf' nf' tr' r' q' gr' ur' lr' mr' nr', va_D A (xM G x xa ta a b ga ua la lb lc tg gg xf' tf' f' qf' gf' uf' lf' mf' nf' tr' r' q' gr' ur' lr' mr' nr') := fun xf' tf' f' qf' gf' uf' lf' mf' nf' tr' r' q' gr' ur' lr' mr' nr' => D_same hD rfl
  have hl : lv_has ls 2 [(0, .ref (ga 9))] := hl
  refine lv_iconst (v := 0) hx hb dX0_forgetPlan_0 (by decide) ?_
  refine lv_istore_n (lv' := [(1, .int 0), (0, .ref (ga 9))]) hx hb dX0_forgetPlan_1 rfl hl (by decide) rfl (fun ls hl => ?_)
  have loop2 : ∀ (k1 n : Nat) (x2 : Nat → Int32), n ≤ 144 → 144 < n + k1 → (∀ p, p < n → x2 p = 0) → ∀ (H : Heap) (locs : List Loc) (ls : Array Slot), PP G (xM G x xa ta a b ga ua la lb lc tg gg xf tf f qf gf uf lf mf nf tr r q (up2 gr 0 x2) ur lr mr nr) H → va_S A s.heap H locs → lv_has ls 2 [(1, .int (nI n)), (0, .ref (ga 9))] → W p l e ({ frames := 0, cells := 0, slots := 0, locals := 0 }) s m ([.ref (ga 9)] : List Value).toArray below meth c H locs 0 0 (MQ below (QwV G (fun w => ∃ (n_gr_0 : Nat → Int32), w = xM G x xa ta a b ga ua la lb lc tg gg xf tf f qf gf uf lf mf nf tr r q (up2 gr 0 n_gr_0) ur lr mr nr ∧ (∀ p, p < 144 → n_gr_0 p = 0)) A) ([.ref (ga 9)] : List Value).toArray s 0 0 A) (F0 m 2 ls []) := by
    intro k1
    induction k1 with
    | zero => intro n x2 h1 h2; exact absurd h1 (by omega)
    | succ k1 ih2k1 =>
      intro n x2 hi_n hk_n hz H locs ls hP hS hl
      refine lv_iload_n hx hb dX0_forgetPlan_2 rfl (lv_at hl 0 rfl) ?_
      refine lv_sipush (v := 144) hx hb dX0_forgetPlan_3 (by decide) ?_
      refine lv_icmp_ge (tgt := 22) hx hb dX0_forgetPlan_6 (by decide) (fun c3 => ?_) (fun c3 => ?_)
      · have b6 := qge_t (a := n) (b := 144) (by omega) (by omega) c3
        exact wr_vret hx hb hr hlocks hS hP ⟨x2, rfl, (fun p h9 => hz p (by omega))⟩ dX0_forgetPlan_22
      · have b6 := qge_f (a := n) (b := 144) (by omega) (by omega) c3
        refine lv_aload_n hx hb dX0_forgetPlan_9 rfl (lv_at hl 1 rfl) ?_
        refine va_get (D := G.1) (ci := 0) (v := .ref (ga 0)) (C := RX0) (T := TX0) (N := 9) hx hb hts inX0 hown hK.1 hP 25 rfl rfl 0 (by decide) (hts _ mf_X0_9) (fun _ h9 => h9) rfl dX0_forgetPlan_10 ?_
        refine lv_iload_n hx hb dX0_forgetPlan_13 rfl (lv_at hl 0 rfl) ?_
        refine lv_iconst (v := 0) hx hb dX0_forgetPlan_14 (by decide) ?_
        refine xzast (f := x2) (x := 0) hx hb hK hP (hDD _ _ _ _ _ _ _ _ _ _ _ _ _ _ _ _ _) hS 26 (n) (rfl) (by omega) (by decide) (Or.inl rfl) rfl dX0_forgetPlan_15 (fun H locs hP _ hS => ?_)
        have hP : PP G (xM G x xa ta a b ga ua la lb lc tg gg xf tf f qf gf uf lf mf nf tr r q (up2 gr 0 (upd x2 (n) (0))) ur lr mr nr) H := hP
        obtain ⟨v4, ev4⟩ : ∃ y9 : Int32, y9 = (nI n) + Int32.ofInt (1) := ⟨_, rfl⟩
        refine lv_iinc (v := v4) (lv' := [(1, .int v4), (0, .ref (ga 9))]) hx hb dX0_forgetPlan_16 hl (k := 0) rfl ev4.symm (by decide) rfl (fun ls hl => ?_)
        obtain rfl : v4 = nI (n + 1) := nI_plus (i := n) (j := 1) ev4 rfl (by decide)
        refine lv_goto (tgt := 2) hx hb dX0_forgetPlan_19 (by decide) ?_
        exact ih2k1 (n + 1) (upd x2 (n) (0)) (by omega) (by omega) (fg_s hz) _ _ _ hP hS (lv_sub hl [0, 1] rfl)
  exact loop2 (144 + 1) 0 (gr 0) (by omega) (by omega) (fun p h9 => absurd h9 (by omega)) _ _ _ hP hS (lv_sub hl [0, 1] rfl)
set_option maxHeartbeats 4000000 in
set_option maxRecDepth 100000 in
theorem x_X0_tellPlanned (l : Launch) (G : GG) (x : Nat) (xa ta a b ga ua la lb lc : Nat → Nat) (tg gg : Nat → Option Nat) (xf tf f qf gf uf lf mf nf : Nat → Int32) (tr r q gr ur lr mr nr : Nat → Nat → Int32) : WrV l yX0_tellPlanned cX0_tellPlanned 3 ({ frames := 1, cells := 0, slots := 0, locals := 23 }) G (xM G x xa ta a b ga ua la lb lc tg gg xf tf f qf gf uf lf mf nf tr r q gr ur lr mr nr) [.ref (ga 9), .ref (ta 0)] (fun w => ∃ (n_tr_7 : Nat → Int32), w = xM G x xa ta a b ga ua la lb lc tg gg xf tf f qf gf uf lf mf nf (up2 tr 7 n_tr_7) r q gr ur lr mr nr ∧ (∀ p, p < 144 → n_tr_7 p = tlP (gr 0) (tr 7) 144 p)) := by
  refine wr_entryV (by decide +kernel) (Nat.le_of_ble_eq_true rfl) ?_
  intro p e s m below meth c A C0 hP hK hD hA ls hl
  have hS : va_S A s.heap s.heap [] := va_S.rf
  obtain ⟨hx, hb, hml, hown, hts, hr, hlocks, hin⟩ := C0
  have hown : s.vm.findClass RX0 = some m.cls := hown
  have hDD : ∀ xf' tf' f' qf' gf' uf' lf' mf' nf' tr' r' q' gr' ur' lr' mr' nr', va_D A (xM G x xa ta a b ga ua la lb lc tg gg xf' tf' f' qf' gf' uf' lf' mf' nf' tr' r' q' gr' ur' lr' mr' nr') := fun xf' tf' f' qf' gf' uf' lf' mf' nf' tr' r' q' gr' ur' lr' mr' nr' => D_same hD rfl
  have hl : lv_has ls 3 [(0, .ref (ga 9)), (1, .ref (ta 0))] := hl
  refine lv_iconst (v := 0) hx hb dX0_tellPlanned_0 (by decide) ?_
  refine lv_istore_n (lv' := [(2, .int 0), (0, .ref (ga 9)), (1, .ref (ta 0))]) hx hb dX0_tellPlanned_1 rfl hl (by decide) rfl (fun ls hl => ?_)
  have loop2 : ∀ (k1 n : Nat) (x2 : Nat → Int32), n ≤ 144 → 144 < n + k1 → (∀ p, p < 144 → x2 p = tlP (gr 0) (tr 7) n p) → ∀ (H : Heap) (locs : List Loc) (ls : Array Slot), PP G (xM G x xa ta a b ga ua la lb lc tg gg xf tf f qf gf uf lf mf nf (up2 tr 7 x2) r q gr ur lr mr nr) H → va_S A s.heap H locs → lv_has ls 3 [(2, .int (nI n)), (0, .ref (ga 9)), (1, .ref (ta 0))] → W p l e ({ frames := 1, cells := 0, slots := 0, locals := 23 }) s m ([.ref (ga 9), .ref (ta 0)] : List Value).toArray below meth c H locs 0 0 (MQ below (QwV G (fun w => ∃ (n_tr_7 : Nat → Int32), w = xM G x xa ta a b ga ua la lb lc tg gg xf tf f qf gf uf lf mf nf (up2 tr 7 n_tr_7) r q gr ur lr mr nr ∧ (∀ p, p < 144 → n_tr_7 p = tlP (gr 0) (tr 7) 144 p)) A) ([.ref (ga 9), .ref (ta 0)] : List Value).toArray s 0 0 A) (F0 m 2 ls []) := by
    intro k1
    induction k1 with
    | zero => intro n x2 h1 h2; exact absurd h1 (by omega)
    | succ k1 ih2k1 =>
      intro n x2 hi_n hk_n hz H locs ls hP hS hl
      refine lv_iload_n hx hb dX0_tellPlanned_2 rfl (lv_at hl 0 rfl) ?_
      refine lv_sipush (v := 144) hx hb dX0_tellPlanned_3 (by decide) ?_
      refine lv_icmp_ge (tgt := 31) hx hb dX0_tellPlanned_6 (by decide) (fun c3 => ?_) (fun c3 => ?_)
      · have b6 := qge_t (a := n) (b := 144) (by omega) (by omega) c3
        exact wr_vret hx hb hr hlocks hS hP ⟨x2, rfl, (by rw [show 144 = n by omega]; exact fun p h9 => hz p (by omega))⟩ dX0_tellPlanned_31
      · have b6 := qge_f (a := n) (b := 144) (by omega) (by omega) c3
        refine lv_aload_n hx hb dX0_tellPlanned_9 rfl (lv_at hl 1 rfl) ?_
        refine va_get (D := G.1) (ci := 0) (v := .ref (ga 0)) (C := RX0) (T := TX0) (N := 9) hx hb hts inX0 hown hK.1 hP 25 rfl rfl 0 (by decide) (hts _ mf_X0_9) (fun _ h9 => h9) rfl dX0_tellPlanned_10 ?_
        refine lv_iload_n hx hb dX0_tellPlanned_13 rfl (lv_at hl 0 rfl) ?_
        refine xzald (f := (gr 0)) hx hb hK hP 26 (n) (rfl) (by omega) (by decide) rfl dX0_tellPlanned_14 ?_
        refine lv_topi (fun v4 ev4 => ?_)
        refine lv_if_eq (tgt := 25) hx hb dX0_tellPlanned_15 (by decide) (fun c5 => ?_) (fun c5 => ?_)
        · obtain ⟨v6, ev6⟩ : ∃ y9 : Int32, y9 = (nI n) + Int32.ofInt (1) := ⟨_, rfl⟩
          refine lv_iinc (v := v6) (lv' := [(2, .int v6), (0, .ref (ga 9)), (1, .ref (ta 0))]) hx hb dX0_tellPlanned_25 hl (k := 0) rfl ev6.symm (by decide) rfl (fun ls hl => ?_)
          obtain rfl : v6 = nI (n + 1) := nI_plus (i := n) (j := 1) ev6 rfl (by decide)
          refine lv_goto (tgt := 2) hx hb dX0_tellPlanned_28 (by decide) ?_
          exact ih2k1 (n + 1) x2 (by omega) (by omega) (tl_n hz (ev4.symm.trans c5)) _ _ _ hP hS (lv_sub hl [0, 1, 2] rfl)
        · refine lv_aload_n hx hb dX0_tellPlanned_18 rfl (lv_at hl 2 rfl) ?_
          refine lv_iload_n hx hb dX0_tellPlanned_19 rfl (lv_at hl 0 rfl) ?_
          refine lv_iconst (v := 2) hx hb dX0_tellPlanned_20 (by decide) ?_
          refine lv_iconst (v := 1) hx hb dX0_tellPlanned_21 (by decide) ?_
          refine lawV (rest := []) (q0 := 0) ⟨hx, hb, hml, hown, hts⟩ (e_X4_tell l G ta tf (up2 tr 7 x2) n 2 1 (by omega)) mi_yX4_tell mv_yX4_tell ml_X0_75 ⟨rfl, rfl, Nat.le_of_ble_eq_true rfl, Nat.le_of_ble_eq_true rfl⟩ hK hP (hDD _ _ _ _ _ _ _ _ _ _ _ _ _ _ _ _ _) (pl_perm (xBlk G x xa ta a b ga ua la lb lc tg gg xf tf f qf gf uf lf mf nf (up2 tr 7 x2) r q gr ur lr mr nr) (sel := [1]) (oth := [0, 2, 3, 4, 5, 6, 7, 8, 9]) (by decide)) rfl rfl rfl hl.1 rfl (Nat.le_of_ble_eq_true rfl) dX0_tellPlanned_22 ⟨Nat.zero_le _, Nat.zero_le _⟩ hS hA (fun w9 H locs hw9 hP hS => ?_)
          obtain ⟨x7, rfl, g7⟩ := hw9
          have hP : PP G (xM G x xa ta a b ga ua la lb lc tg gg xf tf f qf gf uf lf mf nf (up2 tr 7 x7) r q gr ur lr mr nr) H := (hP rfl (xM G x xa ta a b ga ua la lb lc tg gg xf tf f qf gf uf lf mf nf (up2 tr 7 x7) r q gr ur lr mr nr) (pl_perm (xBlk G x xa ta a b ga ua la lb lc tg gg xf tf f qf gf uf lf mf nf (up2 tr 7 x7) r q gr ur lr mr nr) (sel := [1]) (oth := [0, 2, 3, 4, 5, 6, 7, 8, 9]) (by decide))).1
          obtain ⟨v10, ev10⟩ : ∃ y9 : Int32, y9 = (nI n) + Int32.ofInt (1) := ⟨_, rfl⟩
          refine lv_iinc (v := v10) (lv' := [(2, .int v10), (0, .ref (ga 9)), (1, .ref (ta 0))]) hx hb dX0_tellPlanned_25 hl (k := 0) rfl ev10.symm (by decide) rfl (fun ls hl => ?_)
          obtain rfl : v10 = nI (n + 1) := nI_plus (i := n) (j := 1) ev10 rfl (by decide)
          refine lv_goto (tgt := 2) hx hb dX0_tellPlanned_28 (by decide) ?_
          exact ih2k1 (n + 1) x7 (by omega) (by omega) (by rw [g7]; exact tl_y hz (fun z9 => c5 (ev4.trans z9)) (by omega) (if_neg (by decide))) _ _ _ hP hS (lv_sub hl [0, 1, 2] rfl)
  exact loop2 (144 + 1) 0 (tr 7) (by omega) (by omega) (fun p _ => by unfold tlP; rw [if_neg (by omega)]) _ _ _ hP hS (lv_sub hl [0, 1, 2] rfl)
