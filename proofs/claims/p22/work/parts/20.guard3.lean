theorem ml_X0_110 : Cond.methodLink RX0 110 yX0_bitOf ∈ TB := TB_t3 227 rfl rfl
theorem mcode_yX0_bitOf : Cond.code yX0_bitOf cX0_bitOf 2 (some .int) ∈ TB := TB_t3 230 rfl rfl
theorem mi_yX0_bitOf : MI yX0_bitOf cX0_bitOf 2 (some .int) 1 := ⟨mz_RX0, mcode_yX0_bitOf, by decide +kernel, by decide +kernel, by decide +kernel⟩
theorem mim_yX0_bitOf : Cond.instanceMethod yX0_bitOf ∈ TB := TB_t3 229 rfl rfl
theorem msel_yX0_bitOf : Cond.selects yX0_bitOf.cls yX0_bitOf yX0_bitOf ∈ TB := TB_s (n := 9) 27 (by decide +kernel)
theorem mv_yX0_bitOf : Cond.instanceMethod yX0_bitOf ∈ TB ∧ Cond.selects yX0_bitOf.cls yX0_bitOf yX0_bitOf ∈ TB := ⟨mim_yX0_bitOf, msel_yX0_bitOf⟩
theorem mk_X0_81 : Cond.constant RX0 81 (1073741824) ∈ TB := TB_t3 181 rfl rfl
theorem mf_X0_44 : Cond.fieldLink RX0 44 "CellKeeper$Reader" "rows" "I" ∈ TB := TB_t1 52 rfl rfl
theorem mf_X0_82 : Cond.fieldLink RX0 82 "CellKeeper$Reader" "sound" "[Z" ∈ TB := TB_t1 62 rfl rfl
theorem mf_X0_85 : Cond.fieldLink RX0 85 "CellKeeper$Reader" "classes" "[I" ∈ TB := TB_t1 65 rfl rfl
theorem ml_X0_88 : Cond.methodLink RX0 88 yX0_priceToKeep ∈ TB := TB_t3 182 rfl rfl
theorem mcode_yX0_priceToKeep : Cond.code yX0_priceToKeep cX0_priceToKeep 4 (some .int) ∈ TB := TB_t3 185 rfl rfl
theorem mi_yX0_priceToKeep : MI yX0_priceToKeep cX0_priceToKeep 4 (some .int) 3 := ⟨mz_RX0, mcode_yX0_priceToKeep, by decide +kernel, by decide +kernel, by decide +kernel⟩
theorem mim_yX0_priceToKeep : Cond.instanceMethod yX0_priceToKeep ∈ TB := TB_t3 184 rfl rfl
theorem msel_yX0_priceToKeep : Cond.selects yX0_priceToKeep.cls yX0_priceToKeep yX0_priceToKeep ∈ TB := TB_s (n := 9) 22 (by decide +kernel)
theorem mv_yX0_priceToKeep : Cond.instanceMethod yX0_priceToKeep ∈ TB ∧ Cond.selects yX0_priceToKeep.cls yX0_priceToKeep yX0_priceToKeep ∈ TB := ⟨mim_yX0_priceToKeep, msel_yX0_priceToKeep⟩
theorem mf_X0_49 : Cond.fieldLink RX0 49 "CellKeeper$Reader" "columns" "I" ∈ TB := TB_t1 54 rfl rfl
theorem kcX0_priceSets_0 : CHb cX0_priceSets 0 [3, 61, 28, 27, 162, 0, 57, 42, 180, 0, 22, 28, 3, 79, 3, 62, 29, 42, 180, 0, 25, 162, 0, 34, 28, 42, 29, 182, 0, 110, 126, 153, 0, 18, 42, 180, 0, 22, 28, 92, 46, 42, 180, 0, 19, 29, 46, 96, 79, 132, 3, 1, 167, 255, 220, 132, 2, 1, 167, 255, 200, 177] := CHb_of (by decide +kernel)
theorem dX0_priceSets_0 : decode cX0_priceSets 0 = .ok (.iconst 0, 1) := dw_3 (kcX0_priceSets_0 0 3 rfl)
theorem dX0_priceSets_1 : decode cX0_priceSets 1 = .ok (.istore_n 2, 1) := dw_61 (kcX0_priceSets_0 1 61 rfl)
theorem dX0_priceSets_2 : decode cX0_priceSets 2 = .ok (.iload_n 2, 1) := dw_28 (kcX0_priceSets_0 2 28 rfl)
theorem dX0_priceSets_3 : decode cX0_priceSets 3 = .ok (.iload_n 1, 1) := dw_27 (kcX0_priceSets_0 3 27 rfl)
theorem dX0_priceSets_4 : decode cX0_priceSets 4 = .ok (.if_icmp .ge 57, 3) := dw_162 (kcX0_priceSets_0 4 162 rfl) (kcX0_priceSets_0 5 0 rfl) (kcX0_priceSets_0 6 57 rfl) rfl
theorem dX0_priceSets_61 : decode cX0_priceSets 61 = .ok (.return_, 1) := dw_177 (kcX0_priceSets_0 61 177 rfl)
theorem dX0_priceSets_7 : decode cX0_priceSets 7 = .ok (.aload_n 0, 1) := dw_42 (kcX0_priceSets_0 7 42 rfl)
theorem dX0_priceSets_8 : decode cX0_priceSets 8 = .ok (.getfield 22, 3) := dw_180 (kcX0_priceSets_0 8 180 rfl) (kcX0_priceSets_0 9 0 rfl) (kcX0_priceSets_0 10 22 rfl) rfl
theorem dX0_priceSets_11 : decode cX0_priceSets 11 = .ok (.iload_n 2, 1) := dw_28 (kcX0_priceSets_0 11 28 rfl)
theorem dX0_priceSets_12 : decode cX0_priceSets 12 = .ok (.iconst 0, 1) := dw_3 (kcX0_priceSets_0 12 3 rfl)
theorem dX0_priceSets_13 : decode cX0_priceSets 13 = .ok (.iastore, 1) := dw_79 (kcX0_priceSets_0 13 79 rfl)
theorem dX0_priceSets_14 : decode cX0_priceSets 14 = .ok (.iconst 0, 1) := dw_3 (kcX0_priceSets_0 14 3 rfl)
theorem dX0_priceSets_15 : decode cX0_priceSets 15 = .ok (.istore_n 3, 1) := dw_62 (kcX0_priceSets_0 15 62 rfl)
theorem dX0_priceSets_16 : decode cX0_priceSets 16 = .ok (.iload_n 3, 1) := dw_29 (kcX0_priceSets_0 16 29 rfl)
theorem dX0_priceSets_17 : decode cX0_priceSets 17 = .ok (.aload_n 0, 1) := dw_42 (kcX0_priceSets_0 17 42 rfl)
theorem dX0_priceSets_18 : decode cX0_priceSets 18 = .ok (.getfield 25, 3) := dw_180 (kcX0_priceSets_0 18 180 rfl) (kcX0_priceSets_0 19 0 rfl) (kcX0_priceSets_0 20 25 rfl) rfl
theorem dX0_priceSets_21 : decode cX0_priceSets 21 = .ok (.if_icmp .ge 34, 3) := dw_162 (kcX0_priceSets_0 21 162 rfl) (kcX0_priceSets_0 22 0 rfl) (kcX0_priceSets_0 23 34 rfl) rfl
theorem dX0_priceSets_55 : decode cX0_priceSets 55 = .ok (.iinc 2 1, 3) := dw_132 (kcX0_priceSets_0 55 132 rfl) (kcX0_priceSets_0 56 2 rfl) (kcX0_priceSets_0 57 1 rfl) rfl
theorem dX0_priceSets_58 : decode cX0_priceSets 58 = .ok (.goto (-56), 3) := dw_167 (kcX0_priceSets_0 58 167 rfl) (kcX0_priceSets_0 59 255 rfl) (kcX0_priceSets_0 60 200 rfl) rfl
theorem dX0_priceSets_24 : decode cX0_priceSets 24 = .ok (.iload_n 2, 1) := dw_28 (kcX0_priceSets_0 24 28 rfl)
theorem dX0_priceSets_25 : decode cX0_priceSets 25 = .ok (.aload_n 0, 1) := dw_42 (kcX0_priceSets_0 25 42 rfl)
theorem dX0_priceSets_26 : decode cX0_priceSets 26 = .ok (.iload_n 3, 1) := dw_29 (kcX0_priceSets_0 26 29 rfl)
theorem dX0_priceSets_27 : decode cX0_priceSets 27 = .ok (.invokevirtual 110, 3) := dw_182 (kcX0_priceSets_0 27 182 rfl) (kcX0_priceSets_0 28 0 rfl) (kcX0_priceSets_0 29 110 rfl) rfl
theorem dX0_priceSets_30 : decode cX0_priceSets 30 = .ok (.iand, 1) := dw_126 (kcX0_priceSets_0 30 126 rfl)
theorem dX0_priceSets_31 : decode cX0_priceSets 31 = .ok (.ifCond .eq 18, 3) := dw_153 (kcX0_priceSets_0 31 153 rfl) (kcX0_priceSets_0 32 0 rfl) (kcX0_priceSets_0 33 18 rfl) rfl
theorem dX0_priceSets_49 : decode cX0_priceSets 49 = .ok (.iinc 3 1, 3) := dw_132 (kcX0_priceSets_0 49 132 rfl) (kcX0_priceSets_0 50 3 rfl) (kcX0_priceSets_0 51 1 rfl) rfl
theorem dX0_priceSets_52 : decode cX0_priceSets 52 = .ok (.goto (-36), 3) := dw_167 (kcX0_priceSets_0 52 167 rfl) (kcX0_priceSets_0 53 255 rfl) (kcX0_priceSets_0 54 220 rfl) rfl
theorem dX0_priceSets_34 : decode cX0_priceSets 34 = .ok (.aload_n 0, 1) := dw_42 (kcX0_priceSets_0 34 42 rfl)
theorem dX0_priceSets_35 : decode cX0_priceSets 35 = .ok (.getfield 22, 3) := dw_180 (kcX0_priceSets_0 35 180 rfl) (kcX0_priceSets_0 36 0 rfl) (kcX0_priceSets_0 37 22 rfl) rfl
theorem dX0_priceSets_38 : decode cX0_priceSets 38 = .ok (.iload_n 2, 1) := dw_28 (kcX0_priceSets_0 38 28 rfl)
theorem dX0_priceSets_39 : decode cX0_priceSets 39 = .ok (.dup2, 1) := dw_92 (kcX0_priceSets_0 39 92 rfl)
theorem dX0_priceSets_40 : decode cX0_priceSets 40 = .ok (.iaload, 1) := dw_46 (kcX0_priceSets_0 40 46 rfl)
theorem dX0_priceSets_41 : decode cX0_priceSets 41 = .ok (.aload_n 0, 1) := dw_42 (kcX0_priceSets_0 41 42 rfl)
theorem dX0_priceSets_42 : decode cX0_priceSets 42 = .ok (.getfield 19, 3) := dw_180 (kcX0_priceSets_0 42 180 rfl) (kcX0_priceSets_0 43 0 rfl) (kcX0_priceSets_0 44 19 rfl) rfl
theorem dX0_priceSets_45 : decode cX0_priceSets 45 = .ok (.iload_n 3, 1) := dw_29 (kcX0_priceSets_0 45 29 rfl)
theorem dX0_priceSets_46 : decode cX0_priceSets 46 = .ok (.iaload, 1) := dw_46 (kcX0_priceSets_0 46 46 rfl)
theorem dX0_priceSets_47 : decode cX0_priceSets 47 = .ok (.iadd, 1) := dw_96 (kcX0_priceSets_0 47 96 rfl)
theorem dX0_priceSets_48 : decode cX0_priceSets 48 = .ok (.iastore, 1) := dw_79 (kcX0_priceSets_0 48 79 rfl)
theorem kcX0_tell_0 : CHb cX0_tell 0 [3, 62, 29, 17, 0, 144, 162, 0, 16, 43, 29, 5, 3, 182, 0, 75, 132, 3, 1, 167, 255, 239, 3, 62, 29, 42, 180, 0, 25, 162, 0, 31, 28, 42, 29, 182, 0, 110, 126, 153, 0, 15, 43, 42, 180, 0, 15, 29, 46, 5, 4, 182, 0, 75, 132, 3, 1, 167, 255, 223, 177] := CHb_of (by decide +kernel)
theorem dX0_tell_0 : decode cX0_tell 0 = .ok (.iconst 0, 1) := dw_3 (kcX0_tell_0 0 3 rfl)
theorem dX0_tell_1 : decode cX0_tell 1 = .ok (.istore_n 3, 1) := dw_62 (kcX0_tell_0 1 62 rfl)
theorem dX0_tell_2 : decode cX0_tell 2 = .ok (.iload_n 3, 1) := dw_29 (kcX0_tell_0 2 29 rfl)
theorem dX0_tell_3 : decode cX0_tell 3 = .ok (.sipush 144, 3) := dw_17 (kcX0_tell_0 3 17 rfl) (kcX0_tell_0 4 0 rfl) (kcX0_tell_0 5 144 rfl) rfl
theorem dX0_tell_6 : decode cX0_tell 6 = .ok (.if_icmp .ge 16, 3) := dw_162 (kcX0_tell_0 6 162 rfl) (kcX0_tell_0 7 0 rfl) (kcX0_tell_0 8 16 rfl) rfl
theorem dX0_tell_22 : decode cX0_tell 22 = .ok (.iconst 0, 1) := dw_3 (kcX0_tell_0 22 3 rfl)
theorem dX0_tell_23 : decode cX0_tell 23 = .ok (.istore_n 3, 1) := dw_62 (kcX0_tell_0 23 62 rfl)
theorem dX0_tell_24 : decode cX0_tell 24 = .ok (.iload_n 3, 1) := dw_29 (kcX0_tell_0 24 29 rfl)
theorem dX0_tell_25 : decode cX0_tell 25 = .ok (.aload_n 0, 1) := dw_42 (kcX0_tell_0 25 42 rfl)
theorem dX0_tell_26 : decode cX0_tell 26 = .ok (.getfield 25, 3) := dw_180 (kcX0_tell_0 26 180 rfl) (kcX0_tell_0 27 0 rfl) (kcX0_tell_0 28 25 rfl) rfl
theorem dX0_tell_29 : decode cX0_tell 29 = .ok (.if_icmp .ge 31, 3) := dw_162 (kcX0_tell_0 29 162 rfl) (kcX0_tell_0 30 0 rfl) (kcX0_tell_0 31 31 rfl) rfl
theorem dX0_tell_60 : decode cX0_tell 60 = .ok (.return_, 1) := dw_177 (kcX0_tell_0 60 177 rfl)
theorem dX0_tell_32 : decode cX0_tell 32 = .ok (.iload_n 2, 1) := dw_28 (kcX0_tell_0 32 28 rfl)
theorem dX0_tell_33 : decode cX0_tell 33 = .ok (.aload_n 0, 1) := dw_42 (kcX0_tell_0 33 42 rfl)
theorem dX0_tell_34 : decode cX0_tell 34 = .ok (.iload_n 3, 1) := dw_29 (kcX0_tell_0 34 29 rfl)
theorem dX0_tell_35 : decode cX0_tell 35 = .ok (.invokevirtual 110, 3) := dw_182 (kcX0_tell_0 35 182 rfl) (kcX0_tell_0 36 0 rfl) (kcX0_tell_0 37 110 rfl) rfl
theorem dX0_tell_38 : decode cX0_tell 38 = .ok (.iand, 1) := dw_126 (kcX0_tell_0 38 126 rfl)
theorem dX0_tell_39 : decode cX0_tell 39 = .ok (.ifCond .eq 15, 3) := dw_153 (kcX0_tell_0 39 153 rfl) (kcX0_tell_0 40 0 rfl) (kcX0_tell_0 41 15 rfl) rfl
theorem dX0_tell_54 : decode cX0_tell 54 = .ok (.iinc 3 1, 3) := dw_132 (kcX0_tell_0 54 132 rfl) (kcX0_tell_0 55 3 rfl) (kcX0_tell_0 56 1 rfl) rfl
theorem dX0_tell_57 : decode cX0_tell 57 = .ok (.goto (-33), 3) := dw_167 (kcX0_tell_0 57 167 rfl) (kcX0_tell_0 58 255 rfl) (kcX0_tell_0 59 223 rfl) rfl
theorem dX0_tell_42 : decode cX0_tell 42 = .ok (.aload_n 1, 1) := dw_43 (kcX0_tell_0 42 43 rfl)
theorem dX0_tell_43 : decode cX0_tell 43 = .ok (.aload_n 0, 1) := dw_42 (kcX0_tell_0 43 42 rfl)
theorem dX0_tell_44 : decode cX0_tell 44 = .ok (.getfield 15, 3) := dw_180 (kcX0_tell_0 44 180 rfl) (kcX0_tell_0 45 0 rfl) (kcX0_tell_0 46 15 rfl) rfl
theorem dX0_tell_47 : decode cX0_tell 47 = .ok (.iload_n 3, 1) := dw_29 (kcX0_tell_0 47 29 rfl)
theorem dX0_tell_48 : decode cX0_tell 48 = .ok (.iaload, 1) := dw_46 (kcX0_tell_0 48 46 rfl)
theorem dX0_tell_49 : decode cX0_tell 49 = .ok (.iconst 2, 1) := dw_5 (kcX0_tell_0 49 5 rfl)
theorem dX0_tell_50 : decode cX0_tell 50 = .ok (.iconst 1, 1) := dw_4 (kcX0_tell_0 50 4 rfl)
theorem dX0_tell_51 : decode cX0_tell 51 = .ok (.invokevirtual 75, 3) := dw_182 (kcX0_tell_0 51 182 rfl) (kcX0_tell_0 52 0 rfl) (kcX0_tell_0 53 75 rfl) rfl
theorem dX0_tell_9 : decode cX0_tell 9 = .ok (.aload_n 1, 1) := dw_43 (kcX0_tell_0 9 43 rfl)
theorem dX0_tell_10 : decode cX0_tell 10 = .ok (.iload_n 3, 1) := dw_29 (kcX0_tell_0 10 29 rfl)
theorem dX0_tell_11 : decode cX0_tell 11 = .ok (.iconst 2, 1) := dw_5 (kcX0_tell_0 11 5 rfl)
theorem dX0_tell_12 : decode cX0_tell 12 = .ok (.iconst 0, 1) := dw_3 (kcX0_tell_0 12 3 rfl)
theorem dX0_tell_13 : decode cX0_tell 13 = .ok (.invokevirtual 75, 3) := dw_182 (kcX0_tell_0 13 182 rfl) (kcX0_tell_0 14 0 rfl) (kcX0_tell_0 15 75 rfl) rfl
theorem dX0_tell_16 : decode cX0_tell 16 = .ok (.iinc 3 1, 3) := dw_132 (kcX0_tell_0 16 132 rfl) (kcX0_tell_0 17 3 rfl) (kcX0_tell_0 18 1 rfl) rfl
theorem dX0_tell_19 : decode cX0_tell 19 = .ok (.goto (-17), 3) := dw_167 (kcX0_tell_0 19 167 rfl) (kcX0_tell_0 20 255 rfl) (kcX0_tell_0 21 239 rfl) rfl
theorem kcX0_findThree_0 : CHb cX0_findThree 0 [18, 81, 54, 5, 42, 2, 181, 0, 35, 42, 2, 181, 0, 38, 3, 54, 6, 21, 6, 44, 180, 0, 44, 162, 0, 184, 21, 6, 29, 159, 0, 172, 44, 180, 0, 82, 21, 6, 51, 153, 0, 162, 44, 180, 0, 85, 21, 6, 46, 44, 180, 0, 85, 29, 46, 159, 0, 6, 167, 0, 143, 42, 43, 44] := CHb_of (by decide +kernel)
theorem dX0_findThree_0 : decode cX0_findThree 0 = .ok (.ldc 81, 2) := dw_18 (kcX0_findThree_0 0 18 rfl) (kcX0_findThree_0 1 81 rfl)
theorem dX0_findThree_2 : decode cX0_findThree 2 = .ok (.istore 5, 2) := dw_54 (kcX0_findThree_0 2 54 rfl) (kcX0_findThree_0 3 5 rfl)
theorem dX0_findThree_4 : decode cX0_findThree 4 = .ok (.aload_n 0, 1) := dw_42 (kcX0_findThree_0 4 42 rfl)
theorem dX0_findThree_5 : decode cX0_findThree 5 = .ok (.iconst (-1), 1) := dw_2 (kcX0_findThree_0 5 2 rfl)
theorem dX0_findThree_6 : decode cX0_findThree 6 = .ok (.putfield 35, 3) := dw_181 (kcX0_findThree_0 6 181 rfl) (kcX0_findThree_0 7 0 rfl) (kcX0_findThree_0 8 35 rfl) rfl
theorem dX0_findThree_9 : decode cX0_findThree 9 = .ok (.aload_n 0, 1) := dw_42 (kcX0_findThree_0 9 42 rfl)
theorem dX0_findThree_10 : decode cX0_findThree 10 = .ok (.iconst (-1), 1) := dw_2 (kcX0_findThree_0 10 2 rfl)
theorem dX0_findThree_11 : decode cX0_findThree 11 = .ok (.putfield 38, 3) := dw_181 (kcX0_findThree_0 11 181 rfl) (kcX0_findThree_0 12 0 rfl) (kcX0_findThree_0 13 38 rfl) rfl
theorem dX0_findThree_14 : decode cX0_findThree 14 = .ok (.iconst 0, 1) := dw_3 (kcX0_findThree_0 14 3 rfl)
theorem dX0_findThree_15 : decode cX0_findThree 15 = .ok (.istore 6, 2) := dw_54 (kcX0_findThree_0 15 54 rfl) (kcX0_findThree_0 16 6 rfl)
theorem dX0_findThree_17 : decode cX0_findThree 17 = .ok (.iload 6, 2) := dw_21 (kcX0_findThree_0 17 21 rfl) (kcX0_findThree_0 18 6 rfl)
theorem dX0_findThree_19 : decode cX0_findThree 19 = .ok (.aload_n 2, 1) := dw_44 (kcX0_findThree_0 19 44 rfl)
theorem dX0_findThree_20 : decode cX0_findThree 20 = .ok (.getfield 44, 3) := dw_180 (kcX0_findThree_0 20 180 rfl) (kcX0_findThree_0 21 0 rfl) (kcX0_findThree_0 22 44 rfl) rfl
theorem dX0_findThree_23 : decode cX0_findThree 23 = .ok (.if_icmp .ge 184, 3) := dw_162 (kcX0_findThree_0 23 162 rfl) (kcX0_findThree_0 24 0 rfl) (kcX0_findThree_0 25 184 rfl) rfl
theorem kcX0_findThree_3 : CHb cX0_findThree 192 [181, 0, 38, 132, 8, 1, 167, 255, 137, 132, 6, 1, 167, 255, 69, 177] := CHb_of (by decide +kernel)
theorem dX0_findThree_207 : decode cX0_findThree 207 = .ok (.return_, 1) := dw_177 (kcX0_findThree_3 15 177 rfl)
theorem dX0_findThree_26 : decode cX0_findThree 26 = .ok (.iload 6, 2) := dw_21 (kcX0_findThree_0 26 21 rfl) (kcX0_findThree_0 27 6 rfl)
theorem dX0_findThree_28 : decode cX0_findThree 28 = .ok (.iload_n 3, 1) := dw_29 (kcX0_findThree_0 28 29 rfl)
theorem dX0_findThree_29 : decode cX0_findThree 29 = .ok (.if_icmp .eq 172, 3) := dw_159 (kcX0_findThree_0 29 159 rfl) (kcX0_findThree_0 30 0 rfl) (kcX0_findThree_0 31 172 rfl) rfl
theorem dX0_findThree_201 : decode cX0_findThree 201 = .ok (.iinc 6 1, 3) := dw_132 (kcX0_findThree_3 9 132 rfl) (kcX0_findThree_3 10 6 rfl) (kcX0_findThree_3 11 1 rfl) rfl
theorem dX0_findThree_204 : decode cX0_findThree 204 = .ok (.goto (-187), 3) := dw_167 (kcX0_findThree_3 12 167 rfl) (kcX0_findThree_3 13 255 rfl) (kcX0_findThree_3 14 69 rfl) rfl
theorem dX0_findThree_32 : decode cX0_findThree 32 = .ok (.aload_n 2, 1) := dw_44 (kcX0_findThree_0 32 44 rfl)
theorem dX0_findThree_33 : decode cX0_findThree 33 = .ok (.getfield 82, 3) := dw_180 (kcX0_findThree_0 33 180 rfl) (kcX0_findThree_0 34 0 rfl) (kcX0_findThree_0 35 82 rfl) rfl
theorem dX0_findThree_36 : decode cX0_findThree 36 = .ok (.iload 6, 2) := dw_21 (kcX0_findThree_0 36 21 rfl) (kcX0_findThree_0 37 6 rfl)
theorem dX0_findThree_38 : decode cX0_findThree 38 = .ok (.baload, 1) := dw_51 (kcX0_findThree_0 38 51 rfl)
theorem dX0_findThree_39 : decode cX0_findThree 39 = .ok (.ifCond .eq 162, 3) := dw_153 (kcX0_findThree_0 39 153 rfl) (kcX0_findThree_0 40 0 rfl) (kcX0_findThree_0 41 162 rfl) rfl
theorem dX0_findThree_42 : decode cX0_findThree 42 = .ok (.aload_n 2, 1) := dw_44 (kcX0_findThree_0 42 44 rfl)
theorem dX0_findThree_43 : decode cX0_findThree 43 = .ok (.getfield 85, 3) := dw_180 (kcX0_findThree_0 43 180 rfl) (kcX0_findThree_0 44 0 rfl) (kcX0_findThree_0 45 85 rfl) rfl
theorem dX0_findThree_46 : decode cX0_findThree 46 = .ok (.iload 6, 2) := dw_21 (kcX0_findThree_0 46 21 rfl) (kcX0_findThree_0 47 6 rfl)
theorem dX0_findThree_48 : decode cX0_findThree 48 = .ok (.iaload, 1) := dw_46 (kcX0_findThree_0 48 46 rfl)
theorem dX0_findThree_49 : decode cX0_findThree 49 = .ok (.aload_n 2, 1) := dw_44 (kcX0_findThree_0 49 44 rfl)
theorem dX0_findThree_50 : decode cX0_findThree 50 = .ok (.getfield 85, 3) := dw_180 (kcX0_findThree_0 50 180 rfl) (kcX0_findThree_0 51 0 rfl) (kcX0_findThree_0 52 85 rfl) rfl
theorem dX0_findThree_53 : decode cX0_findThree 53 = .ok (.iload_n 3, 1) := dw_29 (kcX0_findThree_0 53 29 rfl)
theorem dX0_findThree_54 : decode cX0_findThree 54 = .ok (.iaload, 1) := dw_46 (kcX0_findThree_0 54 46 rfl)
theorem dX0_findThree_55 : decode cX0_findThree 55 = .ok (.if_icmp .eq 6, 3) := dw_159 (kcX0_findThree_0 55 159 rfl) (kcX0_findThree_0 56 0 rfl) (kcX0_findThree_0 57 6 rfl) rfl
theorem dX0_findThree_61 : decode cX0_findThree 61 = .ok (.aload_n 0, 1) := dw_42 (kcX0_findThree_0 61 42 rfl)
theorem dX0_findThree_62 : decode cX0_findThree 62 = .ok (.aload_n 1, 1) := dw_43 (kcX0_findThree_0 62 43 rfl)
theorem dX0_findThree_63 : decode cX0_findThree 63 = .ok (.aload_n 2, 1) := dw_44 (kcX0_findThree_0 63 44 rfl)
theorem kcX0_findThree_1 : CHb cX0_findThree 64 [21, 6, 21, 4, 184, 0, 55, 182, 0, 88, 54, 7, 3, 54, 8, 21, 8, 44, 180, 0, 49, 162, 0, 116, 21, 8, 21, 4, 160, 0, 6, 167, 0, 100, 42, 43, 44, 29, 21, 8, 184, 0, 55, 182, 0, 88, 54, 9, 42, 43, 44, 21, 6, 21, 8, 184, 0, 55, 182, 0, 88, 54, 10, 21] := CHb_of (by decide +kernel)
theorem dX0_findThree_64 : decode cX0_findThree 64 = .ok (.iload 6, 2) := dw_21 (kcX0_findThree_1 0 21 rfl) (kcX0_findThree_1 1 6 rfl)
theorem dX0_findThree_66 : decode cX0_findThree 66 = .ok (.iload 4, 2) := dw_21 (kcX0_findThree_1 2 21 rfl) (kcX0_findThree_1 3 4 rfl)
theorem dX0_findThree_68 : decode cX0_findThree 68 = .ok (.invokestatic 55, 3) := dw_184 (kcX0_findThree_1 4 184 rfl) (kcX0_findThree_1 5 0 rfl) (kcX0_findThree_1 6 55 rfl) rfl
theorem dX0_findThree_71 : decode cX0_findThree 71 = .ok (.invokevirtual 88, 3) := dw_182 (kcX0_findThree_1 7 182 rfl) (kcX0_findThree_1 8 0 rfl) (kcX0_findThree_1 9 88 rfl) rfl
theorem dX0_findThree_74 : decode cX0_findThree 74 = .ok (.istore 7, 2) := dw_54 (kcX0_findThree_1 10 54 rfl) (kcX0_findThree_1 11 7 rfl)
theorem dX0_findThree_76 : decode cX0_findThree 76 = .ok (.iconst 0, 1) := dw_3 (kcX0_findThree_1 12 3 rfl)
theorem dX0_findThree_77 : decode cX0_findThree 77 = .ok (.istore 8, 2) := dw_54 (kcX0_findThree_1 13 54 rfl) (kcX0_findThree_1 14 8 rfl)
theorem dX0_findThree_79 : decode cX0_findThree 79 = .ok (.iload 8, 2) := dw_21 (kcX0_findThree_1 15 21 rfl) (kcX0_findThree_1 16 8 rfl)
theorem dX0_findThree_81 : decode cX0_findThree 81 = .ok (.aload_n 2, 1) := dw_44 (kcX0_findThree_1 17 44 rfl)
theorem dX0_findThree_82 : decode cX0_findThree 82 = .ok (.getfield 49, 3) := dw_180 (kcX0_findThree_1 18 180 rfl) (kcX0_findThree_1 19 0 rfl) (kcX0_findThree_1 20 49 rfl) rfl
theorem dX0_findThree_85 : decode cX0_findThree 85 = .ok (.if_icmp .ge 116, 3) := dw_162 (kcX0_findThree_1 21 162 rfl) (kcX0_findThree_1 22 0 rfl) (kcX0_findThree_1 23 116 rfl) rfl
theorem dX0_findThree_88 : decode cX0_findThree 88 = .ok (.iload 8, 2) := dw_21 (kcX0_findThree_1 24 21 rfl) (kcX0_findThree_1 25 8 rfl)
theorem dX0_findThree_90 : decode cX0_findThree 90 = .ok (.iload 4, 2) := dw_21 (kcX0_findThree_1 26 21 rfl) (kcX0_findThree_1 27 4 rfl)
theorem dX0_findThree_92 : decode cX0_findThree 92 = .ok (.if_icmp .ne 6, 3) := dw_160 (kcX0_findThree_1 28 160 rfl) (kcX0_findThree_1 29 0 rfl) (kcX0_findThree_1 30 6 rfl) rfl
theorem dX0_findThree_98 : decode cX0_findThree 98 = .ok (.aload_n 0, 1) := dw_42 (kcX0_findThree_1 34 42 rfl)
theorem dX0_findThree_99 : decode cX0_findThree 99 = .ok (.aload_n 1, 1) := dw_43 (kcX0_findThree_1 35 43 rfl)
theorem dX0_findThree_100 : decode cX0_findThree 100 = .ok (.aload_n 2, 1) := dw_44 (kcX0_findThree_1 36 44 rfl)
theorem dX0_findThree_101 : decode cX0_findThree 101 = .ok (.iload_n 3, 1) := dw_29 (kcX0_findThree_1 37 29 rfl)
theorem dX0_findThree_102 : decode cX0_findThree 102 = .ok (.iload 8, 2) := dw_21 (kcX0_findThree_1 38 21 rfl) (kcX0_findThree_1 39 8 rfl)
theorem dX0_findThree_104 : decode cX0_findThree 104 = .ok (.invokestatic 55, 3) := dw_184 (kcX0_findThree_1 40 184 rfl) (kcX0_findThree_1 41 0 rfl) (kcX0_findThree_1 42 55 rfl) rfl
theorem dX0_findThree_107 : decode cX0_findThree 107 = .ok (.invokevirtual 88, 3) := dw_182 (kcX0_findThree_1 43 182 rfl) (kcX0_findThree_1 44 0 rfl) (kcX0_findThree_1 45 88 rfl) rfl
theorem dX0_findThree_110 : decode cX0_findThree 110 = .ok (.istore 9, 2) := dw_54 (kcX0_findThree_1 46 54 rfl) (kcX0_findThree_1 47 9 rfl)
theorem dX0_findThree_112 : decode cX0_findThree 112 = .ok (.aload_n 0, 1) := dw_42 (kcX0_findThree_1 48 42 rfl)
theorem dX0_findThree_113 : decode cX0_findThree 113 = .ok (.aload_n 1, 1) := dw_43 (kcX0_findThree_1 49 43 rfl)
theorem dX0_findThree_114 : decode cX0_findThree 114 = .ok (.aload_n 2, 1) := dw_44 (kcX0_findThree_1 50 44 rfl)
theorem dX0_findThree_115 : decode cX0_findThree 115 = .ok (.iload 6, 2) := dw_21 (kcX0_findThree_1 51 21 rfl) (kcX0_findThree_1 52 6 rfl)
theorem dX0_findThree_117 : decode cX0_findThree 117 = .ok (.iload 8, 2) := dw_21 (kcX0_findThree_1 53 21 rfl) (kcX0_findThree_1 54 8 rfl)
theorem dX0_findThree_119 : decode cX0_findThree 119 = .ok (.invokestatic 55, 3) := dw_184 (kcX0_findThree_1 55 184 rfl) (kcX0_findThree_1 56 0 rfl) (kcX0_findThree_1 57 55 rfl) rfl
theorem dX0_findThree_122 : decode cX0_findThree 122 = .ok (.invokevirtual 88, 3) := dw_182 (kcX0_findThree_1 58 182 rfl) (kcX0_findThree_1 59 0 rfl) (kcX0_findThree_1 60 88 rfl) rfl
theorem dX0_findThree_125 : decode cX0_findThree 125 = .ok (.istore 10, 2) := dw_54 (kcX0_findThree_1 61 54 rfl) (kcX0_findThree_1 62 10 rfl)
theorem kcX0_findThree_2 : CHb cX0_findThree 128 [7, 2, 159, 0, 19, 21, 9, 2, 159, 0, 13, 21, 10, 2, 159, 0, 7, 4, 167, 0, 4, 3, 54, 11, 21, 7, 21, 9, 96, 21, 10, 96, 54, 12, 21, 11, 153, 0, 31, 21, 12, 158, 0, 26, 21, 12, 21, 5, 162, 0, 19, 21, 12, 54, 5, 42, 21, 6, 181, 0, 35, 42, 21, 8] := CHb_of (by decide +kernel)
theorem dX0_findThree_127 : decode cX0_findThree 127 = .ok (.iload 7, 2) := dw_21 (kcX0_findThree_1 63 21 rfl) (kcX0_findThree_2 0 7 rfl)
theorem dX0_findThree_129 : decode cX0_findThree 129 = .ok (.iconst (-1), 1) := dw_2 (kcX0_findThree_2 1 2 rfl)
theorem dX0_findThree_130 : decode cX0_findThree 130 = .ok (.if_icmp .eq 19, 3) := dw_159 (kcX0_findThree_2 2 159 rfl) (kcX0_findThree_2 3 0 rfl) (kcX0_findThree_2 4 19 rfl) rfl
theorem dX0_findThree_149 : decode cX0_findThree 149 = .ok (.iconst 0, 1) := dw_3 (kcX0_findThree_2 21 3 rfl)
theorem dX0_findThree_150 : decode cX0_findThree 150 = .ok (.istore 11, 2) := dw_54 (kcX0_findThree_2 22 54 rfl) (kcX0_findThree_2 23 11 rfl)
theorem dX0_findThree_152 : decode cX0_findThree 152 = .ok (.iload 7, 2) := dw_21 (kcX0_findThree_2 24 21 rfl) (kcX0_findThree_2 25 7 rfl)
theorem dX0_findThree_154 : decode cX0_findThree 154 = .ok (.iload 9, 2) := dw_21 (kcX0_findThree_2 26 21 rfl) (kcX0_findThree_2 27 9 rfl)
theorem dX0_findThree_156 : decode cX0_findThree 156 = .ok (.iadd, 1) := dw_96 (kcX0_findThree_2 28 96 rfl)
theorem dX0_findThree_157 : decode cX0_findThree 157 = .ok (.iload 10, 2) := dw_21 (kcX0_findThree_2 29 21 rfl) (kcX0_findThree_2 30 10 rfl)
theorem dX0_findThree_159 : decode cX0_findThree 159 = .ok (.iadd, 1) := dw_96 (kcX0_findThree_2 31 96 rfl)
theorem dX0_findThree_160 : decode cX0_findThree 160 = .ok (.istore 12, 2) := dw_54 (kcX0_findThree_2 32 54 rfl) (kcX0_findThree_2 33 12 rfl)
theorem dX0_findThree_162 : decode cX0_findThree 162 = .ok (.iload 11, 2) := dw_21 (kcX0_findThree_2 34 21 rfl) (kcX0_findThree_2 35 11 rfl)
theorem dX0_findThree_164 : decode cX0_findThree 164 = .ok (.ifCond .eq 31, 3) := dw_153 (kcX0_findThree_2 36 153 rfl) (kcX0_findThree_2 37 0 rfl) (kcX0_findThree_2 38 31 rfl) rfl
theorem dX0_findThree_195 : decode cX0_findThree 195 = .ok (.iinc 8 1, 3) := dw_132 (kcX0_findThree_3 3 132 rfl) (kcX0_findThree_3 4 8 rfl) (kcX0_findThree_3 5 1 rfl) rfl
theorem dX0_findThree_198 : decode cX0_findThree 198 = .ok (.goto (-119), 3) := dw_167 (kcX0_findThree_3 6 167 rfl) (kcX0_findThree_3 7 255 rfl) (kcX0_findThree_3 8 137 rfl) rfl
theorem dX0_findThree_133 : decode cX0_findThree 133 = .ok (.iload 9, 2) := dw_21 (kcX0_findThree_2 5 21 rfl) (kcX0_findThree_2 6 9 rfl)
theorem dX0_findThree_135 : decode cX0_findThree 135 = .ok (.iconst (-1), 1) := dw_2 (kcX0_findThree_2 7 2 rfl)
theorem dX0_findThree_136 : decode cX0_findThree 136 = .ok (.if_icmp .eq 13, 3) := dw_159 (kcX0_findThree_2 8 159 rfl) (kcX0_findThree_2 9 0 rfl) (kcX0_findThree_2 10 13 rfl) rfl
theorem dX0_findThree_139 : decode cX0_findThree 139 = .ok (.iload 10, 2) := dw_21 (kcX0_findThree_2 11 21 rfl) (kcX0_findThree_2 12 10 rfl)
theorem dX0_findThree_141 : decode cX0_findThree 141 = .ok (.iconst (-1), 1) := dw_2 (kcX0_findThree_2 13 2 rfl)
theorem dX0_findThree_142 : decode cX0_findThree 142 = .ok (.if_icmp .eq 7, 3) := dw_159 (kcX0_findThree_2 14 159 rfl) (kcX0_findThree_2 15 0 rfl) (kcX0_findThree_2 16 7 rfl) rfl
theorem dX0_findThree_145 : decode cX0_findThree 145 = .ok (.iconst 1, 1) := dw_4 (kcX0_findThree_2 17 4 rfl)
theorem dX0_findThree_146 : decode cX0_findThree 146 = .ok (.goto 4, 3) := dw_167 (kcX0_findThree_2 18 167 rfl) (kcX0_findThree_2 19 0 rfl) (kcX0_findThree_2 20 4 rfl) rfl
theorem dX0_findThree_167 : decode cX0_findThree 167 = .ok (.iload 12, 2) := dw_21 (kcX0_findThree_2 39 21 rfl) (kcX0_findThree_2 40 12 rfl)
theorem dX0_findThree_169 : decode cX0_findThree 169 = .ok (.ifCond .le 26, 3) := dw_158 (kcX0_findThree_2 41 158 rfl) (kcX0_findThree_2 42 0 rfl) (kcX0_findThree_2 43 26 rfl) rfl
theorem dX0_findThree_172 : decode cX0_findThree 172 = .ok (.iload 12, 2) := dw_21 (kcX0_findThree_2 44 21 rfl) (kcX0_findThree_2 45 12 rfl)
theorem dX0_findThree_174 : decode cX0_findThree 174 = .ok (.iload 5, 2) := dw_21 (kcX0_findThree_2 46 21 rfl) (kcX0_findThree_2 47 5 rfl)
theorem dX0_findThree_176 : decode cX0_findThree 176 = .ok (.if_icmp .ge 19, 3) := dw_162 (kcX0_findThree_2 48 162 rfl) (kcX0_findThree_2 49 0 rfl) (kcX0_findThree_2 50 19 rfl) rfl
theorem dX0_findThree_179 : decode cX0_findThree 179 = .ok (.iload 12, 2) := dw_21 (kcX0_findThree_2 51 21 rfl) (kcX0_findThree_2 52 12 rfl)
theorem dX0_findThree_181 : decode cX0_findThree 181 = .ok (.istore 5, 2) := dw_54 (kcX0_findThree_2 53 54 rfl) (kcX0_findThree_2 54 5 rfl)
theorem dX0_findThree_183 : decode cX0_findThree 183 = .ok (.aload_n 0, 1) := dw_42 (kcX0_findThree_2 55 42 rfl)
theorem dX0_findThree_184 : decode cX0_findThree 184 = .ok (.iload 6, 2) := dw_21 (kcX0_findThree_2 56 21 rfl) (kcX0_findThree_2 57 6 rfl)
theorem dX0_findThree_186 : decode cX0_findThree 186 = .ok (.putfield 35, 3) := dw_181 (kcX0_findThree_2 58 181 rfl) (kcX0_findThree_2 59 0 rfl) (kcX0_findThree_2 60 35 rfl) rfl
theorem dX0_findThree_189 : decode cX0_findThree 189 = .ok (.aload_n 0, 1) := dw_42 (kcX0_findThree_2 61 42 rfl)
theorem dX0_findThree_190 : decode cX0_findThree 190 = .ok (.iload 8, 2) := dw_21 (kcX0_findThree_2 62 21 rfl) (kcX0_findThree_2 63 8 rfl)
theorem dX0_findThree_192 : decode cX0_findThree 192 = .ok (.putfield 38, 3) := dw_181 (kcX0_findThree_3 0 181 rfl) (kcX0_findThree_3 1 0 rfl) (kcX0_findThree_3 2 38 rfl) rfl
theorem dX0_findThree_95 : decode cX0_findThree 95 = .ok (.goto 100, 3) := dw_167 (kcX0_findThree_1 31 167 rfl) (kcX0_findThree_1 32 0 rfl) (kcX0_findThree_1 33 100 rfl) rfl
theorem dX0_findThree_58 : decode cX0_findThree 58 = .ok (.goto 143, 3) := dw_167 (kcX0_findThree_0 58 167 rfl) (kcX0_findThree_0 59 0 rfl) (kcX0_findThree_0 60 143 rfl) rfl
/-- the chosen cells are places -/
def chP (c : Nat → Int32) (n : Nat) : Prop := ∀ k, k < n → ∃ sp, sp < 144 ∧ c k = nI sp
set_option maxHeartbeats 4000000 in
set_option maxRecDepth 100000 in
theorem c_X0_priceSets (l : Launch) (G : GG) (ga : Nat → Nat) (gf : Nat → Int32) (gr : Nat → Nat → Int32) (ch : Nat) (hch : ch ≤ 8) (h4 : gf 4 = nI ch) (ns : Nat) (hns : ns ≤ 256) : WrV l yX0_priceSets cX0_priceSets 4 ({ frames := 1, cells := 0, slots := 0, locals := 21 }) G ([((ga 9), .inr (0, [.ref (ga 0), .ref (ga 1), .ref (ga 2), .ref (ga 3), .int (gf 4), .int (gf 5), .int (gf 6), .int (gf 7), .int (gf 8)])), ((ga 0), .inl (G.2.2.1, 144, .inl (gr 0))), ((ga 1), .inl (G.2.1, 8, .inl (gr 1))), ((ga 2), .inl (G.2.1, 8, .inl (gr 2))), ((ga 3), .inl (G.2.1, 256, .inl (gr 3)))]) [.ref (ga 9), .int (nI ns)] (fun w => ∃ p3 : Nat → Int32, w = [((ga 9), .inr (0, [.ref (ga 0), .ref (ga 1), .ref (ga 2), .ref (ga 3), .int (gf 4), .int (gf 5), .int (gf 6), .int (gf 7), .int (gf 8)])), ((ga 0), .inl (G.2.2.1, 144, .inl (gr 0))), ((ga 1), .inl (G.2.1, 8, .inl (gr 1))), ((ga 2), .inl (G.2.1, 8, .inl (gr 2))), ((ga 3), .inl (G.2.1, 256, .inl p3))]) := by
  refine wr_entryV (by decide +kernel) (Nat.le_of_ble_eq_true rfl) ?_
  intro p e s m below meth c A C0 hP hK hD hA ls hl
  have hS : va_S A s.heap s.heap [] := va_S.rf
  obtain ⟨hx, hb, hml, hown, hts, hr, hlocks, hin⟩ := C0
  have hown : s.vm.findClass RX0 = some m.cls := hown
  have hl : lv_has ls 4 [(0, .ref (ga 9)), (1, .int (nI ns))] := hl
  refine lv_iconst (v := 0) hx hb dX0_priceSets_0 (by decide) ?_
  refine lv_istore_n (lv' := [(2, .int 0), (0, .ref (ga 9)), (1, .int (nI ns))]) hx hb dX0_priceSets_1 rfl hl (by decide) rfl (fun ls hl => ?_)
  have outer : ∀ (k s_ : Nat) (p3 : Nat → Int32), s_ ≤ ns → ns < s_ + k → ∀ (H : Heap) (locs : List Loc) (ls : Array Slot), PP G ([((ga 9), .inr (0, [.ref (ga 0), .ref (ga 1), .ref (ga 2), .ref (ga 3), .int (gf 4), .int (gf 5), .int (gf 6), .int (gf 7), .int (gf 8)])), ((ga 0), .inl (G.2.2.1, 144, .inl (gr 0))), ((ga 1), .inl (G.2.1, 8, .inl (gr 1))), ((ga 2), .inl (G.2.1, 8, .inl (gr 2))), ((ga 3), .inl (G.2.1, 256, .inl p3))]) H → va_S A s.heap H locs → lv_has ls 4 [(0, .ref (ga 9)), (1, .int (nI ns)), (2, .int (nI s_))] → W p l e ({ frames := 1, cells := 0, slots := 0, locals := 21 }) s m ([.ref (ga 9), .int (nI ns)] : List Value).toArray below meth c H locs 0 0 (MQ below (QwV G (fun w => ∃ p3 : Nat → Int32, w = [((ga 9), .inr (0, [.ref (ga 0), .ref (ga 1), .ref (ga 2), .ref (ga 3), .int (gf 4), .int (gf 5), .int (gf 6), .int (gf 7), .int (gf 8)])), ((ga 0), .inl (G.2.2.1, 144, .inl (gr 0))), ((ga 1), .inl (G.2.1, 8, .inl (gr 1))), ((ga 2), .inl (G.2.1, 8, .inl (gr 2))), ((ga 3), .inl (G.2.1, 256, .inl p3))]) A) ([.ref (ga 9), .int (nI ns)] : List Value).toArray s 0 0 A) (F0 m 2 ls []) := by
    intro k
    induction k with
    | zero => intro s_ p3 h1 h2; omega
    | succ k ih =>
      intro s_ p3 hi_s_ hk_s_  H locs ls hP hS hl
      have hD := D_as2 hP hD rfl
      refine lv_iload_n hx hb dX0_priceSets_2 rfl (lv_at hl 2 rfl) ?_
      refine lv_iload_n hx hb dX0_priceSets_3 rfl (lv_at hl 1 rfl) ?_
      refine lv_icmp_ge (tgt := 61) hx hb dX0_priceSets_4 (by decide) (fun c1 => ?_) (fun c1 => ?_)
      · exact wr_vret hx hb hr hlocks hS hP ⟨p3, rfl⟩ dX0_priceSets_61
      · have hlt := ge_f (by omega) (by omega) c1
        refine lv_aload_n hx hb dX0_priceSets_7 rfl (lv_at hl 0 rfl) ?_
        refine va_get (D := G.1) (ci := 0) (v := .ref (ga 3)) (C := RX0) (T := TX0) (N := 9) hx hb hts inX0 hown hK.1 hP 0 rfl rfl 3 (by decide) (hts _ mf_X0_22) (fun _ h9 => h9) rfl dX0_priceSets_8 ?_
        refine lv_iload_n hx hb dX0_priceSets_11 rfl (lv_at hl 2 rfl) ?_
        refine lv_iconst (v := 0) hx hb dX0_priceSets_12 (by decide) ?_
        refine xiast (x := 0) hx hb hK hP hD hS 4 (s_) (rfl) (by omega) (by omega) rfl dX0_priceSets_13 (fun H locs hP hD hS => ?_)
        have hP : PP G [((ga 9), .inr (0, [.ref (ga 0), .ref (ga 1), .ref (ga 2), .ref (ga 3), .int (gf 4), .int (gf 5), .int (gf 6), .int (gf 7), .int (gf 8)])), ((ga 0), .inl (G.2.2.1, 144, .inl (gr 0))), ((ga 1), .inl (G.2.1, 8, .inl (gr 1))), ((ga 2), .inl (G.2.1, 8, .inl (gr 2))), ((ga 3), .inl (G.2.1, 256, .inl (upd p3 (s_) (0))))] H := hP
        have hD := D_as hP hD rfl
        refine lv_iconst (v := 0) hx hb dX0_priceSets_14 (by decide) ?_
        refine lv_istore_n (lv' := [(3, .int 0), (0, .ref (ga 9)), (1, .int (nI ns)), (2, .int (nI s_))]) hx hb dX0_priceSets_15 rfl hl (by decide) rfl (fun ls hl => ?_)
        have inner : ∀ (k2 c_ : Nat) (p3 : Nat → Int32), c_ ≤ ch → ch < c_ + k2 → ∀ (H : Heap) (locs : List Loc) (ls : Array Slot), PP G ([((ga 9), .inr (0, [.ref (ga 0), .ref (ga 1), .ref (ga 2), .ref (ga 3), .int (gf 4), .int (gf 5), .int (gf 6), .int (gf 7), .int (gf 8)])), ((ga 0), .inl (G.2.2.1, 144, .inl (gr 0))), ((ga 1), .inl (G.2.1, 8, .inl (gr 1))), ((ga 2), .inl (G.2.1, 8, .inl (gr 2))), ((ga 3), .inl (G.2.1, 256, .inl p3))]) H → va_S A s.heap H locs → lv_has ls 4 [(0, .ref (ga 9)), (1, .int (nI ns)), (2, .int (nI s_)), (3, .int (nI c_))] → W p l e ({ frames := 1, cells := 0, slots := 0, locals := 21 }) s m ([.ref (ga 9), .int (nI ns)] : List Value).toArray below meth c H locs 0 0 (MQ below (QwV G (fun w => ∃ p3 : Nat → Int32, w = [((ga 9), .inr (0, [.ref (ga 0), .ref (ga 1), .ref (ga 2), .ref (ga 3), .int (gf 4), .int (gf 5), .int (gf 6), .int (gf 7), .int (gf 8)])), ((ga 0), .inl (G.2.2.1, 144, .inl (gr 0))), ((ga 1), .inl (G.2.1, 8, .inl (gr 1))), ((ga 2), .inl (G.2.1, 8, .inl (gr 2))), ((ga 3), .inl (G.2.1, 256, .inl p3))]) A) ([.ref (ga 9), .int (nI ns)] : List Value).toArray s 0 0 A) (F0 m 16 ls []) := by
          intro k2
          induction k2 with
          | zero => intro c_ p3 h1 h2; omega
          | succ k2 ih2 =>
            intro c_ p3 hi_c_ hk_c_  H locs ls hP hS hl
            have hD := D_as2 hP hD rfl
            refine lv_iload_n hx hb dX0_priceSets_16 rfl (lv_at hl 3 rfl) ?_
            refine lv_aload_n hx hb dX0_priceSets_17 rfl (lv_at hl 0 rfl) ?_
            refine va_get (D := G.1) (ci := 0) (v := .int (gf 4)) (C := RX0) (T := TX0) (N := 9) hx hb hts inX0 hown hK.1 hP 0 rfl rfl 4 (by decide) (hts _ mf_X0_25) (fun _ h9 => h9) rfl dX0_priceSets_18 ?_
            refine lv_icmp_ge (tgt := 55) hx hb dX0_priceSets_21 (by decide) (fun c2 => ?_) (fun c2 => ?_)
            · rw [h4] at c2
              have hge2 := ge_t (by omega) (by omega) c2
              have heq2 : c_ = ch := by omega
              obtain ⟨v3, ev3⟩ : ∃ y : Int32, y = (nI s_) + Int32.ofInt (1) := ⟨_, rfl⟩
              refine lv_iinc (v := v3) (lv' := [(2, .int v3), (0, .ref (ga 9)), (1, .int (nI ns)), (3, .int (nI c_))]) hx hb dX0_priceSets_55 hl (k := 2) rfl ev3.symm (by decide) rfl (fun ls hl => ?_)
              refine lv_goto (tgt := 2) hx hb dX0_priceSets_58 (by decide) ?_
              exact ih (s_ + 1) p3 (by omega) (by omega) _ _ _ hP hS (by have e := nI_inc ev3; rw [e] at hl; exact lv_sub hl [1, 2, 0] rfl)
            · rw [h4] at c2
              have hlt2 := ge_f (by omega) (by omega) c2
              refine lv_iload_n hx hb dX0_priceSets_24 rfl (lv_at hl 2 rfl) ?_
              refine lv_aload_n hx hb dX0_priceSets_25 rfl (lv_at hl 0 rfl) ?_
              refine lv_iload_n hx hb dX0_priceSets_26 rfl (lv_at hl 3 rfl) ?_
              refine rdV (rest := [.int (nI s_)]) (q0 := 0) ⟨hx, hb, hml, hown, hts⟩ (c_X0_bitOf l G ga (fun k => match k with | 4 => (gf 4) | 5 => (gf 5) | 6 => (gf 6) | 7 => (gf 7) | _ => (gf 8)) (fun k => match k with | 0 => (gr 0) | 1 => (gr 1) | 2 => (gr 2) | _ => p3) (nI c_)) mi_yX0_bitOf mv_yX0_bitOf ml_X0_110 ⟨rfl, rfl, Nat.le_of_ble_eq_true rfl, Nat.le_of_ble_eq_true rfl⟩ hK (hP.sub (ws' := [((ga 9), .inr (0, [.ref (ga 0), .ref (ga 1), .ref (ga 2), .ref (ga 3), .int (gf 4), .int (gf 5), .int (gf 6), .int (gf 7), .int (gf 8)])), ((ga 0), .inl (G.2.2.1, 144, .inl (gr 0))), ((ga 1), .inl (G.2.1, 8, .inl (gr 1))), ((ga 2), .inl (G.2.1, 8, .inl (gr 2))), ((ga 3), .inl (G.2.1, 256, .inl p3))]) [0, 1, 2, 3, 4] rfl) rfl rfl rfl hl.1 rfl (Nat.le_of_ble_eq_true rfl) dX0_priceSets_27 ⟨Nat.zero_le _, Nat.zero_le _⟩ hS hA hP (fun r4 H locs hr4 hP hS => ?_)
              refine lv_iand hx hb dX0_priceSets_30 ?_
              refine lv_topi (fun v5 ev5 => ?_)
              refine lv_if_eq (tgt := 49) hx hb dX0_priceSets_31 (by decide) (fun c6 => ?_) (fun c6 => ?_)
              · obtain ⟨v7, ev7⟩ : ∃ y : Int32, y = (nI c_) + Int32.ofInt (1) := ⟨_, rfl⟩
                refine lv_iinc (v := v7) (lv' := [(3, .int v7), (0, .ref (ga 9)), (1, .int (nI ns)), (2, .int (nI s_))]) hx hb dX0_priceSets_49 hl (k := 3) rfl ev7.symm (by decide) rfl (fun ls hl => ?_)
                refine lv_goto (tgt := 16) hx hb dX0_priceSets_52 (by decide) ?_
                exact ih2 (c_ + 1) p3 (by omega) (by omega) _ _ _ hP hS (by have e := nI_inc ev7; rw [e] at hl; exact lv_sub hl [1, 2, 3, 0] rfl)
              · refine lv_aload_n hx hb dX0_priceSets_34 rfl (lv_at hl 0 rfl) ?_
                refine va_get (D := G.1) (ci := 0) (v := .ref (ga 3)) (C := RX0) (T := TX0) (N := 9) hx hb hts inX0 hown hK.1 hP 0 rfl rfl 3 (by decide) (hts _ mf_X0_22) (fun _ h9 => h9) rfl dX0_priceSets_35 ?_
                refine lv_iload_n hx hb dX0_priceSets_38 rfl (lv_at hl 2 rfl) ?_
                refine lv_dup2_11 hx hb dX0_priceSets_39 rfl rfl ?_
                refine xiald hx hb hK hP 4 (s_) (rfl) (by omega) (by omega) rfl dX0_priceSets_40 ?_
                refine lv_topi (fun v8 ev8 => ?_)
                refine lv_aload_n hx hb dX0_priceSets_41 rfl (lv_at hl 0 rfl) ?_
                refine va_get (D := G.1) (ci := 0) (v := .ref (ga 2)) (C := RX0) (T := TX0) (N := 9) hx hb hts inX0 hown hK.1 hP 0 rfl rfl 2 (by decide) (hts _ mf_X0_19) (fun _ h9 => h9) rfl dX0_priceSets_42 ?_
                refine lv_iload_n hx hb dX0_priceSets_45 rfl (lv_at hl 3 rfl) ?_
                refine xiald hx hb hK hP 3 (c_) (rfl) (by omega) (by omega) rfl dX0_priceSets_46 ?_
                refine lv_topi (fun v9 ev9 => ?_)
                refine lv_iadd hx hb dX0_priceSets_47 ?_
                refine lv_topi (fun v10 ev10 => ?_)
                refine xiast (x := v10) hx hb hK hP hD hS 4 (s_) (rfl) (by omega) (by omega) rfl dX0_priceSets_48 (fun H locs hP hD hS => ?_)
                have hP : PP G [((ga 9), .inr (0, [.ref (ga 0), .ref (ga 1), .ref (ga 2), .ref (ga 3), .int (gf 4), .int (gf 5), .int (gf 6), .int (gf 7), .int (gf 8)])), ((ga 0), .inl (G.2.2.1, 144, .inl (gr 0))), ((ga 1), .inl (G.2.1, 8, .inl (gr 1))), ((ga 2), .inl (G.2.1, 8, .inl (gr 2))), ((ga 3), .inl (G.2.1, 256, .inl (upd p3 (s_) (v10))))] H := hP
                have hD := D_as hP hD rfl
                obtain ⟨v11, ev11⟩ : ∃ y : Int32, y = (nI c_) + Int32.ofInt (1) := ⟨_, rfl⟩
                refine lv_iinc (v := v11) (lv' := [(3, .int v11), (0, .ref (ga 9)), (1, .int (nI ns)), (2, .int (nI s_))]) hx hb dX0_priceSets_49 hl (k := 3) rfl ev11.symm (by decide) rfl (fun ls hl => ?_)
                refine lv_goto (tgt := 16) hx hb dX0_priceSets_52 (by decide) ?_
                exact ih2 (c_ + 1) (upd p3 (s_) (v10)) (by omega) (by omega) _ _ _ hP hS (by have e := nI_inc ev11; rw [e] at hl; exact lv_sub hl [1, 2, 3, 0] rfl)
        exact inner (ch + 1) 0 (upd p3 (s_) (0)) (Nat.zero_le _) (by omega) _ _ _ hP hS (lv_sub hl [1, 2, 3, 0] rfl)
  exact outer (ns + 1) 0 (gr 3) (Nat.zero_le _) (by omega) _ _ _ hP hS (lv_sub hl [1, 2, 0] rfl)
set_option maxHeartbeats 4000000 in
set_option maxRecDepth 100000 in
theorem c_X0_tell (l : Launch) (G : GG) (ga : Nat → Nat) (gf : Nat → Int32) (gr : Nat → Nat → Int32) (ta : Nat → Nat) (tf : Nat → Int32) (tr : Nat → Nat → Int32) (ch : Nat) (hch : ch ≤ 8) (h4 : gf 4 = nI ch) (hcp : chP (gr 1) ch) (st_ : Int32) : WrV l yX0_tell cX0_tell 4 ({ frames := 1, cells := 0, slots := 0, locals := 23 }) G ([((ga 9), .inr (0, [.ref (ga 0), .ref (ga 1), .ref (ga 2), .ref (ga 3), .int (gf 4), .int (gf 5), .int (gf 6), .int (gf 7), .int (gf 8)])), ((ga 0), .inl (G.2.2.1, 144, .inl (gr 0))), ((ga 1), .inl (G.2.1, 8, .inl (gr 1))), ((ga 2), .inl (G.2.1, 8, .inl (gr 2))), ((ga 3), .inl (G.2.1, 256, .inl (gr 3))), ((ta 0), .inr (4, [.int (tf 0), .int (tf 1), .int (tf 2), .int (tf 3), .ref (ta 4), .ref (ta 5), .ref (ta 6), .ref (ta 7), .ref (ta 8), .ref (ta 9), .ref (ta 10), .ref (ta 11)])), ((ta 4), .inl (G.2.1, 12, .inl (tr 4))), ((ta 5), .inl (G.2.1, 144, .inl (tr 5))), ((ta 6), .inl (G.2.1, 144, .inl (tr 6))), ((ta 7), .inl (G.2.1, 144, .inl (tr 7))), ((ta 8), .inl (G.2.1, 864, .inl (tr 8))), ((ta 9), .inl (G.2.1, 6, .inl (tr 9))), ((ta 10), .inl (G.2.1, 12, .inl (tr 10))), ((ta 11), .inl (G.2.1, 12, .inl (tr 11)))]) [.ref (ga 9), .ref (ta 0), .int st_] (fun w => ∃ td : Nat → Int32, hb1 (tr 7) td ∧ w = [((ga 9), .inr (0, [.ref (ga 0), .ref (ga 1), .ref (ga 2), .ref (ga 3), .int (gf 4), .int (gf 5), .int (gf 6), .int (gf 7), .int (gf 8)])), ((ga 0), .inl (G.2.2.1, 144, .inl (gr 0))), ((ga 1), .inl (G.2.1, 8, .inl (gr 1))), ((ga 2), .inl (G.2.1, 8, .inl (gr 2))), ((ga 3), .inl (G.2.1, 256, .inl (gr 3))), ((ta 0), .inr (4, [.int (tf 0), .int (tf 1), .int (tf 2), .int (tf 3), .ref (ta 4), .ref (ta 5), .ref (ta 6), .ref (ta 7), .ref (ta 8), .ref (ta 9), .ref (ta 10), .ref (ta 11)])), ((ta 4), .inl (G.2.1, 12, .inl (tr 4))), ((ta 5), .inl (G.2.1, 144, .inl (tr 5))), ((ta 6), .inl (G.2.1, 144, .inl (tr 6))), ((ta 7), .inl (G.2.1, 144, .inl td)), ((ta 8), .inl (G.2.1, 864, .inl (tr 8))), ((ta 9), .inl (G.2.1, 6, .inl (tr 9))), ((ta 10), .inl (G.2.1, 12, .inl (tr 10))), ((ta 11), .inl (G.2.1, 12, .inl (tr 11)))]) := by
  refine wr_entryV (by decide +kernel) (Nat.le_of_ble_eq_true rfl) ?_
  intro p e s m below meth c A C0 hP hK hD hA ls hl
  have hS : va_S A s.heap s.heap [] := va_S.rf
  obtain ⟨hx, hb, hml, hown, hts, hr, hlocks, hin⟩ := C0
  have hown : s.vm.findClass RX0 = some m.cls := hown
  have hl : lv_has ls 4 [(0, .ref (ga 9)), (1, .ref (ta 0)), (2, .int st_)] := hl
  refine lv_iconst (v := 0) hx hb dX0_tell_0 (by decide) ?_
  refine lv_istore_n (lv' := [(3, .int 0), (0, .ref (ga 9)), (1, .ref (ta 0)), (2, .int st_)]) hx hb dX0_tell_1 rfl hl (by decide) rfl (fun ls hl => ?_)
  have loop1 : ∀ (k i : Nat) (td : Nat → Int32), i ≤ 144 → 144 < i + k → hb1 (tr 7) td → ∀ (H : Heap) (locs : List Loc) (ls : Array Slot), PP G ([((ga 9), .inr (0, [.ref (ga 0), .ref (ga 1), .ref (ga 2), .ref (ga 3), .int (gf 4), .int (gf 5), .int (gf 6), .int (gf 7), .int (gf 8)])), ((ga 0), .inl (G.2.2.1, 144, .inl (gr 0))), ((ga 1), .inl (G.2.1, 8, .inl (gr 1))), ((ga 2), .inl (G.2.1, 8, .inl (gr 2))), ((ga 3), .inl (G.2.1, 256, .inl (gr 3))), ((ta 0), .inr (4, [.int (tf 0), .int (tf 1), .int (tf 2), .int (tf 3), .ref (ta 4), .ref (ta 5), .ref (ta 6), .ref (ta 7), .ref (ta 8), .ref (ta 9), .ref (ta 10), .ref (ta 11)])), ((ta 4), .inl (G.2.1, 12, .inl (tr 4))), ((ta 5), .inl (G.2.1, 144, .inl (tr 5))), ((ta 6), .inl (G.2.1, 144, .inl (tr 6))), ((ta 7), .inl (G.2.1, 144, .inl td)), ((ta 8), .inl (G.2.1, 864, .inl (tr 8))), ((ta 9), .inl (G.2.1, 6, .inl (tr 9))), ((ta 10), .inl (G.2.1, 12, .inl (tr 10))), ((ta 11), .inl (G.2.1, 12, .inl (tr 11)))]) H → va_S A s.heap H locs → lv_has ls 4 [(0, .ref (ga 9)), (1, .ref (ta 0)), (2, .int st_), (3, .int (nI i))] → W p l e ({ frames := 1, cells := 0, slots := 0, locals := 23 }) s m ([.ref (ga 9), .ref (ta 0), .int st_] : List Value).toArray below meth c H locs 0 0 (MQ below (QwV G (fun w => ∃ td : Nat → Int32, hb1 (tr 7) td ∧ w = [((ga 9), .inr (0, [.ref (ga 0), .ref (ga 1), .ref (ga 2), .ref (ga 3), .int (gf 4), .int (gf 5), .int (gf 6), .int (gf 7), .int (gf 8)])), ((ga 0), .inl (G.2.2.1, 144, .inl (gr 0))), ((ga 1), .inl (G.2.1, 8, .inl (gr 1))), ((ga 2), .inl (G.2.1, 8, .inl (gr 2))), ((ga 3), .inl (G.2.1, 256, .inl (gr 3))), ((ta 0), .inr (4, [.int (tf 0), .int (tf 1), .int (tf 2), .int (tf 3), .ref (ta 4), .ref (ta 5), .ref (ta 6), .ref (ta 7), .ref (ta 8), .ref (ta 9), .ref (ta 10), .ref (ta 11)])), ((ta 4), .inl (G.2.1, 12, .inl (tr 4))), ((ta 5), .inl (G.2.1, 144, .inl (tr 5))), ((ta 6), .inl (G.2.1, 144, .inl (tr 6))), ((ta 7), .inl (G.2.1, 144, .inl td)), ((ta 8), .inl (G.2.1, 864, .inl (tr 8))), ((ta 9), .inl (G.2.1, 6, .inl (tr 9))), ((ta 10), .inl (G.2.1, 12, .inl (tr 10))), ((ta 11), .inl (G.2.1, 12, .inl (tr 11)))]) A) ([.ref (ga 9), .ref (ta 0), .int st_] : List Value).toArray s 0 0 A) (F0 m 2 ls []) := by
    intro k
    induction k with
    | zero => intro i td h1 h2; omega
    | succ k ih =>
      intro i td hi_i hk_i htd H locs ls hP hS hl
      have hD := D_as2 hP hD rfl
      refine lv_iload_n hx hb dX0_tell_2 rfl (lv_at hl 3 rfl) ?_
      refine lv_sipush (v := 144) hx hb dX0_tell_3 (by decide) ?_
      refine lv_icmp_ge (tgt := 22) hx hb dX0_tell_6 (by decide) (fun c1 => ?_) (fun c1 => ?_)
      · refine lv_iconst (v := 0) hx hb dX0_tell_22 (by decide) ?_
        refine lv_istore_n (lv' := [(3, .int 0), (0, .ref (ga 9)), (1, .ref (ta 0)), (2, .int st_)]) hx hb dX0_tell_23 rfl hl (by decide) rfl (fun ls hl => ?_)
        have loop2 : ∀ (k2 c_ : Nat) (td : Nat → Int32), c_ ≤ ch → ch < c_ + k2 → hb1 (tr 7) td → ∀ (H : Heap) (locs : List Loc) (ls : Array Slot), PP G ([((ga 9), .inr (0, [.ref (ga 0), .ref (ga 1), .ref (ga 2), .ref (ga 3), .int (gf 4), .int (gf 5), .int (gf 6), .int (gf 7), .int (gf 8)])), ((ga 0), .inl (G.2.2.1, 144, .inl (gr 0))), ((ga 1), .inl (G.2.1, 8, .inl (gr 1))), ((ga 2), .inl (G.2.1, 8, .inl (gr 2))), ((ga 3), .inl (G.2.1, 256, .inl (gr 3))), ((ta 0), .inr (4, [.int (tf 0), .int (tf 1), .int (tf 2), .int (tf 3), .ref (ta 4), .ref (ta 5), .ref (ta 6), .ref (ta 7), .ref (ta 8), .ref (ta 9), .ref (ta 10), .ref (ta 11)])), ((ta 4), .inl (G.2.1, 12, .inl (tr 4))), ((ta 5), .inl (G.2.1, 144, .inl (tr 5))), ((ta 6), .inl (G.2.1, 144, .inl (tr 6))), ((ta 7), .inl (G.2.1, 144, .inl td)), ((ta 8), .inl (G.2.1, 864, .inl (tr 8))), ((ta 9), .inl (G.2.1, 6, .inl (tr 9))), ((ta 10), .inl (G.2.1, 12, .inl (tr 10))), ((ta 11), .inl (G.2.1, 12, .inl (tr 11)))]) H → va_S A s.heap H locs → lv_has ls 4 [(0, .ref (ga 9)), (1, .ref (ta 0)), (2, .int st_), (3, .int (nI c_))] → W p l e ({ frames := 1, cells := 0, slots := 0, locals := 23 }) s m ([.ref (ga 9), .ref (ta 0), .int st_] : List Value).toArray below meth c H locs 0 0 (MQ below (QwV G (fun w => ∃ td : Nat → Int32, hb1 (tr 7) td ∧ w = [((ga 9), .inr (0, [.ref (ga 0), .ref (ga 1), .ref (ga 2), .ref (ga 3), .int (gf 4), .int (gf 5), .int (gf 6), .int (gf 7), .int (gf 8)])), ((ga 0), .inl (G.2.2.1, 144, .inl (gr 0))), ((ga 1), .inl (G.2.1, 8, .inl (gr 1))), ((ga 2), .inl (G.2.1, 8, .inl (gr 2))), ((ga 3), .inl (G.2.1, 256, .inl (gr 3))), ((ta 0), .inr (4, [.int (tf 0), .int (tf 1), .int (tf 2), .int (tf 3), .ref (ta 4), .ref (ta 5), .ref (ta 6), .ref (ta 7), .ref (ta 8), .ref (ta 9), .ref (ta 10), .ref (ta 11)])), ((ta 4), .inl (G.2.1, 12, .inl (tr 4))), ((ta 5), .inl (G.2.1, 144, .inl (tr 5))), ((ta 6), .inl (G.2.1, 144, .inl (tr 6))), ((ta 7), .inl (G.2.1, 144, .inl td)), ((ta 8), .inl (G.2.1, 864, .inl (tr 8))), ((ta 9), .inl (G.2.1, 6, .inl (tr 9))), ((ta 10), .inl (G.2.1, 12, .inl (tr 10))), ((ta 11), .inl (G.2.1, 12, .inl (tr 11)))]) A) ([.ref (ga 9), .ref (ta 0), .int st_] : List Value).toArray s 0 0 A) (F0 m 24 ls []) := by
          intro k2
          induction k2 with
          | zero => intro c_ td h1 h2; omega
          | succ k2 ih2 =>
            intro c_ td hi_c_ hk_c_ htd H locs ls hP hS hl
            have hD := D_as2 hP hD rfl
            refine lv_iload_n hx hb dX0_tell_24 rfl (lv_at hl 3 rfl) ?_
            refine lv_aload_n hx hb dX0_tell_25 rfl (lv_at hl 0 rfl) ?_
            refine va_get (D := G.1) (ci := 0) (v := .int (gf 4)) (C := RX0) (T := TX0) (N := 9) hx hb hts inX0 hown hK.1 hP 0 rfl rfl 4 (by decide) (hts _ mf_X0_25) (fun _ h9 => h9) rfl dX0_tell_26 ?_
            refine lv_icmp_ge (tgt := 60) hx hb dX0_tell_29 (by decide) (fun c2 => ?_) (fun c2 => ?_)
            · rw [h4] at c2
              have hge2 := ge_t (by omega) (by omega) c2
              have heq2 : c_ = ch := by omega
              exact wr_vret hx hb hr hlocks hS hP ⟨td, htd, rfl⟩ dX0_tell_60
            · rw [h4] at c2
              have hlt2 := ge_f (by omega) (by omega) c2
              refine lv_iload_n hx hb dX0_tell_32 rfl (lv_at hl 2 rfl) ?_
              refine lv_aload_n hx hb dX0_tell_33 rfl (lv_at hl 0 rfl) ?_
              refine lv_iload_n hx hb dX0_tell_34 rfl (lv_at hl 3 rfl) ?_
              refine rdV (rest := [.int st_]) (q0 := 0) ⟨hx, hb, hml, hown, hts⟩ (c_X0_bitOf l G ga (fun k => match k with | 4 => (gf 4) | 5 => (gf 5) | 6 => (gf 6) | 7 => (gf 7) | _ => (gf 8)) (fun k => match k with | 0 => (gr 0) | 1 => (gr 1) | 2 => (gr 2) | _ => (gr 3)) (nI c_)) mi_yX0_bitOf mv_yX0_bitOf ml_X0_110 ⟨rfl, rfl, Nat.le_of_ble_eq_true rfl, Nat.le_of_ble_eq_true rfl⟩ hK (hP.sub (ws' := [((ga 9), .inr (0, [.ref (ga 0), .ref (ga 1), .ref (ga 2), .ref (ga 3), .int (gf 4), .int (gf 5), .int (gf 6), .int (gf 7), .int (gf 8)])), ((ga 0), .inl (G.2.2.1, 144, .inl (gr 0))), ((ga 1), .inl (G.2.1, 8, .inl (gr 1))), ((ga 2), .inl (G.2.1, 8, .inl (gr 2))), ((ga 3), .inl (G.2.1, 256, .inl (gr 3)))]) [0, 1, 2, 3, 4] rfl) rfl rfl rfl hl.1 rfl (Nat.le_of_ble_eq_true rfl) dX0_tell_35 ⟨Nat.zero_le _, Nat.zero_le _⟩ hS hA hP (fun r3 H locs hr3 hP hS => ?_)
              refine lv_iand hx hb dX0_tell_38 ?_
              refine lv_topi (fun v4 ev4 => ?_)
              refine lv_if_eq (tgt := 54) hx hb dX0_tell_39 (by decide) (fun c5 => ?_) (fun c5 => ?_)
              · obtain ⟨v6, ev6⟩ : ∃ y : Int32, y = (nI c_) + Int32.ofInt (1) := ⟨_, rfl⟩
                refine lv_iinc (v := v6) (lv' := [(3, .int v6), (0, .ref (ga 9)), (1, .ref (ta 0)), (2, .int st_)]) hx hb dX0_tell_54 hl (k := 3) rfl ev6.symm (by decide) rfl (fun ls hl => ?_)
                refine lv_goto (tgt := 24) hx hb dX0_tell_57 (by decide) ?_
                exact ih2 (c_ + 1) _ (by omega) (by omega) htd _ _ _ hP hS (by have e := nI_inc ev6; rw [e] at hl; exact lv_sub hl [1, 2, 3, 0] rfl)
              · refine lv_aload_n hx hb dX0_tell_42 rfl (lv_at hl 1 rfl) ?_
                refine lv_aload_n hx hb dX0_tell_43 rfl (lv_at hl 0 rfl) ?_
                refine va_get (D := G.1) (ci := 0) (v := .ref (ga 1)) (C := RX0) (T := TX0) (N := 9) hx hb hts inX0 hown hK.1 hP 0 rfl rfl 1 (by decide) (hts _ mf_X0_15) (fun _ h9 => h9) rfl dX0_tell_44 ?_
                refine lv_iload_n hx hb dX0_tell_47 rfl (lv_at hl 3 rfl) ?_
                refine xiald hx hb hK hP 2 (c_) (rfl) (by omega) (by omega) rfl dX0_tell_48 ?_
                refine lv_topi (fun v7 ev7 => ?_)
                obtain ⟨sp, hsp, esp⟩ := hcp c_ hlt2
                rw [esp] at ev7
                subst ev7
                refine lv_iconst (v := 2) hx hb dX0_tell_49 (by decide) ?_
                refine lv_iconst (v := 1) hx hb dX0_tell_50 (by decide) ?_
                refine wrVV (rest := []) (q0 := 0) ⟨hx, hb, hml, hown, hts⟩ (c_X4_tell l G ta tf (fun k => match k with | 7 => td | _ => tr 4) (sp) 2 1 (by omega)) mi_yX4_tell mv_yX4_tell ml_X0_75 ⟨rfl, rfl, Nat.le_of_ble_eq_true rfl, Nat.le_of_ble_eq_true rfl⟩ hK hP hD [5, 9] rfl (by decide) rfl rfl rfl hl.1 rfl (Nat.le_of_ble_eq_true rfl) dX0_tell_51 ⟨Nat.zero_le _, Nat.zero_le _⟩ hS hA (fun w9 H locs hw9 hP hS => ?_)
                obtain rfl := hw9
                have htd := hb1_tell htd (sp) 1
                have hP : PP G [((ga 9), .inr (0, [.ref (ga 0), .ref (ga 1), .ref (ga 2), .ref (ga 3), .int (gf 4), .int (gf 5), .int (gf 6), .int (gf 7), .int (gf 8)])), ((ga 0), .inl (G.2.2.1, 144, .inl (gr 0))), ((ga 1), .inl (G.2.1, 8, .inl (gr 1))), ((ga 2), .inl (G.2.1, 8, .inl (gr 2))), ((ga 3), .inl (G.2.1, 256, .inl (gr 3))), ((ta 0), .inr (4, [.int (tf 0), .int (tf 1), .int (tf 2), .int (tf 3), .ref (ta 4), .ref (ta 5), .ref (ta 6), .ref (ta 7), .ref (ta 8), .ref (ta 9), .ref (ta 10), .ref (ta 11)])), ((ta 4), .inl (G.2.1, 12, .inl (tr 4))), ((ta 5), .inl (G.2.1, 144, .inl (tr 5))), ((ta 6), .inl (G.2.1, 144, .inl (tr 6))), ((ta 7), .inl (G.2.1, 144, .inl (upd td (sp) (if (1 : Int32) = 0 then td (sp) &&& ((2 : Int32) ^^^ (-1)) else td (sp) ||| 2)))), ((ta 8), .inl (G.2.1, 864, .inl (tr 8))), ((ta 9), .inl (G.2.1, 6, .inl (tr 9))), ((ta 10), .inl (G.2.1, 12, .inl (tr 10))), ((ta 11), .inl (G.2.1, 12, .inl (tr 11)))] H := hP rfl
                have hD := D_as2 hP hD rfl
                obtain ⟨v10, ev10⟩ : ∃ y : Int32, y = (nI c_) + Int32.ofInt (1) := ⟨_, rfl⟩
                refine lv_iinc (v := v10) (lv' := [(3, .int v10), (0, .ref (ga 9)), (1, .ref (ta 0)), (2, .int st_)]) hx hb dX0_tell_54 hl (k := 3) rfl ev10.symm (by decide) rfl (fun ls hl => ?_)
                refine lv_goto (tgt := 24) hx hb dX0_tell_57 (by decide) ?_
                exact ih2 (c_ + 1) _ (by omega) (by omega) htd _ _ _ hP hS (by have e := nI_inc ev10; rw [e] at hl; exact lv_sub hl [1, 2, 3, 0] rfl)
        exact loop2 (ch + 1) 0 td (Nat.zero_le _) (by omega) htd _ _ _ hP hS (lv_sub hl [1, 2, 3, 0] rfl)
      · have hlt := ge_f (b := 144) (by omega) (by omega) c1
        refine lv_aload_n hx hb dX0_tell_9 rfl (lv_at hl 1 rfl) ?_
        refine lv_iload_n hx hb dX0_tell_10 rfl (lv_at hl 3 rfl) ?_
        refine lv_iconst (v := 2) hx hb dX0_tell_11 (by decide) ?_
        refine lv_iconst (v := 0) hx hb dX0_tell_12 (by decide) ?_
        refine wrVV (rest := []) (q0 := 0) ⟨hx, hb, hml, hown, hts⟩ (c_X4_tell l G ta tf (fun k => match k with | 7 => td | _ => tr 4) (i) 2 0 (by omega)) mi_yX4_tell mv_yX4_tell ml_X0_75 ⟨rfl, rfl, Nat.le_of_ble_eq_true rfl, Nat.le_of_ble_eq_true rfl⟩ hK hP hD [5, 9] rfl (by decide) rfl rfl rfl hl.1 rfl (Nat.le_of_ble_eq_true rfl) dX0_tell_13 ⟨Nat.zero_le _, Nat.zero_le _⟩ hS hA (fun w12 H locs hw12 hP hS => ?_)
        obtain rfl := hw12
        have htd := hb1_tell htd (i) 0
        have hP : PP G [((ga 9), .inr (0, [.ref (ga 0), .ref (ga 1), .ref (ga 2), .ref (ga 3), .int (gf 4), .int (gf 5), .int (gf 6), .int (gf 7), .int (gf 8)])), ((ga 0), .inl (G.2.2.1, 144, .inl (gr 0))), ((ga 1), .inl (G.2.1, 8, .inl (gr 1))), ((ga 2), .inl (G.2.1, 8, .inl (gr 2))), ((ga 3), .inl (G.2.1, 256, .inl (gr 3))), ((ta 0), .inr (4, [.int (tf 0), .int (tf 1), .int (tf 2), .int (tf 3), .ref (ta 4), .ref (ta 5), .ref (ta 6), .ref (ta 7), .ref (ta 8), .ref (ta 9), .ref (ta 10), .ref (ta 11)])), ((ta 4), .inl (G.2.1, 12, .inl (tr 4))), ((ta 5), .inl (G.2.1, 144, .inl (tr 5))), ((ta 6), .inl (G.2.1, 144, .inl (tr 6))), ((ta 7), .inl (G.2.1, 144, .inl (upd td (i) (if (0 : Int32) = 0 then td (i) &&& ((2 : Int32) ^^^ (-1)) else td (i) ||| 2)))), ((ta 8), .inl (G.2.1, 864, .inl (tr 8))), ((ta 9), .inl (G.2.1, 6, .inl (tr 9))), ((ta 10), .inl (G.2.1, 12, .inl (tr 10))), ((ta 11), .inl (G.2.1, 12, .inl (tr 11)))] H := hP rfl
        have hD := D_as2 hP hD rfl
        obtain ⟨v13, ev13⟩ : ∃ y : Int32, y = (nI i) + Int32.ofInt (1) := ⟨_, rfl⟩
        refine lv_iinc (v := v13) (lv' := [(3, .int v13), (0, .ref (ga 9)), (1, .ref (ta 0)), (2, .int st_)]) hx hb dX0_tell_16 hl (k := 3) rfl ev13.symm (by decide) rfl (fun ls hl => ?_)
        refine lv_goto (tgt := 2) hx hb dX0_tell_19 (by decide) ?_
        exact ih (i + 1) _ (by omega) (by omega) htd _ _ _ hP hS (by have e := nI_inc ev13; rw [e] at hl; exact lv_sub hl [1, 2, 3, 0] rfl)
  exact loop1 145 0 (tr 7) (Nat.zero_le _) (by omega) (fun _ => rfl) _ _ _ hP hS (lv_sub hl [1, 2, 3, 0] rfl)
set_option maxHeartbeats 4000000 in
set_option maxRecDepth 100000 in
theorem c_X0_findThree (l : Launch) (G : GG) (ga : Nat → Nat) (gf : Nat → Int32) (gr : Nat → Nat → Int32) (a b : Nat → Nat) (f : Nat → Int32) (r : Nat → Nat → Int32) (ta : Nat → Nat) (tf : Nat → Int32) (tr : Nat → Nat → Int32) (rw cl : Nat) (hrw : rw ≤ 12) (hcl : cl ≤ 12) (h0 : f 0 = nI rw) (h1 : f 1 = nI cl) (i j : Nat) (hi : i < 12) (hj : j < 12) : WrV l yX0_findThree cX0_findThree 13 ({ frames := 2, cells := 0, slots := 0, locals := 44 }) G ([((ga 9), .inr (0, [.ref (ga 0), .ref (ga 1), .ref (ga 2), .ref (ga 3), .int (gf 4), .int (gf 5), .int (gf 6), .int (gf 7), .int (gf 8)])), ((ga 0), .inl (G.2.2.1, 144, .inl (gr 0))), ((ga 1), .inl (G.2.1, 8, .inl (gr 1))), ((ga 2), .inl (G.2.1, 8, .inl (gr 2))), ((ga 3), .inl (G.2.1, 256, .inl (gr 3))), ((a 15), .inr (2, [.int (f 0), .int (f 1), .int (f 2), .int (f 3), .int (f 4), .ref (b 3), .ref (a 6), .ref (a 7), .ref (a 8), .ref (a 9), .ref (a 10), .ref (a 11), .ref (a 12), .ref (a 13), .ref (a 14)])), ((a 6), .inl (G.2.2.1, 12, .inl (r 6))), ((a 7), .inl (G.2.1, 12, .inl (r 7))), ((a 8), .inl (G.2.1, 144, .inl (r 8))), ((a 9), .inl (G.2.1, 144, .inl (r 9))), ((a 10), .inl (G.2.1, 144, .inl (r 10))), ((a 11), .inl (G.2.2.1, 144, .inl (r 11))), ((a 12), .inl (G.2.1, 144, .inl (r 12))), ((a 13), .inl (G.2.1, 144, .inl (r 13))), ((a 14), .inl (G.2.1, 144, .inl (r 14))), ((ta 0), .inr (4, [.int (tf 0), .int (tf 1), .int (tf 2), .int (tf 3), .ref (ta 4), .ref (ta 5), .ref (ta 6), .ref (ta 7), .ref (ta 8), .ref (ta 9), .ref (ta 10), .ref (ta 11)])), ((ta 4), .inl (G.2.1, 12, .inl (tr 4))), ((ta 5), .inl (G.2.1, 144, .inl (tr 5))), ((ta 6), .inl (G.2.1, 144, .inl (tr 6))), ((ta 7), .inl (G.2.1, 144, .inl (tr 7))), ((ta 8), .inl (G.2.1, 864, .inl (tr 8))), ((ta 9), .inl (G.2.1, 6, .inl (tr 9))), ((ta 10), .inl (G.2.1, 12, .inl (tr 10))), ((ta 11), .inl (G.2.1, 12, .inl (tr 11)))]) [.ref (ga 9), .ref (ta 0), .ref (a 15), .int (nI i), .int (nI j)] (fun w => ∃ g7 g8 : Int32, bpP g7 g8 ∧ w = [((ga 9), .inr (0, [.ref (ga 0), .ref (ga 1), .ref (ga 2), .ref (ga 3), .int (gf 4), .int (gf 5), .int (gf 6), .int g7, .int g8])), ((ga 0), .inl (G.2.2.1, 144, .inl (gr 0))), ((ga 1), .inl (G.2.1, 8, .inl (gr 1))), ((ga 2), .inl (G.2.1, 8, .inl (gr 2))), ((ga 3), .inl (G.2.1, 256, .inl (gr 3))), ((a 15), .inr (2, [.int (f 0), .int (f 1), .int (f 2), .int (f 3), .int (f 4), .ref (b 3), .ref (a 6), .ref (a 7), .ref (a 8), .ref (a 9), .ref (a 10), .ref (a 11), .ref (a 12), .ref (a 13), .ref (a 14)])), ((a 6), .inl (G.2.2.1, 12, .inl (r 6))), ((a 7), .inl (G.2.1, 12, .inl (r 7))), ((a 8), .inl (G.2.1, 144, .inl (r 8))), ((a 9), .inl (G.2.1, 144, .inl (r 9))), ((a 10), .inl (G.2.1, 144, .inl (r 10))), ((a 11), .inl (G.2.2.1, 144, .inl (r 11))), ((a 12), .inl (G.2.1, 144, .inl (r 12))), ((a 13), .inl (G.2.1, 144, .inl (r 13))), ((a 14), .inl (G.2.1, 144, .inl (r 14))), ((ta 0), .inr (4, [.int (tf 0), .int (tf 1), .int (tf 2), .int (tf 3), .ref (ta 4), .ref (ta 5), .ref (ta 6), .ref (ta 7), .ref (ta 8), .ref (ta 9), .ref (ta 10), .ref (ta 11)])), ((ta 4), .inl (G.2.1, 12, .inl (tr 4))), ((ta 5), .inl (G.2.1, 144, .inl (tr 5))), ((ta 6), .inl (G.2.1, 144, .inl (tr 6))), ((ta 7), .inl (G.2.1, 144, .inl (tr 7))), ((ta 8), .inl (G.2.1, 864, .inl (tr 8))), ((ta 9), .inl (G.2.1, 6, .inl (tr 9))), ((ta 10), .inl (G.2.1, 12, .inl (tr 10))), ((ta 11), .inl (G.2.1, 12, .inl (tr 11)))]) := by
  refine wr_entryV (by decide +kernel) (Nat.le_of_ble_eq_true rfl) ?_
  intro p e s m below meth c A C0 hP hK hD hA ls hl
  have hS : va_S A s.heap s.heap [] := va_S.rf
  obtain ⟨hx, hb, hml, hown, hts, hr, hlocks, hin⟩ := C0
  have hown : s.vm.findClass RX0 = some m.cls := hown
  have hl : lv_has ls 13 [(0, .ref (ga 9)), (1, .ref (ta 0)), (2, .ref (a 15)), (3, .int (nI i)), (4, .int (nI j))] := hl
  refine lv_ldc hx hb hown (hts _ mk_X0_81) dX0_findThree_0 ?_
  refine lv_istore (lv' := [(5, .int 1073741824), (0, .ref (ga 9)), (1, .ref (ta 0)), (2, .ref (a 15)), (3, .int (nI i)), (4, .int (nI j))]) hx hb dX0_findThree_2 hl (by decide) rfl (fun ls hl => ?_)
  refine lv_aload_n hx hb dX0_findThree_4 rfl (lv_at hl 1 rfl) ?_
  refine lv_iconst (v := -1) hx hb dX0_findThree_5 (by decide) ?_
  refine va_put (D := G.1) (ci := 0) (v := .int (-1)) (C := RX0) (T := TX0) (N := 9) hx hb hts inX0 tyX0 tyX0_ok nmX0 hown hK.1 hP hD hS 0 rfl rfl 7 (by decide) (hts _ mf_X0_35) (fun _ h9 => h9) rfl (tyX0_ok 7 (by decide)) (rfl) (rfl) (Nat.le_of_ble_eq_true rfl) dX0_findThree_6 (fun H locs hP hD hS => ?_)
  have hP : PP G [((ga 9), .inr (0, [.ref (ga 0), .ref (ga 1), .ref (ga 2), .ref (ga 3), .int (gf 4), .int (gf 5), .int (gf 6), .int (-1), .int (gf 8)])), ((ga 0), .inl (G.2.2.1, 144, .inl (gr 0))), ((ga 1), .inl (G.2.1, 8, .inl (gr 1))), ((ga 2), .inl (G.2.1, 8, .inl (gr 2))), ((ga 3), .inl (G.2.1, 256, .inl (gr 3))), ((a 15), .inr (2, [.int (f 0), .int (f 1), .int (f 2), .int (f 3), .int (f 4), .ref (b 3), .ref (a 6), .ref (a 7), .ref (a 8), .ref (a 9), .ref (a 10), .ref (a 11), .ref (a 12), .ref (a 13), .ref (a 14)])), ((a 6), .inl (G.2.2.1, 12, .inl (r 6))), ((a 7), .inl (G.2.1, 12, .inl (r 7))), ((a 8), .inl (G.2.1, 144, .inl (r 8))), ((a 9), .inl (G.2.1, 144, .inl (r 9))), ((a 10), .inl (G.2.1, 144, .inl (r 10))), ((a 11), .inl (G.2.2.1, 144, .inl (r 11))), ((a 12), .inl (G.2.1, 144, .inl (r 12))), ((a 13), .inl (G.2.1, 144, .inl (r 13))), ((a 14), .inl (G.2.1, 144, .inl (r 14))), ((ta 0), .inr (4, [.int (tf 0), .int (tf 1), .int (tf 2), .int (tf 3), .ref (ta 4), .ref (ta 5), .ref (ta 6), .ref (ta 7), .ref (ta 8), .ref (ta 9), .ref (ta 10), .ref (ta 11)])), ((ta 4), .inl (G.2.1, 12, .inl (tr 4))), ((ta 5), .inl (G.2.1, 144, .inl (tr 5))), ((ta 6), .inl (G.2.1, 144, .inl (tr 6))), ((ta 7), .inl (G.2.1, 144, .inl (tr 7))), ((ta 8), .inl (G.2.1, 864, .inl (tr 8))), ((ta 9), .inl (G.2.1, 6, .inl (tr 9))), ((ta 10), .inl (G.2.1, 12, .inl (tr 10))), ((ta 11), .inl (G.2.1, 12, .inl (tr 11)))] H := hP
  have hD := D_as hP hD rfl
  refine lv_aload_n hx hb dX0_findThree_9 rfl (lv_at hl 1 rfl) ?_
  refine lv_iconst (v := -1) hx hb dX0_findThree_10 (by decide) ?_
  refine va_put (D := G.1) (ci := 0) (v := .int (-1)) (C := RX0) (T := TX0) (N := 9) hx hb hts inX0 tyX0 tyX0_ok nmX0 hown hK.1 hP hD hS 0 rfl rfl 8 (by decide) (hts _ mf_X0_38) (fun _ h9 => h9) rfl (tyX0_ok 8 (by decide)) (rfl) (rfl) (Nat.le_of_ble_eq_true rfl) dX0_findThree_11 (fun H locs hP hD hS => ?_)
  have hP : PP G [((ga 9), .inr (0, [.ref (ga 0), .ref (ga 1), .ref (ga 2), .ref (ga 3), .int (gf 4), .int (gf 5), .int (gf 6), .int (-1), .int (-1)])), ((ga 0), .inl (G.2.2.1, 144, .inl (gr 0))), ((ga 1), .inl (G.2.1, 8, .inl (gr 1))), ((ga 2), .inl (G.2.1, 8, .inl (gr 2))), ((ga 3), .inl (G.2.1, 256, .inl (gr 3))), ((a 15), .inr (2, [.int (f 0), .int (f 1), .int (f 2), .int (f 3), .int (f 4), .ref (b 3), .ref (a 6), .ref (a 7), .ref (a 8), .ref (a 9), .ref (a 10), .ref (a 11), .ref (a 12), .ref (a 13), .ref (a 14)])), ((a 6), .inl (G.2.2.1, 12, .inl (r 6))), ((a 7), .inl (G.2.1, 12, .inl (r 7))), ((a 8), .inl (G.2.1, 144, .inl (r 8))), ((a 9), .inl (G.2.1, 144, .inl (r 9))), ((a 10), .inl (G.2.1, 144, .inl (r 10))), ((a 11), .inl (G.2.2.1, 144, .inl (r 11))), ((a 12), .inl (G.2.1, 144, .inl (r 12))), ((a 13), .inl (G.2.1, 144, .inl (r 13))), ((a 14), .inl (G.2.1, 144, .inl (r 14))), ((ta 0), .inr (4, [.int (tf 0), .int (tf 1), .int (tf 2), .int (tf 3), .ref (ta 4), .ref (ta 5), .ref (ta 6), .ref (ta 7), .ref (ta 8), .ref (ta 9), .ref (ta 10), .ref (ta 11)])), ((ta 4), .inl (G.2.1, 12, .inl (tr 4))), ((ta 5), .inl (G.2.1, 144, .inl (tr 5))), ((ta 6), .inl (G.2.1, 144, .inl (tr 6))), ((ta 7), .inl (G.2.1, 144, .inl (tr 7))), ((ta 8), .inl (G.2.1, 864, .inl (tr 8))), ((ta 9), .inl (G.2.1, 6, .inl (tr 9))), ((ta 10), .inl (G.2.1, 12, .inl (tr 10))), ((ta 11), .inl (G.2.1, 12, .inl (tr 11)))] H := hP
  have hD := D_as hP hD rfl
  refine lv_iconst (v := 0) hx hb dX0_findThree_14 (by decide) ?_
  refine lv_istore (lv' := [(6, .int 0), (5, .int 1073741824), (0, .ref (ga 9)), (1, .ref (ta 0)), (2, .ref (a 15)), (3, .int (nI i)), (4, .int (nI j))]) hx hb dX0_findThree_15 hl (by decide) rfl (fun ls hl => ?_)
  have outer : ∀ (k yy : Nat) (be g7 g8 : Int32), yy ≤ rw → rw < yy + k → bpP g7 g8 → ∀ (H : Heap) (locs : List Loc) (ls : Array Slot), PP G ([((ga 9), .inr (0, [.ref (ga 0), .ref (ga 1), .ref (ga 2), .ref (ga 3), .int (gf 4), .int (gf 5), .int (gf 6), .int g7, .int g8])), ((ga 0), .inl (G.2.2.1, 144, .inl (gr 0))), ((ga 1), .inl (G.2.1, 8, .inl (gr 1))), ((ga 2), .inl (G.2.1, 8, .inl (gr 2))), ((ga 3), .inl (G.2.1, 256, .inl (gr 3))), ((a 15), .inr (2, [.int (f 0), .int (f 1), .int (f 2), .int (f 3), .int (f 4), .ref (b 3), .ref (a 6), .ref (a 7), .ref (a 8), .ref (a 9), .ref (a 10), .ref (a 11), .ref (a 12), .ref (a 13), .ref (a 14)])), ((a 6), .inl (G.2.2.1, 12, .inl (r 6))), ((a 7), .inl (G.2.1, 12, .inl (r 7))), ((a 8), .inl (G.2.1, 144, .inl (r 8))), ((a 9), .inl (G.2.1, 144, .inl (r 9))), ((a 10), .inl (G.2.1, 144, .inl (r 10))), ((a 11), .inl (G.2.2.1, 144, .inl (r 11))), ((a 12), .inl (G.2.1, 144, .inl (r 12))), ((a 13), .inl (G.2.1, 144, .inl (r 13))), ((a 14), .inl (G.2.1, 144, .inl (r 14))), ((ta 0), .inr (4, [.int (tf 0), .int (tf 1), .int (tf 2), .int (tf 3), .ref (ta 4), .ref (ta 5), .ref (ta 6), .ref (ta 7), .ref (ta 8), .ref (ta 9), .ref (ta 10), .ref (ta 11)])), ((ta 4), .inl (G.2.1, 12, .inl (tr 4))), ((ta 5), .inl (G.2.1, 144, .inl (tr 5))), ((ta 6), .inl (G.2.1, 144, .inl (tr 6))), ((ta 7), .inl (G.2.1, 144, .inl (tr 7))), ((ta 8), .inl (G.2.1, 864, .inl (tr 8))), ((ta 9), .inl (G.2.1, 6, .inl (tr 9))), ((ta 10), .inl (G.2.1, 12, .inl (tr 10))), ((ta 11), .inl (G.2.1, 12, .inl (tr 11)))]) H → va_S A s.heap H locs → lv_has ls 13 [(0, .ref (ga 9)), (1, .ref (ta 0)), (2, .ref (a 15)), (3, .int (nI i)), (4, .int (nI j)), (5, .int be), (6, .int (nI yy))] → W p l e ({ frames := 2, cells := 0, slots := 0, locals := 44 }) s m ([.ref (ga 9), .ref (ta 0), .ref (a 15), .int (nI i), .int (nI j)] : List Value).toArray below meth c H locs 0 0 (MQ below (QwV G (fun w => ∃ g7 g8 : Int32, bpP g7 g8 ∧ w = [((ga 9), .inr (0, [.ref (ga 0), .ref (ga 1), .ref (ga 2), .ref (ga 3), .int (gf 4), .int (gf 5), .int (gf 6), .int g7, .int g8])), ((ga 0), .inl (G.2.2.1, 144, .inl (gr 0))), ((ga 1), .inl (G.2.1, 8, .inl (gr 1))), ((ga 2), .inl (G.2.1, 8, .inl (gr 2))), ((ga 3), .inl (G.2.1, 256, .inl (gr 3))), ((a 15), .inr (2, [.int (f 0), .int (f 1), .int (f 2), .int (f 3), .int (f 4), .ref (b 3), .ref (a 6), .ref (a 7), .ref (a 8), .ref (a 9), .ref (a 10), .ref (a 11), .ref (a 12), .ref (a 13), .ref (a 14)])), ((a 6), .inl (G.2.2.1, 12, .inl (r 6))), ((a 7), .inl (G.2.1, 12, .inl (r 7))), ((a 8), .inl (G.2.1, 144, .inl (r 8))), ((a 9), .inl (G.2.1, 144, .inl (r 9))), ((a 10), .inl (G.2.1, 144, .inl (r 10))), ((a 11), .inl (G.2.2.1, 144, .inl (r 11))), ((a 12), .inl (G.2.1, 144, .inl (r 12))), ((a 13), .inl (G.2.1, 144, .inl (r 13))), ((a 14), .inl (G.2.1, 144, .inl (r 14))), ((ta 0), .inr (4, [.int (tf 0), .int (tf 1), .int (tf 2), .int (tf 3), .ref (ta 4), .ref (ta 5), .ref (ta 6), .ref (ta 7), .ref (ta 8), .ref (ta 9), .ref (ta 10), .ref (ta 11)])), ((ta 4), .inl (G.2.1, 12, .inl (tr 4))), ((ta 5), .inl (G.2.1, 144, .inl (tr 5))), ((ta 6), .inl (G.2.1, 144, .inl (tr 6))), ((ta 7), .inl (G.2.1, 144, .inl (tr 7))), ((ta 8), .inl (G.2.1, 864, .inl (tr 8))), ((ta 9), .inl (G.2.1, 6, .inl (tr 9))), ((ta 10), .inl (G.2.1, 12, .inl (tr 10))), ((ta 11), .inl (G.2.1, 12, .inl (tr 11)))]) A) ([.ref (ga 9), .ref (ta 0), .ref (a 15), .int (nI i), .int (nI j)] : List Value).toArray s 0 0 A) (F0 m 17 ls []) := by
    intro k
    induction k with
    | zero => intro yy be g7 g8 h1 h2; omega
    | succ k ih =>
      intro yy be g7 g8 hi_yy hk_yy hbp H locs ls hP hS hl
      have hD := D_as2 hP hD rfl
      refine lv_iload hx hb dX0_findThree_17 (lv_at hl 6 rfl) ?_
      refine lv_aload_n hx hb dX0_findThree_19 rfl (lv_at hl 2 rfl) ?_
      refine va_get (D := G.1) (ci := 2) (v := .int (f 0)) (C := RX2) (T := TX2) (N := 15) hx hb hts inX2 hown hK.1 hP 5 rfl rfl 0 (by decide) (hts _ mf_X0_44) (fun _ h9 => h9) rfl dX0_findThree_20 ?_
      refine lv_icmp_ge (tgt := 207) hx hb dX0_findThree_23 (by decide) (fun c1 => ?_) (fun c1 => ?_)
      · rw [h0] at c1
        have hge := ge_t (by omega) (by omega) c1
        have heq : yy = rw := by omega
        exact wr_vret hx hb hr hlocks hS hP ⟨g7, g8, hbp, rfl⟩ dX0_findThree_207
      · rw [h0] at c1
        have hlt := ge_f (by omega) (by omega) c1
        refine lv_iload hx hb dX0_findThree_26 (lv_at hl 6 rfl) ?_
        refine lv_iload_n hx hb dX0_findThree_28 rfl (lv_at hl 3 rfl) ?_
        refine lv_icmp_eq (tgt := 201) hx hb dX0_findThree_29 (by decide) (fun c2 => ?_) (fun c2 => ?_)
        · obtain ⟨v3, ev3⟩ : ∃ y : Int32, y = (nI yy) + Int32.ofInt (1) := ⟨_, rfl⟩
          refine lv_iinc (v := v3) (lv' := [(6, .int v3), (0, .ref (ga 9)), (1, .ref (ta 0)), (2, .ref (a 15)), (3, .int (nI i)), (4, .int (nI j)), (5, .int be)]) hx hb dX0_findThree_201 hl (k := 6) rfl ev3.symm (by decide) rfl (fun ls hl => ?_)
          refine lv_goto (tgt := 17) hx hb dX0_findThree_204 (by decide) ?_
          exact ih (yy + 1) be g7 g8 (by omega) (by omega) (hbp) _ _ _ hP hS (by have e := nI_inc ev3; rw [e] at hl; exact lv_sub hl [1, 2, 3, 4, 5, 6, 0] rfl)
        · refine lv_aload_n hx hb dX0_findThree_32 rfl (lv_at hl 2 rfl) ?_
          refine va_get (D := G.1) (ci := 2) (v := .ref (a 6)) (C := RX2) (T := TX2) (N := 15) hx hb hts inX2 hown hK.1 hP 5 rfl rfl 6 (by decide) (hts _ mf_X0_82) (fun _ h9 => h9) rfl dX0_findThree_33 ?_
          refine lv_iload hx hb dX0_findThree_36 (lv_at hl 6 rfl) ?_
          refine xzald hx hb hK hP 6 (yy) (rfl) (by omega) (by omega) rfl dX0_findThree_38 ?_
          refine lv_topi (fun v4 ev4 => ?_)
          refine lv_if_eq (tgt := 201) hx hb dX0_findThree_39 (by decide) (fun c5 => ?_) (fun c5 => ?_)
          · obtain ⟨v6, ev6⟩ : ∃ y : Int32, y = (nI yy) + Int32.ofInt (1) := ⟨_, rfl⟩
            refine lv_iinc (v := v6) (lv' := [(6, .int v6), (0, .ref (ga 9)), (1, .ref (ta 0)), (2, .ref (a 15)), (3, .int (nI i)), (4, .int (nI j)), (5, .int be)]) hx hb dX0_findThree_201 hl (k := 6) rfl ev6.symm (by decide) rfl (fun ls hl => ?_)
            refine lv_goto (tgt := 17) hx hb dX0_findThree_204 (by decide) ?_
            exact ih (yy + 1) be g7 g8 (by omega) (by omega) (hbp) _ _ _ hP hS (by have e := nI_inc ev6; rw [e] at hl; exact lv_sub hl [1, 2, 3, 4, 5, 6, 0] rfl)
          · refine lv_aload_n hx hb dX0_findThree_42 rfl (lv_at hl 2 rfl) ?_
            refine va_get (D := G.1) (ci := 2) (v := .ref (a 7)) (C := RX2) (T := TX2) (N := 15) hx hb hts inX2 hown hK.1 hP 5 rfl rfl 7 (by decide) (hts _ mf_X0_85) (fun _ h9 => h9) rfl dX0_findThree_43 ?_
            refine lv_iload hx hb dX0_findThree_46 (lv_at hl 6 rfl) ?_
            refine xiald hx hb hK hP 7 (yy) (rfl) (by omega) (by omega) rfl dX0_findThree_48 ?_
            refine lv_topi (fun v7 ev7 => ?_)
            refine lv_aload_n hx hb dX0_findThree_49 rfl (lv_at hl 2 rfl) ?_
            refine va_get (D := G.1) (ci := 2) (v := .ref (a 7)) (C := RX2) (T := TX2) (N := 15) hx hb hts inX2 hown hK.1 hP 5 rfl rfl 7 (by decide) (hts _ mf_X0_85) (fun _ h9 => h9) rfl dX0_findThree_50 ?_
            refine lv_iload_n hx hb dX0_findThree_53 rfl (lv_at hl 3 rfl) ?_
            refine xiald hx hb hK hP 7 (i) (rfl) (by omega) (by omega) rfl dX0_findThree_54 ?_
            refine lv_topi (fun v8 ev8 => ?_)
            refine lv_icmp_eq (tgt := 61) hx hb dX0_findThree_55 (by decide) (fun c9 => ?_) (fun c9 => ?_)
            · refine lv_aload_n hx hb dX0_findThree_61 rfl (lv_at hl 0 rfl) ?_
              refine lv_aload_n hx hb dX0_findThree_62 rfl (lv_at hl 1 rfl) ?_
              refine lv_aload_n hx hb dX0_findThree_63 rfl (lv_at hl 2 rfl) ?_
              refine lv_iload hx hb dX0_findThree_64 (lv_at hl 6 rfl) ?_
              refine lv_iload hx hb dX0_findThree_66 (lv_at hl 4 rfl) ?_
              refine rdSN (rest := [.ref (a 15), .ref (ta 0), .ref (ga 9)]) ⟨hx, hb, hml, hown, hts⟩ (c_X6_spotOf l G ((nI yy)) ((nI j))) mi_yX6_spotOf mst_yX6_spotOf (by decide +kernel) ⟨rfl, rfl, Nat.le_of_ble_eq_true rfl, Nat.le_of_ble_eq_true rfl⟩ hK (fun k q h => by simp at h) rfl hl.1 rfl (Nat.le_of_ble_eq_true rfl) dX0_findThree_68 ⟨Nat.zero_le _, Nat.zero_le _⟩ hS hA hP (fun r10 H locs hr10 hP hS => ?_)
              obtain rfl : r10 = nI (yy * 12 + j) := spot_eq hr10
              refine rdV (rest := []) (q0 := 0) ⟨hx, hb, hml, hown, hts⟩ (c_X0_priceToKeep l G ga (fun k => match k with | 4 => (gf 4) | 5 => (gf 5) | 6 => (gf 6) | 7 => g7 | _ => g8) gr a b f r ta tf tr (yy * 12 + j) (by omega)) mi_yX0_priceToKeep mv_yX0_priceToKeep ml_X0_88 ⟨rfl, rfl, Nat.le_of_ble_eq_true rfl, Nat.le_of_ble_eq_true rfl⟩ hK (hP.sub (ws' := [((ga 9), .inr (0, [.ref (ga 0), .ref (ga 1), .ref (ga 2), .ref (ga 3), .int (gf 4), .int (gf 5), .int (gf 6), .int g7, .int g8])), ((a 15), .inr (2, [.int (f 0), .int (f 1), .int (f 2), .int (f 3), .int (f 4), .ref (b 3), .ref (a 6), .ref (a 7), .ref (a 8), .ref (a 9), .ref (a 10), .ref (a 11), .ref (a 12), .ref (a 13), .ref (a 14)])), ((a 6), .inl (G.2.2.1, 12, .inl (r 6))), ((a 7), .inl (G.2.1, 12, .inl (r 7))), ((a 8), .inl (G.2.1, 144, .inl (r 8))), ((a 9), .inl (G.2.1, 144, .inl (r 9))), ((a 10), .inl (G.2.1, 144, .inl (r 10))), ((a 11), .inl (G.2.2.1, 144, .inl (r 11))), ((a 12), .inl (G.2.1, 144, .inl (r 12))), ((a 13), .inl (G.2.1, 144, .inl (r 13))), ((a 14), .inl (G.2.1, 144, .inl (r 14))), ((ta 0), .inr (4, [.int (tf 0), .int (tf 1), .int (tf 2), .int (tf 3), .ref (ta 4), .ref (ta 5), .ref (ta 6), .ref (ta 7), .ref (ta 8), .ref (ta 9), .ref (ta 10), .ref (ta 11)])), ((ta 4), .inl (G.2.1, 12, .inl (tr 4))), ((ta 5), .inl (G.2.1, 144, .inl (tr 5))), ((ta 6), .inl (G.2.1, 144, .inl (tr 6))), ((ta 7), .inl (G.2.1, 144, .inl (tr 7))), ((ta 8), .inl (G.2.1, 864, .inl (tr 8))), ((ta 9), .inl (G.2.1, 6, .inl (tr 9))), ((ta 10), .inl (G.2.1, 12, .inl (tr 10))), ((ta 11), .inl (G.2.1, 12, .inl (tr 11)))]) [0, 5, 6, 7, 8, 9, 10, 11, 12, 13, 14, 15, 16, 17, 18, 19, 20, 21, 22, 23] rfl) rfl rfl rfl hl.1 rfl (Nat.le_of_ble_eq_true rfl) dX0_findThree_71 ⟨Nat.zero_le _, Nat.zero_le _⟩ hS hA hP (fun r11 H locs hr11 hP hS => ?_)
              refine lv_istore (lv' := [(7, .int r11), (0, .ref (ga 9)), (1, .ref (ta 0)), (2, .ref (a 15)), (3, .int (nI i)), (4, .int (nI j)), (5, .int be), (6, .int (nI yy))]) hx hb dX0_findThree_74 hl (by decide) rfl (fun ls hl => ?_)
              refine lv_iconst (v := 0) hx hb dX0_findThree_76 (by decide) ?_
              refine lv_istore (lv' := [(8, .int 0), (7, .int r11), (0, .ref (ga 9)), (1, .ref (ta 0)), (2, .ref (a 15)), (3, .int (nI i)), (4, .int (nI j)), (5, .int be), (6, .int (nI yy))]) hx hb dX0_findThree_77 hl (by decide) rfl (fun ls hl => ?_)
              have inner : ∀ (k2 zz : Nat) (be g7 g8 : Int32), zz ≤ cl → cl < zz + k2 → bpP g7 g8 → ∀ (H : Heap) (locs : List Loc) (ls : Array Slot), PP G ([((ga 9), .inr (0, [.ref (ga 0), .ref (ga 1), .ref (ga 2), .ref (ga 3), .int (gf 4), .int (gf 5), .int (gf 6), .int g7, .int g8])), ((ga 0), .inl (G.2.2.1, 144, .inl (gr 0))), ((ga 1), .inl (G.2.1, 8, .inl (gr 1))), ((ga 2), .inl (G.2.1, 8, .inl (gr 2))), ((ga 3), .inl (G.2.1, 256, .inl (gr 3))), ((a 15), .inr (2, [.int (f 0), .int (f 1), .int (f 2), .int (f 3), .int (f 4), .ref (b 3), .ref (a 6), .ref (a 7), .ref (a 8), .ref (a 9), .ref (a 10), .ref (a 11), .ref (a 12), .ref (a 13), .ref (a 14)])), ((a 6), .inl (G.2.2.1, 12, .inl (r 6))), ((a 7), .inl (G.2.1, 12, .inl (r 7))), ((a 8), .inl (G.2.1, 144, .inl (r 8))), ((a 9), .inl (G.2.1, 144, .inl (r 9))), ((a 10), .inl (G.2.1, 144, .inl (r 10))), ((a 11), .inl (G.2.2.1, 144, .inl (r 11))), ((a 12), .inl (G.2.1, 144, .inl (r 12))), ((a 13), .inl (G.2.1, 144, .inl (r 13))), ((a 14), .inl (G.2.1, 144, .inl (r 14))), ((ta 0), .inr (4, [.int (tf 0), .int (tf 1), .int (tf 2), .int (tf 3), .ref (ta 4), .ref (ta 5), .ref (ta 6), .ref (ta 7), .ref (ta 8), .ref (ta 9), .ref (ta 10), .ref (ta 11)])), ((ta 4), .inl (G.2.1, 12, .inl (tr 4))), ((ta 5), .inl (G.2.1, 144, .inl (tr 5))), ((ta 6), .inl (G.2.1, 144, .inl (tr 6))), ((ta 7), .inl (G.2.1, 144, .inl (tr 7))), ((ta 8), .inl (G.2.1, 864, .inl (tr 8))), ((ta 9), .inl (G.2.1, 6, .inl (tr 9))), ((ta 10), .inl (G.2.1, 12, .inl (tr 10))), ((ta 11), .inl (G.2.1, 12, .inl (tr 11)))]) H → va_S A s.heap H locs → lv_has ls 13 [(0, .ref (ga 9)), (1, .ref (ta 0)), (2, .ref (a 15)), (3, .int (nI i)), (4, .int (nI j)), (5, .int be), (6, .int (nI yy)), (7, .int r11), (8, .int (nI zz))] → W p l e ({ frames := 2, cells := 0, slots := 0, locals := 44 }) s m ([.ref (ga 9), .ref (ta 0), .ref (a 15), .int (nI i), .int (nI j)] : List Value).toArray below meth c H locs 0 0 (MQ below (QwV G (fun w => ∃ g7 g8 : Int32, bpP g7 g8 ∧ w = [((ga 9), .inr (0, [.ref (ga 0), .ref (ga 1), .ref (ga 2), .ref (ga 3), .int (gf 4), .int (gf 5), .int (gf 6), .int g7, .int g8])), ((ga 0), .inl (G.2.2.1, 144, .inl (gr 0))), ((ga 1), .inl (G.2.1, 8, .inl (gr 1))), ((ga 2), .inl (G.2.1, 8, .inl (gr 2))), ((ga 3), .inl (G.2.1, 256, .inl (gr 3))), ((a 15), .inr (2, [.int (f 0), .int (f 1), .int (f 2), .int (f 3), .int (f 4), .ref (b 3), .ref (a 6), .ref (a 7), .ref (a 8), .ref (a 9), .ref (a 10), .ref (a 11), .ref (a 12), .ref (a 13), .ref (a 14)])), ((a 6), .inl (G.2.2.1, 12, .inl (r 6))), ((a 7), .inl (G.2.1, 12, .inl (r 7))), ((a 8), .inl (G.2.1, 144, .inl (r 8))), ((a 9), .inl (G.2.1, 144, .inl (r 9))), ((a 10), .inl (G.2.1, 144, .inl (r 10))), ((a 11), .inl (G.2.2.1, 144, .inl (r 11))), ((a 12), .inl (G.2.1, 144, .inl (r 12))), ((a 13), .inl (G.2.1, 144, .inl (r 13))), ((a 14), .inl (G.2.1, 144, .inl (r 14))), ((ta 0), .inr (4, [.int (tf 0), .int (tf 1), .int (tf 2), .int (tf 3), .ref (ta 4), .ref (ta 5), .ref (ta 6), .ref (ta 7), .ref (ta 8), .ref (ta 9), .ref (ta 10), .ref (ta 11)])), ((ta 4), .inl (G.2.1, 12, .inl (tr 4))), ((ta 5), .inl (G.2.1, 144, .inl (tr 5))), ((ta 6), .inl (G.2.1, 144, .inl (tr 6))), ((ta 7), .inl (G.2.1, 144, .inl (tr 7))), ((ta 8), .inl (G.2.1, 864, .inl (tr 8))), ((ta 9), .inl (G.2.1, 6, .inl (tr 9))), ((ta 10), .inl (G.2.1, 12, .inl (tr 10))), ((ta 11), .inl (G.2.1, 12, .inl (tr 11)))]) A) ([.ref (ga 9), .ref (ta 0), .ref (a 15), .int (nI i), .int (nI j)] : List Value).toArray s 0 0 A) (F0 m 79 ls []) := by
                intro k2
                induction k2 with
                | zero => intro zz be g7 g8 h1 h2; omega
                | succ k2 ih2 =>
                  intro zz be g7 g8 hi_zz hk_zz hbp H locs ls hP hS hl
                  have hD := D_as2 hP hD rfl
                  refine lv_iload hx hb dX0_findThree_79 (lv_at hl 8 rfl) ?_
                  refine lv_aload_n hx hb dX0_findThree_81 rfl (lv_at hl 2 rfl) ?_
                  refine va_get (D := G.1) (ci := 2) (v := .int (f 1)) (C := RX2) (T := TX2) (N := 15) hx hb hts inX2 hown hK.1 hP 5 rfl rfl 1 (by decide) (hts _ mf_X0_49) (fun _ h9 => h9) rfl dX0_findThree_82 ?_
                  refine lv_icmp_ge (tgt := 201) hx hb dX0_findThree_85 (by decide) (fun c12 => ?_) (fun c12 => ?_)
                  · rw [h1] at c12
                    have hge2 := ge_t (by omega) (by omega) c12
                    have heq2 : zz = cl := by omega
                    obtain ⟨v13, ev13⟩ : ∃ y : Int32, y = (nI yy) + Int32.ofInt (1) := ⟨_, rfl⟩
                    refine lv_iinc (v := v13) (lv' := [(6, .int v13), (0, .ref (ga 9)), (1, .ref (ta 0)), (2, .ref (a 15)), (3, .int (nI i)), (4, .int (nI j)), (5, .int be), (7, .int r11), (8, .int (nI zz))]) hx hb dX0_findThree_201 hl (k := 6) rfl ev13.symm (by decide) rfl (fun ls hl => ?_)
                    refine lv_goto (tgt := 17) hx hb dX0_findThree_204 (by decide) ?_
                    exact ih (yy + 1) be g7 g8 (by omega) (by omega) (hbp) _ _ _ hP hS (by have e := nI_inc ev13; rw [e] at hl; exact lv_sub hl [1, 2, 3, 4, 5, 6, 0] rfl)
                  · rw [h1] at c12
                    have hlt2 := ge_f (by omega) (by omega) c12
                    refine lv_iload hx hb dX0_findThree_88 (lv_at hl 8 rfl) ?_
                    refine lv_iload hx hb dX0_findThree_90 (lv_at hl 4 rfl) ?_
                    refine lv_icmp_ne (tgt := 98) hx hb dX0_findThree_92 (by decide) (fun c14 => ?_) (fun c14 => ?_)
                    · refine lv_aload_n hx hb dX0_findThree_98 rfl (lv_at hl 0 rfl) ?_
                      refine lv_aload_n hx hb dX0_findThree_99 rfl (lv_at hl 1 rfl) ?_
                      refine lv_aload_n hx hb dX0_findThree_100 rfl (lv_at hl 2 rfl) ?_
                      refine lv_iload_n hx hb dX0_findThree_101 rfl (lv_at hl 3 rfl) ?_
                      refine lv_iload hx hb dX0_findThree_102 (lv_at hl 8 rfl) ?_
                      refine rdSN (rest := [.ref (a 15), .ref (ta 0), .ref (ga 9)]) ⟨hx, hb, hml, hown, hts⟩ (c_X6_spotOf l G ((nI i)) ((nI zz))) mi_yX6_spotOf mst_yX6_spotOf (by decide +kernel) ⟨rfl, rfl, Nat.le_of_ble_eq_true rfl, Nat.le_of_ble_eq_true rfl⟩ hK (fun k q h => by simp at h) rfl hl.1 rfl (Nat.le_of_ble_eq_true rfl) dX0_findThree_104 ⟨Nat.zero_le _, Nat.zero_le _⟩ hS hA hP (fun r15 H locs hr15 hP hS => ?_)
                      obtain rfl : r15 = nI (i * 12 + zz) := spot_eq hr15
                      refine rdV (rest := []) (q0 := 0) ⟨hx, hb, hml, hown, hts⟩ (c_X0_priceToKeep l G ga (fun k => match k with | 4 => (gf 4) | 5 => (gf 5) | 6 => (gf 6) | 7 => g7 | _ => g8) gr a b f r ta tf tr (i * 12 + zz) (by omega)) mi_yX0_priceToKeep mv_yX0_priceToKeep ml_X0_88 ⟨rfl, rfl, Nat.le_of_ble_eq_true rfl, Nat.le_of_ble_eq_true rfl⟩ hK (hP.sub (ws' := [((ga 9), .inr (0, [.ref (ga 0), .ref (ga 1), .ref (ga 2), .ref (ga 3), .int (gf 4), .int (gf 5), .int (gf 6), .int g7, .int g8])), ((a 15), .inr (2, [.int (f 0), .int (f 1), .int (f 2), .int (f 3), .int (f 4), .ref (b 3), .ref (a 6), .ref (a 7), .ref (a 8), .ref (a 9), .ref (a 10), .ref (a 11), .ref (a 12), .ref (a 13), .ref (a 14)])), ((a 6), .inl (G.2.2.1, 12, .inl (r 6))), ((a 7), .inl (G.2.1, 12, .inl (r 7))), ((a 8), .inl (G.2.1, 144, .inl (r 8))), ((a 9), .inl (G.2.1, 144, .inl (r 9))), ((a 10), .inl (G.2.1, 144, .inl (r 10))), ((a 11), .inl (G.2.2.1, 144, .inl (r 11))), ((a 12), .inl (G.2.1, 144, .inl (r 12))), ((a 13), .inl (G.2.1, 144, .inl (r 13))), ((a 14), .inl (G.2.1, 144, .inl (r 14))), ((ta 0), .inr (4, [.int (tf 0), .int (tf 1), .int (tf 2), .int (tf 3), .ref (ta 4), .ref (ta 5), .ref (ta 6), .ref (ta 7), .ref (ta 8), .ref (ta 9), .ref (ta 10), .ref (ta 11)])), ((ta 4), .inl (G.2.1, 12, .inl (tr 4))), ((ta 5), .inl (G.2.1, 144, .inl (tr 5))), ((ta 6), .inl (G.2.1, 144, .inl (tr 6))), ((ta 7), .inl (G.2.1, 144, .inl (tr 7))), ((ta 8), .inl (G.2.1, 864, .inl (tr 8))), ((ta 9), .inl (G.2.1, 6, .inl (tr 9))), ((ta 10), .inl (G.2.1, 12, .inl (tr 10))), ((ta 11), .inl (G.2.1, 12, .inl (tr 11)))]) [0, 5, 6, 7, 8, 9, 10, 11, 12, 13, 14, 15, 16, 17, 18, 19, 20, 21, 22, 23] rfl) rfl rfl rfl hl.1 rfl (Nat.le_of_ble_eq_true rfl) dX0_findThree_107 ⟨Nat.zero_le _, Nat.zero_le _⟩ hS hA hP (fun r16 H locs hr16 hP hS => ?_)
                      refine lv_istore (lv' := [(9, .int r16), (0, .ref (ga 9)), (1, .ref (ta 0)), (2, .ref (a 15)), (3, .int (nI i)), (4, .int (nI j)), (5, .int be), (6, .int (nI yy)), (7, .int r11), (8, .int (nI zz))]) hx hb dX0_findThree_110 hl (by decide) rfl (fun ls hl => ?_)
                      refine lv_aload_n hx hb dX0_findThree_112 rfl (lv_at hl 1 rfl) ?_
                      refine lv_aload_n hx hb dX0_findThree_113 rfl (lv_at hl 2 rfl) ?_
                      refine lv_aload_n hx hb dX0_findThree_114 rfl (lv_at hl 3 rfl) ?_
                      refine lv_iload hx hb dX0_findThree_115 (lv_at hl 7 rfl) ?_
                      refine lv_iload hx hb dX0_findThree_117 (lv_at hl 9 rfl) ?_
                      refine rdSN (rest := [.ref (a 15), .ref (ta 0), .ref (ga 9)]) ⟨hx, hb, hml, hown, hts⟩ (c_X6_spotOf l G ((nI yy)) ((nI zz))) mi_yX6_spotOf mst_yX6_spotOf (by decide +kernel) ⟨rfl, rfl, Nat.le_of_ble_eq_true rfl, Nat.le_of_ble_eq_true rfl⟩ hK (fun k q h => by simp at h) rfl hl.1 rfl (Nat.le_of_ble_eq_true rfl) dX0_findThree_119 ⟨Nat.zero_le _, Nat.zero_le _⟩ hS hA hP (fun r17 H locs hr17 hP hS => ?_)
                      obtain rfl : r17 = nI (yy * 12 + zz) := spot_eq hr17
                      refine rdV (rest := []) (q0 := 0) ⟨hx, hb, hml, hown, hts⟩ (c_X0_priceToKeep l G ga (fun k => match k with | 4 => (gf 4) | 5 => (gf 5) | 6 => (gf 6) | 7 => g7 | _ => g8) gr a b f r ta tf tr (yy * 12 + zz) (by omega)) mi_yX0_priceToKeep mv_yX0_priceToKeep ml_X0_88 ⟨rfl, rfl, Nat.le_of_ble_eq_true rfl, Nat.le_of_ble_eq_true rfl⟩ hK (hP.sub (ws' := [((ga 9), .inr (0, [.ref (ga 0), .ref (ga 1), .ref (ga 2), .ref (ga 3), .int (gf 4), .int (gf 5), .int (gf 6), .int g7, .int g8])), ((a 15), .inr (2, [.int (f 0), .int (f 1), .int (f 2), .int (f 3), .int (f 4), .ref (b 3), .ref (a 6), .ref (a 7), .ref (a 8), .ref (a 9), .ref (a 10), .ref (a 11), .ref (a 12), .ref (a 13), .ref (a 14)])), ((a 6), .inl (G.2.2.1, 12, .inl (r 6))), ((a 7), .inl (G.2.1, 12, .inl (r 7))), ((a 8), .inl (G.2.1, 144, .inl (r 8))), ((a 9), .inl (G.2.1, 144, .inl (r 9))), ((a 10), .inl (G.2.1, 144, .inl (r 10))), ((a 11), .inl (G.2.2.1, 144, .inl (r 11))), ((a 12), .inl (G.2.1, 144, .inl (r 12))), ((a 13), .inl (G.2.1, 144, .inl (r 13))), ((a 14), .inl (G.2.1, 144, .inl (r 14))), ((ta 0), .inr (4, [.int (tf 0), .int (tf 1), .int (tf 2), .int (tf 3), .ref (ta 4), .ref (ta 5), .ref (ta 6), .ref (ta 7), .ref (ta 8), .ref (ta 9), .ref (ta 10), .ref (ta 11)])), ((ta 4), .inl (G.2.1, 12, .inl (tr 4))), ((ta 5), .inl (G.2.1, 144, .inl (tr 5))), ((ta 6), .inl (G.2.1, 144, .inl (tr 6))), ((ta 7), .inl (G.2.1, 144, .inl (tr 7))), ((ta 8), .inl (G.2.1, 864, .inl (tr 8))), ((ta 9), .inl (G.2.1, 6, .inl (tr 9))), ((ta 10), .inl (G.2.1, 12, .inl (tr 10))), ((ta 11), .inl (G.2.1, 12, .inl (tr 11)))]) [0, 5, 6, 7, 8, 9, 10, 11, 12, 13, 14, 15, 16, 17, 18, 19, 20, 21, 22, 23] rfl) rfl rfl rfl hl.1 rfl (Nat.le_of_ble_eq_true rfl) dX0_findThree_122 ⟨Nat.zero_le _, Nat.zero_le _⟩ hS hA hP (fun r18 H locs hr18 hP hS => ?_)
                      refine lv_istore (lv' := [(10, .int r18), (9, .int r16), (0, .ref (ga 9)), (1, .ref (ta 0)), (2, .ref (a 15)), (3, .int (nI i)), (4, .int (nI j)), (5, .int be), (6, .int (nI yy)), (7, .int r11), (8, .int (nI zz))]) hx hb dX0_findThree_125 hl (by decide) rfl (fun ls hl => ?_)
                      refine lv_iload hx hb dX0_findThree_127 (lv_at hl 9 rfl) ?_
                      refine lv_iconst (v := -1) hx hb dX0_findThree_129 (by decide) ?_
                      refine lv_icmp_eq (tgt := 149) hx hb dX0_findThree_130 (by decide) (fun c19 => ?_) (fun c19 => ?_)
                      · refine lv_iconst (v := 0) hx hb dX0_findThree_149 (by decide) ?_
                        refine lv_istore (lv' := [(11, .int 0), (10, .int r18), (9, .int r16), (0, .ref (ga 9)), (1, .ref (ta 0)), (2, .ref (a 15)), (3, .int (nI i)), (4, .int (nI j)), (5, .int be), (6, .int (nI yy)), (7, .int r11), (8, .int (nI zz))]) hx hb dX0_findThree_150 hl (by decide) rfl (fun ls hl => ?_)
                        refine lv_iload hx hb dX0_findThree_152 (lv_at hl 10 rfl) ?_
                        refine lv_iload hx hb dX0_findThree_154 (lv_at hl 2 rfl) ?_
                        refine lv_iadd hx hb dX0_findThree_156 ?_
                        refine lv_topi (fun v20 ev20 => ?_)
                        refine lv_iload hx hb dX0_findThree_157 (lv_at hl 1 rfl) ?_
                        refine lv_iadd hx hb dX0_findThree_159 ?_
                        refine lv_topi (fun v21 ev21 => ?_)
                        refine lv_istore (lv' := [(12, .int v21), (11, .int 0), (10, .int r18), (9, .int r16), (0, .ref (ga 9)), (1, .ref (ta 0)), (2, .ref (a 15)), (3, .int (nI i)), (4, .int (nI j)), (5, .int be), (6, .int (nI yy)), (7, .int r11), (8, .int (nI zz))]) hx hb dX0_findThree_160 hl (by decide) rfl (fun ls hl => ?_)
                        refine lv_iload hx hb dX0_findThree_162 (lv_at hl 1 rfl) ?_
                        refine lv_if_eq (tgt := 195) hx hb dX0_findThree_164 (by decide) (fun _ => ?_) (fun c22 => absurd (by decide) c22)
                        obtain ⟨v23, ev23⟩ : ∃ y : Int32, y = (nI zz) + Int32.ofInt (1) := ⟨_, rfl⟩
                        refine lv_iinc (v := v23) (lv' := [(8, .int v23), (12, .int v21), (11, .int 0), (10, .int r18), (9, .int r16), (0, .ref (ga 9)), (1, .ref (ta 0)), (2, .ref (a 15)), (3, .int (nI i)), (4, .int (nI j)), (5, .int be), (6, .int (nI yy)), (7, .int r11)]) hx hb dX0_findThree_195 hl (k := 12) rfl ev23.symm (by decide) rfl (fun ls hl => ?_)
                        refine lv_goto (tgt := 79) hx hb dX0_findThree_198 (by decide) ?_
                        exact ih2 (zz + 1) be g7 g8 (by omega) (by omega) (hbp) _ _ _ hP hS (by have e := nI_inc ev23; rw [e] at hl; exact lv_sub hl [5, 6, 7, 8, 9, 10, 11, 12, 0] rfl)
                      · refine lv_iload hx hb dX0_findThree_133 (lv_at hl 1 rfl) ?_
                        refine lv_iconst (v := -1) hx hb dX0_findThree_135 (by decide) ?_
                        refine lv_icmp_eq (tgt := 149) hx hb dX0_findThree_136 (by decide) (fun c24 => ?_) (fun c24 => ?_)
                        · refine lv_iconst (v := 0) hx hb dX0_findThree_149 (by decide) ?_
                          refine lv_istore (lv' := [(11, .int 0), (10, .int r18), (9, .int r16), (0, .ref (ga 9)), (1, .ref (ta 0)), (2, .ref (a 15)), (3, .int (nI i)), (4, .int (nI j)), (5, .int be), (6, .int (nI yy)), (7, .int r11), (8, .int (nI zz))]) hx hb dX0_findThree_150 hl (by decide) rfl (fun ls hl => ?_)
                          refine lv_iload hx hb dX0_findThree_152 (lv_at hl 10 rfl) ?_
                          refine lv_iload hx hb dX0_findThree_154 (lv_at hl 2 rfl) ?_
                          refine lv_iadd hx hb dX0_findThree_156 ?_
                          refine lv_topi (fun v25 ev25 => ?_)
                          refine lv_iload hx hb dX0_findThree_157 (lv_at hl 1 rfl) ?_
                          refine lv_iadd hx hb dX0_findThree_159 ?_
                          refine lv_topi (fun v26 ev26 => ?_)
                          refine lv_istore (lv' := [(12, .int v26), (11, .int 0), (10, .int r18), (9, .int r16), (0, .ref (ga 9)), (1, .ref (ta 0)), (2, .ref (a 15)), (3, .int (nI i)), (4, .int (nI j)), (5, .int be), (6, .int (nI yy)), (7, .int r11), (8, .int (nI zz))]) hx hb dX0_findThree_160 hl (by decide) rfl (fun ls hl => ?_)
                          refine lv_iload hx hb dX0_findThree_162 (lv_at hl 1 rfl) ?_
                          refine lv_if_eq (tgt := 195) hx hb dX0_findThree_164 (by decide) (fun _ => ?_) (fun c27 => absurd (by decide) c27)
                          obtain ⟨v28, ev28⟩ : ∃ y : Int32, y = (nI zz) + Int32.ofInt (1) := ⟨_, rfl⟩
                          refine lv_iinc (v := v28) (lv' := [(8, .int v28), (12, .int v26), (11, .int 0), (10, .int r18), (9, .int r16), (0, .ref (ga 9)), (1, .ref (ta 0)), (2, .ref (a 15)), (3, .int (nI i)), (4, .int (nI j)), (5, .int be), (6, .int (nI yy)), (7, .int r11)]) hx hb dX0_findThree_195 hl (k := 12) rfl ev28.symm (by decide) rfl (fun ls hl => ?_)
                          refine lv_goto (tgt := 79) hx hb dX0_findThree_198 (by decide) ?_
                          exact ih2 (zz + 1) be g7 g8 (by omega) (by omega) (hbp) _ _ _ hP hS (by have e := nI_inc ev28; rw [e] at hl; exact lv_sub hl [5, 6, 7, 8, 9, 10, 11, 12, 0] rfl)
                        · refine lv_iload hx hb dX0_findThree_139 (lv_at hl 0 rfl) ?_
                          refine lv_iconst (v := -1) hx hb dX0_findThree_141 (by decide) ?_
                          refine lv_icmp_eq (tgt := 149) hx hb dX0_findThree_142 (by decide) (fun c29 => ?_) (fun c29 => ?_)
                          · refine lv_iconst (v := 0) hx hb dX0_findThree_149 (by decide) ?_
                            refine lv_istore (lv' := [(11, .int 0), (10, .int r18), (9, .int r16), (0, .ref (ga 9)), (1, .ref (ta 0)), (2, .ref (a 15)), (3, .int (nI i)), (4, .int (nI j)), (5, .int be), (6, .int (nI yy)), (7, .int r11), (8, .int (nI zz))]) hx hb dX0_findThree_150 hl (by decide) rfl (fun ls hl => ?_)
                            refine lv_iload hx hb dX0_findThree_152 (lv_at hl 10 rfl) ?_
                            refine lv_iload hx hb dX0_findThree_154 (lv_at hl 2 rfl) ?_
                            refine lv_iadd hx hb dX0_findThree_156 ?_
                            refine lv_topi (fun v30 ev30 => ?_)
                            refine lv_iload hx hb dX0_findThree_157 (lv_at hl 1 rfl) ?_
                            refine lv_iadd hx hb dX0_findThree_159 ?_
                            refine lv_topi (fun v31 ev31 => ?_)
                            refine lv_istore (lv' := [(12, .int v31), (11, .int 0), (10, .int r18), (9, .int r16), (0, .ref (ga 9)), (1, .ref (ta 0)), (2, .ref (a 15)), (3, .int (nI i)), (4, .int (nI j)), (5, .int be), (6, .int (nI yy)), (7, .int r11), (8, .int (nI zz))]) hx hb dX0_findThree_160 hl (by decide) rfl (fun ls hl => ?_)
                            refine lv_iload hx hb dX0_findThree_162 (lv_at hl 1 rfl) ?_
                            refine lv_if_eq (tgt := 195) hx hb dX0_findThree_164 (by decide) (fun _ => ?_) (fun c32 => absurd (by decide) c32)
                            obtain ⟨v33, ev33⟩ : ∃ y : Int32, y = (nI zz) + Int32.ofInt (1) := ⟨_, rfl⟩
                            refine lv_iinc (v := v33) (lv' := [(8, .int v33), (12, .int v31), (11, .int 0), (10, .int r18), (9, .int r16), (0, .ref (ga 9)), (1, .ref (ta 0)), (2, .ref (a 15)), (3, .int (nI i)), (4, .int (nI j)), (5, .int be), (6, .int (nI yy)), (7, .int r11)]) hx hb dX0_findThree_195 hl (k := 12) rfl ev33.symm (by decide) rfl (fun ls hl => ?_)
                            refine lv_goto (tgt := 79) hx hb dX0_findThree_198 (by decide) ?_
                            exact ih2 (zz + 1) be g7 g8 (by omega) (by omega) (hbp) _ _ _ hP hS (by have e := nI_inc ev33; rw [e] at hl; exact lv_sub hl [5, 6, 7, 8, 9, 10, 11, 12, 0] rfl)
                          · refine lv_iconst (v := 1) hx hb dX0_findThree_145 (by decide) ?_
                            refine lv_goto (tgt := 150) hx hb dX0_findThree_146 (by decide) ?_
                            refine lv_istore (lv' := [(11, .int 1), (10, .int r18), (9, .int r16), (0, .ref (ga 9)), (1, .ref (ta 0)), (2, .ref (a 15)), (3, .int (nI i)), (4, .int (nI j)), (5, .int be), (6, .int (nI yy)), (7, .int r11), (8, .int (nI zz))]) hx hb dX0_findThree_150 hl (by decide) rfl (fun ls hl => ?_)
                            refine lv_iload hx hb dX0_findThree_152 (lv_at hl 10 rfl) ?_
                            refine lv_iload hx hb dX0_findThree_154 (lv_at hl 2 rfl) ?_
                            refine lv_iadd hx hb dX0_findThree_156 ?_
                            refine lv_topi (fun v34 ev34 => ?_)
                            refine lv_iload hx hb dX0_findThree_157 (lv_at hl 1 rfl) ?_
                            refine lv_iadd hx hb dX0_findThree_159 ?_
                            refine lv_topi (fun v35 ev35 => ?_)
                            refine lv_istore (lv' := [(12, .int v35), (11, .int 1), (10, .int r18), (9, .int r16), (0, .ref (ga 9)), (1, .ref (ta 0)), (2, .ref (a 15)), (3, .int (nI i)), (4, .int (nI j)), (5, .int be), (6, .int (nI yy)), (7, .int r11), (8, .int (nI zz))]) hx hb dX0_findThree_160 hl (by decide) rfl (fun ls hl => ?_)
                            refine lv_iload hx hb dX0_findThree_162 (lv_at hl 1 rfl) ?_
                            refine lv_if_eq (tgt := 195) hx hb dX0_findThree_164 (by decide) (fun c36 => absurd c36 (by decide)) (fun _ => ?_)
                            refine lv_iload hx hb dX0_findThree_167 (lv_at hl 0 rfl) ?_
                            refine lv_if_le (tgt := 195) hx hb dX0_findThree_169 (by decide) (fun c37 => ?_) (fun c37 => ?_)
                            · obtain ⟨v38, ev38⟩ : ∃ y : Int32, y = (nI zz) + Int32.ofInt (1) := ⟨_, rfl⟩
                              refine lv_iinc (v := v38) (lv' := [(8, .int v38), (12, .int v35), (11, .int 1), (10, .int r18), (9, .int r16), (0, .ref (ga 9)), (1, .ref (ta 0)), (2, .ref (a 15)), (3, .int (nI i)), (4, .int (nI j)), (5, .int be), (6, .int (nI yy)), (7, .int r11)]) hx hb dX0_findThree_195 hl (k := 12) rfl ev38.symm (by decide) rfl (fun ls hl => ?_)
                              refine lv_goto (tgt := 79) hx hb dX0_findThree_198 (by decide) ?_
                              exact ih2 (zz + 1) be g7 g8 (by omega) (by omega) (hbp) _ _ _ hP hS (by have e := nI_inc ev38; rw [e] at hl; exact lv_sub hl [5, 6, 7, 8, 9, 10, 11, 12, 0] rfl)
                            · refine lv_iload hx hb dX0_findThree_172 (lv_at hl 0 rfl) ?_
                              refine lv_iload hx hb dX0_findThree_174 (lv_at hl 9 rfl) ?_
                              refine lv_icmp_ge (tgt := 195) hx hb dX0_findThree_176 (by decide) (fun c39 => ?_) (fun c39 => ?_)
                              · obtain ⟨v40, ev40⟩ : ∃ y : Int32, y = (nI zz) + Int32.ofInt (1) := ⟨_, rfl⟩
                                refine lv_iinc (v := v40) (lv' := [(8, .int v40), (12, .int v35), (11, .int 1), (10, .int r18), (9, .int r16), (0, .ref (ga 9)), (1, .ref (ta 0)), (2, .ref (a 15)), (3, .int (nI i)), (4, .int (nI j)), (5, .int be), (6, .int (nI yy)), (7, .int r11)]) hx hb dX0_findThree_195 hl (k := 12) rfl ev40.symm (by decide) rfl (fun ls hl => ?_)
                                refine lv_goto (tgt := 79) hx hb dX0_findThree_198 (by decide) ?_
                                exact ih2 (zz + 1) be g7 g8 (by omega) (by omega) (hbp) _ _ _ hP hS (by have e := nI_inc ev40; rw [e] at hl; exact lv_sub hl [5, 6, 7, 8, 9, 10, 11, 12, 0] rfl)
                              · refine lv_iload hx hb dX0_findThree_179 (lv_at hl 0 rfl) ?_
                                refine lv_istore (lv' := [(5, .int v35), (12, .int v35), (11, .int 1), (10, .int r18), (9, .int r16), (0, .ref (ga 9)), (1, .ref (ta 0)), (2, .ref (a 15)), (3, .int (nI i)), (4, .int (nI j)), (6, .int (nI yy)), (7, .int r11), (8, .int (nI zz))]) hx hb dX0_findThree_181 hl (by decide) rfl (fun ls hl => ?_)
                                refine lv_aload_n hx hb dX0_findThree_183 rfl (lv_at hl 5 rfl) ?_
                                refine lv_iload hx hb dX0_findThree_184 (lv_at hl 10 rfl) ?_
                                refine va_put (D := G.1) (ci := 0) (v := .int (nI yy)) (C := RX0) (T := TX0) (N := 9) hx hb hts inX0 tyX0 tyX0_ok nmX0 hown hK.1 hP hD hS 0 rfl rfl 7 (by decide) (hts _ mf_X0_35) (fun _ h9 => h9) rfl (tyX0_ok 7 (by decide)) (rfl) (rfl) (Nat.le_of_ble_eq_true rfl) dX0_findThree_186 (fun H locs hP hD hS => ?_)
                                have hP : PP G [((ga 9), .inr (0, [.ref (ga 0), .ref (ga 1), .ref (ga 2), .ref (ga 3), .int (gf 4), .int (gf 5), .int (gf 6), .int (nI yy), .int g8])), ((ga 0), .inl (G.2.2.1, 144, .inl (gr 0))), ((ga 1), .inl (G.2.1, 8, .inl (gr 1))), ((ga 2), .inl (G.2.1, 8, .inl (gr 2))), ((ga 3), .inl (G.2.1, 256, .inl (gr 3))), ((a 15), .inr (2, [.int (f 0), .int (f 1), .int (f 2), .int (f 3), .int (f 4), .ref (b 3), .ref (a 6), .ref (a 7), .ref (a 8), .ref (a 9), .ref (a 10), .ref (a 11), .ref (a 12), .ref (a 13), .ref (a 14)])), ((a 6), .inl (G.2.2.1, 12, .inl (r 6))), ((a 7), .inl (G.2.1, 12, .inl (r 7))), ((a 8), .inl (G.2.1, 144, .inl (r 8))), ((a 9), .inl (G.2.1, 144, .inl (r 9))), ((a 10), .inl (G.2.1, 144, .inl (r 10))), ((a 11), .inl (G.2.2.1, 144, .inl (r 11))), ((a 12), .inl (G.2.1, 144, .inl (r 12))), ((a 13), .inl (G.2.1, 144, .inl (r 13))), ((a 14), .inl (G.2.1, 144, .inl (r 14))), ((ta 0), .inr (4, [.int (tf 0), .int (tf 1), .int (tf 2), .int (tf 3), .ref (ta 4), .ref (ta 5), .ref (ta 6), .ref (ta 7), .ref (ta 8), .ref (ta 9), .ref (ta 10), .ref (ta 11)])), ((ta 4), .inl (G.2.1, 12, .inl (tr 4))), ((ta 5), .inl (G.2.1, 144, .inl (tr 5))), ((ta 6), .inl (G.2.1, 144, .inl (tr 6))), ((ta 7), .inl (G.2.1, 144, .inl (tr 7))), ((ta 8), .inl (G.2.1, 864, .inl (tr 8))), ((ta 9), .inl (G.2.1, 6, .inl (tr 9))), ((ta 10), .inl (G.2.1, 12, .inl (tr 10))), ((ta 11), .inl (G.2.1, 12, .inl (tr 11)))] H := hP
                                have hD := D_as hP hD rfl
                                refine lv_aload_n hx hb dX0_findThree_189 rfl (lv_at hl 5 rfl) ?_
                                refine lv_iload hx hb dX0_findThree_190 (lv_at hl 12 rfl) ?_
                                refine va_put (D := G.1) (ci := 0) (v := .int (nI zz)) (C := RX0) (T := TX0) (N := 9) hx hb hts inX0 tyX0 tyX0_ok nmX0 hown hK.1 hP hD hS 0 rfl rfl 8 (by decide) (hts _ mf_X0_38) (fun _ h9 => h9) rfl (tyX0_ok 8 (by decide)) (rfl) (rfl) (Nat.le_of_ble_eq_true rfl) dX0_findThree_192 (fun H locs hP hD hS => ?_)
                                have hP : PP G [((ga 9), .inr (0, [.ref (ga 0), .ref (ga 1), .ref (ga 2), .ref (ga 3), .int (gf 4), .int (gf 5), .int (gf 6), .int (nI yy), .int (nI zz)])), ((ga 0), .inl (G.2.2.1, 144, .inl (gr 0))), ((ga 1), .inl (G.2.1, 8, .inl (gr 1))), ((ga 2), .inl (G.2.1, 8, .inl (gr 2))), ((ga 3), .inl (G.2.1, 256, .inl (gr 3))), ((a 15), .inr (2, [.int (f 0), .int (f 1), .int (f 2), .int (f 3), .int (f 4), .ref (b 3), .ref (a 6), .ref (a 7), .ref (a 8), .ref (a 9), .ref (a 10), .ref (a 11), .ref (a 12), .ref (a 13), .ref (a 14)])), ((a 6), .inl (G.2.2.1, 12, .inl (r 6))), ((a 7), .inl (G.2.1, 12, .inl (r 7))), ((a 8), .inl (G.2.1, 144, .inl (r 8))), ((a 9), .inl (G.2.1, 144, .inl (r 9))), ((a 10), .inl (G.2.1, 144, .inl (r 10))), ((a 11), .inl (G.2.2.1, 144, .inl (r 11))), ((a 12), .inl (G.2.1, 144, .inl (r 12))), ((a 13), .inl (G.2.1, 144, .inl (r 13))), ((a 14), .inl (G.2.1, 144, .inl (r 14))), ((ta 0), .inr (4, [.int (tf 0), .int (tf 1), .int (tf 2), .int (tf 3), .ref (ta 4), .ref (ta 5), .ref (ta 6), .ref (ta 7), .ref (ta 8), .ref (ta 9), .ref (ta 10), .ref (ta 11)])), ((ta 4), .inl (G.2.1, 12, .inl (tr 4))), ((ta 5), .inl (G.2.1, 144, .inl (tr 5))), ((ta 6), .inl (G.2.1, 144, .inl (tr 6))), ((ta 7), .inl (G.2.1, 144, .inl (tr 7))), ((ta 8), .inl (G.2.1, 864, .inl (tr 8))), ((ta 9), .inl (G.2.1, 6, .inl (tr 9))), ((ta 10), .inl (G.2.1, 12, .inl (tr 10))), ((ta 11), .inl (G.2.1, 12, .inl (tr 11)))] H := hP
                                have hD := D_as hP hD rfl
                                obtain ⟨v41, ev41⟩ : ∃ y : Int32, y = (nI zz) + Int32.ofInt (1) := ⟨_, rfl⟩
                                refine lv_iinc (v := v41) (lv' := [(8, .int v41), (5, .int v35), (12, .int v35), (11, .int 1), (10, .int r18), (9, .int r16), (0, .ref (ga 9)), (1, .ref (ta 0)), (2, .ref (a 15)), (3, .int (nI i)), (4, .int (nI j)), (6, .int (nI yy)), (7, .int r11)]) hx hb dX0_findThree_195 hl (k := 12) rfl ev41.symm (by decide) rfl (fun ls hl => ?_)
                                refine lv_goto (tgt := 79) hx hb dX0_findThree_198 (by decide) ?_
                                exact ih2 (zz + 1) v35 (nI yy) (nI zz) (by omega) (by omega) (Or.inr ⟨yy, zz, by omega, by omega, rfl, rfl⟩) _ _ _ hP hS (by have e := nI_inc ev41; rw [e] at hl; exact lv_sub hl [6, 7, 8, 9, 10, 1, 11, 12, 0] rfl)
                    · refine lv_goto (tgt := 195) hx hb dX0_findThree_95 (by decide) ?_
                      obtain ⟨v42, ev42⟩ : ∃ y : Int32, y = (nI zz) + Int32.ofInt (1) := ⟨_, rfl⟩
                      refine lv_iinc (v := v42) (lv' := [(8, .int v42), (0, .ref (ga 9)), (1, .ref (ta 0)), (2, .ref (a 15)), (3, .int (nI i)), (4, .int (nI j)), (5, .int be), (6, .int (nI yy)), (7, .int r11)]) hx hb dX0_findThree_195 hl (k := 8) rfl ev42.symm (by decide) rfl (fun ls hl => ?_)
                      refine lv_goto (tgt := 79) hx hb dX0_findThree_198 (by decide) ?_
                      exact ih2 (zz + 1) be g7 g8 (by omega) (by omega) (hbp) _ _ _ hP hS (by have e := nI_inc ev42; rw [e] at hl; exact lv_sub hl [1, 2, 3, 4, 5, 6, 7, 8, 0] rfl)
              exact inner (cl + 1) 0 be g7 g8 (Nat.zero_le _) (by omega) hbp _ _ _ hP hS (lv_sub hl [2, 3, 4, 5, 6, 7, 8, 1, 0] rfl)
            · refine lv_goto (tgt := 201) hx hb dX0_findThree_58 (by decide) ?_
              obtain ⟨v43, ev43⟩ : ∃ y : Int32, y = (nI yy) + Int32.ofInt (1) := ⟨_, rfl⟩
              refine lv_iinc (v := v43) (lv' := [(6, .int v43), (0, .ref (ga 9)), (1, .ref (ta 0)), (2, .ref (a 15)), (3, .int (nI i)), (4, .int (nI j)), (5, .int be)]) hx hb dX0_findThree_201 hl (k := 6) rfl ev43.symm (by decide) rfl (fun ls hl => ?_)
              refine lv_goto (tgt := 17) hx hb dX0_findThree_204 (by decide) ?_
              exact ih (yy + 1) be g7 g8 (by omega) (by omega) (hbp) _ _ _ hP hS (by have e := nI_inc ev43; rw [e] at hl; exact lv_sub hl [1, 2, 3, 4, 5, 6, 0] rfl)
  exact outer (rw + 1) 0 1073741824 (-1) (-1) (Nat.zero_le _) (by omega) (Or.inl rfl) _ _ _ hP hS (lv_sub hl [2, 3, 4, 5, 6, 1, 0] rfl)
