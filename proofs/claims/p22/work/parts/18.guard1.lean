theorem ml_X0_75 : Cond.methodLink RX0 75 yX4_tell ∈ TB := TB_t3 206 rfl rfl
theorem mcode_yX4_tell : Cond.code yX4_tell cX4_tell 4 none ∈ TB := TB_t2 195 rfl rfl
theorem mi_yX4_tell : MI yX4_tell cX4_tell 4 none 3 := ⟨mz_RX4, mcode_yX4_tell, by decide +kernel, by decide +kernel, by decide +kernel⟩
theorem mim_yX4_tell : Cond.instanceMethod yX4_tell ∈ TB := TB_t2 193 rfl rfl
theorem msel_yX4_tell : Cond.selects yX4_tell.cls yX4_tell yX4_tell ∈ TB := TB_t2 194 rfl rfl
theorem mv_yX4_tell : Cond.instanceMethod yX4_tell ∈ TB ∧ Cond.selects yX4_tell.cls yX4_tell yX4_tell ∈ TB := ⟨mim_yX4_tell, msel_yX4_tell⟩
theorem mf_X0_92 : Cond.fieldLink RX0 92 "CellKeeper$Reader" "kind" "[I" ∈ TB := TB_t1 67 rfl rfl
theorem mf_X0_95 : Cond.fieldLink RX0 95 "CellKeeper$Reader" "kept" "[Z" ∈ TB := TB_t1 73 rfl rfl
theorem ml_X0_98 : Cond.methodLink RX0 98 yX4_priceOf ∈ TB := TB_t3 186 rfl rfl
theorem ml_X0_106 : Cond.methodLink RX0 106 yX2_alsoKeep ∈ TB := TB_t3 198 rfl rfl
theorem mcode_yX2_alsoKeep : Cond.code yX2_alsoKeep cX2_alsoKeep 2 none ∈ TB := TB_t3 201 rfl rfl
theorem mi_yX2_alsoKeep : MI yX2_alsoKeep cX2_alsoKeep 2 none 1 := ⟨mz_RX2, mcode_yX2_alsoKeep, by decide +kernel, by decide +kernel, by decide +kernel⟩
theorem mim_yX2_alsoKeep : Cond.instanceMethod yX2_alsoKeep ∈ TB := TB_t3 199 rfl rfl
theorem msel_yX2_alsoKeep : Cond.selects yX2_alsoKeep.cls yX2_alsoKeep yX2_alsoKeep ∈ TB := TB_t3 200 rfl rfl
theorem mv_yX2_alsoKeep : Cond.instanceMethod yX2_alsoKeep ∈ TB ∧ Cond.selects yX2_alsoKeep.cls yX2_alsoKeep yX2_alsoKeep ∈ TB := ⟨mim_yX2_alsoKeep, msel_yX2_alsoKeep⟩
theorem ml_X0_102 : Cond.methodLink RX0 102 yX0_keepOne ∈ TB := TB_t3 194 rfl rfl
theorem mcode_yX0_keepOne : Cond.code yX0_keepOne cX0_keepOne 3 (some .int) ∈ TB := TB_t3 197 rfl rfl
theorem mi_yX0_keepOne : MI yX0_keepOne cX0_keepOne 3 (some .int) 2 := ⟨mz_RX0, mcode_yX0_keepOne, by decide +kernel, by decide +kernel, by decide +kernel⟩
theorem mim_yX0_keepOne : Cond.instanceMethod yX0_keepOne ∈ TB := TB_t3 196 rfl rfl
theorem msel_yX0_keepOne : Cond.selects yX0_keepOne.cls yX0_keepOne yX0_keepOne ∈ TB := TB_s (n := 9) 24 (by decide +kernel)
theorem mv_yX0_keepOne : Cond.instanceMethod yX0_keepOne ∈ TB ∧ Cond.selects yX0_keepOne.cls yX0_keepOne yX0_keepOne ∈ TB := ⟨mim_yX0_keepOne, msel_yX0_keepOne⟩
theorem kcX0_forgetPlan_0 : CHb cX0_forgetPlan 0 [3, 60, 27, 17, 0, 144, 162, 0, 16, 42, 180, 0, 9, 27, 3, 84, 132, 1, 1, 167, 255, 239, 177] := CHb_of (by decide +kernel)
theorem dX0_forgetPlan_0 : decode cX0_forgetPlan 0 = .ok (.iconst 0, 1) := dw_3 (kcX0_forgetPlan_0 0 3 rfl)
theorem dX0_forgetPlan_1 : decode cX0_forgetPlan 1 = .ok (.istore_n 1, 1) := dw_60 (kcX0_forgetPlan_0 1 60 rfl)
theorem dX0_forgetPlan_2 : decode cX0_forgetPlan 2 = .ok (.iload_n 1, 1) := dw_27 (kcX0_forgetPlan_0 2 27 rfl)
theorem dX0_forgetPlan_3 : decode cX0_forgetPlan 3 = .ok (.sipush 144, 3) := dw_17 (kcX0_forgetPlan_0 3 17 rfl) (kcX0_forgetPlan_0 4 0 rfl) (kcX0_forgetPlan_0 5 144 rfl) rfl
theorem dX0_forgetPlan_6 : decode cX0_forgetPlan 6 = .ok (.if_icmp .ge 16, 3) := dw_162 (kcX0_forgetPlan_0 6 162 rfl) (kcX0_forgetPlan_0 7 0 rfl) (kcX0_forgetPlan_0 8 16 rfl) rfl
theorem dX0_forgetPlan_22 : decode cX0_forgetPlan 22 = .ok (.return_, 1) := dw_177 (kcX0_forgetPlan_0 22 177 rfl)
theorem dX0_forgetPlan_9 : decode cX0_forgetPlan 9 = .ok (.aload_n 0, 1) := dw_42 (kcX0_forgetPlan_0 9 42 rfl)
theorem dX0_forgetPlan_10 : decode cX0_forgetPlan 10 = .ok (.getfield 9, 3) := dw_180 (kcX0_forgetPlan_0 10 180 rfl) (kcX0_forgetPlan_0 11 0 rfl) (kcX0_forgetPlan_0 12 9 rfl) rfl
theorem dX0_forgetPlan_13 : decode cX0_forgetPlan 13 = .ok (.iload_n 1, 1) := dw_27 (kcX0_forgetPlan_0 13 27 rfl)
theorem dX0_forgetPlan_14 : decode cX0_forgetPlan 14 = .ok (.iconst 0, 1) := dw_3 (kcX0_forgetPlan_0 14 3 rfl)
theorem dX0_forgetPlan_15 : decode cX0_forgetPlan 15 = .ok (.bastore, 1) := dw_84 (kcX0_forgetPlan_0 15 84 rfl)
theorem dX0_forgetPlan_16 : decode cX0_forgetPlan 16 = .ok (.iinc 1 1, 3) := dw_132 (kcX0_forgetPlan_0 16 132 rfl) (kcX0_forgetPlan_0 17 1 rfl) (kcX0_forgetPlan_0 18 1 rfl) rfl
theorem dX0_forgetPlan_19 : decode cX0_forgetPlan 19 = .ok (.goto (-17), 3) := dw_167 (kcX0_forgetPlan_0 19 167 rfl) (kcX0_forgetPlan_0 20 255 rfl) (kcX0_forgetPlan_0 21 239 rfl) rfl
theorem kcX0_tellPlanned_0 : CHb cX0_tellPlanned 0 [3, 61, 28, 17, 0, 144, 162, 0, 25, 42, 180, 0, 9, 28, 51, 153, 0, 10, 43, 28, 5, 4, 182, 0, 75, 132, 2, 1, 167, 255, 230, 177] := CHb_of (by decide +kernel)
theorem dX0_tellPlanned_0 : decode cX0_tellPlanned 0 = .ok (.iconst 0, 1) := dw_3 (kcX0_tellPlanned_0 0 3 rfl)
theorem dX0_tellPlanned_1 : decode cX0_tellPlanned 1 = .ok (.istore_n 2, 1) := dw_61 (kcX0_tellPlanned_0 1 61 rfl)
theorem dX0_tellPlanned_2 : decode cX0_tellPlanned 2 = .ok (.iload_n 2, 1) := dw_28 (kcX0_tellPlanned_0 2 28 rfl)
theorem dX0_tellPlanned_3 : decode cX0_tellPlanned 3 = .ok (.sipush 144, 3) := dw_17 (kcX0_tellPlanned_0 3 17 rfl) (kcX0_tellPlanned_0 4 0 rfl) (kcX0_tellPlanned_0 5 144 rfl) rfl
theorem dX0_tellPlanned_6 : decode cX0_tellPlanned 6 = .ok (.if_icmp .ge 25, 3) := dw_162 (kcX0_tellPlanned_0 6 162 rfl) (kcX0_tellPlanned_0 7 0 rfl) (kcX0_tellPlanned_0 8 25 rfl) rfl
theorem dX0_tellPlanned_31 : decode cX0_tellPlanned 31 = .ok (.return_, 1) := dw_177 (kcX0_tellPlanned_0 31 177 rfl)
theorem dX0_tellPlanned_9 : decode cX0_tellPlanned 9 = .ok (.aload_n 0, 1) := dw_42 (kcX0_tellPlanned_0 9 42 rfl)
theorem dX0_tellPlanned_10 : decode cX0_tellPlanned 10 = .ok (.getfield 9, 3) := dw_180 (kcX0_tellPlanned_0 10 180 rfl) (kcX0_tellPlanned_0 11 0 rfl) (kcX0_tellPlanned_0 12 9 rfl) rfl
theorem dX0_tellPlanned_13 : decode cX0_tellPlanned 13 = .ok (.iload_n 2, 1) := dw_28 (kcX0_tellPlanned_0 13 28 rfl)
theorem dX0_tellPlanned_14 : decode cX0_tellPlanned 14 = .ok (.baload, 1) := dw_51 (kcX0_tellPlanned_0 14 51 rfl)
theorem dX0_tellPlanned_15 : decode cX0_tellPlanned 15 = .ok (.ifCond .eq 10, 3) := dw_153 (kcX0_tellPlanned_0 15 153 rfl) (kcX0_tellPlanned_0 16 0 rfl) (kcX0_tellPlanned_0 17 10 rfl) rfl
theorem dX0_tellPlanned_25 : decode cX0_tellPlanned 25 = .ok (.iinc 2 1, 3) := dw_132 (kcX0_tellPlanned_0 25 132 rfl) (kcX0_tellPlanned_0 26 2 rfl) (kcX0_tellPlanned_0 27 1 rfl) rfl
theorem dX0_tellPlanned_28 : decode cX0_tellPlanned 28 = .ok (.goto (-26), 3) := dw_167 (kcX0_tellPlanned_0 28 167 rfl) (kcX0_tellPlanned_0 29 255 rfl) (kcX0_tellPlanned_0 30 230 rfl) rfl
theorem dX0_tellPlanned_18 : decode cX0_tellPlanned 18 = .ok (.aload_n 1, 1) := dw_43 (kcX0_tellPlanned_0 18 43 rfl)
theorem dX0_tellPlanned_19 : decode cX0_tellPlanned 19 = .ok (.iload_n 2, 1) := dw_28 (kcX0_tellPlanned_0 19 28 rfl)
theorem dX0_tellPlanned_20 : decode cX0_tellPlanned 20 = .ok (.iconst 2, 1) := dw_5 (kcX0_tellPlanned_0 20 5 rfl)
theorem dX0_tellPlanned_21 : decode cX0_tellPlanned 21 = .ok (.iconst 1, 1) := dw_4 (kcX0_tellPlanned_0 21 4 rfl)
theorem dX0_tellPlanned_22 : decode cX0_tellPlanned 22 = .ok (.invokevirtual 75, 3) := dw_182 (kcX0_tellPlanned_0 22 182 rfl) (kcX0_tellPlanned_0 23 0 rfl) (kcX0_tellPlanned_0 24 75 rfl) rfl
theorem kcX0_bitOf_0 : CHb cX0_bitOf 0 [4, 42, 180, 0, 25, 4, 100, 27, 100, 120, 172] := CHb_of (by decide +kernel)
theorem dX0_bitOf_0 : decode cX0_bitOf 0 = .ok (.iconst 1, 1) := dw_4 (kcX0_bitOf_0 0 4 rfl)
theorem dX0_bitOf_1 : decode cX0_bitOf 1 = .ok (.aload_n 0, 1) := dw_42 (kcX0_bitOf_0 1 42 rfl)
theorem dX0_bitOf_2 : decode cX0_bitOf 2 = .ok (.getfield 25, 3) := dw_180 (kcX0_bitOf_0 2 180 rfl) (kcX0_bitOf_0 3 0 rfl) (kcX0_bitOf_0 4 25 rfl) rfl
theorem dX0_bitOf_5 : decode cX0_bitOf 5 = .ok (.iconst 1, 1) := dw_4 (kcX0_bitOf_0 5 4 rfl)
theorem dX0_bitOf_6 : decode cX0_bitOf 6 = .ok (.isub, 1) := dw_100 (kcX0_bitOf_0 6 100 rfl)
theorem dX0_bitOf_7 : decode cX0_bitOf 7 = .ok (.iload_n 1, 1) := dw_27 (kcX0_bitOf_0 7 27 rfl)
theorem dX0_bitOf_8 : decode cX0_bitOf 8 = .ok (.isub, 1) := dw_100 (kcX0_bitOf_0 8 100 rfl)
theorem dX0_bitOf_9 : decode cX0_bitOf 9 = .ok (.ishl, 1) := dw_120 (kcX0_bitOf_0 9 120 rfl)
theorem dX0_bitOf_10 : decode cX0_bitOf 10 = .ok (.ireturn, 1) := dw_172 (kcX0_bitOf_0 10 172 rfl)
theorem kcX0_priceToKeep_0 : CHb cX0_priceToKeep 0 [44, 180, 0, 92, 29, 46, 7, 160, 0, 5, 2, 172, 44, 180, 0, 95, 29, 51, 153, 0, 7, 3, 167, 0, 8, 43, 29, 182, 0, 98, 172] := CHb_of (by decide +kernel)
theorem dX0_priceToKeep_0 : decode cX0_priceToKeep 0 = .ok (.aload_n 2, 1) := dw_44 (kcX0_priceToKeep_0 0 44 rfl)
theorem dX0_priceToKeep_1 : decode cX0_priceToKeep 1 = .ok (.getfield 92, 3) := dw_180 (kcX0_priceToKeep_0 1 180 rfl) (kcX0_priceToKeep_0 2 0 rfl) (kcX0_priceToKeep_0 3 92 rfl) rfl
theorem dX0_priceToKeep_4 : decode cX0_priceToKeep 4 = .ok (.iload_n 3, 1) := dw_29 (kcX0_priceToKeep_0 4 29 rfl)
theorem dX0_priceToKeep_5 : decode cX0_priceToKeep 5 = .ok (.iaload, 1) := dw_46 (kcX0_priceToKeep_0 5 46 rfl)
theorem dX0_priceToKeep_6 : decode cX0_priceToKeep 6 = .ok (.iconst 4, 1) := dw_7 (kcX0_priceToKeep_0 6 7 rfl)
theorem dX0_priceToKeep_7 : decode cX0_priceToKeep 7 = .ok (.if_icmp .ne 5, 3) := dw_160 (kcX0_priceToKeep_0 7 160 rfl) (kcX0_priceToKeep_0 8 0 rfl) (kcX0_priceToKeep_0 9 5 rfl) rfl
theorem dX0_priceToKeep_12 : decode cX0_priceToKeep 12 = .ok (.aload_n 2, 1) := dw_44 (kcX0_priceToKeep_0 12 44 rfl)
theorem dX0_priceToKeep_13 : decode cX0_priceToKeep 13 = .ok (.getfield 95, 3) := dw_180 (kcX0_priceToKeep_0 13 180 rfl) (kcX0_priceToKeep_0 14 0 rfl) (kcX0_priceToKeep_0 15 95 rfl) rfl
theorem dX0_priceToKeep_16 : decode cX0_priceToKeep 16 = .ok (.iload_n 3, 1) := dw_29 (kcX0_priceToKeep_0 16 29 rfl)
theorem dX0_priceToKeep_17 : decode cX0_priceToKeep 17 = .ok (.baload, 1) := dw_51 (kcX0_priceToKeep_0 17 51 rfl)
theorem dX0_priceToKeep_18 : decode cX0_priceToKeep 18 = .ok (.ifCond .eq 7, 3) := dw_153 (kcX0_priceToKeep_0 18 153 rfl) (kcX0_priceToKeep_0 19 0 rfl) (kcX0_priceToKeep_0 20 7 rfl) rfl
theorem dX0_priceToKeep_25 : decode cX0_priceToKeep 25 = .ok (.aload_n 1, 1) := dw_43 (kcX0_priceToKeep_0 25 43 rfl)
theorem dX0_priceToKeep_26 : decode cX0_priceToKeep 26 = .ok (.iload_n 3, 1) := dw_29 (kcX0_priceToKeep_0 26 29 rfl)
theorem dX0_priceToKeep_27 : decode cX0_priceToKeep 27 = .ok (.invokevirtual 98, 3) := dw_182 (kcX0_priceToKeep_0 27 182 rfl) (kcX0_priceToKeep_0 28 0 rfl) (kcX0_priceToKeep_0 29 98 rfl) rfl
theorem dX0_priceToKeep_30 : decode cX0_priceToKeep 30 = .ok (.ireturn, 1) := dw_172 (kcX0_priceToKeep_0 30 172 rfl)
theorem dX0_priceToKeep_21 : decode cX0_priceToKeep 21 = .ok (.iconst 0, 1) := dw_3 (kcX0_priceToKeep_0 21 3 rfl)
theorem dX0_priceToKeep_22 : decode cX0_priceToKeep 22 = .ok (.goto 8, 3) := dw_167 (kcX0_priceToKeep_0 22 167 rfl) (kcX0_priceToKeep_0 23 0 rfl) (kcX0_priceToKeep_0 24 8 rfl) rfl
theorem dX0_priceToKeep_10 : decode cX0_priceToKeep 10 = .ok (.iconst (-1), 1) := dw_2 (kcX0_priceToKeep_0 10 2 rfl)
theorem dX0_priceToKeep_11 : decode cX0_priceToKeep 11 = .ok (.ireturn, 1) := dw_172 (kcX0_priceToKeep_0 11 172 rfl)
theorem kcX0_keepOne_0 : CHb cX0_keepOne 0 [42, 180, 0, 9, 28, 4, 84, 43, 180, 0, 95, 28, 51, 153, 0, 5, 3, 172, 43, 28, 182, 0, 106, 4, 172] := CHb_of (by decide +kernel)
theorem dX0_keepOne_0 : decode cX0_keepOne 0 = .ok (.aload_n 0, 1) := dw_42 (kcX0_keepOne_0 0 42 rfl)
theorem dX0_keepOne_1 : decode cX0_keepOne 1 = .ok (.getfield 9, 3) := dw_180 (kcX0_keepOne_0 1 180 rfl) (kcX0_keepOne_0 2 0 rfl) (kcX0_keepOne_0 3 9 rfl) rfl
theorem dX0_keepOne_4 : decode cX0_keepOne 4 = .ok (.iload_n 2, 1) := dw_28 (kcX0_keepOne_0 4 28 rfl)
theorem dX0_keepOne_5 : decode cX0_keepOne 5 = .ok (.iconst 1, 1) := dw_4 (kcX0_keepOne_0 5 4 rfl)
theorem dX0_keepOne_6 : decode cX0_keepOne 6 = .ok (.bastore, 1) := dw_84 (kcX0_keepOne_0 6 84 rfl)
theorem dX0_keepOne_7 : decode cX0_keepOne 7 = .ok (.aload_n 1, 1) := dw_43 (kcX0_keepOne_0 7 43 rfl)
theorem dX0_keepOne_8 : decode cX0_keepOne 8 = .ok (.getfield 95, 3) := dw_180 (kcX0_keepOne_0 8 180 rfl) (kcX0_keepOne_0 9 0 rfl) (kcX0_keepOne_0 10 95 rfl) rfl
theorem dX0_keepOne_11 : decode cX0_keepOne 11 = .ok (.iload_n 2, 1) := dw_28 (kcX0_keepOne_0 11 28 rfl)
theorem dX0_keepOne_12 : decode cX0_keepOne 12 = .ok (.baload, 1) := dw_51 (kcX0_keepOne_0 12 51 rfl)
theorem dX0_keepOne_13 : decode cX0_keepOne 13 = .ok (.ifCond .eq 5, 3) := dw_153 (kcX0_keepOne_0 13 153 rfl) (kcX0_keepOne_0 14 0 rfl) (kcX0_keepOne_0 15 5 rfl) rfl
theorem dX0_keepOne_18 : decode cX0_keepOne 18 = .ok (.aload_n 1, 1) := dw_43 (kcX0_keepOne_0 18 43 rfl)
theorem dX0_keepOne_19 : decode cX0_keepOne 19 = .ok (.iload_n 2, 1) := dw_28 (kcX0_keepOne_0 19 28 rfl)
theorem dX0_keepOne_20 : decode cX0_keepOne 20 = .ok (.invokevirtual 106, 3) := dw_182 (kcX0_keepOne_0 20 182 rfl) (kcX0_keepOne_0 21 0 rfl) (kcX0_keepOne_0 22 106 rfl) rfl
theorem dX0_keepOne_23 : decode cX0_keepOne 23 = .ok (.iconst 1, 1) := dw_4 (kcX0_keepOne_0 23 4 rfl)
theorem dX0_keepOne_24 : decode cX0_keepOne 24 = .ok (.ireturn, 1) := dw_172 (kcX0_keepOne_0 24 172 rfl)
theorem dX0_keepOne_16 : decode cX0_keepOne 16 = .ok (.iconst 0, 1) := dw_3 (kcX0_keepOne_0 16 3 rfl)
theorem dX0_keepOne_17 : decode cX0_keepOne 17 = .ok (.ireturn, 1) := dw_172 (kcX0_keepOne_0 17 172 rfl)
theorem kcX0_keepThree_0 : CHb cX0_keepThree 0 [42, 43, 28, 42, 180, 0, 38, 184, 0, 55, 182, 0, 102, 42, 43, 42, 180, 0, 35, 29, 184, 0, 55, 182, 0, 102, 96, 42, 43, 42, 180, 0, 35, 42, 180, 0, 38, 184, 0, 55, 182, 0, 102, 96, 172] := CHb_of (by decide +kernel)
theorem dX0_keepThree_0 : decode cX0_keepThree 0 = .ok (.aload_n 0, 1) := dw_42 (kcX0_keepThree_0 0 42 rfl)
theorem dX0_keepThree_1 : decode cX0_keepThree 1 = .ok (.aload_n 1, 1) := dw_43 (kcX0_keepThree_0 1 43 rfl)
theorem dX0_keepThree_2 : decode cX0_keepThree 2 = .ok (.iload_n 2, 1) := dw_28 (kcX0_keepThree_0 2 28 rfl)
theorem dX0_keepThree_3 : decode cX0_keepThree 3 = .ok (.aload_n 0, 1) := dw_42 (kcX0_keepThree_0 3 42 rfl)
theorem dX0_keepThree_4 : decode cX0_keepThree 4 = .ok (.getfield 38, 3) := dw_180 (kcX0_keepThree_0 4 180 rfl) (kcX0_keepThree_0 5 0 rfl) (kcX0_keepThree_0 6 38 rfl) rfl
theorem dX0_keepThree_7 : decode cX0_keepThree 7 = .ok (.invokestatic 55, 3) := dw_184 (kcX0_keepThree_0 7 184 rfl) (kcX0_keepThree_0 8 0 rfl) (kcX0_keepThree_0 9 55 rfl) rfl
theorem dX0_keepThree_10 : decode cX0_keepThree 10 = .ok (.invokevirtual 102, 3) := dw_182 (kcX0_keepThree_0 10 182 rfl) (kcX0_keepThree_0 11 0 rfl) (kcX0_keepThree_0 12 102 rfl) rfl
theorem dX0_keepThree_13 : decode cX0_keepThree 13 = .ok (.aload_n 0, 1) := dw_42 (kcX0_keepThree_0 13 42 rfl)
theorem dX0_keepThree_14 : decode cX0_keepThree 14 = .ok (.aload_n 1, 1) := dw_43 (kcX0_keepThree_0 14 43 rfl)
theorem dX0_keepThree_15 : decode cX0_keepThree 15 = .ok (.aload_n 0, 1) := dw_42 (kcX0_keepThree_0 15 42 rfl)
theorem dX0_keepThree_16 : decode cX0_keepThree 16 = .ok (.getfield 35, 3) := dw_180 (kcX0_keepThree_0 16 180 rfl) (kcX0_keepThree_0 17 0 rfl) (kcX0_keepThree_0 18 35 rfl) rfl
theorem dX0_keepThree_19 : decode cX0_keepThree 19 = .ok (.iload_n 3, 1) := dw_29 (kcX0_keepThree_0 19 29 rfl)
theorem dX0_keepThree_20 : decode cX0_keepThree 20 = .ok (.invokestatic 55, 3) := dw_184 (kcX0_keepThree_0 20 184 rfl) (kcX0_keepThree_0 21 0 rfl) (kcX0_keepThree_0 22 55 rfl) rfl
theorem dX0_keepThree_23 : decode cX0_keepThree 23 = .ok (.invokevirtual 102, 3) := dw_182 (kcX0_keepThree_0 23 182 rfl) (kcX0_keepThree_0 24 0 rfl) (kcX0_keepThree_0 25 102 rfl) rfl
theorem dX0_keepThree_26 : decode cX0_keepThree 26 = .ok (.iadd, 1) := dw_96 (kcX0_keepThree_0 26 96 rfl)
theorem dX0_keepThree_27 : decode cX0_keepThree 27 = .ok (.aload_n 0, 1) := dw_42 (kcX0_keepThree_0 27 42 rfl)
theorem dX0_keepThree_28 : decode cX0_keepThree 28 = .ok (.aload_n 1, 1) := dw_43 (kcX0_keepThree_0 28 43 rfl)
theorem dX0_keepThree_29 : decode cX0_keepThree 29 = .ok (.aload_n 0, 1) := dw_42 (kcX0_keepThree_0 29 42 rfl)
theorem dX0_keepThree_30 : decode cX0_keepThree 30 = .ok (.getfield 35, 3) := dw_180 (kcX0_keepThree_0 30 180 rfl) (kcX0_keepThree_0 31 0 rfl) (kcX0_keepThree_0 32 35 rfl) rfl
theorem dX0_keepThree_33 : decode cX0_keepThree 33 = .ok (.aload_n 0, 1) := dw_42 (kcX0_keepThree_0 33 42 rfl)
theorem dX0_keepThree_34 : decode cX0_keepThree 34 = .ok (.getfield 38, 3) := dw_180 (kcX0_keepThree_0 34 180 rfl) (kcX0_keepThree_0 35 0 rfl) (kcX0_keepThree_0 36 38 rfl) rfl
theorem dX0_keepThree_37 : decode cX0_keepThree 37 = .ok (.invokestatic 55, 3) := dw_184 (kcX0_keepThree_0 37 184 rfl) (kcX0_keepThree_0 38 0 rfl) (kcX0_keepThree_0 39 55 rfl) rfl
theorem dX0_keepThree_40 : decode cX0_keepThree 40 = .ok (.invokevirtual 102, 3) := dw_182 (kcX0_keepThree_0 40 182 rfl) (kcX0_keepThree_0 41 0 rfl) (kcX0_keepThree_0 42 102 rfl) rfl
theorem dX0_keepThree_43 : decode cX0_keepThree 43 = .ok (.iadd, 1) := dw_96 (kcX0_keepThree_0 43 96 rfl)
theorem dX0_keepThree_44 : decode cX0_keepThree 44 = .ok (.ireturn, 1) := dw_172 (kcX0_keepThree_0 44 172 rfl)
/-- what a hand told of the places is the same -/
def hb1 (td td2 : Nat → Int32) : Prop := ∀ p, td2 p &&& 1 = td p &&& 1
theorem bit1_or (x : Int32) : (x ||| 2) &&& 1 = x &&& 1 := b_ext (fun i hi => by
  rw [b_and, b_and, b_or, b_1 i hi]
  by_cases h : i = 0
  · subst h; rw [show bt 2 0 = false from by decide]; simp
  · rw [decide_eq_false h]; simp)
theorem bit1_an (x : Int32) : (x &&& ((2 : Int32) ^^^ (-1))) &&& 1 = x &&& 1 := b_ext (fun i hi => by
  rw [b_and, b_and, b_and, b_1 i hi]
  by_cases h : i = 0
  · subst h; rw [show bt ((2 : Int32) ^^^ (-1)) 0 = true from by decide]; simp
  · rw [decide_eq_false h]; simp)
theorem hb1_tell {td td2 : Nat → Int32} (h : hb1 td td2) (sp : Nat) (on : Int32) : hb1 td (upd td2 sp (if on = 0 then td2 sp &&& ((2 : Int32) ^^^ (-1)) else td2 sp ||| 2)) := by
  intro p
  by_cases e : p = sp
  · subst e; rw [pk_us]
    split
    · rw [bit1_an]; exact h p
    · rw [bit1_or]; exact h p
  · rw [pk_un e]; exact h p
set_option maxHeartbeats 4000000 in
set_option maxRecDepth 100000 in
theorem c_X0_forgetPlan (l : Launch) (G : GG) (ga : Nat → Nat) (gf : Nat → Int32) (gr : Nat → Nat → Int32) : WrV l yX0_forgetPlan cX0_forgetPlan 2 ({ frames := 0, cells := 0, slots := 0, locals := 0 }) G ([((ga 9), .inr (0, [.ref (ga 0), .ref (ga 1), .ref (ga 2), .ref (ga 3), .int (gf 4), .int (gf 5), .int (gf 6), .int (gf 7), .int (gf 8)])), ((ga 0), .inl (G.2.2.1, 144, .inl (gr 0))), ((ga 1), .inl (G.2.1, 8, .inl (gr 1))), ((ga 2), .inl (G.2.1, 8, .inl (gr 2))), ((ga 3), .inl (G.2.1, 256, .inl (gr 3)))]) [.ref (ga 9)] (fun w => ∃ p2 : Nat → Int32, w = [((ga 9), .inr (0, [.ref (ga 0), .ref (ga 1), .ref (ga 2), .ref (ga 3), .int (gf 4), .int (gf 5), .int (gf 6), .int (gf 7), .int (gf 8)])), ((ga 0), .inl (G.2.2.1, 144, .inl p2)), ((ga 1), .inl (G.2.1, 8, .inl (gr 1))), ((ga 2), .inl (G.2.1, 8, .inl (gr 2))), ((ga 3), .inl (G.2.1, 256, .inl (gr 3)))]) := by
  refine wr_entryV (by decide +kernel) (Nat.le_of_ble_eq_true rfl) ?_
  intro p e s m below meth c A C0 hP hK hD hA ls hl
  have hS : va_S A s.heap s.heap [] := va_S.rf
  obtain ⟨hx, hb, hml, hown, hts, hr, hlocks, hin⟩ := C0
  have hown : s.vm.findClass RX0 = some m.cls := hown
  have hl : lv_has ls 2 [(0, .ref (ga 9))] := hl
  refine lv_iconst (v := 0) hx hb dX0_forgetPlan_0 (by decide) ?_
  refine lv_istore_n (lv' := [(1, .int 0), (0, .ref (ga 9))]) hx hb dX0_forgetPlan_1 rfl hl (by decide) rfl (fun ls hl => ?_)
  have loop : ∀ (k i : Nat) (p2 : Nat → Int32), i ≤ 144 → 144 < i + k → ∀ (H : Heap) (locs : List Loc) (ls : Array Slot), PP G ([((ga 9), .inr (0, [.ref (ga 0), .ref (ga 1), .ref (ga 2), .ref (ga 3), .int (gf 4), .int (gf 5), .int (gf 6), .int (gf 7), .int (gf 8)])), ((ga 0), .inl (G.2.2.1, 144, .inl p2)), ((ga 1), .inl (G.2.1, 8, .inl (gr 1))), ((ga 2), .inl (G.2.1, 8, .inl (gr 2))), ((ga 3), .inl (G.2.1, 256, .inl (gr 3)))]) H → va_S A s.heap H locs → lv_has ls 2 [(0, .ref (ga 9)), (1, .int (nI i))] → W p l e ({ frames := 0, cells := 0, slots := 0, locals := 0 }) s m ([.ref (ga 9)] : List Value).toArray below meth c H locs 0 0 (MQ below (QwV G (fun w => ∃ p2 : Nat → Int32, w = [((ga 9), .inr (0, [.ref (ga 0), .ref (ga 1), .ref (ga 2), .ref (ga 3), .int (gf 4), .int (gf 5), .int (gf 6), .int (gf 7), .int (gf 8)])), ((ga 0), .inl (G.2.2.1, 144, .inl p2)), ((ga 1), .inl (G.2.1, 8, .inl (gr 1))), ((ga 2), .inl (G.2.1, 8, .inl (gr 2))), ((ga 3), .inl (G.2.1, 256, .inl (gr 3)))]) A) ([.ref (ga 9)] : List Value).toArray s 0 0 A) (F0 m 2 ls []) := by
    intro k
    induction k with
    | zero => intro i p2 h1 h2; omega
    | succ k ih =>
      intro i p2 hi_i hk_i  H locs ls hP hS hl
      have hD := D_as2 hP hD rfl
      refine lv_iload_n hx hb dX0_forgetPlan_2 rfl (lv_at hl 1 rfl) ?_
      refine lv_sipush (v := 144) hx hb dX0_forgetPlan_3 (by decide) ?_
      refine lv_icmp_ge (tgt := 22) hx hb dX0_forgetPlan_6 (by decide) (fun c1 => ?_) (fun c1 => ?_)
      · exact wr_vret hx hb hr hlocks hS hP ⟨p2, rfl⟩ dX0_forgetPlan_22
      · have hlt := ge_f (b := 144) (by omega) (by omega) c1
        refine lv_aload_n hx hb dX0_forgetPlan_9 rfl (lv_at hl 0 rfl) ?_
        refine va_get (D := G.1) (ci := 0) (v := .ref (ga 0)) (C := RX0) (T := TX0) (N := 9) hx hb hts inX0 hown hK.1 hP 0 rfl rfl 0 (by decide) (hts _ mf_X0_9) (fun _ h9 => h9) rfl dX0_forgetPlan_10 ?_
        refine lv_iload_n hx hb dX0_forgetPlan_13 rfl (lv_at hl 1 rfl) ?_
        refine lv_iconst (v := 0) hx hb dX0_forgetPlan_14 (by decide) ?_
        refine xzast (x := 0) hx hb hK hP hD hS 1 (i) (rfl) (hlt) (by omega) (Or.inl rfl) rfl dX0_forgetPlan_15 (fun H locs hP hD hS => ?_)
        have hP : PP G [((ga 9), .inr (0, [.ref (ga 0), .ref (ga 1), .ref (ga 2), .ref (ga 3), .int (gf 4), .int (gf 5), .int (gf 6), .int (gf 7), .int (gf 8)])), ((ga 0), .inl (G.2.2.1, 144, .inl (upd p2 (i) (0)))), ((ga 1), .inl (G.2.1, 8, .inl (gr 1))), ((ga 2), .inl (G.2.1, 8, .inl (gr 2))), ((ga 3), .inl (G.2.1, 256, .inl (gr 3)))] H := hP
        have hD := D_as hP hD rfl
        obtain ⟨v2, ev2⟩ : ∃ y : Int32, y = (nI i) + Int32.ofInt (1) := ⟨_, rfl⟩
        refine lv_iinc (v := v2) (lv' := [(1, .int v2), (0, .ref (ga 9))]) hx hb dX0_forgetPlan_16 hl (k := 1) rfl ev2.symm (by decide) rfl (fun ls hl => ?_)
        refine lv_goto (tgt := 2) hx hb dX0_forgetPlan_19 (by decide) ?_
        exact ih (i + 1) (upd p2 (i) (0)) (by omega) (by omega) _ _ _ hP hS (by have e := nI_inc ev2; rw [e] at hl; exact lv_sub hl [1, 0] rfl)
  exact loop 145 0 (gr 0) (Nat.zero_le _) (by omega) _ _ _ hP hS (lv_sub hl [1, 0] rfl)
set_option maxHeartbeats 4000000 in
set_option maxRecDepth 100000 in
theorem c_X0_tellPlanned (l : Launch) (G : GG) (ga : Nat → Nat) (gf : Nat → Int32) (gr : Nat → Nat → Int32) (ta : Nat → Nat) (tf : Nat → Int32) (tr : Nat → Nat → Int32) : WrV l yX0_tellPlanned cX0_tellPlanned 3 ({ frames := 1, cells := 0, slots := 0, locals := 23 }) G ([((ga 9), .inr (0, [.ref (ga 0), .ref (ga 1), .ref (ga 2), .ref (ga 3), .int (gf 4), .int (gf 5), .int (gf 6), .int (gf 7), .int (gf 8)])), ((ga 0), .inl (G.2.2.1, 144, .inl (gr 0))), ((ga 1), .inl (G.2.1, 8, .inl (gr 1))), ((ga 2), .inl (G.2.1, 8, .inl (gr 2))), ((ga 3), .inl (G.2.1, 256, .inl (gr 3))), ((ta 0), .inr (4, [.int (tf 0), .int (tf 1), .int (tf 2), .int (tf 3), .ref (ta 4), .ref (ta 5), .ref (ta 6), .ref (ta 7), .ref (ta 8), .ref (ta 9), .ref (ta 10), .ref (ta 11)])), ((ta 4), .inl (G.2.1, 12, .inl (tr 4))), ((ta 5), .inl (G.2.1, 144, .inl (tr 5))), ((ta 6), .inl (G.2.1, 144, .inl (tr 6))), ((ta 7), .inl (G.2.1, 144, .inl (tr 7))), ((ta 8), .inl (G.2.1, 864, .inl (tr 8))), ((ta 9), .inl (G.2.1, 6, .inl (tr 9))), ((ta 10), .inl (G.2.1, 12, .inl (tr 10))), ((ta 11), .inl (G.2.1, 12, .inl (tr 11)))]) [.ref (ga 9), .ref (ta 0)] (fun w => ∃ td : Nat → Int32, hb1 (tr 7) td ∧ w = [((ga 9), .inr (0, [.ref (ga 0), .ref (ga 1), .ref (ga 2), .ref (ga 3), .int (gf 4), .int (gf 5), .int (gf 6), .int (gf 7), .int (gf 8)])), ((ga 0), .inl (G.2.2.1, 144, .inl (gr 0))), ((ga 1), .inl (G.2.1, 8, .inl (gr 1))), ((ga 2), .inl (G.2.1, 8, .inl (gr 2))), ((ga 3), .inl (G.2.1, 256, .inl (gr 3))), ((ta 0), .inr (4, [.int (tf 0), .int (tf 1), .int (tf 2), .int (tf 3), .ref (ta 4), .ref (ta 5), .ref (ta 6), .ref (ta 7), .ref (ta 8), .ref (ta 9), .ref (ta 10), .ref (ta 11)])), ((ta 4), .inl (G.2.1, 12, .inl (tr 4))), ((ta 5), .inl (G.2.1, 144, .inl (tr 5))), ((ta 6), .inl (G.2.1, 144, .inl (tr 6))), ((ta 7), .inl (G.2.1, 144, .inl td)), ((ta 8), .inl (G.2.1, 864, .inl (tr 8))), ((ta 9), .inl (G.2.1, 6, .inl (tr 9))), ((ta 10), .inl (G.2.1, 12, .inl (tr 10))), ((ta 11), .inl (G.2.1, 12, .inl (tr 11)))]) := by
  refine wr_entryV (by decide +kernel) (Nat.le_of_ble_eq_true rfl) ?_
  intro p e s m below meth c A C0 hP hK hD hA ls hl
  have hS : va_S A s.heap s.heap [] := va_S.rf
  obtain ⟨hx, hb, hml, hown, hts, hr, hlocks, hin⟩ := C0
  have hown : s.vm.findClass RX0 = some m.cls := hown
  have hl : lv_has ls 3 [(0, .ref (ga 9)), (1, .ref (ta 0))] := hl
  refine lv_iconst (v := 0) hx hb dX0_tellPlanned_0 (by decide) ?_
  refine lv_istore_n (lv' := [(2, .int 0), (0, .ref (ga 9)), (1, .ref (ta 0))]) hx hb dX0_tellPlanned_1 rfl hl (by decide) rfl (fun ls hl => ?_)
  have loop : ∀ (k i : Nat) (td : Nat → Int32), i ≤ 144 → 144 < i + k → hb1 (tr 7) td → ∀ (H : Heap) (locs : List Loc) (ls : Array Slot), PP G ([((ga 9), .inr (0, [.ref (ga 0), .ref (ga 1), .ref (ga 2), .ref (ga 3), .int (gf 4), .int (gf 5), .int (gf 6), .int (gf 7), .int (gf 8)])), ((ga 0), .inl (G.2.2.1, 144, .inl (gr 0))), ((ga 1), .inl (G.2.1, 8, .inl (gr 1))), ((ga 2), .inl (G.2.1, 8, .inl (gr 2))), ((ga 3), .inl (G.2.1, 256, .inl (gr 3))), ((ta 0), .inr (4, [.int (tf 0), .int (tf 1), .int (tf 2), .int (tf 3), .ref (ta 4), .ref (ta 5), .ref (ta 6), .ref (ta 7), .ref (ta 8), .ref (ta 9), .ref (ta 10), .ref (ta 11)])), ((ta 4), .inl (G.2.1, 12, .inl (tr 4))), ((ta 5), .inl (G.2.1, 144, .inl (tr 5))), ((ta 6), .inl (G.2.1, 144, .inl (tr 6))), ((ta 7), .inl (G.2.1, 144, .inl td)), ((ta 8), .inl (G.2.1, 864, .inl (tr 8))), ((ta 9), .inl (G.2.1, 6, .inl (tr 9))), ((ta 10), .inl (G.2.1, 12, .inl (tr 10))), ((ta 11), .inl (G.2.1, 12, .inl (tr 11)))]) H → va_S A s.heap H locs → lv_has ls 3 [(0, .ref (ga 9)), (1, .ref (ta 0)), (2, .int (nI i))] → W p l e ({ frames := 1, cells := 0, slots := 0, locals := 23 }) s m ([.ref (ga 9), .ref (ta 0)] : List Value).toArray below meth c H locs 0 0 (MQ below (QwV G (fun w => ∃ td : Nat → Int32, hb1 (tr 7) td ∧ w = [((ga 9), .inr (0, [.ref (ga 0), .ref (ga 1), .ref (ga 2), .ref (ga 3), .int (gf 4), .int (gf 5), .int (gf 6), .int (gf 7), .int (gf 8)])), ((ga 0), .inl (G.2.2.1, 144, .inl (gr 0))), ((ga 1), .inl (G.2.1, 8, .inl (gr 1))), ((ga 2), .inl (G.2.1, 8, .inl (gr 2))), ((ga 3), .inl (G.2.1, 256, .inl (gr 3))), ((ta 0), .inr (4, [.int (tf 0), .int (tf 1), .int (tf 2), .int (tf 3), .ref (ta 4), .ref (ta 5), .ref (ta 6), .ref (ta 7), .ref (ta 8), .ref (ta 9), .ref (ta 10), .ref (ta 11)])), ((ta 4), .inl (G.2.1, 12, .inl (tr 4))), ((ta 5), .inl (G.2.1, 144, .inl (tr 5))), ((ta 6), .inl (G.2.1, 144, .inl (tr 6))), ((ta 7), .inl (G.2.1, 144, .inl td)), ((ta 8), .inl (G.2.1, 864, .inl (tr 8))), ((ta 9), .inl (G.2.1, 6, .inl (tr 9))), ((ta 10), .inl (G.2.1, 12, .inl (tr 10))), ((ta 11), .inl (G.2.1, 12, .inl (tr 11)))]) A) ([.ref (ga 9), .ref (ta 0)] : List Value).toArray s 0 0 A) (F0 m 2 ls []) := by
    intro k
    induction k with
    | zero => intro i td h1 h2; omega
    | succ k ih =>
      intro i td hi_i hk_i htd H locs ls hP hS hl
      have hD := D_as2 hP hD rfl
      refine lv_iload_n hx hb dX0_tellPlanned_2 rfl (lv_at hl 2 rfl) ?_
      refine lv_sipush (v := 144) hx hb dX0_tellPlanned_3 (by decide) ?_
      refine lv_icmp_ge (tgt := 31) hx hb dX0_tellPlanned_6 (by decide) (fun c1 => ?_) (fun c1 => ?_)
      · exact wr_vret hx hb hr hlocks hS hP ⟨td, htd, rfl⟩ dX0_tellPlanned_31
      · have hlt := ge_f (b := 144) (by omega) (by omega) c1
        refine lv_aload_n hx hb dX0_tellPlanned_9 rfl (lv_at hl 0 rfl) ?_
        refine va_get (D := G.1) (ci := 0) (v := .ref (ga 0)) (C := RX0) (T := TX0) (N := 9) hx hb hts inX0 hown hK.1 hP 0 rfl rfl 0 (by decide) (hts _ mf_X0_9) (fun _ h9 => h9) rfl dX0_tellPlanned_10 ?_
        refine lv_iload_n hx hb dX0_tellPlanned_13 rfl (lv_at hl 2 rfl) ?_
        refine xzald hx hb hK hP 1 (i) (rfl) (hlt) (by omega) rfl dX0_tellPlanned_14 ?_
        refine lv_topi (fun v2 ev2 => ?_)
        refine lv_if_eq (tgt := 25) hx hb dX0_tellPlanned_15 (by decide) (fun c3 => ?_) (fun c3 => ?_)
        · obtain ⟨v4, ev4⟩ : ∃ y : Int32, y = (nI i) + Int32.ofInt (1) := ⟨_, rfl⟩
          refine lv_iinc (v := v4) (lv' := [(2, .int v4), (0, .ref (ga 9)), (1, .ref (ta 0))]) hx hb dX0_tellPlanned_25 hl (k := 2) rfl ev4.symm (by decide) rfl (fun ls hl => ?_)
          refine lv_goto (tgt := 2) hx hb dX0_tellPlanned_28 (by decide) ?_
          exact ih (i + 1) _ (by omega) (by omega) htd _ _ _ hP hS (by have e := nI_inc ev4; rw [e] at hl; exact lv_sub hl [1, 2, 0] rfl)
        · refine lv_aload_n hx hb dX0_tellPlanned_18 rfl (lv_at hl 1 rfl) ?_
          refine lv_iload_n hx hb dX0_tellPlanned_19 rfl (lv_at hl 2 rfl) ?_
          refine lv_iconst (v := 2) hx hb dX0_tellPlanned_20 (by decide) ?_
          refine lv_iconst (v := 1) hx hb dX0_tellPlanned_21 (by decide) ?_
          refine wrVV (rest := []) (q0 := 0) ⟨hx, hb, hml, hown, hts⟩ (c_X4_tell l G ta tf (fun k => match k with | 7 => td | _ => tr 4) (i) 2 1 (by omega)) mi_yX4_tell mv_yX4_tell ml_X0_75 ⟨rfl, rfl, Nat.le_of_ble_eq_true rfl, Nat.le_of_ble_eq_true rfl⟩ hK hP hD [5, 9] rfl (by decide) rfl rfl rfl hl.1 rfl (Nat.le_of_ble_eq_true rfl) dX0_tellPlanned_22 ⟨Nat.zero_le _, Nat.zero_le _⟩ hS hA (fun w6 H locs hw6 hP hS => ?_)
          obtain rfl := hw6
          have htd := hb1_tell htd (i) 1
          have hP : PP G [((ga 9), .inr (0, [.ref (ga 0), .ref (ga 1), .ref (ga 2), .ref (ga 3), .int (gf 4), .int (gf 5), .int (gf 6), .int (gf 7), .int (gf 8)])), ((ga 0), .inl (G.2.2.1, 144, .inl (gr 0))), ((ga 1), .inl (G.2.1, 8, .inl (gr 1))), ((ga 2), .inl (G.2.1, 8, .inl (gr 2))), ((ga 3), .inl (G.2.1, 256, .inl (gr 3))), ((ta 0), .inr (4, [.int (tf 0), .int (tf 1), .int (tf 2), .int (tf 3), .ref (ta 4), .ref (ta 5), .ref (ta 6), .ref (ta 7), .ref (ta 8), .ref (ta 9), .ref (ta 10), .ref (ta 11)])), ((ta 4), .inl (G.2.1, 12, .inl (tr 4))), ((ta 5), .inl (G.2.1, 144, .inl (tr 5))), ((ta 6), .inl (G.2.1, 144, .inl (tr 6))), ((ta 7), .inl (G.2.1, 144, .inl (upd td (i) (if (1 : Int32) = 0 then td (i) &&& ((2 : Int32) ^^^ (-1)) else td (i) ||| 2)))), ((ta 8), .inl (G.2.1, 864, .inl (tr 8))), ((ta 9), .inl (G.2.1, 6, .inl (tr 9))), ((ta 10), .inl (G.2.1, 12, .inl (tr 10))), ((ta 11), .inl (G.2.1, 12, .inl (tr 11)))] H := hP rfl
          have hD := D_as2 hP hD rfl
          obtain ⟨v7, ev7⟩ : ∃ y : Int32, y = (nI i) + Int32.ofInt (1) := ⟨_, rfl⟩
          refine lv_iinc (v := v7) (lv' := [(2, .int v7), (0, .ref (ga 9)), (1, .ref (ta 0))]) hx hb dX0_tellPlanned_25 hl (k := 2) rfl ev7.symm (by decide) rfl (fun ls hl => ?_)
          refine lv_goto (tgt := 2) hx hb dX0_tellPlanned_28 (by decide) ?_
          exact ih (i + 1) _ (by omega) (by omega) htd _ _ _ hP hS (by have e := nI_inc ev7; rw [e] at hl; exact lv_sub hl [1, 2, 0] rfl)
  exact loop 145 0 (tr 7) (Nat.zero_le _) (by omega) (fun _ => rfl) _ _ _ hP hS (lv_sub hl [1, 2, 0] rfl)
set_option maxHeartbeats 4000000 in
set_option maxRecDepth 100000 in
theorem c_X0_bitOf (l : Launch) (G : GG) (ga : Nat → Nat) (gf : Nat → Int32) (gr : Nat → Nat → Int32) (p1 : Int32) : RdI l yX0_bitOf cX0_bitOf 2 (some .int) ({ frames := 0, cells := 0, slots := 0, locals := 0 }) G ([((ga 9), .inr (0, [.ref (ga 0), .ref (ga 1), .ref (ga 2), .ref (ga 3), .int (gf 4), .int (gf 5), .int (gf 6), .int (gf 7), .int (gf 8)])), ((ga 0), .inl (G.2.2.1, 144, .inl (gr 0))), ((ga 1), .inl (G.2.1, 8, .inl (gr 1))), ((ga 2), .inl (G.2.1, 8, .inl (gr 2))), ((ga 3), .inl (G.2.1, 256, .inl (gr 3)))]) [.ref (ga 9), .int p1] (fun _ => True) := by
  refine rd_entry (by decide +kernel) (Nat.le_of_ble_eq_true rfl) ?_
  intro p e s m below meth c C0 hP hK ls hl
  have hS : va_S (fun q => s.heap.size ≤ q) s.heap s.heap [] := va_S.rf
  have hA : ∀ q, s.heap.size ≤ q → (fun q => s.heap.size ≤ q) q := fun _ h => h
  obtain ⟨hx, hb, hml, hown, hts, hr, hlocks, hin⟩ := C0
  have hown : s.vm.findClass RX0 = some m.cls := hown
  have hl : lv_has ls 2 [(0, .ref (ga 9)), (1, .int p1)] := hl
  refine lv_iconst (v := 1) hx hb dX0_bitOf_0 (by decide) ?_
  refine lv_aload_n hx hb dX0_bitOf_1 rfl (lv_at hl 0 rfl) ?_
  refine va_get (D := G.1) (ci := 0) (v := .int (gf 4)) (C := RX0) (T := TX0) (N := 9) hx hb hts inX0 hown hK.1 hP 0 rfl rfl 4 (by decide) (hts _ mf_X0_25) (fun _ h9 => h9) rfl dX0_bitOf_2 ?_
  refine lv_iconst (v := 1) hx hb dX0_bitOf_5 (by decide) ?_
  refine lv_isub hx hb dX0_bitOf_6 ?_
  refine lv_topi (fun v1 ev1 => ?_)
  refine lv_iload_n hx hb dX0_bitOf_7 rfl (lv_at hl 1 rfl) ?_
  refine lv_isub hx hb dX0_bitOf_8 ?_
  refine lv_topi (fun v2 ev2 => ?_)
  refine lv_ishl hx hb dX0_bitOf_9 ?_
  refine lv_topi (fun v3 ev3 => ?_)
  exact rd_iret hx hb hr hlocks hS trivial dX0_bitOf_10
set_option maxHeartbeats 4000000 in
set_option maxRecDepth 100000 in
theorem c_X0_priceToKeep (l : Launch) (G : GG) (ga : Nat → Nat) (gf : Nat → Int32) (gr : Nat → Nat → Int32) (a b : Nat → Nat) (f : Nat → Int32) (r : Nat → Nat → Int32) (ta : Nat → Nat) (tf : Nat → Int32) (tr : Nat → Nat → Int32) (sp : Nat) (hsp : sp < 144) : RdI l yX0_priceToKeep cX0_priceToKeep 4 (some .int) ({ frames := 1, cells := 0, slots := 0, locals := 21 }) G ([((ga 9), .inr (0, [.ref (ga 0), .ref (ga 1), .ref (ga 2), .ref (ga 3), .int (gf 4), .int (gf 5), .int (gf 6), .int (gf 7), .int (gf 8)])), ((a 15), .inr (2, [.int (f 0), .int (f 1), .int (f 2), .int (f 3), .int (f 4), .ref (b 3), .ref (a 6), .ref (a 7), .ref (a 8), .ref (a 9), .ref (a 10), .ref (a 11), .ref (a 12), .ref (a 13), .ref (a 14)])), ((a 6), .inl (G.2.2.1, 12, .inl (r 6))), ((a 7), .inl (G.2.1, 12, .inl (r 7))), ((a 8), .inl (G.2.1, 144, .inl (r 8))), ((a 9), .inl (G.2.1, 144, .inl (r 9))), ((a 10), .inl (G.2.1, 144, .inl (r 10))), ((a 11), .inl (G.2.2.1, 144, .inl (r 11))), ((a 12), .inl (G.2.1, 144, .inl (r 12))), ((a 13), .inl (G.2.1, 144, .inl (r 13))), ((a 14), .inl (G.2.1, 144, .inl (r 14))), ((ta 0), .inr (4, [.int (tf 0), .int (tf 1), .int (tf 2), .int (tf 3), .ref (ta 4), .ref (ta 5), .ref (ta 6), .ref (ta 7), .ref (ta 8), .ref (ta 9), .ref (ta 10), .ref (ta 11)])), ((ta 4), .inl (G.2.1, 12, .inl (tr 4))), ((ta 5), .inl (G.2.1, 144, .inl (tr 5))), ((ta 6), .inl (G.2.1, 144, .inl (tr 6))), ((ta 7), .inl (G.2.1, 144, .inl (tr 7))), ((ta 8), .inl (G.2.1, 864, .inl (tr 8))), ((ta 9), .inl (G.2.1, 6, .inl (tr 9))), ((ta 10), .inl (G.2.1, 12, .inl (tr 10))), ((ta 11), .inl (G.2.1, 12, .inl (tr 11)))]) [.ref (ga 9), .ref (ta 0), .ref (a 15), .int (nI sp)] (fun _ => True) := by
  refine rd_entry (by decide +kernel) (Nat.le_of_ble_eq_true rfl) ?_
  intro p e s m below meth c C0 hP hK ls hl
  have hS : va_S (fun q => s.heap.size ≤ q) s.heap s.heap [] := va_S.rf
  have hA : ∀ q, s.heap.size ≤ q → (fun q => s.heap.size ≤ q) q := fun _ h => h
  obtain ⟨hx, hb, hml, hown, hts, hr, hlocks, hin⟩ := C0
  have hown : s.vm.findClass RX0 = some m.cls := hown
  have hl : lv_has ls 4 [(0, .ref (ga 9)), (1, .ref (ta 0)), (2, .ref (a 15)), (3, .int (nI sp))] := hl
  refine lv_aload_n hx hb dX0_priceToKeep_0 rfl (lv_at hl 2 rfl) ?_
  refine va_get (D := G.1) (ci := 2) (v := .ref (a 8)) (C := RX2) (T := TX2) (N := 15) hx hb hts inX2 hown hK.1 hP 1 rfl rfl 8 (by decide) (hts _ mf_X0_92) (fun _ h9 => h9) rfl dX0_priceToKeep_1 ?_
  refine lv_iload_n hx hb dX0_priceToKeep_4 rfl (lv_at hl 3 rfl) ?_
  refine xiald hx hb hK hP 4 (sp) (rfl) (hsp) (by omega) rfl dX0_priceToKeep_5 ?_
  refine lv_topi (fun v1 ev1 => ?_)
  refine lv_iconst (v := 4) hx hb dX0_priceToKeep_6 (by decide) ?_
  refine lv_icmp_ne (tgt := 12) hx hb dX0_priceToKeep_7 (by decide) (fun c2 => ?_) (fun c2 => ?_)
  · refine lv_aload_n hx hb dX0_priceToKeep_12 rfl (lv_at hl 2 rfl) ?_
    refine va_get (D := G.1) (ci := 2) (v := .ref (a 11)) (C := RX2) (T := TX2) (N := 15) hx hb hts inX2 hown hK.1 hP 1 rfl rfl 11 (by decide) (hts _ mf_X0_95) (fun _ h9 => h9) rfl dX0_priceToKeep_13 ?_
    refine lv_iload_n hx hb dX0_priceToKeep_16 rfl (lv_at hl 3 rfl) ?_
    refine xzald hx hb hK hP 7 (sp) (rfl) (hsp) (by omega) rfl dX0_priceToKeep_17 ?_
    refine lv_topi (fun v3 ev3 => ?_)
    refine lv_if_eq (tgt := 25) hx hb dX0_priceToKeep_18 (by decide) (fun c4 => ?_) (fun c4 => ?_)
    · refine lv_aload_n hx hb dX0_priceToKeep_25 rfl (lv_at hl 1 rfl) ?_
      refine lv_iload_n hx hb dX0_priceToKeep_26 rfl (lv_at hl 3 rfl) ?_
      refine rdV (rest := []) (q0 := 0) ⟨hx, hb, hml, hown, hts⟩ (c_X4_priceOf l G ta tf tr sp hsp) mi_yX4_priceOf mv_yX4_priceOf ml_X0_98 ⟨rfl, rfl, Nat.le_of_ble_eq_true rfl, Nat.le_of_ble_eq_true rfl⟩ hK (hP.sub (ws' := tW G ta tf tr) [11, 12, 13, 14, 15, 16, 17, 18, 19] rfl) rfl rfl rfl hl.1 rfl (Nat.le_of_ble_eq_true rfl) dX0_priceToKeep_27 ⟨Nat.zero_le _, Nat.zero_le _⟩ hS hA hP (fun r5 H locs hr5 hP hS => ?_)
      exact rd_iret hx hb hr hlocks hS trivial dX0_priceToKeep_30
    · refine lv_iconst (v := 0) hx hb dX0_priceToKeep_21 (by decide) ?_
      refine lv_goto (tgt := 30) hx hb dX0_priceToKeep_22 (by decide) ?_
      exact rd_iret hx hb hr hlocks hS trivial dX0_priceToKeep_30
  · refine lv_iconst (v := -1) hx hb dX0_priceToKeep_10 (by decide) ?_
    exact rd_iret hx hb hr hlocks hS trivial dX0_priceToKeep_11
set_option maxHeartbeats 4000000 in
set_option maxRecDepth 100000 in
theorem c_X0_keepOne (l : Launch) (G : GG) (ga : Nat → Nat) (gf : Nat → Int32) (gr : Nat → Nat → Int32) (a b : Nat → Nat) (f : Nat → Int32) (r : Nat → Nat → Int32) (sp : Nat) (hsp : sp < 144) : WrI l yX0_keepOne cX0_keepOne 3 (some .int) ({ frames := 1, cells := 0, slots := 0, locals := 21 }) G ([((ga 9), .inr (0, [.ref (ga 0), .ref (ga 1), .ref (ga 2), .ref (ga 3), .int (gf 4), .int (gf 5), .int (gf 6), .int (gf 7), .int (gf 8)])), ((ga 0), .inl (G.2.2.1, 144, .inl (gr 0))), ((ga 1), .inl (G.2.1, 8, .inl (gr 1))), ((ga 2), .inl (G.2.1, 8, .inl (gr 2))), ((ga 3), .inl (G.2.1, 256, .inl (gr 3))), ((a 15), .inr (2, [.int (f 0), .int (f 1), .int (f 2), .int (f 3), .int (f 4), .ref (b 3), .ref (a 6), .ref (a 7), .ref (a 8), .ref (a 9), .ref (a 10), .ref (a 11), .ref (a 12), .ref (a 13), .ref (a 14)])), ((a 6), .inl (G.2.2.1, 12, .inl (r 6))), ((a 7), .inl (G.2.1, 12, .inl (r 7))), ((a 8), .inl (G.2.1, 144, .inl (r 8))), ((a 9), .inl (G.2.1, 144, .inl (r 9))), ((a 10), .inl (G.2.1, 144, .inl (r 10))), ((a 11), .inl (G.2.2.1, 144, .inl (r 11))), ((a 12), .inl (G.2.1, 144, .inl (r 12))), ((a 13), .inl (G.2.1, 144, .inl (r 13))), ((a 14), .inl (G.2.1, 144, .inl (r 14)))]) [.ref (ga 9), .ref (a 15), .int (nI sp)] (fun _ w => ∃ (p2 : Nat → Int32) (e4 : Int32) (k2 : Nat → Int32), w = [((ga 9), .inr (0, [.ref (ga 0), .ref (ga 1), .ref (ga 2), .ref (ga 3), .int (gf 4), .int (gf 5), .int (gf 6), .int (gf 7), .int (gf 8)])), ((ga 0), .inl (G.2.2.1, 144, .inl p2)), ((ga 1), .inl (G.2.1, 8, .inl (gr 1))), ((ga 2), .inl (G.2.1, 8, .inl (gr 2))), ((ga 3), .inl (G.2.1, 256, .inl (gr 3))), ((a 15), .inr (2, [.int (f 0), .int (f 1), .int (f 2), .int (f 3), .int e4, .ref (b 3), .ref (a 6), .ref (a 7), .ref (a 8), .ref (a 9), .ref (a 10), .ref (a 11), .ref (a 12), .ref (a 13), .ref (a 14)])), ((a 6), .inl (G.2.2.1, 12, .inl (r 6))), ((a 7), .inl (G.2.1, 12, .inl (r 7))), ((a 8), .inl (G.2.1, 144, .inl (r 8))), ((a 9), .inl (G.2.1, 144, .inl (r 9))), ((a 10), .inl (G.2.1, 144, .inl (r 10))), ((a 11), .inl (G.2.2.1, 144, .inl k2)), ((a 12), .inl (G.2.1, 144, .inl (r 12))), ((a 13), .inl (G.2.1, 144, .inl (r 13))), ((a 14), .inl (G.2.1, 144, .inl (r 14)))]) := by
  refine wr_entryI (by decide +kernel) (Nat.le_of_ble_eq_true rfl) ?_
  intro p e s m below meth c A C0 hP hK hD hA ls hl
  have hS : va_S A s.heap s.heap [] := va_S.rf
  obtain ⟨hx, hb, hml, hown, hts, hr, hlocks, hin⟩ := C0
  have hown : s.vm.findClass RX0 = some m.cls := hown
  have hl : lv_has ls 3 [(0, .ref (ga 9)), (1, .ref (a 15)), (2, .int (nI sp))] := hl
  refine lv_aload_n hx hb dX0_keepOne_0 rfl (lv_at hl 0 rfl) ?_
  refine va_get (D := G.1) (ci := 0) (v := .ref (ga 0)) (C := RX0) (T := TX0) (N := 9) hx hb hts inX0 hown hK.1 hP 0 rfl rfl 0 (by decide) (hts _ mf_X0_9) (fun _ h9 => h9) rfl dX0_keepOne_1 ?_
  refine lv_iload_n hx hb dX0_keepOne_4 rfl (lv_at hl 2 rfl) ?_
  refine lv_iconst (v := 1) hx hb dX0_keepOne_5 (by decide) ?_
  refine xzast (x := 1) hx hb hK hP hD hS 1 (sp) (rfl) (hsp) (by omega) (Or.inr rfl) rfl dX0_keepOne_6 (fun H locs hP hD hS => ?_)
  have hP : PP G [((ga 9), .inr (0, [.ref (ga 0), .ref (ga 1), .ref (ga 2), .ref (ga 3), .int (gf 4), .int (gf 5), .int (gf 6), .int (gf 7), .int (gf 8)])), ((ga 0), .inl (G.2.2.1, 144, .inl (upd (gr 0) (sp) (1)))), ((ga 1), .inl (G.2.1, 8, .inl (gr 1))), ((ga 2), .inl (G.2.1, 8, .inl (gr 2))), ((ga 3), .inl (G.2.1, 256, .inl (gr 3))), ((a 15), .inr (2, [.int (f 0), .int (f 1), .int (f 2), .int (f 3), .int (f 4), .ref (b 3), .ref (a 6), .ref (a 7), .ref (a 8), .ref (a 9), .ref (a 10), .ref (a 11), .ref (a 12), .ref (a 13), .ref (a 14)])), ((a 6), .inl (G.2.2.1, 12, .inl (r 6))), ((a 7), .inl (G.2.1, 12, .inl (r 7))), ((a 8), .inl (G.2.1, 144, .inl (r 8))), ((a 9), .inl (G.2.1, 144, .inl (r 9))), ((a 10), .inl (G.2.1, 144, .inl (r 10))), ((a 11), .inl (G.2.2.1, 144, .inl (r 11))), ((a 12), .inl (G.2.1, 144, .inl (r 12))), ((a 13), .inl (G.2.1, 144, .inl (r 13))), ((a 14), .inl (G.2.1, 144, .inl (r 14)))] H := hP
  have hD := D_as hP hD rfl
  refine lv_aload_n hx hb dX0_keepOne_7 rfl (lv_at hl 1 rfl) ?_
  refine va_get (D := G.1) (ci := 2) (v := .ref (a 11)) (C := RX2) (T := TX2) (N := 15) hx hb hts inX2 hown hK.1 hP 5 rfl rfl 11 (by decide) (hts _ mf_X0_95) (fun _ h9 => h9) rfl dX0_keepOne_8 ?_
  refine lv_iload_n hx hb dX0_keepOne_11 rfl (lv_at hl 2 rfl) ?_
  refine xzald hx hb hK hP 11 (sp) (rfl) (hsp) (by omega) rfl dX0_keepOne_12 ?_
  refine lv_topi (fun v1 ev1 => ?_)
  refine lv_if_eq (tgt := 18) hx hb dX0_keepOne_13 (by decide) (fun c2 => ?_) (fun c2 => ?_)
  · refine lv_aload_n hx hb dX0_keepOne_18 rfl (lv_at hl 1 rfl) ?_
    refine lv_iload_n hx hb dX0_keepOne_19 rfl (lv_at hl 2 rfl) ?_
    refine wrVV (rest := []) (q0 := 0) ⟨hx, hb, hml, hown, hts⟩ (c_X2_alsoKeep l G a b f r sp hsp) mi_yX2_alsoKeep mv_yX2_alsoKeep ml_X0_106 ⟨rfl, rfl, Nat.le_of_ble_eq_true rfl, Nat.le_of_ble_eq_true rfl⟩ hK hP hD [5, 6, 7, 8, 9, 10, 11, 12, 13, 14] rfl (by decide) rfl rfl rfl hl.1 rfl (Nat.le_of_ble_eq_true rfl) dX0_keepOne_20 ⟨Nat.zero_le _, Nat.zero_le _⟩ hS hA (fun w4 H locs hw4 hP hS => ?_)
    obtain rfl := hw4
    have h9_ := P_rg (s := 5) (hP rfl) rfl (Nat.le_of_ble_eq_true rfl)
    have hP : PP G [((ga 9), .inr (0, [.ref (ga 0), .ref (ga 1), .ref (ga 2), .ref (ga 3), .int (gf 4), .int (gf 5), .int (gf 6), .int (gf 7), .int (gf 8)])), ((ga 0), .inl (G.2.2.1, 144, .inl (upd (gr 0) (sp) (1)))), ((ga 1), .inl (G.2.1, 8, .inl (gr 1))), ((ga 2), .inl (G.2.1, 8, .inl (gr 2))), ((ga 3), .inl (G.2.1, 256, .inl (gr 3))), ((a 15), .inr (2, [.int (f 0), .int (f 1), .int (f 2), .int (f 3), .int (-2), .ref (b 3), .ref (a 6), .ref (a 7), .ref (a 8), .ref (a 9), .ref (a 10), .ref (a 11), .ref (a 12), .ref (a 13), .ref (a 14)])), ((a 6), .inl (G.2.2.1, 12, .inl (r 6))), ((a 7), .inl (G.2.1, 12, .inl (r 7))), ((a 8), .inl (G.2.1, 144, .inl (r 8))), ((a 9), .inl (G.2.1, 144, .inl (r 9))), ((a 10), .inl (G.2.1, 144, .inl (r 10))), ((a 11), .inl (G.2.2.1, 144, .inl (upd (r 11) (sp) (1)))), ((a 12), .inl (G.2.1, 144, .inl (r 12))), ((a 13), .inl (G.2.1, 144, .inl (r 13))), ((a 14), .inl (G.2.1, 144, .inl (r 14)))] H := h9_
    have hD := D_as2 hP hD rfl
    refine lv_iconst (v := 1) hx hb dX0_keepOne_23 (by decide) ?_
    exact wr_iret hx hb hr hlocks hS hP ⟨(upd (gr 0) (sp) (1)), (-2), (upd (r 11) (sp) (1)), rfl⟩ dX0_keepOne_24
  · refine lv_iconst (v := 0) hx hb dX0_keepOne_16 (by decide) ?_
    exact wr_iret hx hb hr hlocks hS hP ⟨(upd (gr 0) (sp) (1)), (f 4), (r 11), rfl⟩ dX0_keepOne_17
set_option maxHeartbeats 4000000 in
set_option maxRecDepth 100000 in
theorem c_X0_keepThree (l : Launch) (G : GG) (ga : Nat → Nat) (gf : Nat → Int32) (gr : Nat → Nat → Int32) (a b : Nat → Nat) (f : Nat → Int32) (r : Nat → Nat → Int32) (i j : Nat) (hi : i < 12) (hj : j < 12) (br bc : Nat) (hbr : br < 12) (hbc : bc < 12) (h7 : gf 7 = nI br) (h8 : gf 8 = nI bc) : WrI l yX0_keepThree cX0_keepThree 4 (some .int) ({ frames := 2, cells := 0, slots := 0, locals := 43 }) G ([((ga 9), .inr (0, [.ref (ga 0), .ref (ga 1), .ref (ga 2), .ref (ga 3), .int (gf 4), .int (gf 5), .int (gf 6), .int (gf 7), .int (gf 8)])), ((ga 0), .inl (G.2.2.1, 144, .inl (gr 0))), ((ga 1), .inl (G.2.1, 8, .inl (gr 1))), ((ga 2), .inl (G.2.1, 8, .inl (gr 2))), ((ga 3), .inl (G.2.1, 256, .inl (gr 3))), ((a 15), .inr (2, [.int (f 0), .int (f 1), .int (f 2), .int (f 3), .int (f 4), .ref (b 3), .ref (a 6), .ref (a 7), .ref (a 8), .ref (a 9), .ref (a 10), .ref (a 11), .ref (a 12), .ref (a 13), .ref (a 14)])), ((a 6), .inl (G.2.2.1, 12, .inl (r 6))), ((a 7), .inl (G.2.1, 12, .inl (r 7))), ((a 8), .inl (G.2.1, 144, .inl (r 8))), ((a 9), .inl (G.2.1, 144, .inl (r 9))), ((a 10), .inl (G.2.1, 144, .inl (r 10))), ((a 11), .inl (G.2.2.1, 144, .inl (r 11))), ((a 12), .inl (G.2.1, 144, .inl (r 12))), ((a 13), .inl (G.2.1, 144, .inl (r 13))), ((a 14), .inl (G.2.1, 144, .inl (r 14)))]) [.ref (ga 9), .ref (a 15), .int (nI i), .int (nI j)] (fun _ w => ∃ (p2 : Nat → Int32) (e4 : Int32) (k2 : Nat → Int32), w = [((ga 9), .inr (0, [.ref (ga 0), .ref (ga 1), .ref (ga 2), .ref (ga 3), .int (gf 4), .int (gf 5), .int (gf 6), .int (gf 7), .int (gf 8)])), ((ga 0), .inl (G.2.2.1, 144, .inl p2)), ((ga 1), .inl (G.2.1, 8, .inl (gr 1))), ((ga 2), .inl (G.2.1, 8, .inl (gr 2))), ((ga 3), .inl (G.2.1, 256, .inl (gr 3))), ((a 15), .inr (2, [.int (f 0), .int (f 1), .int (f 2), .int (f 3), .int e4, .ref (b 3), .ref (a 6), .ref (a 7), .ref (a 8), .ref (a 9), .ref (a 10), .ref (a 11), .ref (a 12), .ref (a 13), .ref (a 14)])), ((a 6), .inl (G.2.2.1, 12, .inl (r 6))), ((a 7), .inl (G.2.1, 12, .inl (r 7))), ((a 8), .inl (G.2.1, 144, .inl (r 8))), ((a 9), .inl (G.2.1, 144, .inl (r 9))), ((a 10), .inl (G.2.1, 144, .inl (r 10))), ((a 11), .inl (G.2.2.1, 144, .inl k2)), ((a 12), .inl (G.2.1, 144, .inl (r 12))), ((a 13), .inl (G.2.1, 144, .inl (r 13))), ((a 14), .inl (G.2.1, 144, .inl (r 14)))]) := by
  refine wr_entryI (by decide +kernel) (Nat.le_of_ble_eq_true rfl) ?_
  intro p e s m below meth c A C0 hP hK hD hA ls hl
  have hS : va_S A s.heap s.heap [] := va_S.rf
  obtain ⟨hx, hb, hml, hown, hts, hr, hlocks, hin⟩ := C0
  have hown : s.vm.findClass RX0 = some m.cls := hown
  have hl : lv_has ls 4 [(0, .ref (ga 9)), (1, .ref (a 15)), (2, .int (nI i)), (3, .int (nI j))] := hl
  refine lv_aload_n hx hb dX0_keepThree_0 rfl (lv_at hl 0 rfl) ?_
  refine lv_aload_n hx hb dX0_keepThree_1 rfl (lv_at hl 1 rfl) ?_
  refine lv_iload_n hx hb dX0_keepThree_2 rfl (lv_at hl 2 rfl) ?_
  refine lv_aload_n hx hb dX0_keepThree_3 rfl (lv_at hl 0 rfl) ?_
  refine va_get (D := G.1) (ci := 0) (v := .int (gf 8)) (C := RX0) (T := TX0) (N := 9) hx hb hts inX0 hown hK.1 hP 0 rfl rfl 8 (by decide) (hts _ mf_X0_38) (fun _ h9 => h9) rfl dX0_keepThree_4 ?_
  refine rdSN (rest := [.ref (a 15), .ref (ga 9)]) ⟨hx, hb, hml, hown, hts⟩ (c_X6_spotOf l G ((nI i)) ((gf 8))) mi_yX6_spotOf mst_yX6_spotOf (by decide +kernel) ⟨rfl, rfl, Nat.le_of_ble_eq_true rfl, Nat.le_of_ble_eq_true rfl⟩ hK (fun k q h => by simp at h) rfl hl.1 rfl (Nat.le_of_ble_eq_true rfl) dX0_keepThree_7 ⟨Nat.zero_le _, Nat.zero_le _⟩ hS hA hP (fun r1 H locs hr1 hP hS => ?_)
  obtain rfl : r1 = nI (i * 12 + bc) := hr1.trans (nI_plus rfl (nI_mul12 rfl rfl) h8)
  refine wrVI (rest := []) (q0 := 0) ⟨hx, hb, hml, hown, hts⟩ (c_X0_keepOne l G ga gf (fun k => match k with | 0 => (gr 0) | 1 => gr 1 | 2 => gr 2 | _ => gr 3) a b (fun k => match k with | 0 => (f 0) | 1 => (f 1) | 2 => (f 2) | 3 => (f 3) | _ => (f 4)) (fun k => match k with | 6 => (r 6) | 7 => (r 7) | 8 => (r 8) | 9 => (r 9) | 10 => (r 10) | 11 => (r 11) | 12 => (r 12) | 13 => (r 13) | 14 => (r 14) | _ => (fun _ => 0)) (i * 12 + bc) (by omega)) mi_yX0_keepOne mv_yX0_keepOne ml_X0_102 ⟨rfl, rfl, Nat.le_of_ble_eq_true rfl, Nat.le_of_ble_eq_true rfl⟩ hK hP hD [0, 1, 2, 3, 4, 5, 6, 7, 8, 9, 10, 11, 12, 13, 14] rfl (by decide) rfl rfl rfl hl.1 rfl (Nat.le_of_ble_eq_true rfl) dX0_keepThree_10 ⟨Nat.zero_le _, Nat.zero_le _⟩ hS hA (fun r2 w3 H locs hw3 hP hS => ?_)
  obtain ⟨pp4, en5, kk6, rfl⟩ := hw3
  have h9_ := P_rg (s := 0) (hP rfl) rfl (Nat.le_of_ble_eq_true rfl)
  have hP : PP G [((ga 9), .inr (0, [.ref (ga 0), .ref (ga 1), .ref (ga 2), .ref (ga 3), .int (gf 4), .int (gf 5), .int (gf 6), .int (gf 7), .int (gf 8)])), ((ga 0), .inl (G.2.2.1, 144, .inl pp4)), ((ga 1), .inl (G.2.1, 8, .inl (gr 1))), ((ga 2), .inl (G.2.1, 8, .inl (gr 2))), ((ga 3), .inl (G.2.1, 256, .inl (gr 3))), ((a 15), .inr (2, [.int (f 0), .int (f 1), .int (f 2), .int (f 3), .int en5, .ref (b 3), .ref (a 6), .ref (a 7), .ref (a 8), .ref (a 9), .ref (a 10), .ref (a 11), .ref (a 12), .ref (a 13), .ref (a 14)])), ((a 6), .inl (G.2.2.1, 12, .inl (r 6))), ((a 7), .inl (G.2.1, 12, .inl (r 7))), ((a 8), .inl (G.2.1, 144, .inl (r 8))), ((a 9), .inl (G.2.1, 144, .inl (r 9))), ((a 10), .inl (G.2.1, 144, .inl (r 10))), ((a 11), .inl (G.2.2.1, 144, .inl kk6)), ((a 12), .inl (G.2.1, 144, .inl (r 12))), ((a 13), .inl (G.2.1, 144, .inl (r 13))), ((a 14), .inl (G.2.1, 144, .inl (r 14)))] H := h9_
  have hD := D_as2 hP hD rfl
  refine lv_aload_n hx hb dX0_keepThree_13 rfl (lv_at hl 0 rfl) ?_
  refine lv_aload_n hx hb dX0_keepThree_14 rfl (lv_at hl 1 rfl) ?_
  refine lv_aload_n hx hb dX0_keepThree_15 rfl (lv_at hl 0 rfl) ?_
  refine va_get (D := G.1) (ci := 0) (v := .int (gf 7)) (C := RX0) (T := TX0) (N := 9) hx hb hts inX0 hown hK.1 hP 0 rfl rfl 7 (by decide) (hts _ mf_X0_35) (fun _ h9 => h9) rfl dX0_keepThree_16 ?_
  refine lv_iload_n hx hb dX0_keepThree_19 rfl (lv_at hl 3 rfl) ?_
  refine rdSN (rest := [.ref (a 15), .ref (ga 9), .int r2]) ⟨hx, hb, hml, hown, hts⟩ (c_X6_spotOf l G ((gf 7)) ((nI j))) mi_yX6_spotOf mst_yX6_spotOf (by decide +kernel) ⟨rfl, rfl, Nat.le_of_ble_eq_true rfl, Nat.le_of_ble_eq_true rfl⟩ hK (fun k q h => by simp at h) rfl hl.1 rfl (Nat.le_of_ble_eq_true rfl) dX0_keepThree_20 ⟨Nat.zero_le _, Nat.zero_le _⟩ hS hA hP (fun r7 H locs hr7 hP hS => ?_)
  obtain rfl : r7 = nI (br * 12 + j) := hr7.trans (nI_plus rfl (nI_mul12 rfl h7) rfl)
  refine wrVI (rest := [.int r2]) (q0 := 0) ⟨hx, hb, hml, hown, hts⟩ (c_X0_keepOne l G ga gf (fun k => match k with | 0 => pp4 | 1 => gr 1 | 2 => gr 2 | _ => gr 3) a b (fun k => match k with | 0 => (f 0) | 1 => (f 1) | 2 => (f 2) | 3 => (f 3) | _ => en5) (fun k => match k with | 6 => (r 6) | 7 => (r 7) | 8 => (r 8) | 9 => (r 9) | 10 => (r 10) | 11 => kk6 | 12 => (r 12) | 13 => (r 13) | 14 => (r 14) | _ => (fun _ => 0)) (br * 12 + j) (by omega)) mi_yX0_keepOne mv_yX0_keepOne ml_X0_102 ⟨rfl, rfl, Nat.le_of_ble_eq_true rfl, Nat.le_of_ble_eq_true rfl⟩ hK hP hD [0, 1, 2, 3, 4, 5, 6, 7, 8, 9, 10, 11, 12, 13, 14] rfl (by decide) rfl rfl rfl hl.1 rfl (Nat.le_of_ble_eq_true rfl) dX0_keepThree_23 ⟨Nat.zero_le _, Nat.zero_le _⟩ hS hA (fun r8 w9 H locs hw9 hP hS => ?_)
  obtain ⟨pp10, en11, kk12, rfl⟩ := hw9
  have h9_ := P_rg (s := 0) (hP rfl) rfl (Nat.le_of_ble_eq_true rfl)
  have hP : PP G [((ga 9), .inr (0, [.ref (ga 0), .ref (ga 1), .ref (ga 2), .ref (ga 3), .int (gf 4), .int (gf 5), .int (gf 6), .int (gf 7), .int (gf 8)])), ((ga 0), .inl (G.2.2.1, 144, .inl pp10)), ((ga 1), .inl (G.2.1, 8, .inl (gr 1))), ((ga 2), .inl (G.2.1, 8, .inl (gr 2))), ((ga 3), .inl (G.2.1, 256, .inl (gr 3))), ((a 15), .inr (2, [.int (f 0), .int (f 1), .int (f 2), .int (f 3), .int en11, .ref (b 3), .ref (a 6), .ref (a 7), .ref (a 8), .ref (a 9), .ref (a 10), .ref (a 11), .ref (a 12), .ref (a 13), .ref (a 14)])), ((a 6), .inl (G.2.2.1, 12, .inl (r 6))), ((a 7), .inl (G.2.1, 12, .inl (r 7))), ((a 8), .inl (G.2.1, 144, .inl (r 8))), ((a 9), .inl (G.2.1, 144, .inl (r 9))), ((a 10), .inl (G.2.1, 144, .inl (r 10))), ((a 11), .inl (G.2.2.1, 144, .inl kk12)), ((a 12), .inl (G.2.1, 144, .inl (r 12))), ((a 13), .inl (G.2.1, 144, .inl (r 13))), ((a 14), .inl (G.2.1, 144, .inl (r 14)))] H := h9_
  have hD := D_as2 hP hD rfl
  refine lv_iadd hx hb dX0_keepThree_26 ?_
  refine lv_topi (fun v13 ev13 => ?_)
  refine lv_aload_n hx hb dX0_keepThree_27 rfl (lv_at hl 0 rfl) ?_
  refine lv_aload_n hx hb dX0_keepThree_28 rfl (lv_at hl 1 rfl) ?_
  refine lv_aload_n hx hb dX0_keepThree_29 rfl (lv_at hl 0 rfl) ?_
  refine va_get (D := G.1) (ci := 0) (v := .int (gf 7)) (C := RX0) (T := TX0) (N := 9) hx hb hts inX0 hown hK.1 hP 0 rfl rfl 7 (by decide) (hts _ mf_X0_35) (fun _ h9 => h9) rfl dX0_keepThree_30 ?_
  refine lv_aload_n hx hb dX0_keepThree_33 rfl (lv_at hl 0 rfl) ?_
  refine va_get (D := G.1) (ci := 0) (v := .int (gf 8)) (C := RX0) (T := TX0) (N := 9) hx hb hts inX0 hown hK.1 hP 0 rfl rfl 8 (by decide) (hts _ mf_X0_38) (fun _ h9 => h9) rfl dX0_keepThree_34 ?_
  refine rdSN (rest := [.ref (a 15), .ref (ga 9), .int v13]) ⟨hx, hb, hml, hown, hts⟩ (c_X6_spotOf l G ((gf 7)) ((gf 8))) mi_yX6_spotOf mst_yX6_spotOf (by decide +kernel) ⟨rfl, rfl, Nat.le_of_ble_eq_true rfl, Nat.le_of_ble_eq_true rfl⟩ hK (fun k q h => by simp at h) rfl hl.1 rfl (Nat.le_of_ble_eq_true rfl) dX0_keepThree_37 ⟨Nat.zero_le _, Nat.zero_le _⟩ hS hA hP (fun r14 H locs hr14 hP hS => ?_)
  obtain rfl : r14 = nI (br * 12 + bc) := hr14.trans (nI_plus rfl (nI_mul12 rfl h7) h8)
  refine wrVI (rest := [.int v13]) (q0 := 0) ⟨hx, hb, hml, hown, hts⟩ (c_X0_keepOne l G ga gf (fun k => match k with | 0 => pp10 | 1 => gr 1 | 2 => gr 2 | _ => gr 3) a b (fun k => match k with | 0 => (f 0) | 1 => (f 1) | 2 => (f 2) | 3 => (f 3) | _ => en11) (fun k => match k with | 6 => (r 6) | 7 => (r 7) | 8 => (r 8) | 9 => (r 9) | 10 => (r 10) | 11 => kk12 | 12 => (r 12) | 13 => (r 13) | 14 => (r 14) | _ => (fun _ => 0)) (br * 12 + bc) (by omega)) mi_yX0_keepOne mv_yX0_keepOne ml_X0_102 ⟨rfl, rfl, Nat.le_of_ble_eq_true rfl, Nat.le_of_ble_eq_true rfl⟩ hK hP hD [0, 1, 2, 3, 4, 5, 6, 7, 8, 9, 10, 11, 12, 13, 14] rfl (by decide) rfl rfl rfl hl.1 rfl (Nat.le_of_ble_eq_true rfl) dX0_keepThree_40 ⟨Nat.zero_le _, Nat.zero_le _⟩ hS hA (fun r15 w16 H locs hw16 hP hS => ?_)
  obtain ⟨pp17, en18, kk19, rfl⟩ := hw16
  have h9_ := P_rg (s := 0) (hP rfl) rfl (Nat.le_of_ble_eq_true rfl)
  have hP : PP G [((ga 9), .inr (0, [.ref (ga 0), .ref (ga 1), .ref (ga 2), .ref (ga 3), .int (gf 4), .int (gf 5), .int (gf 6), .int (gf 7), .int (gf 8)])), ((ga 0), .inl (G.2.2.1, 144, .inl pp17)), ((ga 1), .inl (G.2.1, 8, .inl (gr 1))), ((ga 2), .inl (G.2.1, 8, .inl (gr 2))), ((ga 3), .inl (G.2.1, 256, .inl (gr 3))), ((a 15), .inr (2, [.int (f 0), .int (f 1), .int (f 2), .int (f 3), .int en18, .ref (b 3), .ref (a 6), .ref (a 7), .ref (a 8), .ref (a 9), .ref (a 10), .ref (a 11), .ref (a 12), .ref (a 13), .ref (a 14)])), ((a 6), .inl (G.2.2.1, 12, .inl (r 6))), ((a 7), .inl (G.2.1, 12, .inl (r 7))), ((a 8), .inl (G.2.1, 144, .inl (r 8))), ((a 9), .inl (G.2.1, 144, .inl (r 9))), ((a 10), .inl (G.2.1, 144, .inl (r 10))), ((a 11), .inl (G.2.2.1, 144, .inl kk19)), ((a 12), .inl (G.2.1, 144, .inl (r 12))), ((a 13), .inl (G.2.1, 144, .inl (r 13))), ((a 14), .inl (G.2.1, 144, .inl (r 14)))] H := h9_
  have hD := D_as2 hP hD rfl
  refine lv_iadd hx hb dX0_keepThree_43 ?_
  refine lv_topi (fun v20 ev20 => ?_)
  exact wr_iret hx hb hr hlocks hS hP ⟨pp17, en18, kk19, rfl⟩ dX0_keepThree_44
