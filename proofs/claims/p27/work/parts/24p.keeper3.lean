theorem ml_X6_211 : Cond.methodLink RX6 211 yX0_followPlan ∈ TB := TB_t3 167 rfl rfl
theorem mcode_yX0_followPlan : Cond.code yX0_followPlan cX0_followPlan 8 (some .int) ∈ TB := TB_t3 170 rfl rfl
theorem mi_yX0_followPlan : MI yX0_followPlan cX0_followPlan 8 (some .int) 2 := ⟨mz_RX0, mcode_yX0_followPlan, by decide +kernel, by decide +kernel, by decide +kernel⟩
theorem mim_yX0_followPlan : Cond.instanceMethod yX0_followPlan ∈ TB := TB_t3 168 rfl rfl
theorem msel_yX0_followPlan : Cond.selects yX0_followPlan.cls yX0_followPlan yX0_followPlan ∈ TB := TB_t3 169 rfl rfl
theorem mv_yX0_followPlan : Cond.instanceMethod yX0_followPlan ∈ TB ∧ Cond.selects yX0_followPlan.cls yX0_followPlan yX0_followPlan ∈ TB := ⟨mim_yX0_followPlan, msel_yX0_followPlan⟩
theorem ml_X6_215 : Cond.methodLink RX6 215 yX0_gather ∈ TB := TB_t3 211 rfl rfl
theorem mcode_yX0_gather : Cond.code yX0_gather cX0_gather 8 none ∈ TB := TB_t3 214 rfl rfl
theorem mi_yX0_gather : MI yX0_gather cX0_gather 8 none 2 := ⟨mz_RX0, mcode_yX0_gather, by decide +kernel, by decide +kernel, by decide +kernel⟩
theorem mim_yX0_gather : Cond.instanceMethod yX0_gather ∈ TB := TB_t3 212 rfl rfl
theorem msel_yX0_gather : Cond.selects yX0_gather.cls yX0_gather yX0_gather ∈ TB := TB_t3 213 rfl rfl
theorem mv_yX0_gather : Cond.instanceMethod yX0_gather ∈ TB ∧ Cond.selects yX0_gather.cls yX0_gather yX0_gather ∈ TB := ⟨mim_yX0_gather, msel_yX0_gather⟩
theorem mf_X6_219 : Cond.fieldLink RX6 219 "CellKeeper$Guard" "choices" "I" ∈ TB := TB_t1 122 rfl rfl
theorem ml_X6_222 : Cond.methodLink RX6 222 yX0_cheapest ∈ TB := TB_t3 215 rfl rfl
theorem mcode_yX0_cheapest : Cond.code yX0_cheapest cX0_cheapest 5 (some .int) ∈ TB := TB_t3 218 rfl rfl
theorem mi_yX0_cheapest : MI yX0_cheapest cX0_cheapest 5 (some .int) 1 := ⟨mz_RX0, mcode_yX0_cheapest, by decide +kernel, by decide +kernel, by decide +kernel⟩
theorem mim_yX0_cheapest : Cond.instanceMethod yX0_cheapest ∈ TB := TB_t3 216 rfl rfl
theorem msel_yX0_cheapest : Cond.selects yX0_cheapest.cls yX0_cheapest yX0_cheapest ∈ TB := TB_t3 217 rfl rfl
theorem mv_yX0_cheapest : Cond.instanceMethod yX0_cheapest ∈ TB ∧ Cond.selects yX0_cheapest.cls yX0_cheapest yX0_cheapest ∈ TB := ⟨mim_yX0_cheapest, msel_yX0_cheapest⟩
theorem ml_X6_226 : Cond.methodLink RX6 226 yX0_tell ∈ TB := TB_t4 3 rfl rfl
theorem mcode_yX0_tell : Cond.code yX0_tell cX0_tell 4 none ∈ TB := TB_t4 6 rfl rfl
theorem mi_yX0_tell : MI yX0_tell cX0_tell 4 none 2 := ⟨mz_RX0, mcode_yX0_tell, by decide +kernel, by decide +kernel, by decide +kernel⟩
theorem mim_yX0_tell : Cond.instanceMethod yX0_tell ∈ TB := TB_t4 4 rfl rfl
theorem msel_yX0_tell : Cond.selects yX0_tell.cls yX0_tell yX0_tell ∈ TB := TB_t4 5 rfl rfl
theorem mv_yX0_tell : Cond.instanceMethod yX0_tell ∈ TB ∧ Cond.selects yX0_tell.cls yX0_tell yX0_tell ∈ TB := ⟨mim_yX0_tell, msel_yX0_tell⟩
theorem mf_X6_229 : Cond.fieldLink RX6 229 "CellKeeper$Guard" "prices" "[I" ∈ TB := TB_t1 120 rfl rfl
theorem ml_X6_188 : Cond.methodLink RX6 188 yX2_isSafe ∈ TB := TB_t3 112 rfl rfl
theorem ml_X6_249 : Cond.methodLink RX6 249 yX2_moveToEnd ∈ TB := TB_t3 60 rfl rfl
theorem mf_X6_252 : Cond.fieldLink RX6 252 "CellKeeper$Reader" "value" "[I" ∈ TB := TB_t1 75 rfl rfl
theorem ml_X6_180 : Cond.methodLink RX6 180 yX6_spanEnd ∈ TB := TB_t3 30 rfl rfl
theorem mcode_yX6_spanEnd : Cond.code yX6_spanEnd cX6_spanEnd 5 (some .int) ∈ TB := TB_t3 33 rfl rfl
theorem mi_yX6_spanEnd : MI yX6_spanEnd cX6_spanEnd 5 (some .int) 4 := ⟨mz_RX6, mcode_yX6_spanEnd, by decide +kernel, by decide +kernel, by decide +kernel⟩
theorem mim_yX6_spanEnd : Cond.instanceMethod yX6_spanEnd ∈ TB := TB_t3 32 rfl rfl
theorem msel_yX6_spanEnd : Cond.selects yX6_spanEnd.cls yX6_spanEnd yX6_spanEnd ∈ TB := TB_s (n := 10) 11 (by decide +kernel)
theorem mv_yX6_spanEnd : Cond.instanceMethod yX6_spanEnd ∈ TB ∧ Cond.selects yX6_spanEnd.cls yX6_spanEnd yX6_spanEnd ∈ TB := ⟨mim_yX6_spanEnd, msel_yX6_spanEnd⟩
theorem kcX6_plan_0 : CHb cX6_plan 0 [42, 42, 27, 182, 0, 73, 182, 0, 65, 154, 0, 5, 2, 172, 42, 180, 0, 22, 42, 180, 0, 15, 27, 50, 182, 0, 184, 42, 180, 0, 29, 42, 180, 0, 15, 27, 50, 42, 180, 0, 22, 182, 0, 211, 61, 28, 2, 160, 0, 12, 42, 16, 10, 182, 0, 122, 167, 0, 4, 28, 172] := CHb_of (by decide +kernel)
theorem dX6_plan_0 : decode cX6_plan 0 = .ok (.aload_n 0, 1) := dw_42 (kcX6_plan_0 0 42 rfl)
theorem dX6_plan_1 : decode cX6_plan 1 = .ok (.aload_n 0, 1) := dw_42 (kcX6_plan_0 1 42 rfl)
theorem dX6_plan_2 : decode cX6_plan 2 = .ok (.iload_n 1, 1) := dw_27 (kcX6_plan_0 2 27 rfl)
theorem dX6_plan_3 : decode cX6_plan 3 = .ok (.invokevirtual 73, 3) := dw_182 (kcX6_plan_0 3 182 rfl) (kcX6_plan_0 4 0 rfl) (kcX6_plan_0 5 73 rfl) rfl
theorem dX6_plan_6 : decode cX6_plan 6 = .ok (.invokevirtual 65, 3) := dw_182 (kcX6_plan_0 6 182 rfl) (kcX6_plan_0 7 0 rfl) (kcX6_plan_0 8 65 rfl) rfl
theorem dX6_plan_9 : decode cX6_plan 9 = .ok (.ifCond .ne 5, 3) := dw_154 (kcX6_plan_0 9 154 rfl) (kcX6_plan_0 10 0 rfl) (kcX6_plan_0 11 5 rfl) rfl
theorem dX6_plan_14 : decode cX6_plan 14 = .ok (.aload_n 0, 1) := dw_42 (kcX6_plan_0 14 42 rfl)
theorem dX6_plan_15 : decode cX6_plan 15 = .ok (.getfield 22, 3) := dw_180 (kcX6_plan_0 15 180 rfl) (kcX6_plan_0 16 0 rfl) (kcX6_plan_0 17 22 rfl) rfl
theorem dX6_plan_18 : decode cX6_plan 18 = .ok (.aload_n 0, 1) := dw_42 (kcX6_plan_0 18 42 rfl)
theorem dX6_plan_19 : decode cX6_plan 19 = .ok (.getfield 15, 3) := dw_180 (kcX6_plan_0 19 180 rfl) (kcX6_plan_0 20 0 rfl) (kcX6_plan_0 21 15 rfl) rfl
theorem dX6_plan_22 : decode cX6_plan 22 = .ok (.iload_n 1, 1) := dw_27 (kcX6_plan_0 22 27 rfl)
theorem dX6_plan_23 : decode cX6_plan 23 = .ok (.aaload, 1) := dw_50 (kcX6_plan_0 23 50 rfl)
theorem dX6_plan_24 : decode cX6_plan 24 = .ok (.invokevirtual 184, 3) := dw_182 (kcX6_plan_0 24 182 rfl) (kcX6_plan_0 25 0 rfl) (kcX6_plan_0 26 184 rfl) rfl
theorem dX6_plan_27 : decode cX6_plan 27 = .ok (.aload_n 0, 1) := dw_42 (kcX6_plan_0 27 42 rfl)
theorem dX6_plan_28 : decode cX6_plan 28 = .ok (.getfield 29, 3) := dw_180 (kcX6_plan_0 28 180 rfl) (kcX6_plan_0 29 0 rfl) (kcX6_plan_0 30 29 rfl) rfl
theorem dX6_plan_31 : decode cX6_plan 31 = .ok (.aload_n 0, 1) := dw_42 (kcX6_plan_0 31 42 rfl)
theorem dX6_plan_32 : decode cX6_plan 32 = .ok (.getfield 15, 3) := dw_180 (kcX6_plan_0 32 180 rfl) (kcX6_plan_0 33 0 rfl) (kcX6_plan_0 34 15 rfl) rfl
theorem dX6_plan_35 : decode cX6_plan 35 = .ok (.iload_n 1, 1) := dw_27 (kcX6_plan_0 35 27 rfl)
theorem dX6_plan_36 : decode cX6_plan 36 = .ok (.aaload, 1) := dw_50 (kcX6_plan_0 36 50 rfl)
theorem dX6_plan_37 : decode cX6_plan 37 = .ok (.aload_n 0, 1) := dw_42 (kcX6_plan_0 37 42 rfl)
theorem dX6_plan_38 : decode cX6_plan 38 = .ok (.getfield 22, 3) := dw_180 (kcX6_plan_0 38 180 rfl) (kcX6_plan_0 39 0 rfl) (kcX6_plan_0 40 22 rfl) rfl
theorem dX6_plan_41 : decode cX6_plan 41 = .ok (.invokevirtual 211, 3) := dw_182 (kcX6_plan_0 41 182 rfl) (kcX6_plan_0 42 0 rfl) (kcX6_plan_0 43 211 rfl) rfl
theorem dX6_plan_44 : decode cX6_plan 44 = .ok (.istore_n 2, 1) := dw_61 (kcX6_plan_0 44 61 rfl)
theorem dX6_plan_45 : decode cX6_plan 45 = .ok (.iload_n 2, 1) := dw_28 (kcX6_plan_0 45 28 rfl)
theorem dX6_plan_46 : decode cX6_plan 46 = .ok (.iconst (-1), 1) := dw_2 (kcX6_plan_0 46 2 rfl)
theorem dX6_plan_47 : decode cX6_plan 47 = .ok (.if_icmp .ne 12, 3) := dw_160 (kcX6_plan_0 47 160 rfl) (kcX6_plan_0 48 0 rfl) (kcX6_plan_0 49 12 rfl) rfl
theorem dX6_plan_59 : decode cX6_plan 59 = .ok (.iload_n 2, 1) := dw_28 (kcX6_plan_0 59 28 rfl)
theorem dX6_plan_60 : decode cX6_plan 60 = .ok (.ireturn, 1) := dw_172 (kcX6_plan_0 60 172 rfl)
theorem dX6_plan_50 : decode cX6_plan 50 = .ok (.aload_n 0, 1) := dw_42 (kcX6_plan_0 50 42 rfl)
theorem dX6_plan_51 : decode cX6_plan 51 = .ok (.bipush 10, 2) := dw_16 (kcX6_plan_0 51 16 rfl) (kcX6_plan_0 52 10 rfl) rfl
theorem dX6_plan_53 : decode cX6_plan 53 = .ok (.invokevirtual 122, 3) := dw_182 (kcX6_plan_0 53 182 rfl) (kcX6_plan_0 54 0 rfl) (kcX6_plan_0 55 122 rfl) rfl
theorem dX6_plan_56 : decode cX6_plan 56 = .ok (.goto 4, 3) := dw_167 (kcX6_plan_0 56 167 rfl) (kcX6_plan_0 57 0 rfl) (kcX6_plan_0 58 4 rfl) rfl
theorem dX6_plan_12 : decode cX6_plan 12 = .ok (.iconst (-1), 1) := dw_2 (kcX6_plan_0 12 2 rfl)
theorem dX6_plan_13 : decode cX6_plan 13 = .ok (.ireturn, 1) := dw_172 (kcX6_plan_0 13 172 rfl)
theorem kcX6_fewest_0 : CHb cX6_fewest 0 [42, 42, 27, 182, 0, 73, 182, 0, 65, 154, 0, 5, 2, 172, 42, 180, 0, 22, 42, 180, 0, 15, 27, 50, 182, 0, 184, 42, 180, 0, 29, 42, 180, 0, 15, 27, 50, 42, 180, 0, 22, 182, 0, 215, 42, 180, 0, 29, 180, 0, 219, 16, 8, 164, 0, 10, 42, 16, 8, 182, 0, 122, 172, 42] := CHb_of (by decide +kernel)
theorem dX6_fewest_0 : decode cX6_fewest 0 = .ok (.aload_n 0, 1) := dw_42 (kcX6_fewest_0 0 42 rfl)
theorem dX6_fewest_1 : decode cX6_fewest 1 = .ok (.aload_n 0, 1) := dw_42 (kcX6_fewest_0 1 42 rfl)
theorem dX6_fewest_2 : decode cX6_fewest 2 = .ok (.iload_n 1, 1) := dw_27 (kcX6_fewest_0 2 27 rfl)
theorem dX6_fewest_3 : decode cX6_fewest 3 = .ok (.invokevirtual 73, 3) := dw_182 (kcX6_fewest_0 3 182 rfl) (kcX6_fewest_0 4 0 rfl) (kcX6_fewest_0 5 73 rfl) rfl
theorem dX6_fewest_6 : decode cX6_fewest 6 = .ok (.invokevirtual 65, 3) := dw_182 (kcX6_fewest_0 6 182 rfl) (kcX6_fewest_0 7 0 rfl) (kcX6_fewest_0 8 65 rfl) rfl
theorem dX6_fewest_9 : decode cX6_fewest 9 = .ok (.ifCond .ne 5, 3) := dw_154 (kcX6_fewest_0 9 154 rfl) (kcX6_fewest_0 10 0 rfl) (kcX6_fewest_0 11 5 rfl) rfl
theorem dX6_fewest_14 : decode cX6_fewest 14 = .ok (.aload_n 0, 1) := dw_42 (kcX6_fewest_0 14 42 rfl)
theorem dX6_fewest_15 : decode cX6_fewest 15 = .ok (.getfield 22, 3) := dw_180 (kcX6_fewest_0 15 180 rfl) (kcX6_fewest_0 16 0 rfl) (kcX6_fewest_0 17 22 rfl) rfl
theorem dX6_fewest_18 : decode cX6_fewest 18 = .ok (.aload_n 0, 1) := dw_42 (kcX6_fewest_0 18 42 rfl)
theorem dX6_fewest_19 : decode cX6_fewest 19 = .ok (.getfield 15, 3) := dw_180 (kcX6_fewest_0 19 180 rfl) (kcX6_fewest_0 20 0 rfl) (kcX6_fewest_0 21 15 rfl) rfl
theorem dX6_fewest_22 : decode cX6_fewest 22 = .ok (.iload_n 1, 1) := dw_27 (kcX6_fewest_0 22 27 rfl)
theorem dX6_fewest_23 : decode cX6_fewest 23 = .ok (.aaload, 1) := dw_50 (kcX6_fewest_0 23 50 rfl)
theorem dX6_fewest_24 : decode cX6_fewest 24 = .ok (.invokevirtual 184, 3) := dw_182 (kcX6_fewest_0 24 182 rfl) (kcX6_fewest_0 25 0 rfl) (kcX6_fewest_0 26 184 rfl) rfl
theorem dX6_fewest_27 : decode cX6_fewest 27 = .ok (.aload_n 0, 1) := dw_42 (kcX6_fewest_0 27 42 rfl)
theorem dX6_fewest_28 : decode cX6_fewest 28 = .ok (.getfield 29, 3) := dw_180 (kcX6_fewest_0 28 180 rfl) (kcX6_fewest_0 29 0 rfl) (kcX6_fewest_0 30 29 rfl) rfl
theorem dX6_fewest_31 : decode cX6_fewest 31 = .ok (.aload_n 0, 1) := dw_42 (kcX6_fewest_0 31 42 rfl)
theorem dX6_fewest_32 : decode cX6_fewest 32 = .ok (.getfield 15, 3) := dw_180 (kcX6_fewest_0 32 180 rfl) (kcX6_fewest_0 33 0 rfl) (kcX6_fewest_0 34 15 rfl) rfl
theorem dX6_fewest_35 : decode cX6_fewest 35 = .ok (.iload_n 1, 1) := dw_27 (kcX6_fewest_0 35 27 rfl)
theorem dX6_fewest_36 : decode cX6_fewest 36 = .ok (.aaload, 1) := dw_50 (kcX6_fewest_0 36 50 rfl)
theorem dX6_fewest_37 : decode cX6_fewest 37 = .ok (.aload_n 0, 1) := dw_42 (kcX6_fewest_0 37 42 rfl)
theorem dX6_fewest_38 : decode cX6_fewest 38 = .ok (.getfield 22, 3) := dw_180 (kcX6_fewest_0 38 180 rfl) (kcX6_fewest_0 39 0 rfl) (kcX6_fewest_0 40 22 rfl) rfl
theorem dX6_fewest_41 : decode cX6_fewest 41 = .ok (.invokevirtual 215, 3) := dw_182 (kcX6_fewest_0 41 182 rfl) (kcX6_fewest_0 42 0 rfl) (kcX6_fewest_0 43 215 rfl) rfl
theorem dX6_fewest_44 : decode cX6_fewest 44 = .ok (.aload_n 0, 1) := dw_42 (kcX6_fewest_0 44 42 rfl)
theorem dX6_fewest_45 : decode cX6_fewest 45 = .ok (.getfield 29, 3) := dw_180 (kcX6_fewest_0 45 180 rfl) (kcX6_fewest_0 46 0 rfl) (kcX6_fewest_0 47 29 rfl) rfl
theorem dX6_fewest_48 : decode cX6_fewest 48 = .ok (.getfield 219, 3) := dw_180 (kcX6_fewest_0 48 180 rfl) (kcX6_fewest_0 49 0 rfl) (kcX6_fewest_0 50 219 rfl) rfl
theorem dX6_fewest_51 : decode cX6_fewest 51 = .ok (.bipush 8, 2) := dw_16 (kcX6_fewest_0 51 16 rfl) (kcX6_fewest_0 52 8 rfl) rfl
theorem dX6_fewest_53 : decode cX6_fewest 53 = .ok (.if_icmp .le 10, 3) := dw_164 (kcX6_fewest_0 53 164 rfl) (kcX6_fewest_0 54 0 rfl) (kcX6_fewest_0 55 10 rfl) rfl
theorem dX6_fewest_63 : decode cX6_fewest 63 = .ok (.aload_n 0, 1) := dw_42 (kcX6_fewest_0 63 42 rfl)
theorem kcX6_fewest_1 : CHb cX6_fewest 64 [180, 0, 29, 42, 180, 0, 22, 182, 0, 222, 61, 28, 2, 160, 0, 10, 42, 16, 10, 182, 0, 122, 172, 42, 180, 0, 29, 42, 180, 0, 15, 27, 50, 28, 182, 0, 226, 42, 180, 0, 29, 180, 0, 229, 28, 46, 172] := CHb_of (by decide +kernel)
theorem dX6_fewest_64 : decode cX6_fewest 64 = .ok (.getfield 29, 3) := dw_180 (kcX6_fewest_1 0 180 rfl) (kcX6_fewest_1 1 0 rfl) (kcX6_fewest_1 2 29 rfl) rfl
theorem dX6_fewest_67 : decode cX6_fewest 67 = .ok (.aload_n 0, 1) := dw_42 (kcX6_fewest_1 3 42 rfl)
theorem dX6_fewest_68 : decode cX6_fewest 68 = .ok (.getfield 22, 3) := dw_180 (kcX6_fewest_1 4 180 rfl) (kcX6_fewest_1 5 0 rfl) (kcX6_fewest_1 6 22 rfl) rfl
theorem dX6_fewest_71 : decode cX6_fewest 71 = .ok (.invokevirtual 222, 3) := dw_182 (kcX6_fewest_1 7 182 rfl) (kcX6_fewest_1 8 0 rfl) (kcX6_fewest_1 9 222 rfl) rfl
theorem dX6_fewest_74 : decode cX6_fewest 74 = .ok (.istore_n 2, 1) := dw_61 (kcX6_fewest_1 10 61 rfl)
theorem dX6_fewest_75 : decode cX6_fewest 75 = .ok (.iload_n 2, 1) := dw_28 (kcX6_fewest_1 11 28 rfl)
theorem dX6_fewest_76 : decode cX6_fewest 76 = .ok (.iconst (-1), 1) := dw_2 (kcX6_fewest_1 12 2 rfl)
theorem dX6_fewest_77 : decode cX6_fewest 77 = .ok (.if_icmp .ne 10, 3) := dw_160 (kcX6_fewest_1 13 160 rfl) (kcX6_fewest_1 14 0 rfl) (kcX6_fewest_1 15 10 rfl) rfl
theorem dX6_fewest_87 : decode cX6_fewest 87 = .ok (.aload_n 0, 1) := dw_42 (kcX6_fewest_1 23 42 rfl)
theorem dX6_fewest_88 : decode cX6_fewest 88 = .ok (.getfield 29, 3) := dw_180 (kcX6_fewest_1 24 180 rfl) (kcX6_fewest_1 25 0 rfl) (kcX6_fewest_1 26 29 rfl) rfl
theorem dX6_fewest_91 : decode cX6_fewest 91 = .ok (.aload_n 0, 1) := dw_42 (kcX6_fewest_1 27 42 rfl)
theorem dX6_fewest_92 : decode cX6_fewest 92 = .ok (.getfield 15, 3) := dw_180 (kcX6_fewest_1 28 180 rfl) (kcX6_fewest_1 29 0 rfl) (kcX6_fewest_1 30 15 rfl) rfl
theorem dX6_fewest_95 : decode cX6_fewest 95 = .ok (.iload_n 1, 1) := dw_27 (kcX6_fewest_1 31 27 rfl)
theorem dX6_fewest_96 : decode cX6_fewest 96 = .ok (.aaload, 1) := dw_50 (kcX6_fewest_1 32 50 rfl)
theorem dX6_fewest_97 : decode cX6_fewest 97 = .ok (.iload_n 2, 1) := dw_28 (kcX6_fewest_1 33 28 rfl)
theorem dX6_fewest_98 : decode cX6_fewest 98 = .ok (.invokevirtual 226, 3) := dw_182 (kcX6_fewest_1 34 182 rfl) (kcX6_fewest_1 35 0 rfl) (kcX6_fewest_1 36 226 rfl) rfl
theorem dX6_fewest_101 : decode cX6_fewest 101 = .ok (.aload_n 0, 1) := dw_42 (kcX6_fewest_1 37 42 rfl)
theorem dX6_fewest_102 : decode cX6_fewest 102 = .ok (.getfield 29, 3) := dw_180 (kcX6_fewest_1 38 180 rfl) (kcX6_fewest_1 39 0 rfl) (kcX6_fewest_1 40 29 rfl) rfl
theorem dX6_fewest_105 : decode cX6_fewest 105 = .ok (.getfield 229, 3) := dw_180 (kcX6_fewest_1 41 180 rfl) (kcX6_fewest_1 42 0 rfl) (kcX6_fewest_1 43 229 rfl) rfl
theorem dX6_fewest_108 : decode cX6_fewest 108 = .ok (.iload_n 2, 1) := dw_28 (kcX6_fewest_1 44 28 rfl)
theorem dX6_fewest_109 : decode cX6_fewest 109 = .ok (.iaload, 1) := dw_46 (kcX6_fewest_1 45 46 rfl)
theorem dX6_fewest_110 : decode cX6_fewest 110 = .ok (.ireturn, 1) := dw_172 (kcX6_fewest_1 46 172 rfl)
theorem dX6_fewest_80 : decode cX6_fewest 80 = .ok (.aload_n 0, 1) := dw_42 (kcX6_fewest_1 16 42 rfl)
theorem dX6_fewest_81 : decode cX6_fewest 81 = .ok (.bipush 10, 2) := dw_16 (kcX6_fewest_1 17 16 rfl) (kcX6_fewest_1 18 10 rfl) rfl
theorem dX6_fewest_83 : decode cX6_fewest 83 = .ok (.invokevirtual 122, 3) := dw_182 (kcX6_fewest_1 19 182 rfl) (kcX6_fewest_1 20 0 rfl) (kcX6_fewest_1 21 122 rfl) rfl
theorem dX6_fewest_86 : decode cX6_fewest 86 = .ok (.ireturn, 1) := dw_172 (kcX6_fewest_1 22 172 rfl)
theorem dX6_fewest_56 : decode cX6_fewest 56 = .ok (.aload_n 0, 1) := dw_42 (kcX6_fewest_0 56 42 rfl)
theorem dX6_fewest_57 : decode cX6_fewest 57 = .ok (.bipush 8, 2) := dw_16 (kcX6_fewest_0 57 16 rfl) (kcX6_fewest_0 58 8 rfl) rfl
theorem dX6_fewest_59 : decode cX6_fewest 59 = .ok (.invokevirtual 122, 3) := dw_182 (kcX6_fewest_0 59 182 rfl) (kcX6_fewest_0 60 0 rfl) (kcX6_fewest_0 61 122 rfl) rfl
theorem dX6_fewest_62 : decode cX6_fewest 62 = .ok (.ireturn, 1) := dw_172 (kcX6_fewest_0 62 172 rfl)
theorem dX6_fewest_12 : decode cX6_fewest 12 = .ok (.iconst (-1), 1) := dw_2 (kcX6_fewest_0 12 2 rfl)
theorem dX6_fewest_13 : decode cX6_fewest 13 = .ok (.ireturn, 1) := dw_172 (kcX6_fewest_0 13 172 rfl)
theorem kcX6_safe_0 : CHb cX6_safe 0 [42, 42, 27, 28, 29, 182, 0, 165, 182, 0, 65, 154, 0, 5, 2, 172, 42, 180, 0, 22, 42, 180, 0, 15, 27, 50, 182, 0, 184, 42, 180, 0, 22, 28, 29, 182, 0, 188, 153, 0, 7, 4, 167, 0, 4, 3, 172] := CHb_of (by decide +kernel)
theorem dX6_safe_0 : decode cX6_safe 0 = .ok (.aload_n 0, 1) := dw_42 (kcX6_safe_0 0 42 rfl)
theorem dX6_safe_1 : decode cX6_safe 1 = .ok (.aload_n 0, 1) := dw_42 (kcX6_safe_0 1 42 rfl)
theorem dX6_safe_2 : decode cX6_safe 2 = .ok (.iload_n 1, 1) := dw_27 (kcX6_safe_0 2 27 rfl)
theorem dX6_safe_3 : decode cX6_safe 3 = .ok (.iload_n 2, 1) := dw_28 (kcX6_safe_0 3 28 rfl)
theorem dX6_safe_4 : decode cX6_safe 4 = .ok (.iload_n 3, 1) := dw_29 (kcX6_safe_0 4 29 rfl)
theorem dX6_safe_5 : decode cX6_safe 5 = .ok (.invokevirtual 165, 3) := dw_182 (kcX6_safe_0 5 182 rfl) (kcX6_safe_0 6 0 rfl) (kcX6_safe_0 7 165 rfl) rfl
theorem dX6_safe_8 : decode cX6_safe 8 = .ok (.invokevirtual 65, 3) := dw_182 (kcX6_safe_0 8 182 rfl) (kcX6_safe_0 9 0 rfl) (kcX6_safe_0 10 65 rfl) rfl
theorem dX6_safe_11 : decode cX6_safe 11 = .ok (.ifCond .ne 5, 3) := dw_154 (kcX6_safe_0 11 154 rfl) (kcX6_safe_0 12 0 rfl) (kcX6_safe_0 13 5 rfl) rfl
theorem dX6_safe_16 : decode cX6_safe 16 = .ok (.aload_n 0, 1) := dw_42 (kcX6_safe_0 16 42 rfl)
theorem dX6_safe_17 : decode cX6_safe 17 = .ok (.getfield 22, 3) := dw_180 (kcX6_safe_0 17 180 rfl) (kcX6_safe_0 18 0 rfl) (kcX6_safe_0 19 22 rfl) rfl
theorem dX6_safe_20 : decode cX6_safe 20 = .ok (.aload_n 0, 1) := dw_42 (kcX6_safe_0 20 42 rfl)
theorem dX6_safe_21 : decode cX6_safe 21 = .ok (.getfield 15, 3) := dw_180 (kcX6_safe_0 21 180 rfl) (kcX6_safe_0 22 0 rfl) (kcX6_safe_0 23 15 rfl) rfl
theorem dX6_safe_24 : decode cX6_safe 24 = .ok (.iload_n 1, 1) := dw_27 (kcX6_safe_0 24 27 rfl)
theorem dX6_safe_25 : decode cX6_safe 25 = .ok (.aaload, 1) := dw_50 (kcX6_safe_0 25 50 rfl)
theorem dX6_safe_26 : decode cX6_safe 26 = .ok (.invokevirtual 184, 3) := dw_182 (kcX6_safe_0 26 182 rfl) (kcX6_safe_0 27 0 rfl) (kcX6_safe_0 28 184 rfl) rfl
theorem dX6_safe_29 : decode cX6_safe 29 = .ok (.aload_n 0, 1) := dw_42 (kcX6_safe_0 29 42 rfl)
theorem dX6_safe_30 : decode cX6_safe 30 = .ok (.getfield 22, 3) := dw_180 (kcX6_safe_0 30 180 rfl) (kcX6_safe_0 31 0 rfl) (kcX6_safe_0 32 22 rfl) rfl
theorem dX6_safe_33 : decode cX6_safe 33 = .ok (.iload_n 2, 1) := dw_28 (kcX6_safe_0 33 28 rfl)
theorem dX6_safe_34 : decode cX6_safe 34 = .ok (.iload_n 3, 1) := dw_29 (kcX6_safe_0 34 29 rfl)
theorem dX6_safe_35 : decode cX6_safe 35 = .ok (.invokevirtual 188, 3) := dw_182 (kcX6_safe_0 35 182 rfl) (kcX6_safe_0 36 0 rfl) (kcX6_safe_0 37 188 rfl) rfl
theorem dX6_safe_38 : decode cX6_safe 38 = .ok (.ifCond .eq 7, 3) := dw_153 (kcX6_safe_0 38 153 rfl) (kcX6_safe_0 39 0 rfl) (kcX6_safe_0 40 7 rfl) rfl
theorem dX6_safe_45 : decode cX6_safe 45 = .ok (.iconst 0, 1) := dw_3 (kcX6_safe_0 45 3 rfl)
theorem dX6_safe_46 : decode cX6_safe 46 = .ok (.ireturn, 1) := dw_172 (kcX6_safe_0 46 172 rfl)
theorem dX6_safe_41 : decode cX6_safe 41 = .ok (.iconst 1, 1) := dw_4 (kcX6_safe_0 41 4 rfl)
theorem dX6_safe_42 : decode cX6_safe 42 = .ok (.goto 4, 3) := dw_167 (kcX6_safe_0 42 167 rfl) (kcX6_safe_0 43 0 rfl) (kcX6_safe_0 44 4 rfl) rfl
theorem dX6_safe_14 : decode cX6_safe 14 = .ok (.iconst (-1), 1) := dw_2 (kcX6_safe_0 14 2 rfl)
theorem dX6_safe_15 : decode cX6_safe 15 = .ok (.ireturn, 1) := dw_172 (kcX6_safe_0 15 172 rfl)
theorem kcX6_unsafe_0 : CHb cX6_unsafe 0 [42, 42, 27, 182, 0, 73, 182, 0, 65, 154, 0, 5, 2, 172, 42, 180, 0, 22, 42, 180, 0, 15, 27, 50, 182, 0, 184, 42, 180, 0, 22, 182, 0, 191, 172] := CHb_of (by decide +kernel)
theorem dX6_unsafe_0 : decode cX6_unsafe 0 = .ok (.aload_n 0, 1) := dw_42 (kcX6_unsafe_0 0 42 rfl)
theorem dX6_unsafe_1 : decode cX6_unsafe 1 = .ok (.aload_n 0, 1) := dw_42 (kcX6_unsafe_0 1 42 rfl)
theorem dX6_unsafe_2 : decode cX6_unsafe 2 = .ok (.iload_n 1, 1) := dw_27 (kcX6_unsafe_0 2 27 rfl)
theorem dX6_unsafe_3 : decode cX6_unsafe 3 = .ok (.invokevirtual 73, 3) := dw_182 (kcX6_unsafe_0 3 182 rfl) (kcX6_unsafe_0 4 0 rfl) (kcX6_unsafe_0 5 73 rfl) rfl
theorem dX6_unsafe_6 : decode cX6_unsafe 6 = .ok (.invokevirtual 65, 3) := dw_182 (kcX6_unsafe_0 6 182 rfl) (kcX6_unsafe_0 7 0 rfl) (kcX6_unsafe_0 8 65 rfl) rfl
theorem dX6_unsafe_9 : decode cX6_unsafe 9 = .ok (.ifCond .ne 5, 3) := dw_154 (kcX6_unsafe_0 9 154 rfl) (kcX6_unsafe_0 10 0 rfl) (kcX6_unsafe_0 11 5 rfl) rfl
theorem dX6_unsafe_14 : decode cX6_unsafe 14 = .ok (.aload_n 0, 1) := dw_42 (kcX6_unsafe_0 14 42 rfl)
theorem dX6_unsafe_15 : decode cX6_unsafe 15 = .ok (.getfield 22, 3) := dw_180 (kcX6_unsafe_0 15 180 rfl) (kcX6_unsafe_0 16 0 rfl) (kcX6_unsafe_0 17 22 rfl) rfl
theorem dX6_unsafe_18 : decode cX6_unsafe 18 = .ok (.aload_n 0, 1) := dw_42 (kcX6_unsafe_0 18 42 rfl)
theorem dX6_unsafe_19 : decode cX6_unsafe 19 = .ok (.getfield 15, 3) := dw_180 (kcX6_unsafe_0 19 180 rfl) (kcX6_unsafe_0 20 0 rfl) (kcX6_unsafe_0 21 15 rfl) rfl
theorem dX6_unsafe_22 : decode cX6_unsafe 22 = .ok (.iload_n 1, 1) := dw_27 (kcX6_unsafe_0 22 27 rfl)
theorem dX6_unsafe_23 : decode cX6_unsafe 23 = .ok (.aaload, 1) := dw_50 (kcX6_unsafe_0 23 50 rfl)
theorem dX6_unsafe_24 : decode cX6_unsafe 24 = .ok (.invokevirtual 184, 3) := dw_182 (kcX6_unsafe_0 24 182 rfl) (kcX6_unsafe_0 25 0 rfl) (kcX6_unsafe_0 26 184 rfl) rfl
theorem dX6_unsafe_27 : decode cX6_unsafe 27 = .ok (.aload_n 0, 1) := dw_42 (kcX6_unsafe_0 27 42 rfl)
theorem dX6_unsafe_28 : decode cX6_unsafe 28 = .ok (.getfield 22, 3) := dw_180 (kcX6_unsafe_0 28 180 rfl) (kcX6_unsafe_0 29 0 rfl) (kcX6_unsafe_0 30 22 rfl) rfl
theorem dX6_unsafe_31 : decode cX6_unsafe 31 = .ok (.invokevirtual 191, 3) := dw_182 (kcX6_unsafe_0 31 182 rfl) (kcX6_unsafe_0 32 0 rfl) (kcX6_unsafe_0 33 191 rfl) rfl
theorem dX6_unsafe_34 : decode cX6_unsafe 34 = .ok (.ireturn, 1) := dw_172 (kcX6_unsafe_0 34 172 rfl)
theorem dX6_unsafe_12 : decode cX6_unsafe 12 = .ok (.iconst (-1), 1) := dw_2 (kcX6_unsafe_0 12 2 rfl)
theorem dX6_unsafe_13 : decode cX6_unsafe 13 = .ok (.ireturn, 1) := dw_172 (kcX6_unsafe_0 13 172 rfl)
theorem kcX6_spanEnd_0 : CHb cX6_spanEnd 0 [42, 42, 27, 28, 29, 182, 0, 165, 182, 0, 65, 154, 0, 5, 2, 172, 42, 180, 0, 22, 42, 180, 0, 15, 27, 50, 182, 0, 184, 42, 180, 0, 22, 28, 29, 21, 4, 182, 0, 249, 42, 180, 0, 22, 180, 0, 252, 28, 29, 184, 0, 92, 46, 172] := CHb_of (by decide +kernel)
theorem dX6_spanEnd_0 : decode cX6_spanEnd 0 = .ok (.aload_n 0, 1) := dw_42 (kcX6_spanEnd_0 0 42 rfl)
theorem dX6_spanEnd_1 : decode cX6_spanEnd 1 = .ok (.aload_n 0, 1) := dw_42 (kcX6_spanEnd_0 1 42 rfl)
theorem dX6_spanEnd_2 : decode cX6_spanEnd 2 = .ok (.iload_n 1, 1) := dw_27 (kcX6_spanEnd_0 2 27 rfl)
theorem dX6_spanEnd_3 : decode cX6_spanEnd 3 = .ok (.iload_n 2, 1) := dw_28 (kcX6_spanEnd_0 3 28 rfl)
theorem dX6_spanEnd_4 : decode cX6_spanEnd 4 = .ok (.iload_n 3, 1) := dw_29 (kcX6_spanEnd_0 4 29 rfl)
theorem dX6_spanEnd_5 : decode cX6_spanEnd 5 = .ok (.invokevirtual 165, 3) := dw_182 (kcX6_spanEnd_0 5 182 rfl) (kcX6_spanEnd_0 6 0 rfl) (kcX6_spanEnd_0 7 165 rfl) rfl
theorem dX6_spanEnd_8 : decode cX6_spanEnd 8 = .ok (.invokevirtual 65, 3) := dw_182 (kcX6_spanEnd_0 8 182 rfl) (kcX6_spanEnd_0 9 0 rfl) (kcX6_spanEnd_0 10 65 rfl) rfl
theorem dX6_spanEnd_11 : decode cX6_spanEnd 11 = .ok (.ifCond .ne 5, 3) := dw_154 (kcX6_spanEnd_0 11 154 rfl) (kcX6_spanEnd_0 12 0 rfl) (kcX6_spanEnd_0 13 5 rfl) rfl
theorem dX6_spanEnd_16 : decode cX6_spanEnd 16 = .ok (.aload_n 0, 1) := dw_42 (kcX6_spanEnd_0 16 42 rfl)
theorem dX6_spanEnd_17 : decode cX6_spanEnd 17 = .ok (.getfield 22, 3) := dw_180 (kcX6_spanEnd_0 17 180 rfl) (kcX6_spanEnd_0 18 0 rfl) (kcX6_spanEnd_0 19 22 rfl) rfl
theorem dX6_spanEnd_20 : decode cX6_spanEnd 20 = .ok (.aload_n 0, 1) := dw_42 (kcX6_spanEnd_0 20 42 rfl)
theorem dX6_spanEnd_21 : decode cX6_spanEnd 21 = .ok (.getfield 15, 3) := dw_180 (kcX6_spanEnd_0 21 180 rfl) (kcX6_spanEnd_0 22 0 rfl) (kcX6_spanEnd_0 23 15 rfl) rfl
theorem dX6_spanEnd_24 : decode cX6_spanEnd 24 = .ok (.iload_n 1, 1) := dw_27 (kcX6_spanEnd_0 24 27 rfl)
theorem dX6_spanEnd_25 : decode cX6_spanEnd 25 = .ok (.aaload, 1) := dw_50 (kcX6_spanEnd_0 25 50 rfl)
theorem dX6_spanEnd_26 : decode cX6_spanEnd 26 = .ok (.invokevirtual 184, 3) := dw_182 (kcX6_spanEnd_0 26 182 rfl) (kcX6_spanEnd_0 27 0 rfl) (kcX6_spanEnd_0 28 184 rfl) rfl
theorem dX6_spanEnd_29 : decode cX6_spanEnd 29 = .ok (.aload_n 0, 1) := dw_42 (kcX6_spanEnd_0 29 42 rfl)
theorem dX6_spanEnd_30 : decode cX6_spanEnd 30 = .ok (.getfield 22, 3) := dw_180 (kcX6_spanEnd_0 30 180 rfl) (kcX6_spanEnd_0 31 0 rfl) (kcX6_spanEnd_0 32 22 rfl) rfl
theorem dX6_spanEnd_33 : decode cX6_spanEnd 33 = .ok (.iload_n 2, 1) := dw_28 (kcX6_spanEnd_0 33 28 rfl)
theorem dX6_spanEnd_34 : decode cX6_spanEnd 34 = .ok (.iload_n 3, 1) := dw_29 (kcX6_spanEnd_0 34 29 rfl)
theorem dX6_spanEnd_35 : decode cX6_spanEnd 35 = .ok (.iload 4, 2) := dw_21 (kcX6_spanEnd_0 35 21 rfl) (kcX6_spanEnd_0 36 4 rfl)
theorem dX6_spanEnd_37 : decode cX6_spanEnd 37 = .ok (.invokevirtual 249, 3) := dw_182 (kcX6_spanEnd_0 37 182 rfl) (kcX6_spanEnd_0 38 0 rfl) (kcX6_spanEnd_0 39 249 rfl) rfl
theorem dX6_spanEnd_40 : decode cX6_spanEnd 40 = .ok (.aload_n 0, 1) := dw_42 (kcX6_spanEnd_0 40 42 rfl)
theorem dX6_spanEnd_41 : decode cX6_spanEnd 41 = .ok (.getfield 22, 3) := dw_180 (kcX6_spanEnd_0 41 180 rfl) (kcX6_spanEnd_0 42 0 rfl) (kcX6_spanEnd_0 43 22 rfl) rfl
theorem dX6_spanEnd_44 : decode cX6_spanEnd 44 = .ok (.getfield 252, 3) := dw_180 (kcX6_spanEnd_0 44 180 rfl) (kcX6_spanEnd_0 45 0 rfl) (kcX6_spanEnd_0 46 252 rfl) rfl
theorem dX6_spanEnd_47 : decode cX6_spanEnd 47 = .ok (.iload_n 2, 1) := dw_28 (kcX6_spanEnd_0 47 28 rfl)
theorem dX6_spanEnd_48 : decode cX6_spanEnd 48 = .ok (.iload_n 3, 1) := dw_29 (kcX6_spanEnd_0 48 29 rfl)
theorem dX6_spanEnd_49 : decode cX6_spanEnd 49 = .ok (.invokestatic 92, 3) := dw_184 (kcX6_spanEnd_0 49 184 rfl) (kcX6_spanEnd_0 50 0 rfl) (kcX6_spanEnd_0 51 92 rfl) rfl
theorem dX6_spanEnd_52 : decode cX6_spanEnd 52 = .ok (.iaload, 1) := dw_46 (kcX6_spanEnd_0 52 46 rfl)
theorem dX6_spanEnd_53 : decode cX6_spanEnd 53 = .ok (.ireturn, 1) := dw_172 (kcX6_spanEnd_0 53 172 rfl)
theorem dX6_spanEnd_14 : decode cX6_spanEnd 14 = .ok (.iconst (-1), 1) := dw_2 (kcX6_spanEnd_0 14 2 rfl)
theorem dX6_spanEnd_15 : decode cX6_spanEnd 15 = .ok (.ireturn, 1) := dw_172 (kcX6_spanEnd_0 15 172 rfl)
theorem kcX6_least_0 : CHb cX6_least 0 [42, 27, 28, 29, 3, 182, 0, 180, 172] := CHb_of (by decide +kernel)
theorem dX6_least_0 : decode cX6_least 0 = .ok (.aload_n 0, 1) := dw_42 (kcX6_least_0 0 42 rfl)
theorem dX6_least_1 : decode cX6_least 1 = .ok (.iload_n 1, 1) := dw_27 (kcX6_least_0 1 27 rfl)
theorem dX6_least_2 : decode cX6_least 2 = .ok (.iload_n 2, 1) := dw_28 (kcX6_least_0 2 28 rfl)
theorem dX6_least_3 : decode cX6_least 3 = .ok (.iload_n 3, 1) := dw_29 (kcX6_least_0 3 29 rfl)
theorem dX6_least_4 : decode cX6_least 4 = .ok (.iconst 0, 1) := dw_3 (kcX6_least_0 4 3 rfl)
theorem dX6_least_5 : decode cX6_least 5 = .ok (.invokevirtual 180, 3) := dw_182 (kcX6_least_0 5 182 rfl) (kcX6_least_0 6 0 rfl) (kcX6_least_0 7 180 rfl) rfl
theorem dX6_least_8 : decode cX6_least 8 = .ok (.ireturn, 1) := dw_172 (kcX6_least_0 8 172 rfl)
theorem kcX6_greatest_0 : CHb cX6_greatest 0 [42, 27, 28, 29, 4, 182, 0, 180, 172] := CHb_of (by decide +kernel)
theorem dX6_greatest_0 : decode cX6_greatest 0 = .ok (.aload_n 0, 1) := dw_42 (kcX6_greatest_0 0 42 rfl)
theorem dX6_greatest_1 : decode cX6_greatest 1 = .ok (.iload_n 1, 1) := dw_27 (kcX6_greatest_0 1 27 rfl)
theorem dX6_greatest_2 : decode cX6_greatest 2 = .ok (.iload_n 2, 1) := dw_28 (kcX6_greatest_0 2 28 rfl)
theorem dX6_greatest_3 : decode cX6_greatest 3 = .ok (.iload_n 3, 1) := dw_29 (kcX6_greatest_0 3 29 rfl)
theorem dX6_greatest_4 : decode cX6_greatest 4 = .ok (.iconst 1, 1) := dw_4 (kcX6_greatest_0 4 4 rfl)
theorem dX6_greatest_5 : decode cX6_greatest 5 = .ok (.invokevirtual 180, 3) := dw_182 (kcX6_greatest_0 5 182 rfl) (kcX6_greatest_0 6 0 rfl) (kcX6_greatest_0 7 180 rfl) rfl
theorem dX6_greatest_8 : decode cX6_greatest 8 = .ok (.ireturn, 1) := dw_172 (kcX6_greatest_0 8 172 rfl)
/-- what a load laid, and what holds of it -/
def LDX (f1 f2 f3 : Int32) (pl kd nu td ps ru bf bl : Nat → Int32) (Q : Nat → Nat → Nat → Nat → (Nat → Int32) → (Nat → Int32) → (Nat → Int32) → (Nat → Int32) → (Nat → Int32) → Prop) : Prop := ∃ rw cl bk dn up r6 r7 r8 r9 r10 r11 r12 r13 r14, rw ≤ 12 ∧ cl ≤ 12 ∧ bk ≤ 12 ∧ f1 = nI rw ∧ f2 = nI cl ∧ f3 = nI bk ∧ ru 3 = nI dn ∧ ru 4 = nI up ∧ dn ≤ 1000000 ∧ up ≤ 1000000 ∧ NRC rw cl pl kd nu ∧ LDR rw cl bk pl kd nu td ps ru bf bl r6 r7 r8 r9 r10 r11 r12 r13 r14 ∧ Q rw cl dn up r6 r7 r8 r10 r11
/-- the cells that are not safe, of the class -/
abbrev UNX (kd nu : Nat → Int32) (rw cl dn up : Nat) (r6 r7 r10 : Nat → Int32) : (Nat → Nat → Bool) → Nat → Nat → Prop := UNG rw cl (fun x => ¬ r6 x = 0) r7 (secA r10) (LTc kd nu cl) (HTc kd nu cl) (NTc nu) dn up
def plX (o : Prop) (q f1 f2 f3 : Int32) (pl kd nu td ps ru bf bl t7 : Nat → Int32) : Prop := (¬ o ∧ q = -1 ∧ t7 = td) ∨ (o ∧ LDX f1 f2 f3 pl kd nu td ps ru bf bl (fun rw cl dn up r6 r7 r8 r10 r11 => ∃ nn Pl cc, PLS rw cl (UNX kd nu rw cl dn up r6 r7 r10) (mtA r6 r7) (zzA r8) (prA ru nu) (KA r11) nn Pl cc ∧ ((PDN rw cl (UNX kd nu rw cl dn up r6 r7 r10) (KA r11) Pl ∧ q = nI cc ∧ ∀ x y, x < 12 → y < 12 → t7 (x * 12 + y) = (if Pl x y = true then td (x * 12 + y) ||| 2 else td (x * 12 + y))) ∨ (PFL rw cl (UNX kd nu rw cl dn up r6 r7 r10) (mtA r6 r7) (zzA r8) (KA r11) Pl ∧ q = -1 ∧ t7 = td))))
def fwX (o : Prop) (q f1 f2 f3 : Int32) (pl kd nu td ps ru bf bl t7 : Nat → Int32) : Prop := (¬ o ∧ q = -1 ∧ t7 = td) ∨ (o ∧ LDX f1 f2 f3 pl kd nu td ps ru bf bl (fun rw cl dn up r6 r7 r8 r10 r11 => (8 < rkG (mayA r8 r10 rw cl) (12 * rw) ∧ q = -1 ∧ t7 = td) ∨ ∃ m cp, m = rkG (mayA r8 r10 rw cl) (12 * rw) ∧ m < 9 ∧ (∀ x y, mayA r8 r10 rw cl x y → cp (rkG (mayA r8 r10 rw cl) (12 * x + y)) = prA ru nu x y) ∧ ((∃ bz, LSG cp m (GRD rw cl (UNX kd nu rw cl dn up r6 r7 r10) (secA r10) (mayA r8 r10 rw cl) m) bz ∧ q = nI (prc cp m bz) ∧ ∀ x y, x < 12 → y < 12 → t7 (x * 12 + y) = tgF td (pB (mayA r8 r10 rw cl x y ∧ bt (nI bz) (m - 1 - rkG (mayA r8 r10 rw cl) (12 * x + y)) = true)) (x * 12 + y)) ∨ ((∀ s, s < 2 ^ m → ¬ GRD rw cl (UNX kd nu rw cl dn up r6 r7 r10) (secA r10) (mayA r8 r10 rw cl) m s) ∧ q = -1 ∧ t7 = td))))
def sfX (q f1 f2 f3 : Int32) (pl kd nu td ps ru bf bl : Nat → Int32) (i k : Nat) : Prop := LDX f1 f2 f3 pl kd nu td ps ru bf bl (fun rw cl dn up r6 r7 _ _ r11 => (q = 1 ∧ SFG rw cl (fun x => ¬ r6 x = 0) r7 (LTc kd nu cl) (HTc kd nu cl) (NTc nu) dn up (KA r11) i k) ∨ (q = 0 ∧ ¬ SFG rw cl (fun x => ¬ r6 x = 0) r7 (LTc kd nu cl) (HTc kd nu cl) (NTc nu) dn up (KA r11) i k))
def usX (o : Prop) (q f1 f2 f3 : Int32) (pl kd nu td ps ru bf bl : Nat → Int32) : Prop := (¬ o ∧ q = -1) ∨ (o ∧ LDX f1 f2 f3 pl kd nu td ps ru bf bl (fun rw cl dn up r6 r7 _ r10 r11 => q = nI (rkG (UNX kd nu rw cl dn up r6 r7 r10 (KA r11)) (12 * rw))))
def spX (g q f1 f2 f3 : Int32) (pl kd nu td ps ru bf bl : Nat → Int32) (i k : Nat) : Prop := LDX f1 f2 f3 pl kd nu td ps ru bf bl (fun rw cl _ _ r6 r7 _ _ r11 => ∃ V : Nat → Nat → Nat, q = nI (V i k) ∧ ((kpR r6 r7 r11 rw cl (r7 i) i k = false ∧ V i k = NTc nu i k) ∨ (kpR r6 r7 r11 rw cl (r7 i) i k = true ∧ agN (kpR r6 r7 r11 rw cl (r7 i)) (LTc kd nu cl) (HTc kd nu cl) (rsT (dmR r6 r7 rw cl (r7 i)) (NTc nu)) (rsT (dmR r6 r7 rw cl (r7 i)) V) ∧ (g = 0 → ∀ w, agN (kpR r6 r7 r11 rw cl (r7 i)) (LTc kd nu cl) (HTc kd nu cl) (rsT (dmR r6 r7 rw cl (r7 i)) (NTc nu)) w → V i k ≤ w i k) ∧ (¬ g = 0 → ∀ w, agN (kpR r6 r7 r11 rw cl (r7 i)) (LTc kd nu cl) (HTc kd nu cl) (rsT (dmR r6 r7 rw cl (r7 i)) (NTc nu)) w → w i k ≤ V i k))))
theorem LD_m {rw cl bk : Nat} {pl kd nu td ps ru bf bl r6 r7 r8 r9 r10 r11 r12 r13 r14 : Nat → Int32} (h : LDR rw cl bk pl kd nu td ps ru bf bl r6 r7 r8 r9 r10 r11 r12 r13 r14) {x y : Nat} (hm : mayA r8 r10 rw cl x y) : ¬ r6 x = 0 := by
  rcases (h x hm.1).2 with ⟨a, _, _⟩ | ⟨_, _, c⟩
  · rw [a]; decide
  · exact absurd (c y hm.2.1).1 hm.2.2.1
theorem cp_of {M : Nat → Nat → Prop} {n : Nat} {c1 c2 ru nu : Nat → Int32} (hg : GCH M n c1 c2 (fun x y => coR (ru 5) (nu (x * 12 + y)))) (hN : ∀ x y, M x y → 12 * x + y < n ∧ ∃ m, m ≤ 1000000 ∧ nu (x * 12 + y) = nI m) (hm : rkG M n < 9) (hM : ∀ x y, M x y → rkG M (12 * x + y) < rkG M n) : (∀ k, k < rkG M n → c2 k = nI ((c2 k).toNatClampNeg)) ∧ (∀ k, k < rkG M n → (c2 k).toNatClampNeg ≤ 1000001) ∧ ∀ x y, M x y → (c2 (rkG M (12 * x + y))).toNatClampNeg = prA ru nu x y := by
  have key : ∀ x y, M x y → c2 (rkG M (12 * x + y)) = nI (prA ru nu x y) ∧ prA ru nu x y ≤ 1000001 := fun x y h => by
    obtain ⟨h1, m, h2, h3⟩ := hN x y h
    have h4 := hM x y h
    rw [(hg x y h h1 (by omega)).2]
    exact ⟨co_n h2 h3, (pr_le h2 h3).2⟩
  refine ⟨fun k hk => ?_, fun k hk => ?_, fun x y h => ?_⟩
  · obtain ⟨x, y, _, _, h, e⟩ := rk_ex n hk
    obtain ⟨k1, k2⟩ := key x y h
    rw [← e, k1, nI_clamp (by omega)]
  · obtain ⟨x, y, _, _, h, e⟩ := rk_ex n hk
    obtain ⟨k1, k2⟩ := key x y h
    rw [← e, k1, nI_clamp (by omega)]; exact k2
  · obtain ⟨k1, k2⟩ := key x y h
    rw [k1, nI_clamp (by omega)]
set_option maxHeartbeats 4000000 in
set_option maxRecDepth 100000 in
theorem y_plan (l : Launch) (G : GG) (x : Nat) (xa ta a b ga ua la lb lc : Nat → Nat) (tg gg : Nat → Option Nat) (xf tf f qf gf uf lf mf nf : Nat → Int32) (tr r q gr ur lr mr nr : Nat → Nat → Int32) (tb : Int32) (j : Nat) (hj : j < 6) (hjt : tbJ tb j) (htg : tg j = some (ta 0)) (hT1 : nL 12 (tf 1)) (hT2 : nL 12 (tf 2)) (hT3 : nL 12 (tf 3)) (hT4 : nOK 12 12 (tr 4)) (hNC : ¬ (tf 0) = 0 → (∀ rw cl, rw ≤ 12 → cl ≤ 12 → (tf 1) = nI rw → (tf 2) = nI cl → NRC rw cl (tr 4) (tr 5) (tr 6)) ∧ ∃ dn up, dn ≤ 1000000 ∧ up ≤ 1000000 ∧ (tr 9) 3 = nI dn ∧ (tr 9) 4 = nI up) (hRB : RB adjR (q 0)) : WrI l yX6_plan cX6_plan 3 (some .int) ({ frames := 6, cells := 0, slots := 0, locals := 161 }) G (xM G x xa ta a b ga ua la lb lc tg gg xf tf f qf gf uf lf mf nf tr r q gr ur lr mr nr) [.ref x, .int tb] (fun qz w => ∃ (n_f_0 : Int32) (n_f_1 : Int32) (n_f_2 : Int32) (n_f_3 : Int32) (n_f_4 : Int32) (n_gf_7 : Int32) (n_gf_8 : Int32) (n_gr_0 : Nat → Int32) (n_q_0 : Nat → Int32) (n_q_1 : Nat → Int32) (n_q_2 : Nat → Int32) (n_qf_3 : Int32) (n_r_6 : Nat → Int32) (n_r_7 : Nat → Int32) (n_r_8 : Nat → Int32) (n_r_9 : Nat → Int32) (n_r_10 : Nat → Int32) (n_r_11 : Nat → Int32) (n_r_12 : Nat → Int32) (n_r_13 : Nat → Int32) (n_r_14 : Nat → Int32) (n_tr_7 : Nat → Int32) (n_xf_0 : Int32), w = xM G x xa ta a b ga ua la lb lc tg gg (upd xf 0 n_xf_0) tf (upd (upd (upd (upd (upd f 0 n_f_0) 1 n_f_1) 2 n_f_2) 3 n_f_3) 4 n_f_4) (upd qf 3 n_qf_3) (upd (upd gf 7 n_gf_7) 8 n_gf_8) uf lf mf nf (up2 tr 7 n_tr_7) (up2 (up2 (up2 (up2 (up2 (up2 (up2 (up2 (up2 r 6 n_r_6) 7 n_r_7) 8 n_r_8) 9 n_r_9) 10 n_r_10) 11 n_r_11) 12 n_r_12) 13 n_r_13) 14 n_r_14) (up2 (up2 (up2 q 0 n_q_0) 1 n_q_1) 2 n_q_2) (up2 gr 0 n_gr_0) ur lr mr nr ∧ plX (tbO tb j (tf 0)) qz (tf 1) (tf 2) (tf 3) (tr 4) (tr 5) (tr 6) (tr 7) (tr 8) (tr 9) (tr 10) (tr 11) n_tr_7 ∧ (RB adjR n_q_0)) := by
  refine wr_entryI (by decide +kernel) (Nat.le_of_ble_eq_true rfl) ?_
  intro p e s m below meth c A C0 hP hK hD hA ls hl
  have hS : va_S A s.heap s.heap [] := va_S.rf
  obtain ⟨hx, hb, hml, hown, hts, hr, hlocks, hin⟩ := C0
  have hown : s.vm.findClass RX6 = some m.cls := hown
  have hDD : ∀ xf' tf' f' qf' gf' uf' lf' mf' nf' tr' r' q' gr' ur' lr' mr' nr', va_D A (xM G x xa ta a b ga ua la lb lc tg gg xf' tf' f' qf' gf' uf' lf' mf' nf' tr' r' q' gr' ur' lr' mr' nr') := fun xf' tf' f' qf' gf' uf' lf' mf' nf' tr' r' q' gr' ur' lr' mr' nr' => D_same hD rfl
  have hl : lv_has ls 3 [(0, .ref x), (1, .int tb)] := hl
  refine lv_aload_n hx hb dX6_plan_0 rfl (lv_at hl 0 rfl) ?_
  refine lv_aload_n hx hb dX6_plan_1 rfl (lv_at hl 0 rfl) ?_
  refine lv_iload_n hx hb dX6_plan_2 rfl (lv_at hl 1 rfl) ?_
  refine rdV (rest := [.ref x]) (q0 := 0) ⟨hx, hb, hml, hown, hts⟩ (x_tableStatus l G x xa ta a b ga ua la lb lc tg gg xf tf f qf gf uf lf mf nf tr r q gr ur lr mr nr tb j (by omega) hjt htg) mi_yX6_tableStatus mv_yX6_tableStatus ml_X6_73 ⟨rfl, rfl, Nat.le_of_ble_eq_true rfl, Nat.le_of_ble_eq_true rfl⟩ hK (hP) rfl rfl rfl hl.1 rfl (Nat.le_of_ble_eq_true rfl) dX6_plan_3 ⟨Nat.zero_le _, Nat.zero_le _⟩ hS hA hP (fun r1 H locs hr1 hP hS => ?_)
  have hr1 : ((r1 = 0 ∧ tbO tb j (tf 0)) ∨ (r1 = 1 ∧ ¬ tbO tb j (tf 0))) := hr1
  refine wrVIa (rest := []) (q0 := 0) ⟨hx, hb, hml, hown, hts⟩ (x_settled l G x xa ta a b ga ua la lb lc tg gg xf tf f qf gf uf lf mf nf tr r q gr ur lr mr nr r1  ) mi_yX6_settled mv_yX6_settled ml_X6_65 ⟨rfl, rfl, Nat.le_of_ble_eq_true rfl, Nat.le_of_ble_eq_true rfl⟩ hK hP (hDD _ _ _ _ _ _ _ _ _ _ _ _ _ _ _ _ _) rfl rfl rfl hl.1 rfl (Nat.le_of_ble_eq_true rfl) dX6_plan_6 ⟨Nat.zero_le _, Nat.zero_le _⟩ hS hA (fun r2 w3 H locs hw3 hP hS => ?_)
  obtain ⟨x4, rfl, hw3r⟩ := hw3
  have hP : PP G (xM G x xa ta a b ga ua la lb lc tg gg (upd xf 0 x4) tf f qf gf uf lf mf nf tr r q gr ur lr mr nr) H := hP
  have hw3r : ((r2 = 1 ∧ ((r1 : Int32) = 0)) ∨ (r2 = 0 ∧ ¬ ((r1 : Int32) = 0))) := hw3r
  refine lv_if_ne (tgt := 14) hx hb dX6_plan_9 (by decide) (fun c5 => ?_) (fun c5 => ?_)
  · have b9 := bT hw3r c5
    obtain ⟨ej, ho⟩ := st0 hr1 b9
    subst ej
    obtain ⟨rw, hrw, t1⟩ := hT1
    obtain ⟨cl, hcl, t2⟩ := hT2
    obtain ⟨bk, hbk, t3⟩ := hT3
    have hT1 : nL 12 (tf 1) := ⟨rw, hrw, t1⟩
    have hT2 : nL 12 (tf 2) := ⟨cl, hcl, t2⟩
    have hT3 : nL 12 (tf 3) := ⟨bk, hbk, t3⟩
    refine lv_aload_n hx hb dX6_plan_14 rfl (lv_at hl 0 rfl) ?_
    refine va_get (D := G.1) (ci := 6) (v := .ref (a 15)) (C := RX6) (T := TX6) (N := 10) hx hb hts inX6 hown hK.1 hP 0 rfl rfl 2 (by decide) (hts _ mf_X6_22) (fun _ h9 => h9) rfl dX6_plan_15 ?_
    refine lv_aload_n hx hb dX6_plan_18 rfl (lv_at hl 0 rfl) ?_
    refine va_get (D := G.1) (ci := 6) (v := .ref (xa 1)) (C := RX6) (T := TX6) (N := 10) hx hb hts inX6 hown hK.1 hP 0 rfl rfl 1 (by decide) (hts _ mf_X6_15) (fun _ h9 => h9) rfl dX6_plan_19 ?_
    refine lv_iload_n hx hb dX6_plan_22 rfl (lv_at hl 1 rfl) ?_
    refine xaldT hx hb hK hP 1 (j) (b := (ta 0)) rfl (by omega) (by decide) rfl (htg) dX6_plan_23 ?_
    refine lawV (rest := []) (q0 := 0) ⟨hx, hb, hml, hown, hts⟩ (e_X2_load l G a b ta f tf r tr rw cl bk hrw hcl hbk t1 t2 t3) mi_yX2_load mv_yX2_load ml_X6_184 ⟨rfl, rfl, Nat.le_of_ble_eq_true rfl, Nat.le_of_ble_eq_true rfl⟩ hK hP (hDD _ _ _ _ _ _ _ _ _ _ _ _ _ _ _ _ _) (pl_perm (xBlk G x xa ta a b ga ua la lb lc tg gg (upd xf 0 x4) tf f qf gf uf lf mf nf tr r q gr ur lr mr nr) (sel := [2, 1]) (oth := [0, 3, 4, 5, 6, 7, 8, 9]) (by decide)) rfl rfl rfl hl.1 rfl (Nat.le_of_ble_eq_true rfl) dX6_plan_24 ⟨Nat.zero_le _, Nat.zero_le _⟩ hS hA (fun w21 H locs hw21 hP hS => ?_)
    obtain ⟨x6, x7, x8, x9, x10, x11, x12, x13, x14, x15, x16, x17, x18, x19, rfl, h0, h1, h2, h3, h4, hLD⟩ := hw21
    have hP : PP G (xM G x xa ta a b ga ua la lb lc tg gg (upd xf 0 x4) tf (upd (upd (upd (upd (upd f 0 x6) 1 x7) 2 x8) 3 x9) 4 x10) qf gf uf lf mf nf tr (up2 (up2 (up2 (up2 (up2 (up2 (up2 (up2 (up2 r 6 x11) 7 x12) 8 x13) 9 x14) 10 x15) 11 x16) 12 x17) 13 x18) 14 x19) q gr ur lr mr nr) H := (hP rfl (xM G x xa ta a b ga ua la lb lc tg gg (upd xf 0 x4) tf (upd (upd (upd (upd (upd f 0 x6) 1 x7) 2 x8) 3 x9) 4 x10) qf gf uf lf mf nf tr (up2 (up2 (up2 (up2 (up2 (up2 (up2 (up2 (up2 r 6 x11) 7 x12) 8 x13) 9 x14) 10 x15) 11 x16) 12 x17) 13 x18) 14 x19) q gr ur lr mr nr) (pl_perm (xBlk G x xa ta a b ga ua la lb lc tg gg (upd xf 0 x4) tf (upd (upd (upd (upd (upd f 0 x6) 1 x7) 2 x8) 3 x9) 4 x10) qf gf uf lf mf nf tr (up2 (up2 (up2 (up2 (up2 (up2 (up2 (up2 (up2 r 6 x11) 7 x12) 8 x13) 9 x14) 10 x15) 11 x16) 12 x17) 13 x18) 14 x19) q gr ur lr mr nr) (sel := [2, 1]) (oth := [0, 3, 4, 5, 6, 7, 8, 9]) (by decide))).1
    obtain ⟨hNC1, dn, up, hdn, hup, e3, e4⟩ := hNC ho
    have hNR := hNC1 rw cl hrw hcl t1 t2
    have hLD : LDR rw cl bk (tr 4) (tr 5) (tr 6) (tr 7) (tr 8) (tr 9) (tr 10) (tr 11) x11 x12 x13 x14 x15 x16 x17 x18 x19 := hLD
    have h0 : x6 = nI rw := h0
    have h1 : x7 = nI cl := h1
    have h2 : x8 = nI dn := h2.trans e3
    have h3 : x9 = nI up := h3.trans e4
    have hRN := (LD_rv hLD hcl hNR).1
    have hRD := LD_rd hLD hrw hcl hbk hNR
    have hSC := LD_sc hLD
    have hSS : ∀ x y, x < rw → y < cl → ¬ x15 (x * 12 + y) = 0 → ¬ x11 x = 0 := fun x y h7 h8 h9 => (hSC x y h7 h8 h9).1
    have hcs := LD_cs hLD hbk
    have hRS : RSY x11 x12 x16 rw cl (NTc (tr 6)) (LTc (tr 5) (tr 6) cl) (HTc (tr 5) (tr 6) cl) x10 (q 0) := Or.inl h4
    have hNN : ∀ x y, x < rw → y < cl → ¬ x11 x = 0 → ∃ m, m ≤ 1000000 ∧ tr 6 (x * 12 + y) = nI m := fun x y h7 h8 h9 => hNR x y h7 h8 ((LD_so hLD h7).mp h9)
    refine lv_aload_n hx hb dX6_plan_27 rfl (lv_at hl 0 rfl) ?_
    refine va_get (D := G.1) (ci := 6) (v := .ref (ga 9)) (C := RX6) (T := TX6) (N := 10) hx hb hts inX6 hown hK.1 hP 0 rfl rfl 3 (by decide) (hts _ mf_X6_29) (fun _ h9 => h9) rfl dX6_plan_28 ?_
    refine lv_aload_n hx hb dX6_plan_31 rfl (lv_at hl 0 rfl) ?_
    refine va_get (D := G.1) (ci := 6) (v := .ref (xa 1)) (C := RX6) (T := TX6) (N := 10) hx hb hts inX6 hown hK.1 hP 0 rfl rfl 1 (by decide) (hts _ mf_X6_15) (fun _ h9 => h9) rfl dX6_plan_32 ?_
    refine lv_iload_n hx hb dX6_plan_35 rfl (lv_at hl 1 rfl) ?_
    refine xaldT hx hb hK hP 1 (j) (b := (ta 0)) rfl (by omega) (by decide) rfl (htg) dX6_plan_36 ?_
    refine lv_aload_n hx hb dX6_plan_37 rfl (lv_at hl 0 rfl) ?_
    refine va_get (D := G.1) (ci := 6) (v := .ref (a 15)) (C := RX6) (T := TX6) (N := 10) hx hb hts inX6 hown hK.1 hP 0 rfl rfl 2 (by decide) (hts _ mf_X6_22) (fun _ h9 => h9) rfl dX6_plan_38 ?_
    refine wrVIa (rest := []) (q0 := 25) ⟨hx, hb, hml, hown, hts⟩ (x_X0_followPlan l G x xa ta a b ga ua la lb lc tg gg (upd xf 0 x4) tf (upd (upd (upd (upd (upd f 0 x6) 1 x7) 2 x8) 3 x9) 4 x10) qf gf uf lf mf nf tr (up2 (up2 (up2 (up2 (up2 (up2 (up2 (up2 (up2 r 6 x11) 7 x12) 8 x13) 9 x14) 10 x15) 11 x16) 12 x17) 13 x18) 14 x19) q gr ur lr mr nr  rw cl dn up (NTc (tr 6)) (NTc (tr 6)) (LTc (tr 5) (tr 6) cl) (HTc (tr 5) (tr 6) cl) (by omega) (by omega) h0 h1 h2 h3 (by omega) (by omega) hRN hSC hNN hRD hRS hRB) mi_yX0_followPlan mv_yX0_followPlan ml_X6_211 ⟨rfl, rfl, Nat.le_of_ble_eq_true rfl, Nat.le_of_ble_eq_true rfl⟩ hK hP (hDD _ _ _ _ _ _ _ _ _ _ _ _ _ _ _ _ _) rfl rfl rfl hl.1 rfl (Nat.le_of_ble_eq_true rfl) dX6_plan_41 ⟨Nat.zero_le _, Nat.zero_le _⟩ hS hA (fun r22 w23 H locs hw23 hP hS => ?_)
    obtain ⟨x24, x25, x26, x27, x28, x29, x30, x31, x32, x33, x34, nn9, Pl9, cc9, rfl, hw23r, hp9, hRB⟩ := hw23
    have hP : PP G (xM G x xa ta a b ga ua la lb lc tg gg (upd xf 0 x4) tf (upd (upd (upd (upd (upd f 0 x6) 1 x7) 2 x8) 3 x9) 4 x24) (upd qf 3 x31) (upd (upd gf 7 x25) 8 x26) uf lf mf nf (up2 tr 7 x34) (up2 (up2 (up2 (up2 (up2 (up2 (up2 (up2 (up2 r 6 x11) 7 x12) 8 x13) 9 x14) 10 x15) 11 x32) 12 x33) 13 x18) 14 x19) (up2 (up2 (up2 q 0 x28) 1 x29) 2 x30) (up2 gr 0 x27) ur lr mr nr) H := hP
    have hp9 : PLS rw cl (UNG rw cl (fun x => ¬ x11 x = 0) x12 (fun x y => ¬ x15 (x * 12 + y) = 0) (LTc (tr 5) (tr 6) cl) (HTc (tr 5) (tr 6) cl) (NTc (tr 6)) dn up) (mtA x11 x12) (zzA x13) (prA (tr 9) (tr 6)) (KA x16) nn9 Pl9 cc9 := hp9
    have hRB : RB adjR x28 := hRB
    have hw23r : ((PDN rw cl (UNG rw cl (fun x => ¬ x11 x = 0) x12 (fun x y => ¬ x15 (x * 12 + y) = 0) (LTc (tr 5) (tr 6) cl) (HTc (tr 5) (tr 6) cl) (NTc (tr 6)) dn up) (KA x16) Pl9 ∧ r22 = nI cc9 ∧ ∀ x y, x < 12 → y < 12 → x34 (x * 12 + y) = (if Pl9 x y = true then (tr 7) (x * 12 + y) ||| 2 else (tr 7) (x * 12 + y))) ∨ (PFL rw cl (UNG rw cl (fun x => ¬ x11 x = 0) x12 (fun x y => ¬ x15 (x * 12 + y) = 0) (LTc (tr 5) (tr 6) cl) (HTc (tr 5) (tr 6) cl) (NTc (tr 6)) dn up) (mtA x11 x12) (zzA x13) (KA x16) Pl9 ∧ r22 = -1 ∧ x34 = (tr 7))) := hw23r
    refine lv_istore_n (lv' := [(2, .int r22), (0, .ref x), (1, .int (nI j))]) hx hb dX6_plan_44 rfl hl (by decide) rfl (fun ls hl => ?_)
    refine lv_iload_n hx hb dX6_plan_45 rfl (lv_at hl 0 rfl) ?_
    refine lv_iconst (v := -1) hx hb dX6_plan_46 (by decide) ?_
    refine lv_icmp_ne (tgt := 59) hx hb dX6_plan_47 (by decide) (fun c35 => ?_) (fun c35 => ?_)
    · refine lv_iload_n hx hb dX6_plan_59 rfl (lv_at hl 0 rfl) ?_
      exact wr_iret hx hb hr hlocks hS hP ⟨x6, x7, x8, x9, x24, x25, x26, x27, x28, x29, x30, x31, x11, x12, x13, x14, x15, x32, x33, x18, x19, x34, x4, rfl, (Or.inr ⟨⟨rfl, ho⟩, ⟨rw, cl, bk, dn, up, x11, x12, x13, x14, x15, x16, x17, x18, x19, hrw, hcl, hbk, t1, t2, t3, e3, e4, hdn, hup, hNR, hLD, nn9, Pl9, cc9, hp9, hw23r⟩⟩), hRB⟩ dX6_plan_60
    · refine lv_aload_n hx hb dX6_plan_50 rfl (lv_at hl 1 rfl) ?_
      refine lv_bipush (v := 10) hx hb dX6_plan_51 (by decide) ?_
      refine wrVIa (rest := []) (q0 := 0) ⟨hx, hb, hml, hown, hts⟩ (x_refused l G x xa ta a b ga ua la lb lc tg gg (upd xf 0 x4) tf (upd (upd (upd (upd (upd f 0 x6) 1 x7) 2 x8) 3 x9) 4 x24) (upd qf 3 x31) (upd (upd gf 7 x25) 8 x26) uf lf mf nf (up2 tr 7 x34) (up2 (up2 (up2 (up2 (up2 (up2 (up2 (up2 (up2 r 6 x11) 7 x12) 8 x13) 9 x14) 10 x15) 11 x32) 12 x33) 13 x18) 14 x19) (up2 (up2 (up2 q 0 x28) 1 x29) 2 x30) (up2 gr 0 x27) ur lr mr nr 10  ) mi_yX6_refused mv_yX6_refused ml_X6_122 ⟨rfl, rfl, Nat.le_of_ble_eq_true rfl, Nat.le_of_ble_eq_true rfl⟩ hK hP (hDD _ _ _ _ _ _ _ _ _ _ _ _ _ _ _ _ _) rfl rfl rfl hl.1 rfl (Nat.le_of_ble_eq_true rfl) dX6_plan_53 ⟨Nat.zero_le _, Nat.zero_le _⟩ hS hA (fun r36 w37 H locs hw37 hP hS => ?_)
      obtain ⟨x38, rfl, hw37r⟩ := hw37
      have hP : PP G (xM G x xa ta a b ga ua la lb lc tg gg (upd xf 0 x38) tf (upd (upd (upd (upd (upd f 0 x6) 1 x7) 2 x8) 3 x9) 4 x24) (upd qf 3 x31) (upd (upd gf 7 x25) 8 x26) uf lf mf nf (up2 tr 7 x34) (up2 (up2 (up2 (up2 (up2 (up2 (up2 (up2 (up2 r 6 x11) 7 x12) 8 x13) 9 x14) 10 x15) 11 x32) 12 x33) 13 x18) 14 x19) (up2 (up2 (up2 q 0 x28) 1 x29) 2 x30) (up2 gr 0 x27) ur lr mr nr) H := hP
      obtain rfl := hw37r
      refine lv_goto (tgt := 60) hx hb dX6_plan_56 (by decide) ?_
      exact wr_iret hx hb hr hlocks hS hP ⟨x6, x7, x8, x9, x24, x25, x26, x27, x28, x29, x30, x31, x11, x12, x13, x14, x15, x32, x33, x18, x19, x34, x38, rfl, (Or.inr ⟨⟨rfl, ho⟩, ⟨rw, cl, bk, dn, up, x11, x12, x13, x14, x15, x16, x17, x18, x19, hrw, hcl, hbk, t1, t2, t3, e3, e4, hdn, hup, hNR, hLD, nn9, Pl9, cc9, hp9, hw23r.imp (fun z9 => ⟨z9.1, c35.symm.trans z9.2.1, z9.2.2⟩) (fun z9 => ⟨z9.1, rfl, z9.2.2⟩)⟩⟩), hRB⟩ dX6_plan_60
  · have b9 := bF hw3r c5
    refine lv_iconst (v := -1) hx hb dX6_plan_12 (by decide) ?_
    exact wr_iret hx hb hr hlocks hS hP ⟨(f 0), (f 1), (f 2), (f 3), (f 4), (gf 7), (gf 8), (gr 0), (q 0), (q 1), (q 2), (qf 3), (r 6), (r 7), (r 8), (r 9), (r 10), (r 11), (r 12), (r 13), (r 14), (tr 7), x4, rfl, (Or.inl ⟨st1 hr1 b9, rfl, rfl⟩), hRB⟩ dX6_plan_13
set_option maxHeartbeats 4000000 in
set_option maxRecDepth 100000 in
theorem y_fewest (l : Launch) (G : GG) (x : Nat) (xa ta a b ga ua la lb lc : Nat → Nat) (tg gg : Nat → Option Nat) (xf tf f qf gf uf lf mf nf : Nat → Int32) (tr r q gr ur lr mr nr : Nat → Nat → Int32) (tb : Int32) (j : Nat) (hj : j < 6) (hjt : tbJ tb j) (htg : tg j = some (ta 0)) (hT1 : nL 12 (tf 1)) (hT2 : nL 12 (tf 2)) (hT3 : nL 12 (tf 3)) (hT4 : nOK 12 12 (tr 4)) (hNC : ¬ (tf 0) = 0 → (∀ rw cl, rw ≤ 12 → cl ≤ 12 → (tf 1) = nI rw → (tf 2) = nI cl → NRC rw cl (tr 4) (tr 5) (tr 6)) ∧ ∃ dn up, dn ≤ 1000000 ∧ up ≤ 1000000 ∧ (tr 9) 3 = nI dn ∧ (tr 9) 4 = nI up) (hRB : RB adjR (q 0)) : WrI l yX6_fewest cX6_fewest 3 (some .int) ({ frames := 7, cells := 0, slots := 0, locals := 182 }) G (xM G x xa ta a b ga ua la lb lc tg gg xf tf f qf gf uf lf mf nf tr r q gr ur lr mr nr) [.ref x, .int tb] (fun qz w => ∃ (n_f_0 : Int32) (n_f_1 : Int32) (n_f_2 : Int32) (n_f_3 : Int32) (n_f_4 : Int32) (n_gf_4 : Int32) (n_gf_5 : Int32) (n_gf_6 : Int32) (n_gr_1 : Nat → Int32) (n_gr_2 : Nat → Int32) (n_gr_3 : Nat → Int32) (n_q_0 : Nat → Int32) (n_q_1 : Nat → Int32) (n_q_2 : Nat → Int32) (n_qf_3 : Int32) (n_r_6 : Nat → Int32) (n_r_7 : Nat → Int32) (n_r_8 : Nat → Int32) (n_r_9 : Nat → Int32) (n_r_10 : Nat → Int32) (n_r_11 : Nat → Int32) (n_r_12 : Nat → Int32) (n_r_13 : Nat → Int32) (n_r_14 : Nat → Int32) (n_tr_7 : Nat → Int32) (n_xf_0 : Int32), w = xM G x xa ta a b ga ua la lb lc tg gg (upd xf 0 n_xf_0) tf (upd (upd (upd (upd (upd f 0 n_f_0) 1 n_f_1) 2 n_f_2) 3 n_f_3) 4 n_f_4) (upd qf 3 n_qf_3) (upd (upd (upd gf 4 n_gf_4) 5 n_gf_5) 6 n_gf_6) uf lf mf nf (up2 tr 7 n_tr_7) (up2 (up2 (up2 (up2 (up2 (up2 (up2 (up2 (up2 r 6 n_r_6) 7 n_r_7) 8 n_r_8) 9 n_r_9) 10 n_r_10) 11 n_r_11) 12 n_r_12) 13 n_r_13) 14 n_r_14) (up2 (up2 (up2 q 0 n_q_0) 1 n_q_1) 2 n_q_2) (up2 (up2 (up2 gr 1 n_gr_1) 2 n_gr_2) 3 n_gr_3) ur lr mr nr ∧ fwX (tbO tb j (tf 0)) qz (tf 1) (tf 2) (tf 3) (tr 4) (tr 5) (tr 6) (tr 7) (tr 8) (tr 9) (tr 10) (tr 11) n_tr_7 ∧ (RB adjR n_q_0)) := by
  refine wr_entryI (by decide +kernel) (Nat.le_of_ble_eq_true rfl) ?_
  intro p e s m below meth c A C0 hP hK hD hA ls hl
  have hS : va_S A s.heap s.heap [] := va_S.rf
  obtain ⟨hx, hb, hml, hown, hts, hr, hlocks, hin⟩ := C0
  have hown : s.vm.findClass RX6 = some m.cls := hown
  have hDD : ∀ xf' tf' f' qf' gf' uf' lf' mf' nf' tr' r' q' gr' ur' lr' mr' nr', va_D A (xM G x xa ta a b ga ua la lb lc tg gg xf' tf' f' qf' gf' uf' lf' mf' nf' tr' r' q' gr' ur' lr' mr' nr') := fun xf' tf' f' qf' gf' uf' lf' mf' nf' tr' r' q' gr' ur' lr' mr' nr' => D_same hD rfl
  have hl : lv_has ls 3 [(0, .ref x), (1, .int tb)] := hl
  refine lv_aload_n hx hb dX6_fewest_0 rfl (lv_at hl 0 rfl) ?_
  refine lv_aload_n hx hb dX6_fewest_1 rfl (lv_at hl 0 rfl) ?_
  refine lv_iload_n hx hb dX6_fewest_2 rfl (lv_at hl 1 rfl) ?_
  refine rdV (rest := [.ref x]) (q0 := 0) ⟨hx, hb, hml, hown, hts⟩ (x_tableStatus l G x xa ta a b ga ua la lb lc tg gg xf tf f qf gf uf lf mf nf tr r q gr ur lr mr nr tb j (by omega) hjt htg) mi_yX6_tableStatus mv_yX6_tableStatus ml_X6_73 ⟨rfl, rfl, Nat.le_of_ble_eq_true rfl, Nat.le_of_ble_eq_true rfl⟩ hK (hP) rfl rfl rfl hl.1 rfl (Nat.le_of_ble_eq_true rfl) dX6_fewest_3 ⟨Nat.zero_le _, Nat.zero_le _⟩ hS hA hP (fun r1 H locs hr1 hP hS => ?_)
  have hr1 : ((r1 = 0 ∧ tbO tb j (tf 0)) ∨ (r1 = 1 ∧ ¬ tbO tb j (tf 0))) := hr1
  refine wrVIa (rest := []) (q0 := 0) ⟨hx, hb, hml, hown, hts⟩ (x_settled l G x xa ta a b ga ua la lb lc tg gg xf tf f qf gf uf lf mf nf tr r q gr ur lr mr nr r1  ) mi_yX6_settled mv_yX6_settled ml_X6_65 ⟨rfl, rfl, Nat.le_of_ble_eq_true rfl, Nat.le_of_ble_eq_true rfl⟩ hK hP (hDD _ _ _ _ _ _ _ _ _ _ _ _ _ _ _ _ _) rfl rfl rfl hl.1 rfl (Nat.le_of_ble_eq_true rfl) dX6_fewest_6 ⟨Nat.zero_le _, Nat.zero_le _⟩ hS hA (fun r2 w3 H locs hw3 hP hS => ?_)
  obtain ⟨x4, rfl, hw3r⟩ := hw3
  have hP : PP G (xM G x xa ta a b ga ua la lb lc tg gg (upd xf 0 x4) tf f qf gf uf lf mf nf tr r q gr ur lr mr nr) H := hP
  have hw3r : ((r2 = 1 ∧ ((r1 : Int32) = 0)) ∨ (r2 = 0 ∧ ¬ ((r1 : Int32) = 0))) := hw3r
  refine lv_if_ne (tgt := 14) hx hb dX6_fewest_9 (by decide) (fun c5 => ?_) (fun c5 => ?_)
  · have b9 := bT hw3r c5
    obtain ⟨ej, ho⟩ := st0 hr1 b9
    subst ej
    obtain ⟨rw, hrw, t1⟩ := hT1
    obtain ⟨cl, hcl, t2⟩ := hT2
    obtain ⟨bk, hbk, t3⟩ := hT3
    have hT1 : nL 12 (tf 1) := ⟨rw, hrw, t1⟩
    have hT2 : nL 12 (tf 2) := ⟨cl, hcl, t2⟩
    have hT3 : nL 12 (tf 3) := ⟨bk, hbk, t3⟩
    refine lv_aload_n hx hb dX6_fewest_14 rfl (lv_at hl 0 rfl) ?_
    refine va_get (D := G.1) (ci := 6) (v := .ref (a 15)) (C := RX6) (T := TX6) (N := 10) hx hb hts inX6 hown hK.1 hP 0 rfl rfl 2 (by decide) (hts _ mf_X6_22) (fun _ h9 => h9) rfl dX6_fewest_15 ?_
    refine lv_aload_n hx hb dX6_fewest_18 rfl (lv_at hl 0 rfl) ?_
    refine va_get (D := G.1) (ci := 6) (v := .ref (xa 1)) (C := RX6) (T := TX6) (N := 10) hx hb hts inX6 hown hK.1 hP 0 rfl rfl 1 (by decide) (hts _ mf_X6_15) (fun _ h9 => h9) rfl dX6_fewest_19 ?_
    refine lv_iload_n hx hb dX6_fewest_22 rfl (lv_at hl 1 rfl) ?_
    refine xaldT hx hb hK hP 1 (j) (b := (ta 0)) rfl (by omega) (by decide) rfl (htg) dX6_fewest_23 ?_
    refine lawV (rest := []) (q0 := 0) ⟨hx, hb, hml, hown, hts⟩ (e_X2_load l G a b ta f tf r tr rw cl bk hrw hcl hbk t1 t2 t3) mi_yX2_load mv_yX2_load ml_X6_184 ⟨rfl, rfl, Nat.le_of_ble_eq_true rfl, Nat.le_of_ble_eq_true rfl⟩ hK hP (hDD _ _ _ _ _ _ _ _ _ _ _ _ _ _ _ _ _) (pl_perm (xBlk G x xa ta a b ga ua la lb lc tg gg (upd xf 0 x4) tf f qf gf uf lf mf nf tr r q gr ur lr mr nr) (sel := [2, 1]) (oth := [0, 3, 4, 5, 6, 7, 8, 9]) (by decide)) rfl rfl rfl hl.1 rfl (Nat.le_of_ble_eq_true rfl) dX6_fewest_24 ⟨Nat.zero_le _, Nat.zero_le _⟩ hS hA (fun w21 H locs hw21 hP hS => ?_)
    obtain ⟨x6, x7, x8, x9, x10, x11, x12, x13, x14, x15, x16, x17, x18, x19, rfl, h0, h1, h2, h3, h4, hLD⟩ := hw21
    have hP : PP G (xM G x xa ta a b ga ua la lb lc tg gg (upd xf 0 x4) tf (upd (upd (upd (upd (upd f 0 x6) 1 x7) 2 x8) 3 x9) 4 x10) qf gf uf lf mf nf tr (up2 (up2 (up2 (up2 (up2 (up2 (up2 (up2 (up2 r 6 x11) 7 x12) 8 x13) 9 x14) 10 x15) 11 x16) 12 x17) 13 x18) 14 x19) q gr ur lr mr nr) H := (hP rfl (xM G x xa ta a b ga ua la lb lc tg gg (upd xf 0 x4) tf (upd (upd (upd (upd (upd f 0 x6) 1 x7) 2 x8) 3 x9) 4 x10) qf gf uf lf mf nf tr (up2 (up2 (up2 (up2 (up2 (up2 (up2 (up2 (up2 r 6 x11) 7 x12) 8 x13) 9 x14) 10 x15) 11 x16) 12 x17) 13 x18) 14 x19) q gr ur lr mr nr) (pl_perm (xBlk G x xa ta a b ga ua la lb lc tg gg (upd xf 0 x4) tf (upd (upd (upd (upd (upd f 0 x6) 1 x7) 2 x8) 3 x9) 4 x10) qf gf uf lf mf nf tr (up2 (up2 (up2 (up2 (up2 (up2 (up2 (up2 (up2 r 6 x11) 7 x12) 8 x13) 9 x14) 10 x15) 11 x16) 12 x17) 13 x18) 14 x19) q gr ur lr mr nr) (sel := [2, 1]) (oth := [0, 3, 4, 5, 6, 7, 8, 9]) (by decide))).1
    obtain ⟨hNC1, dn, up, hdn, hup, e3, e4⟩ := hNC ho
    have hNR := hNC1 rw cl hrw hcl t1 t2
    have hLD : LDR rw cl bk (tr 4) (tr 5) (tr 6) (tr 7) (tr 8) (tr 9) (tr 10) (tr 11) x11 x12 x13 x14 x15 x16 x17 x18 x19 := hLD
    have h0 : x6 = nI rw := h0
    have h1 : x7 = nI cl := h1
    have h2 : x8 = nI dn := h2.trans e3
    have h3 : x9 = nI up := h3.trans e4
    have hRN := (LD_rv hLD hcl hNR).1
    have hRD := LD_rd hLD hrw hcl hbk hNR
    have hSC := LD_sc hLD
    have hSS : ∀ x y, x < rw → y < cl → ¬ x15 (x * 12 + y) = 0 → ¬ x11 x = 0 := fun x y h7 h8 h9 => (hSC x y h7 h8 h9).1
    have hcs := LD_cs hLD hbk
    have hRS : RSY x11 x12 x16 rw cl (NTc (tr 6)) (LTc (tr 5) (tr 6) cl) (HTc (tr 5) (tr 6) cl) x10 (q 0) := Or.inl h4
    have hNN : ∀ x y, x < rw → y < cl → ¬ x11 x = 0 → ∃ m, m ≤ 1000000 ∧ tr 6 (x * 12 + y) = nI m := fun x y h7 h8 h9 => hNR x y h7 h8 ((LD_so hLD h7).mp h9)
    refine lv_aload_n hx hb dX6_fewest_27 rfl (lv_at hl 0 rfl) ?_
    refine va_get (D := G.1) (ci := 6) (v := .ref (ga 9)) (C := RX6) (T := TX6) (N := 10) hx hb hts inX6 hown hK.1 hP 0 rfl rfl 3 (by decide) (hts _ mf_X6_29) (fun _ h9 => h9) rfl dX6_fewest_28 ?_
    refine lv_aload_n hx hb dX6_fewest_31 rfl (lv_at hl 0 rfl) ?_
    refine va_get (D := G.1) (ci := 6) (v := .ref (xa 1)) (C := RX6) (T := TX6) (N := 10) hx hb hts inX6 hown hK.1 hP 0 rfl rfl 1 (by decide) (hts _ mf_X6_15) (fun _ h9 => h9) rfl dX6_fewest_32 ?_
    refine lv_iload_n hx hb dX6_fewest_35 rfl (lv_at hl 1 rfl) ?_
    refine xaldT hx hb hK hP 1 (j) (b := (ta 0)) rfl (by omega) (by decide) rfl (htg) dX6_fewest_36 ?_
    refine lv_aload_n hx hb dX6_fewest_37 rfl (lv_at hl 0 rfl) ?_
    refine va_get (D := G.1) (ci := 6) (v := .ref (a 15)) (C := RX6) (T := TX6) (N := 10) hx hb hts inX6 hown hK.1 hP 0 rfl rfl 2 (by decide) (hts _ mf_X6_22) (fun _ h9 => h9) rfl dX6_fewest_38 ?_
    refine wrVVa (rest := []) (q0 := 25) ⟨hx, hb, hml, hown, hts⟩ (x_X0_gather l G x xa ta a b ga ua la lb lc tg gg (upd xf 0 x4) tf (upd (upd (upd (upd (upd f 0 x6) 1 x7) 2 x8) 3 x9) 4 x10) qf gf uf lf mf nf tr (up2 (up2 (up2 (up2 (up2 (up2 (up2 (up2 (up2 r 6 x11) 7 x12) 8 x13) 9 x14) 10 x15) 11 x16) 12 x17) 13 x18) 14 x19) q gr ur lr mr nr  rw cl (by omega) (by omega) h0 h1) mi_yX0_gather mv_yX0_gather ml_X6_215 ⟨rfl, rfl, Nat.le_of_ble_eq_true rfl, Nat.le_of_ble_eq_true rfl⟩ hK hP (hDD _ _ _ _ _ _ _ _ _ _ _ _ _ _ _ _ _) rfl rfl rfl hl.1 rfl (Nat.le_of_ble_eq_true rfl) dX6_fewest_41 ⟨Nat.zero_le _, Nat.zero_le _⟩ hS hA (fun w23 H locs hw23 hP hS => ?_)
    obtain ⟨x24, x25, x26, rfl, hgm, hgc⟩ := hw23
    have hP : PP G (xM G x xa ta a b ga ua la lb lc tg gg (upd xf 0 x4) tf (upd (upd (upd (upd (upd f 0 x6) 1 x7) 2 x8) 3 x9) 4 x10) qf (upd gf 4 x24) uf lf mf nf tr (up2 (up2 (up2 (up2 (up2 (up2 (up2 (up2 (up2 r 6 x11) 7 x12) 8 x13) 9 x14) 10 x15) 11 x16) 12 x17) 13 x18) 14 x19) q (up2 (up2 gr 1 x25) 2 x26) ur lr mr nr) H := hP
    have hgm : x24 = nI (rkG (mayA x13 x15 rw cl) (12 * rw)) := hgm
    have hgc : GCH (mayA x13 x15 rw cl) (12 * rw) x25 x26 (fun x y => coR ((tr 9) 5) ((tr 6) (x * 12 + y))) := hgc
    have hrk := rk_b (M := (mayA x13 x15 rw cl)) (12 * rw)
    refine lv_aload_n hx hb dX6_fewest_44 rfl (lv_at hl 0 rfl) ?_
    refine va_get (D := G.1) (ci := 6) (v := .ref (ga 9)) (C := RX6) (T := TX6) (N := 10) hx hb hts inX6 hown hK.1 hP 0 rfl rfl 3 (by decide) (hts _ mf_X6_29) (fun _ h9 => h9) rfl dX6_fewest_45 ?_
    refine va_get (D := G.1) (ci := 0) (v := .int x24) (C := RX0) (T := TX0) (N := 9) hx hb hts inX0 hown hK.1 hP 25 rfl rfl 4 (by decide) (hts _ mf_X6_219) (fun _ h9 => h9) rfl dX6_fewest_48 ?_
    rw [show x24 = nI (rkG (mayA x13 x15 rw cl) (12 * rw)) from hgm]
    refine lv_bipush (v := 8) hx hb dX6_fewest_51 (by decide) ?_
    refine lv_icmp_le (tgt := 63) hx hb dX6_fewest_53 (by decide) (fun c27 => ?_) (fun c27 => ?_)
    · have b53 := qle_t (a := (rkG (mayA x13 x15 rw cl) (12 * rw))) (b := 8) (by omega) (by omega) c27
      have hMr : ∀ x y, (mayA x13 x15 rw cl) x y → 12 * x + y < 12 * rw ∧ rkG (mayA x13 x15 rw cl) (12 * x + y) < rkG (mayA x13 x15 rw cl) (12 * rw) := fun x y h9 => by have h8 := h9.1; have h7 := h9.2.1; exact ⟨by omega, rk_lt (by omega) h9 (by omega)⟩
      obtain ⟨q1, q2, q3⟩ := cp_of hgc (fun x y h9 => ⟨(hMr x y h9).1, hNN x y h9.1 h9.2.1 (LD_m hLD h9)⟩) (by omega) (fun x y h9 => (hMr x y h9).2)
      refine lv_aload_n hx hb dX6_fewest_63 rfl (lv_at hl 0 rfl) ?_
      refine va_get (D := G.1) (ci := 6) (v := .ref (ga 9)) (C := RX6) (T := TX6) (N := 10) hx hb hts inX6 hown hK.1 hP 0 rfl rfl 3 (by decide) (hts _ mf_X6_29) (fun _ h9 => h9) rfl dX6_fewest_64 ?_
      refine lv_aload_n hx hb dX6_fewest_67 rfl (lv_at hl 0 rfl) ?_
      refine va_get (D := G.1) (ci := 6) (v := .ref (a 15)) (C := RX6) (T := TX6) (N := 10) hx hb hts inX6 hown hK.1 hP 0 rfl rfl 2 (by decide) (hts _ mf_X6_22) (fun _ h9 => h9) rfl dX6_fewest_68 ?_
      refine wrVIa (rest := []) (q0 := 25) ⟨hx, hb, hml, hown, hts⟩ (x_X0_cheapest l G x xa ta a b ga ua la lb lc tg gg (upd xf 0 x4) tf (upd (upd (upd (upd (upd f 0 x6) 1 x7) 2 x8) 3 x9) 4 x10) qf (upd gf 4 x24) uf lf mf nf tr (up2 (up2 (up2 (up2 (up2 (up2 (up2 (up2 (up2 r 6 x11) 7 x12) 8 x13) 9 x14) 10 x15) 11 x16) 12 x17) 13 x18) 14 x19) q (up2 (up2 gr 1 x25) 2 x26) ur lr mr nr  rw cl dn up (NTc (tr 6)) (LTc (tr 5) (tr 6) cl) (HTc (tr 5) (tr 6) cl) (rkG (mayA x13 x15 rw cl) (12 * rw)) (fun k => (x26 k).toNatClampNeg) (by omega) (by omega) h0 h1 h2 h3 (by omega) (by omega) hRN hcs hSS (by omega) hgm rfl hgc hRB q1 q2) mi_yX0_cheapest mv_yX0_cheapest ml_X6_222 ⟨rfl, rfl, Nat.le_of_ble_eq_true rfl, Nat.le_of_ble_eq_true rfl⟩ hK hP (hDD _ _ _ _ _ _ _ _ _ _ _ _ _ _ _ _ _) rfl rfl rfl hl.1 rfl (Nat.le_of_ble_eq_true rfl) dX6_fewest_71 ⟨Nat.zero_le _, Nat.zero_le _⟩ hS hA (fun r28 w29 H locs hw29 hP hS => ?_)
      obtain ⟨x30, x31, x32, x33, x34, x35, x36, x37, x38, x39, rfl, hw29r, hRB⟩ := hw29
      have hP : PP G (xM G x xa ta a b ga ua la lb lc tg gg (upd xf 0 x4) tf (upd (upd (upd (upd (upd f 0 x6) 1 x7) 2 x8) 3 x9) 4 x30) (upd qf 3 x37) (upd (upd (upd gf 4 x24) 5 x31) 6 x32) uf lf mf nf tr (up2 (up2 (up2 (up2 (up2 (up2 (up2 (up2 (up2 r 6 x11) 7 x12) 8 x13) 9 x14) 10 x15) 11 x38) 12 x39) 13 x18) 14 x19) (up2 (up2 (up2 q 0 x34) 1 x35) 2 x36) (up2 (up2 (up2 gr 1 x25) 2 x26) 3 x33) ur lr mr nr) H := hP
      have hRB : RB adjR x34 := hRB
      have hw29r : ((r28 = -1 ∧ ∀ s, s < 2 ^ (rkG (mayA x13 x15 rw cl) (12 * rw)) → ¬ (GRD rw cl (UNG rw cl (fun x => ¬ x11 x = 0) x12 (secA x15) (LTc (tr 5) (tr 6) cl) (HTc (tr 5) (tr 6) cl) (NTc (tr 6)) dn up) (secA x15) (mayA x13 x15 rw cl) (rkG (mayA x13 x15 rw cl) (12 * rw))) s) ∨ ∃ b9, r28 = nI b9 ∧ LSG (fun k => (x26 k).toNatClampNeg) (rkG (mayA x13 x15 rw cl) (12 * rw)) (GRD rw cl (UNG rw cl (fun x => ¬ x11 x = 0) x12 (secA x15) (LTc (tr 5) (tr 6) cl) (HTc (tr 5) (tr 6) cl) (NTc (tr 6)) dn up) (secA x15) (mayA x13 x15 rw cl) (rkG (mayA x13 x15 rw cl) (12 * rw))) b9 ∧ ∀ s, s < 2 ^ (rkG (mayA x13 x15 rw cl) (12 * rw)) → x33 s = nI (prc (fun k => (x26 k).toNatClampNeg) (rkG (mayA x13 x15 rw cl) (12 * rw)) s)) := hw29r
      refine lv_istore_n (lv' := [(2, .int r28), (0, .ref x), (1, .int (nI j))]) hx hb dX6_fewest_74 rfl hl (by decide) rfl (fun ls hl => ?_)
      refine lv_iload_n hx hb dX6_fewest_75 rfl (lv_at hl 0 rfl) ?_
      refine lv_iconst (v := -1) hx hb dX6_fewest_76 (by decide) ?_
      refine lv_icmp_ne (tgt := 87) hx hb dX6_fewest_77 (by decide) (fun c40 => ?_) (fun c40 => ?_)
      · obtain ⟨bz, ez, hls, hpr⟩ := hw29r.resolve_left (fun z9 => c40 z9.1)
        subst ez
        have hbz := hls.1
        have h256 := p2_le (rkG (mayA x13 x15 rw cl) (12 * rw)) (by omega)
        refine lv_aload_n hx hb dX6_fewest_87 rfl (lv_at hl 1 rfl) ?_
        refine va_get (D := G.1) (ci := 6) (v := .ref (ga 9)) (C := RX6) (T := TX6) (N := 10) hx hb hts inX6 hown hK.1 hP 0 rfl rfl 3 (by decide) (hts _ mf_X6_29) (fun _ h9 => h9) rfl dX6_fewest_88 ?_
        refine lv_aload_n hx hb dX6_fewest_91 rfl (lv_at hl 1 rfl) ?_
        refine va_get (D := G.1) (ci := 6) (v := .ref (xa 1)) (C := RX6) (T := TX6) (N := 10) hx hb hts inX6 hown hK.1 hP 0 rfl rfl 1 (by decide) (hts _ mf_X6_15) (fun _ h9 => h9) rfl dX6_fewest_92 ?_
        refine lv_iload_n hx hb dX6_fewest_95 rfl (lv_at hl 2 rfl) ?_
        refine xaldT hx hb hK hP 1 (j) (b := (ta 0)) rfl (by omega) (by decide) rfl (htg) dX6_fewest_96 ?_
        refine lv_iload_n hx hb dX6_fewest_97 rfl (lv_at hl 0 rfl) ?_
        refine wrVVa (rest := []) (q0 := 25) ⟨hx, hb, hml, hown, hts⟩ (x_X0_tell l G x xa ta a b ga ua la lb lc tg gg (upd xf 0 x4) tf (upd (upd (upd (upd (upd f 0 x6) 1 x7) 2 x8) 3 x9) 4 x30) (upd qf 3 x37) (upd (upd (upd gf 4 x24) 5 x31) 6 x32) uf lf mf nf tr (up2 (up2 (up2 (up2 (up2 (up2 (up2 (up2 (up2 r 6 x11) 7 x12) 8 x13) 9 x14) 10 x15) 11 x38) 12 x39) 13 x18) 14 x19) (up2 (up2 (up2 q 0 x34) 1 x35) 2 x36) (up2 (up2 (up2 gr 1 x25) 2 x26) 3 x33) ur lr mr nr bz rw cl (rkG (mayA x13 x15 rw cl) (12 * rw)) (by omega) (by omega) (by omega) hgm rfl hgc) mi_yX0_tell mv_yX0_tell ml_X6_226 ⟨rfl, rfl, Nat.le_of_ble_eq_true rfl, Nat.le_of_ble_eq_true rfl⟩ hK hP (hDD _ _ _ _ _ _ _ _ _ _ _ _ _ _ _ _ _) rfl rfl rfl hl.1 rfl (Nat.le_of_ble_eq_true rfl) dX6_fewest_98 ⟨Nat.zero_le _, Nat.zero_le _⟩ hS hA (fun w42 H locs hw42 hP hS => ?_)
        obtain ⟨x43, rfl, htg⟩ := hw42
        have hP : PP G (xM G x xa ta a b ga ua la lb lc tg gg (upd xf 0 x4) tf (upd (upd (upd (upd (upd f 0 x6) 1 x7) 2 x8) 3 x9) 4 x30) (upd qf 3 x37) (upd (upd (upd gf 4 x24) 5 x31) 6 x32) uf lf mf nf (up2 tr 7 x43) (up2 (up2 (up2 (up2 (up2 (up2 (up2 (up2 (up2 r 6 x11) 7 x12) 8 x13) 9 x14) 10 x15) 11 x38) 12 x39) 13 x18) 14 x19) (up2 (up2 (up2 q 0 x34) 1 x35) 2 x36) (up2 (up2 (up2 gr 1 x25) 2 x26) 3 x33) ur lr mr nr) H := hP
        have htg : ∀ x y, x < 12 → y < 12 → x43 (x * 12 + y) = tgF (tr 7) (pB ((mayA x13 x15 rw cl) x y ∧ bt (nI bz) ((rkG (mayA x13 x15 rw cl) (12 * rw)) - 1 - rkG (mayA x13 x15 rw cl) (12 * x + y)) = true)) (x * 12 + y) := htg
        have htg9 := htg
        refine lv_aload_n hx hb dX6_fewest_101 rfl (lv_at hl 1 rfl) ?_
        refine va_get (D := G.1) (ci := 6) (v := .ref (ga 9)) (C := RX6) (T := TX6) (N := 10) hx hb hts inX6 hown hK.1 hP 0 rfl rfl 3 (by decide) (hts _ mf_X6_29) (fun _ h9 => h9) rfl dX6_fewest_102 ?_
        refine va_get (D := G.1) (ci := 0) (v := .ref (ga 3)) (C := RX0) (T := TX0) (N := 9) hx hb hts inX0 hown hK.1 hP 25 rfl rfl 3 (by decide) (hts _ mf_X6_229) (fun _ h9 => h9) rfl dX6_fewest_105 ?_
        refine lv_iload_n hx hb dX6_fewest_108 rfl (lv_at hl 0 rfl) ?_
        refine xiald (f := x33) hx hb hK hP 29 (bz) (rfl) (by omega) (by decide) rfl dX6_fewest_109 ?_
        refine lv_topi (fun v44 ev44 => ?_)
        obtain rfl : v44 = nI (prc (fun k => (x26 k).toNatClampNeg) (rkG (mayA x13 x15 rw cl) (12 * rw)) bz) := ev44.trans (hpr bz hbz)
        exact wr_iret hx hb hr hlocks hS hP ⟨x6, x7, x8, x9, x30, x24, x31, x32, x25, x26, x33, x34, x35, x36, x37, x11, x12, x13, x14, x15, x38, x39, x18, x19, x43, x4, rfl, (Or.inr ⟨⟨rfl, ho⟩, ⟨rw, cl, bk, dn, up, x11, x12, x13, x14, x15, x16, x17, x18, x19, hrw, hcl, hbk, t1, t2, t3, e3, e4, hdn, hup, hNR, hLD, Or.inr ⟨_, (fun k => (x26 k).toNatClampNeg), rfl, by omega, q3, Or.inl ⟨bz, hls, rfl, htg9⟩⟩⟩⟩), hRB⟩ dX6_fewest_110
      · have hnl := (hw29r.resolve_right (fun ⟨b8, h8, h7, _⟩ => absurd (h8.symm.trans c40) (nI_nm1 (by have h6 := h7.1; have h5 := p2_le (rkG (mayA x13 x15 rw cl) (12 * rw)) (by omega); omega)))).2
        refine lv_aload_n hx hb dX6_fewest_80 rfl (lv_at hl 1 rfl) ?_
        refine lv_bipush (v := 10) hx hb dX6_fewest_81 (by decide) ?_
        refine wrVIa (rest := []) (q0 := 0) ⟨hx, hb, hml, hown, hts⟩ (x_refused l G x xa ta a b ga ua la lb lc tg gg (upd xf 0 x4) tf (upd (upd (upd (upd (upd f 0 x6) 1 x7) 2 x8) 3 x9) 4 x30) (upd qf 3 x37) (upd (upd (upd gf 4 x24) 5 x31) 6 x32) uf lf mf nf tr (up2 (up2 (up2 (up2 (up2 (up2 (up2 (up2 (up2 r 6 x11) 7 x12) 8 x13) 9 x14) 10 x15) 11 x38) 12 x39) 13 x18) 14 x19) (up2 (up2 (up2 q 0 x34) 1 x35) 2 x36) (up2 (up2 (up2 gr 1 x25) 2 x26) 3 x33) ur lr mr nr 10  ) mi_yX6_refused mv_yX6_refused ml_X6_122 ⟨rfl, rfl, Nat.le_of_ble_eq_true rfl, Nat.le_of_ble_eq_true rfl⟩ hK hP (hDD _ _ _ _ _ _ _ _ _ _ _ _ _ _ _ _ _) rfl rfl rfl hl.1 rfl (Nat.le_of_ble_eq_true rfl) dX6_fewest_83 ⟨Nat.zero_le _, Nat.zero_le _⟩ hS hA (fun r45 w46 H locs hw46 hP hS => ?_)
        obtain ⟨x47, rfl, hw46r⟩ := hw46
        have hP : PP G (xM G x xa ta a b ga ua la lb lc tg gg (upd xf 0 x47) tf (upd (upd (upd (upd (upd f 0 x6) 1 x7) 2 x8) 3 x9) 4 x30) (upd qf 3 x37) (upd (upd (upd gf 4 x24) 5 x31) 6 x32) uf lf mf nf tr (up2 (up2 (up2 (up2 (up2 (up2 (up2 (up2 (up2 r 6 x11) 7 x12) 8 x13) 9 x14) 10 x15) 11 x38) 12 x39) 13 x18) 14 x19) (up2 (up2 (up2 q 0 x34) 1 x35) 2 x36) (up2 (up2 (up2 gr 1 x25) 2 x26) 3 x33) ur lr mr nr) H := hP
        obtain rfl := hw46r
        exact wr_iret hx hb hr hlocks hS hP ⟨x6, x7, x8, x9, x30, x24, x31, x32, x25, x26, x33, x34, x35, x36, x37, x11, x12, x13, x14, x15, x38, x39, x18, x19, (tr 7), x47, rfl, (Or.inr ⟨⟨rfl, ho⟩, ⟨rw, cl, bk, dn, up, x11, x12, x13, x14, x15, x16, x17, x18, x19, hrw, hcl, hbk, t1, t2, t3, e3, e4, hdn, hup, hNR, hLD, Or.inr ⟨_, (fun k => (x26 k).toNatClampNeg), rfl, by omega, q3, Or.inr ⟨hnl, rfl, rfl⟩⟩⟩⟩), hRB⟩ dX6_fewest_86
    · have b53 := qle_f (a := (rkG (mayA x13 x15 rw cl) (12 * rw))) (b := 8) (by omega) (by omega) c27
      refine lv_aload_n hx hb dX6_fewest_56 rfl (lv_at hl 0 rfl) ?_
      refine lv_bipush (v := 8) hx hb dX6_fewest_57 (by decide) ?_
      refine wrVIa (rest := []) (q0 := 0) ⟨hx, hb, hml, hown, hts⟩ (x_refused l G x xa ta a b ga ua la lb lc tg gg (upd xf 0 x4) tf (upd (upd (upd (upd (upd f 0 x6) 1 x7) 2 x8) 3 x9) 4 x10) qf (upd gf 4 x24) uf lf mf nf tr (up2 (up2 (up2 (up2 (up2 (up2 (up2 (up2 (up2 r 6 x11) 7 x12) 8 x13) 9 x14) 10 x15) 11 x16) 12 x17) 13 x18) 14 x19) q (up2 (up2 gr 1 x25) 2 x26) ur lr mr nr 8  ) mi_yX6_refused mv_yX6_refused ml_X6_122 ⟨rfl, rfl, Nat.le_of_ble_eq_true rfl, Nat.le_of_ble_eq_true rfl⟩ hK hP (hDD _ _ _ _ _ _ _ _ _ _ _ _ _ _ _ _ _) rfl rfl rfl hl.1 rfl (Nat.le_of_ble_eq_true rfl) dX6_fewest_59 ⟨Nat.zero_le _, Nat.zero_le _⟩ hS hA (fun r48 w49 H locs hw49 hP hS => ?_)
      obtain ⟨x50, rfl, hw49r⟩ := hw49
      have hP : PP G (xM G x xa ta a b ga ua la lb lc tg gg (upd xf 0 x50) tf (upd (upd (upd (upd (upd f 0 x6) 1 x7) 2 x8) 3 x9) 4 x10) qf (upd gf 4 x24) uf lf mf nf tr (up2 (up2 (up2 (up2 (up2 (up2 (up2 (up2 (up2 r 6 x11) 7 x12) 8 x13) 9 x14) 10 x15) 11 x16) 12 x17) 13 x18) 14 x19) q (up2 (up2 gr 1 x25) 2 x26) ur lr mr nr) H := hP
      obtain rfl := hw49r
      exact wr_iret hx hb hr hlocks hS hP ⟨x6, x7, x8, x9, x10, x24, (gf 5), (gf 6), x25, x26, (gr 3), (q 0), (q 1), (q 2), (qf 3), x11, x12, x13, x14, x15, x16, x17, x18, x19, (tr 7), x50, rfl, (Or.inr ⟨⟨rfl, ho⟩, ⟨rw, cl, bk, dn, up, x11, x12, x13, x14, x15, x16, x17, x18, x19, hrw, hcl, hbk, t1, t2, t3, e3, e4, hdn, hup, hNR, hLD, Or.inl ⟨by omega, rfl, rfl⟩⟩⟩), hRB⟩ dX6_fewest_62
  · have b9 := bF hw3r c5
    refine lv_iconst (v := -1) hx hb dX6_fewest_12 (by decide) ?_
    exact wr_iret hx hb hr hlocks hS hP ⟨(f 0), (f 1), (f 2), (f 3), (f 4), (gf 4), (gf 5), (gf 6), (gr 1), (gr 2), (gr 3), (q 0), (q 1), (q 2), (qf 3), (r 6), (r 7), (r 8), (r 9), (r 10), (r 11), (r 12), (r 13), (r 14), (tr 7), x4, rfl, (Or.inl ⟨st1 hr1 b9, rfl, rfl⟩), hRB⟩ dX6_fewest_13
set_option maxHeartbeats 4000000 in
set_option maxRecDepth 100000 in
theorem y_safe (l : Launch) (G : GG) (x : Nat) (xa ta a b ga ua la lb lc : Nat → Nat) (tg gg : Nat → Option Nat) (xf tf f qf gf uf lf mf nf : Nat → Int32) (tr r q gr ur lr mr nr : Nat → Nat → Int32) (tb : Int32) (row : Int32) (col : Int32) (j : Nat) (hj : j < 6) (hjt : tbJ tb j) (htg : tg j = some (ta 0)) (hT1 : nL 12 (tf 1)) (hT2 : nL 12 (tf 2)) (hT3 : nL 12 (tf 3)) (hT4 : nOK 12 12 (tr 4)) (hNC : ¬ (tf 0) = 0 → (∀ rw cl, rw ≤ 12 → cl ≤ 12 → (tf 1) = nI rw → (tf 2) = nI cl → NRC rw cl (tr 4) (tr 5) (tr 6)) ∧ ∃ dn up, dn ≤ 1000000 ∧ up ≤ 1000000 ∧ (tr 9) 3 = nI dn ∧ (tr 9) 4 = nI up) (hRB : RB adjR (q 0)) : WrI l yX6_safe cX6_safe 4 (some .int) ({ frames := 6, cells := 0, slots := 0, locals := 141 }) G (xM G x xa ta a b ga ua la lb lc tg gg xf tf f qf gf uf lf mf nf tr r q gr ur lr mr nr) [.ref x, .int tb, .int row, .int col] (fun qz w => ∃ (n_f_0 : Int32) (n_f_1 : Int32) (n_f_2 : Int32) (n_f_3 : Int32) (n_f_4 : Int32) (n_q_0 : Nat → Int32) (n_q_1 : Nat → Int32) (n_q_2 : Nat → Int32) (n_qf_3 : Int32) (n_r_6 : Nat → Int32) (n_r_7 : Nat → Int32) (n_r_8 : Nat → Int32) (n_r_9 : Nat → Int32) (n_r_10 : Nat → Int32) (n_r_11 : Nat → Int32) (n_r_12 : Nat → Int32) (n_r_13 : Nat → Int32) (n_r_14 : Nat → Int32) (n_xf_0 : Int32), w = xM G x xa ta a b ga ua la lb lc tg gg (upd xf 0 n_xf_0) tf (upd (upd (upd (upd (upd f 0 n_f_0) 1 n_f_1) 2 n_f_2) 3 n_f_3) 4 n_f_4) (upd qf 3 n_qf_3) gf uf lf mf nf tr (up2 (up2 (up2 (up2 (up2 (up2 (up2 (up2 (up2 r 6 n_r_6) 7 n_r_7) 8 n_r_8) 9 n_r_9) 10 n_r_10) 11 n_r_11) 12 n_r_12) 13 n_r_13) 14 n_r_14) (up2 (up2 (up2 q 0 n_q_0) 1 n_q_1) 2 n_q_2) gr ur lr mr nr ∧ atP (stX (tbO tb j (tf 0)) (tf 1) (tf 2) (tr 4) row col) row col (fun i k => sv ((¬ (tr 5) (i * 12 + k) = 0 ∧ ¬ (tr 5) (i * 12 + k) = 5) ∧ sndP ((tf 2)).toNatClampNeg (tr 4) (tr 5) i) (sfX qz (tf 1) (tf 2) (tf 3) (tr 4) (tr 5) (tr 6) (tr 7) (tr 8) (tr 9) (tr 10) (tr 11) i k) (qz = -1)) (qz = -1) ∧ (RB adjR n_q_0)) := by
  refine wr_entryI (by decide +kernel) (Nat.le_of_ble_eq_true rfl) ?_
  intro p e s m below meth c A C0 hP hK hD hA ls hl
  have hS : va_S A s.heap s.heap [] := va_S.rf
  obtain ⟨hx, hb, hml, hown, hts, hr, hlocks, hin⟩ := C0
  have hown : s.vm.findClass RX6 = some m.cls := hown
  have hDD : ∀ xf' tf' f' qf' gf' uf' lf' mf' nf' tr' r' q' gr' ur' lr' mr' nr', va_D A (xM G x xa ta a b ga ua la lb lc tg gg xf' tf' f' qf' gf' uf' lf' mf' nf' tr' r' q' gr' ur' lr' mr' nr') := fun xf' tf' f' qf' gf' uf' lf' mf' nf' tr' r' q' gr' ur' lr' mr' nr' => D_same hD rfl
  have hl : lv_has ls 4 [(0, .ref x), (1, .int tb), (2, .int row), (3, .int col)] := hl
  refine lv_aload_n hx hb dX6_safe_0 rfl (lv_at hl 0 rfl) ?_
  refine lv_aload_n hx hb dX6_safe_1 rfl (lv_at hl 0 rfl) ?_
  refine lv_iload_n hx hb dX6_safe_2 rfl (lv_at hl 1 rfl) ?_
  refine lv_iload_n hx hb dX6_safe_3 rfl (lv_at hl 2 rfl) ?_
  refine lv_iload_n hx hb dX6_safe_4 rfl (lv_at hl 3 rfl) ?_
  refine rdV (rest := [.ref x]) (q0 := 0) ⟨hx, hb, hml, hown, hts⟩ (x_soundCellStatus l G x xa ta a b ga ua la lb lc tg gg xf tf f qf gf uf lf mf nf tr r q gr ur lr mr nr tb row col j (by omega) hjt htg hT1 hT2 hT3) mi_yX6_soundCellStatus mv_yX6_soundCellStatus ml_X6_165 ⟨rfl, rfl, Nat.le_of_ble_eq_true rfl, Nat.le_of_ble_eq_true rfl⟩ hK (hP) rfl rfl rfl hl.1 rfl (Nat.le_of_ble_eq_true rfl) dX6_safe_5 ⟨Nat.zero_le _, Nat.zero_le _⟩ hS hA hP (fun r1 H locs hr1 hP hS => ?_)
  have hr1 : stK (stX (tbO tb j (tf 0)) (tf 1) (tf 2) (tr 4) row col) row col (fun i k => kfS ((tr 5) (i * 12 + k)) (sndP ((tf 2)).toNatClampNeg (tr 4) (tr 5) i)) r1 := hr1
  refine wrVIa (rest := []) (q0 := 0) ⟨hx, hb, hml, hown, hts⟩ (x_settled l G x xa ta a b ga ua la lb lc tg gg xf tf f qf gf uf lf mf nf tr r q gr ur lr mr nr r1  ) mi_yX6_settled mv_yX6_settled ml_X6_65 ⟨rfl, rfl, Nat.le_of_ble_eq_true rfl, Nat.le_of_ble_eq_true rfl⟩ hK hP (hDD _ _ _ _ _ _ _ _ _ _ _ _ _ _ _ _ _) rfl rfl rfl hl.1 rfl (Nat.le_of_ble_eq_true rfl) dX6_safe_8 ⟨Nat.zero_le _, Nat.zero_le _⟩ hS hA (fun r2 w3 H locs hw3 hP hS => ?_)
  obtain ⟨x4, rfl, hw3r⟩ := hw3
  have hP : PP G (xM G x xa ta a b ga ua la lb lc tg gg (upd xf 0 x4) tf f qf gf uf lf mf nf tr r q gr ur lr mr nr) H := hP
  have hw3r : ((r2 = 1 ∧ ((r1 : Int32) = 0)) ∨ (r2 = 0 ∧ ¬ ((r1 : Int32) = 0))) := hw3r
  refine lv_if_ne (tgt := 16) hx hb dX6_safe_11 (by decide) (fun c5 => ?_) (fun c5 => ?_)
  · have b11 := bT hw3r c5
    have hs0 := stK_0 hr1 b11
    obtain ⟨⟨ej, ho⟩, q1, q2⟩ := stX_0 hs0 rfl
    subst ej
    have q1c := q1
    have q2c := q2
    obtain ⟨rw, hrw, t1⟩ := hT1
    obtain ⟨cl, hcl, t2⟩ := hT2
    obtain ⟨bk, hbk, t3⟩ := hT3
    have hT1 : nL 12 (tf 1) := ⟨rw, hrw, t1⟩
    have hT2 : nL 12 (tf 2) := ⟨cl, hcl, t2⟩
    have hT3 : nL 12 (tf 3) := ⟨bk, hbk, t3⟩
    rw [t1] at q1c
    rw [t2] at q2c
    obtain ⟨i, hi, ei⟩ := inR_n (by omega) q1c
    subst ei
    obtain ⟨k, hk, ek⟩ := inR_n (by omega) q2c
    subst ek
    have hkk := stK_k hr1 b11 (show i < 12 by omega) (show k < 12 by omega) rfl rfl
    refine lv_aload_n hx hb dX6_safe_16 rfl (lv_at hl 0 rfl) ?_
    refine va_get (D := G.1) (ci := 6) (v := .ref (a 15)) (C := RX6) (T := TX6) (N := 10) hx hb hts inX6 hown hK.1 hP 0 rfl rfl 2 (by decide) (hts _ mf_X6_22) (fun _ h9 => h9) rfl dX6_safe_17 ?_
    refine lv_aload_n hx hb dX6_safe_20 rfl (lv_at hl 0 rfl) ?_
    refine va_get (D := G.1) (ci := 6) (v := .ref (xa 1)) (C := RX6) (T := TX6) (N := 10) hx hb hts inX6 hown hK.1 hP 0 rfl rfl 1 (by decide) (hts _ mf_X6_15) (fun _ h9 => h9) rfl dX6_safe_21 ?_
    refine lv_iload_n hx hb dX6_safe_24 rfl (lv_at hl 1 rfl) ?_
    refine xaldT hx hb hK hP 1 (j) (b := (ta 0)) rfl (by omega) (by decide) rfl (htg) dX6_safe_25 ?_
    refine lawV (rest := []) (q0 := 0) ⟨hx, hb, hml, hown, hts⟩ (e_X2_load l G a b ta f tf r tr rw cl bk hrw hcl hbk t1 t2 t3) mi_yX2_load mv_yX2_load ml_X6_184 ⟨rfl, rfl, Nat.le_of_ble_eq_true rfl, Nat.le_of_ble_eq_true rfl⟩ hK hP (hDD _ _ _ _ _ _ _ _ _ _ _ _ _ _ _ _ _) (pl_perm (xBlk G x xa ta a b ga ua la lb lc tg gg (upd xf 0 x4) tf f qf gf uf lf mf nf tr r q gr ur lr mr nr) (sel := [2, 1]) (oth := [0, 3, 4, 5, 6, 7, 8, 9]) (by decide)) rfl rfl rfl hl.1 rfl (Nat.le_of_ble_eq_true rfl) dX6_safe_26 ⟨Nat.zero_le _, Nat.zero_le _⟩ hS hA (fun w21 H locs hw21 hP hS => ?_)
    obtain ⟨x6, x7, x8, x9, x10, x11, x12, x13, x14, x15, x16, x17, x18, x19, rfl, h0, h1, h2, h3, h4, hLD⟩ := hw21
    have hP : PP G (xM G x xa ta a b ga ua la lb lc tg gg (upd xf 0 x4) tf (upd (upd (upd (upd (upd f 0 x6) 1 x7) 2 x8) 3 x9) 4 x10) qf gf uf lf mf nf tr (up2 (up2 (up2 (up2 (up2 (up2 (up2 (up2 (up2 r 6 x11) 7 x12) 8 x13) 9 x14) 10 x15) 11 x16) 12 x17) 13 x18) 14 x19) q gr ur lr mr nr) H := (hP rfl (xM G x xa ta a b ga ua la lb lc tg gg (upd xf 0 x4) tf (upd (upd (upd (upd (upd f 0 x6) 1 x7) 2 x8) 3 x9) 4 x10) qf gf uf lf mf nf tr (up2 (up2 (up2 (up2 (up2 (up2 (up2 (up2 (up2 r 6 x11) 7 x12) 8 x13) 9 x14) 10 x15) 11 x16) 12 x17) 13 x18) 14 x19) q gr ur lr mr nr) (pl_perm (xBlk G x xa ta a b ga ua la lb lc tg gg (upd xf 0 x4) tf (upd (upd (upd (upd (upd f 0 x6) 1 x7) 2 x8) 3 x9) 4 x10) qf gf uf lf mf nf tr (up2 (up2 (up2 (up2 (up2 (up2 (up2 (up2 (up2 r 6 x11) 7 x12) 8 x13) 9 x14) 10 x15) 11 x16) 12 x17) 13 x18) 14 x19) q gr ur lr mr nr) (sel := [2, 1]) (oth := [0, 3, 4, 5, 6, 7, 8, 9]) (by decide))).1
    obtain ⟨hNC1, dn, up, hdn, hup, e3, e4⟩ := hNC ho
    have hNR := hNC1 rw cl hrw hcl t1 t2
    have hLD : LDR rw cl bk (tr 4) (tr 5) (tr 6) (tr 7) (tr 8) (tr 9) (tr 10) (tr 11) x11 x12 x13 x14 x15 x16 x17 x18 x19 := hLD
    have h0 : x6 = nI rw := h0
    have h1 : x7 = nI cl := h1
    have h2 : x8 = nI dn := h2.trans e3
    have h3 : x9 = nI up := h3.trans e4
    have hRN := (LD_rv hLD hcl hNR).1
    have hRD := LD_rd hLD hrw hcl hbk hNR
    have hSC := LD_sc hLD
    have hSS : ∀ x y, x < rw → y < cl → ¬ x15 (x * 12 + y) = 0 → ¬ x11 x = 0 := fun x y h7 h8 h9 => (hSC x y h7 h8 h9).1
    have hcs := LD_cs hLD hbk
    have hRS : RSY x11 x12 x16 rw cl (NTc (tr 6)) (LTc (tr 5) (tr 6) cl) (HTc (tr 5) (tr 6) cl) x10 (q 0) := Or.inl h4
    have hNN : ∀ x y, x < rw → y < cl → ¬ x11 x = 0 → ∃ m, m ≤ 1000000 ∧ tr 6 (x * 12 + y) = nI m := fun x y h7 h8 h9 => hNR x y h7 h8 ((LD_so hLD h7).mp h9)
    refine lv_aload_n hx hb dX6_safe_29 rfl (lv_at hl 0 rfl) ?_
    refine va_get (D := G.1) (ci := 6) (v := .ref (a 15)) (C := RX6) (T := TX6) (N := 10) hx hb hts inX6 hown hK.1 hP 0 rfl rfl 2 (by decide) (hts _ mf_X6_22) (fun _ h9 => h9) rfl dX6_safe_30 ?_
    refine lv_iload_n hx hb dX6_safe_33 rfl (lv_at hl 2 rfl) ?_
    refine lv_iload_n hx hb dX6_safe_34 rfl (lv_at hl 3 rfl) ?_
    have hsi : ¬ x11 i = 0 := (LD_so hLD hi).mpr (by have h9 := (kfS_i hkk).2; rw [t2, nI_clamp (by omega)] at h9; exact h9)
    have hn9 := hRN i k hi hk hsi
    refine lawI (rest := []) (q0 := 0) ⟨hx, hb, hml, hown, hts⟩ (e_X2_isSafe l G a b (upd (upd (upd (upd (upd f 0 x6) 1 x7) 2 x8) 3 x9) 4 x10) qf (up2 (up2 (up2 (up2 (up2 (up2 (up2 (up2 (up2 r 6 x11) 7 x12) 8 x13) 9 x14) 10 x15) 11 x16) 12 x17) 13 x18) 14 x19) q i k rw cl dn up (NTc (tr 6)) (NTc (tr 6)) (LTc (tr 5) (tr 6) cl) (HTc (tr 5) (tr 6) cl) hi hk hsi h0 h1 h2 h3 hdn hup hn9.1 (by omega) hRD hRS hRB) mi_yX2_isSafe mv_yX2_isSafe ml_X6_188 ⟨rfl, rfl, Nat.le_of_ble_eq_true rfl, Nat.le_of_ble_eq_true rfl⟩ hK hP (hDD _ _ _ _ _ _ _ _ _ _ _ _ _ _ _ _ _) (pl_perm (xBlk G x xa ta a b ga ua la lb lc tg gg (upd xf 0 x4) tf (upd (upd (upd (upd (upd f 0 x6) 1 x7) 2 x8) 3 x9) 4 x10) qf gf uf lf mf nf tr (up2 (up2 (up2 (up2 (up2 (up2 (up2 (up2 (up2 r 6 x11) 7 x12) 8 x13) 9 x14) 10 x15) 11 x16) 12 x17) 13 x18) 14 x19) q gr ur lr mr nr) (sel := [2, 3]) (oth := [0, 1, 4, 5, 6, 7, 8, 9]) (by decide)) rfl rfl rfl hl.1 rfl (Nat.le_of_ble_eq_true rfl) dX6_safe_35 ⟨Nat.zero_le _, Nat.zero_le _⟩ hS hA (fun r28 w29 H locs hw29 hP hS => ?_)
    obtain ⟨x22, x23, x24, x25, x26, x27, V3, rfl, hsf, hRD, hRS, hRB⟩ := hw29
    have hP : PP G (xM G x xa ta a b ga ua la lb lc tg gg (upd xf 0 x4) tf (upd (upd (upd (upd (upd f 0 x6) 1 x7) 2 x8) 3 x9) 4 x22) (upd qf 3 x26) gf uf lf mf nf tr (up2 (up2 (up2 (up2 (up2 (up2 (up2 (up2 (up2 r 6 x11) 7 x12) 8 x13) 9 x14) 10 x15) 11 x16) 12 x27) 13 x18) 14 x19) (up2 (up2 (up2 q 0 x23) 1 x24) 2 x25) gr ur lr mr nr) H := (hP rfl (xM G x xa ta a b ga ua la lb lc tg gg (upd xf 0 x4) tf (upd (upd (upd (upd (upd f 0 x6) 1 x7) 2 x8) 3 x9) 4 x22) (upd qf 3 x26) gf uf lf mf nf tr (up2 (up2 (up2 (up2 (up2 (up2 (up2 (up2 (up2 r 6 x11) 7 x12) 8 x13) 9 x14) 10 x15) 11 x16) 12 x27) 13 x18) 14 x19) (up2 (up2 (up2 q 0 x23) 1 x24) 2 x25) gr ur lr mr nr) (pl_perm (xBlk G x xa ta a b ga ua la lb lc tg gg (upd xf 0 x4) tf (upd (upd (upd (upd (upd f 0 x6) 1 x7) 2 x8) 3 x9) 4 x22) (upd qf 3 x26) gf uf lf mf nf tr (up2 (up2 (up2 (up2 (up2 (up2 (up2 (up2 (up2 r 6 x11) 7 x12) 8 x13) 9 x14) 10 x15) 11 x16) 12 x27) 13 x18) 14 x19) (up2 (up2 (up2 q 0 x23) 1 x24) 2 x25) gr ur lr mr nr) (sel := [2, 3]) (oth := [0, 1, 4, 5, 6, 7, 8, 9]) (by decide))).1
    have hsg : (r28 = 1 ∧ SFG rw cl (fun x => ¬ x11 x = 0) x12 (LTc (tr 5) (tr 6) cl) (HTc (tr 5) (tr 6) cl) (NTc (tr 6)) dn up (KA x16) i k) ∨ (r28 = 0 ∧ ¬ SFG rw cl (fun x => ¬ x11 x = 0) x12 (LTc (tr 5) (tr 6) cl) (HTc (tr 5) (tr 6) cl) (NTc (tr 6)) dn up (KA x16) i k) := hsf.imp (fun z9 => ⟨z9.1, (SF_c (fun _ _ _ _ => rfl)).mp z9.2⟩) (fun z9 => ⟨z9.1, fun y9 => z9.2 ((SF_c (fun _ _ _ _ => rfl)).mpr y9)⟩)
    refine lv_if_eq (tgt := 45) hx hb dX6_safe_38 (by decide) (fun c30 => ?_) (fun c30 => ?_)
    · have b38 := bF hsg c30
      refine lv_iconst (v := 0) hx hb dX6_safe_45 (by decide) ?_
      exact wr_iret hx hb hr hlocks hS hP ⟨x6, x7, x8, x9, x22, x23, x24, x25, x26, x11, x12, x13, x14, x15, x16, x27, x18, x19, x4, rfl, Or.inr ⟨hs0, i, k, by omega, by omega, rfl, rfl, Or.inl ⟨kfS_i hkk, ⟨rw, cl, bk, dn, up, x11, x12, x13, x14, x15, x16, x17, x18, x19, hrw, hcl, hbk, t1, t2, t3, e3, e4, hdn, hup, hNR, hLD, Or.inr ⟨rfl, b38⟩⟩⟩⟩, hRB⟩ dX6_safe_46
    · have b38 := bT hsg c30
      refine lv_iconst (v := 1) hx hb dX6_safe_41 (by decide) ?_
      refine lv_goto (tgt := 46) hx hb dX6_safe_42 (by decide) ?_
      exact wr_iret hx hb hr hlocks hS hP ⟨x6, x7, x8, x9, x22, x23, x24, x25, x26, x11, x12, x13, x14, x15, x16, x27, x18, x19, x4, rfl, Or.inr ⟨hs0, i, k, by omega, by omega, rfl, rfl, Or.inl ⟨kfS_i hkk, ⟨rw, cl, bk, dn, up, x11, x12, x13, x14, x15, x16, x17, x18, x19, hrw, hcl, hbk, t1, t2, t3, e3, e4, hdn, hup, hNR, hLD, Or.inl ⟨rfl, b38⟩⟩⟩⟩, hRB⟩ dX6_safe_46
  · have b11 := bF hw3r c5
    refine lv_iconst (v := -1) hx hb dX6_safe_14 (by decide) ?_
    exact wr_iret hx hb hr hlocks hS hP ⟨(f 0), (f 1), (f 2), (f 3), (f 4), (q 0), (q 1), (q 2), (qf 3), (r 6), (r 7), (r 8), (r 9), (r 10), (r 11), (r 12), (r 13), (r 14), x4, rfl, atP_n hr1 b11 rfl (fun i k h => Or.inr ⟨fun z => h (kfS_g z.1.1 z.1.2 z.2), rfl⟩), hRB⟩ dX6_safe_15
set_option maxHeartbeats 4000000 in
set_option maxRecDepth 100000 in
theorem y_unsafeN (l : Launch) (G : GG) (x : Nat) (xa ta a b ga ua la lb lc : Nat → Nat) (tg gg : Nat → Option Nat) (xf tf f qf gf uf lf mf nf : Nat → Int32) (tr r q gr ur lr mr nr : Nat → Nat → Int32) (tb : Int32) (j : Nat) (hj : j < 6) (hjt : tbJ tb j) (htg : tg j = some (ta 0)) (hT1 : nL 12 (tf 1)) (hT2 : nL 12 (tf 2)) (hT3 : nL 12 (tf 3)) (hT4 : nOK 12 12 (tr 4)) (hNC : ¬ (tf 0) = 0 → (∀ rw cl, rw ≤ 12 → cl ≤ 12 → (tf 1) = nI rw → (tf 2) = nI cl → NRC rw cl (tr 4) (tr 5) (tr 6)) ∧ ∃ dn up, dn ≤ 1000000 ∧ up ≤ 1000000 ∧ (tr 9) 3 = nI dn ∧ (tr 9) 4 = nI up) (hRB : RB adjR (q 0)) : WrI l yX6_unsafe cX6_unsafe 2 (some .int) ({ frames := 6, cells := 0, slots := 0, locals := 157 }) G (xM G x xa ta a b ga ua la lb lc tg gg xf tf f qf gf uf lf mf nf tr r q gr ur lr mr nr) [.ref x, .int tb] (fun qz w => ∃ (n_f_0 : Int32) (n_f_1 : Int32) (n_f_2 : Int32) (n_f_3 : Int32) (n_f_4 : Int32) (n_q_0 : Nat → Int32) (n_q_1 : Nat → Int32) (n_q_2 : Nat → Int32) (n_qf_3 : Int32) (n_r_6 : Nat → Int32) (n_r_7 : Nat → Int32) (n_r_8 : Nat → Int32) (n_r_9 : Nat → Int32) (n_r_10 : Nat → Int32) (n_r_11 : Nat → Int32) (n_r_12 : Nat → Int32) (n_r_13 : Nat → Int32) (n_r_14 : Nat → Int32) (n_xf_0 : Int32), w = xM G x xa ta a b ga ua la lb lc tg gg (upd xf 0 n_xf_0) tf (upd (upd (upd (upd (upd f 0 n_f_0) 1 n_f_1) 2 n_f_2) 3 n_f_3) 4 n_f_4) (upd qf 3 n_qf_3) gf uf lf mf nf tr (up2 (up2 (up2 (up2 (up2 (up2 (up2 (up2 (up2 r 6 n_r_6) 7 n_r_7) 8 n_r_8) 9 n_r_9) 10 n_r_10) 11 n_r_11) 12 n_r_12) 13 n_r_13) 14 n_r_14) (up2 (up2 (up2 q 0 n_q_0) 1 n_q_1) 2 n_q_2) gr ur lr mr nr ∧ usX (tbO tb j (tf 0)) qz (tf 1) (tf 2) (tf 3) (tr 4) (tr 5) (tr 6) (tr 7) (tr 8) (tr 9) (tr 10) (tr 11) ∧ (RB adjR n_q_0)) := by
  refine wr_entryI (by decide +kernel) (Nat.le_of_ble_eq_true rfl) ?_
  intro p e s m below meth c A C0 hP hK hD hA ls hl
  have hS : va_S A s.heap s.heap [] := va_S.rf
  obtain ⟨hx, hb, hml, hown, hts, hr, hlocks, hin⟩ := C0
  have hown : s.vm.findClass RX6 = some m.cls := hown
  have hDD : ∀ xf' tf' f' qf' gf' uf' lf' mf' nf' tr' r' q' gr' ur' lr' mr' nr', va_D A (xM G x xa ta a b ga ua la lb lc tg gg xf' tf' f' qf' gf' uf' lf' mf' nf' tr' r' q' gr' ur' lr' mr' nr') := fun xf' tf' f' qf' gf' uf' lf' mf' nf' tr' r' q' gr' ur' lr' mr' nr' => D_same hD rfl
  have hl : lv_has ls 2 [(0, .ref x), (1, .int tb)] := hl
  refine lv_aload_n hx hb dX6_unsafe_0 rfl (lv_at hl 0 rfl) ?_
  refine lv_aload_n hx hb dX6_unsafe_1 rfl (lv_at hl 0 rfl) ?_
  refine lv_iload_n hx hb dX6_unsafe_2 rfl (lv_at hl 1 rfl) ?_
  refine rdV (rest := [.ref x]) (q0 := 0) ⟨hx, hb, hml, hown, hts⟩ (x_tableStatus l G x xa ta a b ga ua la lb lc tg gg xf tf f qf gf uf lf mf nf tr r q gr ur lr mr nr tb j (by omega) hjt htg) mi_yX6_tableStatus mv_yX6_tableStatus ml_X6_73 ⟨rfl, rfl, Nat.le_of_ble_eq_true rfl, Nat.le_of_ble_eq_true rfl⟩ hK (hP) rfl rfl rfl hl.1 rfl (Nat.le_of_ble_eq_true rfl) dX6_unsafe_3 ⟨Nat.zero_le _, Nat.zero_le _⟩ hS hA hP (fun r1 H locs hr1 hP hS => ?_)
  have hr1 : ((r1 = 0 ∧ tbO tb j (tf 0)) ∨ (r1 = 1 ∧ ¬ tbO tb j (tf 0))) := hr1
  refine wrVIa (rest := []) (q0 := 0) ⟨hx, hb, hml, hown, hts⟩ (x_settled l G x xa ta a b ga ua la lb lc tg gg xf tf f qf gf uf lf mf nf tr r q gr ur lr mr nr r1  ) mi_yX6_settled mv_yX6_settled ml_X6_65 ⟨rfl, rfl, Nat.le_of_ble_eq_true rfl, Nat.le_of_ble_eq_true rfl⟩ hK hP (hDD _ _ _ _ _ _ _ _ _ _ _ _ _ _ _ _ _) rfl rfl rfl hl.1 rfl (Nat.le_of_ble_eq_true rfl) dX6_unsafe_6 ⟨Nat.zero_le _, Nat.zero_le _⟩ hS hA (fun r2 w3 H locs hw3 hP hS => ?_)
  obtain ⟨x4, rfl, hw3r⟩ := hw3
  have hP : PP G (xM G x xa ta a b ga ua la lb lc tg gg (upd xf 0 x4) tf f qf gf uf lf mf nf tr r q gr ur lr mr nr) H := hP
  have hw3r : ((r2 = 1 ∧ ((r1 : Int32) = 0)) ∨ (r2 = 0 ∧ ¬ ((r1 : Int32) = 0))) := hw3r
  refine lv_if_ne (tgt := 14) hx hb dX6_unsafe_9 (by decide) (fun c5 => ?_) (fun c5 => ?_)
  · have b9 := bT hw3r c5
    obtain ⟨ej, ho⟩ := st0 hr1 b9
    subst ej
    obtain ⟨rw, hrw, t1⟩ := hT1
    obtain ⟨cl, hcl, t2⟩ := hT2
    obtain ⟨bk, hbk, t3⟩ := hT3
    have hT1 : nL 12 (tf 1) := ⟨rw, hrw, t1⟩
    have hT2 : nL 12 (tf 2) := ⟨cl, hcl, t2⟩
    have hT3 : nL 12 (tf 3) := ⟨bk, hbk, t3⟩
    refine lv_aload_n hx hb dX6_unsafe_14 rfl (lv_at hl 0 rfl) ?_
    refine va_get (D := G.1) (ci := 6) (v := .ref (a 15)) (C := RX6) (T := TX6) (N := 10) hx hb hts inX6 hown hK.1 hP 0 rfl rfl 2 (by decide) (hts _ mf_X6_22) (fun _ h9 => h9) rfl dX6_unsafe_15 ?_
    refine lv_aload_n hx hb dX6_unsafe_18 rfl (lv_at hl 0 rfl) ?_
    refine va_get (D := G.1) (ci := 6) (v := .ref (xa 1)) (C := RX6) (T := TX6) (N := 10) hx hb hts inX6 hown hK.1 hP 0 rfl rfl 1 (by decide) (hts _ mf_X6_15) (fun _ h9 => h9) rfl dX6_unsafe_19 ?_
    refine lv_iload_n hx hb dX6_unsafe_22 rfl (lv_at hl 1 rfl) ?_
    refine xaldT hx hb hK hP 1 (j) (b := (ta 0)) rfl (by omega) (by decide) rfl (htg) dX6_unsafe_23 ?_
    refine lawV (rest := []) (q0 := 0) ⟨hx, hb, hml, hown, hts⟩ (e_X2_load l G a b ta f tf r tr rw cl bk hrw hcl hbk t1 t2 t3) mi_yX2_load mv_yX2_load ml_X6_184 ⟨rfl, rfl, Nat.le_of_ble_eq_true rfl, Nat.le_of_ble_eq_true rfl⟩ hK hP (hDD _ _ _ _ _ _ _ _ _ _ _ _ _ _ _ _ _) (pl_perm (xBlk G x xa ta a b ga ua la lb lc tg gg (upd xf 0 x4) tf f qf gf uf lf mf nf tr r q gr ur lr mr nr) (sel := [2, 1]) (oth := [0, 3, 4, 5, 6, 7, 8, 9]) (by decide)) rfl rfl rfl hl.1 rfl (Nat.le_of_ble_eq_true rfl) dX6_unsafe_24 ⟨Nat.zero_le _, Nat.zero_le _⟩ hS hA (fun w21 H locs hw21 hP hS => ?_)
    obtain ⟨x6, x7, x8, x9, x10, x11, x12, x13, x14, x15, x16, x17, x18, x19, rfl, h0, h1, h2, h3, h4, hLD⟩ := hw21
    have hP : PP G (xM G x xa ta a b ga ua la lb lc tg gg (upd xf 0 x4) tf (upd (upd (upd (upd (upd f 0 x6) 1 x7) 2 x8) 3 x9) 4 x10) qf gf uf lf mf nf tr (up2 (up2 (up2 (up2 (up2 (up2 (up2 (up2 (up2 r 6 x11) 7 x12) 8 x13) 9 x14) 10 x15) 11 x16) 12 x17) 13 x18) 14 x19) q gr ur lr mr nr) H := (hP rfl (xM G x xa ta a b ga ua la lb lc tg gg (upd xf 0 x4) tf (upd (upd (upd (upd (upd f 0 x6) 1 x7) 2 x8) 3 x9) 4 x10) qf gf uf lf mf nf tr (up2 (up2 (up2 (up2 (up2 (up2 (up2 (up2 (up2 r 6 x11) 7 x12) 8 x13) 9 x14) 10 x15) 11 x16) 12 x17) 13 x18) 14 x19) q gr ur lr mr nr) (pl_perm (xBlk G x xa ta a b ga ua la lb lc tg gg (upd xf 0 x4) tf (upd (upd (upd (upd (upd f 0 x6) 1 x7) 2 x8) 3 x9) 4 x10) qf gf uf lf mf nf tr (up2 (up2 (up2 (up2 (up2 (up2 (up2 (up2 (up2 r 6 x11) 7 x12) 8 x13) 9 x14) 10 x15) 11 x16) 12 x17) 13 x18) 14 x19) q gr ur lr mr nr) (sel := [2, 1]) (oth := [0, 3, 4, 5, 6, 7, 8, 9]) (by decide))).1
    obtain ⟨hNC1, dn, up, hdn, hup, e3, e4⟩ := hNC ho
    have hNR := hNC1 rw cl hrw hcl t1 t2
    have hLD : LDR rw cl bk (tr 4) (tr 5) (tr 6) (tr 7) (tr 8) (tr 9) (tr 10) (tr 11) x11 x12 x13 x14 x15 x16 x17 x18 x19 := hLD
    have h0 : x6 = nI rw := h0
    have h1 : x7 = nI cl := h1
    have h2 : x8 = nI dn := h2.trans e3
    have h3 : x9 = nI up := h3.trans e4
    have hRN := (LD_rv hLD hcl hNR).1
    have hRD := LD_rd hLD hrw hcl hbk hNR
    have hSC := LD_sc hLD
    have hSS : ∀ x y, x < rw → y < cl → ¬ x15 (x * 12 + y) = 0 → ¬ x11 x = 0 := fun x y h7 h8 h9 => (hSC x y h7 h8 h9).1
    have hcs := LD_cs hLD hbk
    have hRS : RSY x11 x12 x16 rw cl (NTc (tr 6)) (LTc (tr 5) (tr 6) cl) (HTc (tr 5) (tr 6) cl) x10 (q 0) := Or.inl h4
    have hNN : ∀ x y, x < rw → y < cl → ¬ x11 x = 0 → ∃ m, m ≤ 1000000 ∧ tr 6 (x * 12 + y) = nI m := fun x y h7 h8 h9 => hNR x y h7 h8 ((LD_so hLD h7).mp h9)
    refine lv_aload_n hx hb dX6_unsafe_27 rfl (lv_at hl 0 rfl) ?_
    refine va_get (D := G.1) (ci := 6) (v := .ref (a 15)) (C := RX6) (T := TX6) (N := 10) hx hb hts inX6 hown hK.1 hP 0 rfl rfl 2 (by decide) (hts _ mf_X6_22) (fun _ h9 => h9) rfl dX6_unsafe_28 ?_
    refine lawI (rest := []) (q0 := 0) ⟨hx, hb, hml, hown, hts⟩ (e_X2_countUnsafe l G a b (upd (upd (upd (upd (upd f 0 x6) 1 x7) 2 x8) 3 x9) 4 x10) qf (up2 (up2 (up2 (up2 (up2 (up2 (up2 (up2 (up2 r 6 x11) 7 x12) 8 x13) 9 x14) 10 x15) 11 x16) 12 x17) 13 x18) 14 x19) q  rw cl dn up (NTc (tr 6)) (NTc (tr 6)) (LTc (tr 5) (tr 6) cl) (HTc (tr 5) (tr 6) cl) hrw hcl h0 h1 h2 h3 hdn hup hRN hSS hRD hRS hRB) mi_yX2_countUnsafe mv_yX2_countUnsafe ml_X6_191 ⟨rfl, rfl, Nat.le_of_ble_eq_true rfl, Nat.le_of_ble_eq_true rfl⟩ hK hP (hDD _ _ _ _ _ _ _ _ _ _ _ _ _ _ _ _ _) (pl_perm (xBlk G x xa ta a b ga ua la lb lc tg gg (upd xf 0 x4) tf (upd (upd (upd (upd (upd f 0 x6) 1 x7) 2 x8) 3 x9) 4 x10) qf gf uf lf mf nf tr (up2 (up2 (up2 (up2 (up2 (up2 (up2 (up2 (up2 r 6 x11) 7 x12) 8 x13) 9 x14) 10 x15) 11 x16) 12 x17) 13 x18) 14 x19) q gr ur lr mr nr) (sel := [2, 3]) (oth := [0, 1, 4, 5, 6, 7, 8, 9]) (by decide)) rfl rfl rfl hl.1 rfl (Nat.le_of_ble_eq_true rfl) dX6_unsafe_31 ⟨Nat.zero_le _, Nat.zero_le _⟩ hS hA (fun r28 w29 H locs hw29 hP hS => ?_)
    obtain ⟨x22, x23, x24, x25, x26, x27, rfl, hcn, hRB⟩ := hw29
    have hP : PP G (xM G x xa ta a b ga ua la lb lc tg gg (upd xf 0 x4) tf (upd (upd (upd (upd (upd f 0 x6) 1 x7) 2 x8) 3 x9) 4 x22) (upd qf 3 x26) gf uf lf mf nf tr (up2 (up2 (up2 (up2 (up2 (up2 (up2 (up2 (up2 r 6 x11) 7 x12) 8 x13) 9 x14) 10 x15) 11 x16) 12 x27) 13 x18) 14 x19) (up2 (up2 (up2 q 0 x23) 1 x24) 2 x25) gr ur lr mr nr) H := (hP rfl (xM G x xa ta a b ga ua la lb lc tg gg (upd xf 0 x4) tf (upd (upd (upd (upd (upd f 0 x6) 1 x7) 2 x8) 3 x9) 4 x22) (upd qf 3 x26) gf uf lf mf nf tr (up2 (up2 (up2 (up2 (up2 (up2 (up2 (up2 (up2 r 6 x11) 7 x12) 8 x13) 9 x14) 10 x15) 11 x16) 12 x27) 13 x18) 14 x19) (up2 (up2 (up2 q 0 x23) 1 x24) 2 x25) gr ur lr mr nr) (pl_perm (xBlk G x xa ta a b ga ua la lb lc tg gg (upd xf 0 x4) tf (upd (upd (upd (upd (upd f 0 x6) 1 x7) 2 x8) 3 x9) 4 x22) (upd qf 3 x26) gf uf lf mf nf tr (up2 (up2 (up2 (up2 (up2 (up2 (up2 (up2 (up2 r 6 x11) 7 x12) 8 x13) 9 x14) 10 x15) 11 x16) 12 x27) 13 x18) 14 x19) (up2 (up2 (up2 q 0 x23) 1 x24) 2 x25) gr ur lr mr nr) (sel := [2, 3]) (oth := [0, 1, 4, 5, 6, 7, 8, 9]) (by decide))).1
    subst hcn
    exact wr_iret hx hb hr hlocks hS hP ⟨x6, x7, x8, x9, x22, x23, x24, x25, x26, x11, x12, x13, x14, x15, x16, x27, x18, x19, x4, rfl, (Or.inr ⟨⟨rfl, ho⟩, ⟨rw, cl, bk, dn, up, x11, x12, x13, x14, x15, x16, x17, x18, x19, hrw, hcl, hbk, t1, t2, t3, e3, e4, hdn, hup, hNR, hLD, rfl⟩⟩), hRB⟩ dX6_unsafe_34
  · have b9 := bF hw3r c5
    refine lv_iconst (v := -1) hx hb dX6_unsafe_12 (by decide) ?_
    exact wr_iret hx hb hr hlocks hS hP ⟨(f 0), (f 1), (f 2), (f 3), (f 4), (q 0), (q 1), (q 2), (qf 3), (r 6), (r 7), (r 8), (r 9), (r 10), (r 11), (r 12), (r 13), (r 14), x4, rfl, (Or.inl ⟨st1 hr1 b9, rfl⟩), hRB⟩ dX6_unsafe_13
set_option maxHeartbeats 4000000 in
set_option maxRecDepth 100000 in
theorem y_spanEnd (l : Launch) (G : GG) (x : Nat) (xa ta a b ga ua la lb lc : Nat → Nat) (tg gg : Nat → Option Nat) (xf tf f qf gf uf lf mf nf : Nat → Int32) (tr r q gr ur lr mr nr : Nat → Nat → Int32) (tb : Int32) (row : Int32) (col : Int32) (gr_ : Int32) (j : Nat) (hj : j < 6) (hjt : tbJ tb j) (htg : tg j = some (ta 0)) (hT1 : nL 12 (tf 1)) (hT2 : nL 12 (tf 2)) (hT3 : nL 12 (tf 3)) (hT4 : nOK 12 12 (tr 4)) (hNC : ¬ (tf 0) = 0 → (∀ rw cl, rw ≤ 12 → cl ≤ 12 → (tf 1) = nI rw → (tf 2) = nI cl → NRC rw cl (tr 4) (tr 5) (tr 6)) ∧ ∃ dn up, dn ≤ 1000000 ∧ up ≤ 1000000 ∧ (tr 9) 3 = nI dn ∧ (tr 9) 4 = nI up) (hRB : RB adjR (q 0)) : WrI l yX6_spanEnd cX6_spanEnd 5 (some .int) ({ frames := 6, cells := 0, slots := 0, locals := 141 }) G (xM G x xa ta a b ga ua la lb lc tg gg xf tf f qf gf uf lf mf nf tr r q gr ur lr mr nr) [.ref x, .int tb, .int row, .int col, .int gr_] (fun qz w => ∃ (n_f_0 : Int32) (n_f_1 : Int32) (n_f_2 : Int32) (n_f_3 : Int32) (n_f_4 : Int32) (n_q_0 : Nat → Int32) (n_q_1 : Nat → Int32) (n_q_2 : Nat → Int32) (n_qf_3 : Int32) (n_r_6 : Nat → Int32) (n_r_7 : Nat → Int32) (n_r_8 : Nat → Int32) (n_r_9 : Nat → Int32) (n_r_10 : Nat → Int32) (n_r_11 : Nat → Int32) (n_r_12 : Nat → Int32) (n_r_13 : Nat → Int32) (n_r_14 : Nat → Int32) (n_xf_0 : Int32), w = xM G x xa ta a b ga ua la lb lc tg gg (upd xf 0 n_xf_0) tf (upd (upd (upd (upd (upd f 0 n_f_0) 1 n_f_1) 2 n_f_2) 3 n_f_3) 4 n_f_4) (upd qf 3 n_qf_3) gf uf lf mf nf tr (up2 (up2 (up2 (up2 (up2 (up2 (up2 (up2 (up2 r 6 n_r_6) 7 n_r_7) 8 n_r_8) 9 n_r_9) 10 n_r_10) 11 n_r_11) 12 n_r_12) 13 n_r_13) 14 n_r_14) (up2 (up2 (up2 q 0 n_q_0) 1 n_q_1) 2 n_q_2) gr ur lr mr nr ∧ atP (stX (tbO tb j (tf 0)) (tf 1) (tf 2) (tr 4) row col) row col (fun i k => sv ((¬ (tr 5) (i * 12 + k) = 0 ∧ ¬ (tr 5) (i * 12 + k) = 5) ∧ sndP ((tf 2)).toNatClampNeg (tr 4) (tr 5) i) (spX gr_ qz (tf 1) (tf 2) (tf 3) (tr 4) (tr 5) (tr 6) (tr 7) (tr 8) (tr 9) (tr 10) (tr 11) i k) (qz = -1)) (qz = -1) ∧ (RB adjR n_q_0)) := by
  refine wr_entryI (by decide +kernel) (Nat.le_of_ble_eq_true rfl) ?_
  intro p e s m below meth c A C0 hP hK hD hA ls hl
  have hS : va_S A s.heap s.heap [] := va_S.rf
  obtain ⟨hx, hb, hml, hown, hts, hr, hlocks, hin⟩ := C0
  have hown : s.vm.findClass RX6 = some m.cls := hown
  have hDD : ∀ xf' tf' f' qf' gf' uf' lf' mf' nf' tr' r' q' gr' ur' lr' mr' nr', va_D A (xM G x xa ta a b ga ua la lb lc tg gg xf' tf' f' qf' gf' uf' lf' mf' nf' tr' r' q' gr' ur' lr' mr' nr') := fun xf' tf' f' qf' gf' uf' lf' mf' nf' tr' r' q' gr' ur' lr' mr' nr' => D_same hD rfl
  have hl : lv_has ls 5 [(0, .ref x), (1, .int tb), (2, .int row), (3, .int col), (4, .int gr_)] := hl
  refine lv_aload_n hx hb dX6_spanEnd_0 rfl (lv_at hl 0 rfl) ?_
  refine lv_aload_n hx hb dX6_spanEnd_1 rfl (lv_at hl 0 rfl) ?_
  refine lv_iload_n hx hb dX6_spanEnd_2 rfl (lv_at hl 1 rfl) ?_
  refine lv_iload_n hx hb dX6_spanEnd_3 rfl (lv_at hl 2 rfl) ?_
  refine lv_iload_n hx hb dX6_spanEnd_4 rfl (lv_at hl 3 rfl) ?_
  refine rdV (rest := [.ref x]) (q0 := 0) ⟨hx, hb, hml, hown, hts⟩ (x_soundCellStatus l G x xa ta a b ga ua la lb lc tg gg xf tf f qf gf uf lf mf nf tr r q gr ur lr mr nr tb row col j (by omega) hjt htg hT1 hT2 hT3) mi_yX6_soundCellStatus mv_yX6_soundCellStatus ml_X6_165 ⟨rfl, rfl, Nat.le_of_ble_eq_true rfl, Nat.le_of_ble_eq_true rfl⟩ hK (hP) rfl rfl rfl hl.1 rfl (Nat.le_of_ble_eq_true rfl) dX6_spanEnd_5 ⟨Nat.zero_le _, Nat.zero_le _⟩ hS hA hP (fun r1 H locs hr1 hP hS => ?_)
  have hr1 : stK (stX (tbO tb j (tf 0)) (tf 1) (tf 2) (tr 4) row col) row col (fun i k => kfS ((tr 5) (i * 12 + k)) (sndP ((tf 2)).toNatClampNeg (tr 4) (tr 5) i)) r1 := hr1
  refine wrVIa (rest := []) (q0 := 0) ⟨hx, hb, hml, hown, hts⟩ (x_settled l G x xa ta a b ga ua la lb lc tg gg xf tf f qf gf uf lf mf nf tr r q gr ur lr mr nr r1  ) mi_yX6_settled mv_yX6_settled ml_X6_65 ⟨rfl, rfl, Nat.le_of_ble_eq_true rfl, Nat.le_of_ble_eq_true rfl⟩ hK hP (hDD _ _ _ _ _ _ _ _ _ _ _ _ _ _ _ _ _) rfl rfl rfl hl.1 rfl (Nat.le_of_ble_eq_true rfl) dX6_spanEnd_8 ⟨Nat.zero_le _, Nat.zero_le _⟩ hS hA (fun r2 w3 H locs hw3 hP hS => ?_)
  obtain ⟨x4, rfl, hw3r⟩ := hw3
  have hP : PP G (xM G x xa ta a b ga ua la lb lc tg gg (upd xf 0 x4) tf f qf gf uf lf mf nf tr r q gr ur lr mr nr) H := hP
  have hw3r : ((r2 = 1 ∧ ((r1 : Int32) = 0)) ∨ (r2 = 0 ∧ ¬ ((r1 : Int32) = 0))) := hw3r
  refine lv_if_ne (tgt := 16) hx hb dX6_spanEnd_11 (by decide) (fun c5 => ?_) (fun c5 => ?_)
  · have b11 := bT hw3r c5
    have hs0 := stK_0 hr1 b11
    obtain ⟨⟨ej, ho⟩, q1, q2⟩ := stX_0 hs0 rfl
    subst ej
    have q1c := q1
    have q2c := q2
    obtain ⟨rw, hrw, t1⟩ := hT1
    obtain ⟨cl, hcl, t2⟩ := hT2
    obtain ⟨bk, hbk, t3⟩ := hT3
    have hT1 : nL 12 (tf 1) := ⟨rw, hrw, t1⟩
    have hT2 : nL 12 (tf 2) := ⟨cl, hcl, t2⟩
    have hT3 : nL 12 (tf 3) := ⟨bk, hbk, t3⟩
    rw [t1] at q1c
    rw [t2] at q2c
    obtain ⟨i, hi, ei⟩ := inR_n (by omega) q1c
    subst ei
    obtain ⟨k, hk, ek⟩ := inR_n (by omega) q2c
    subst ek
    have hkk := stK_k hr1 b11 (show i < 12 by omega) (show k < 12 by omega) rfl rfl
    refine lv_aload_n hx hb dX6_spanEnd_16 rfl (lv_at hl 0 rfl) ?_
    refine va_get (D := G.1) (ci := 6) (v := .ref (a 15)) (C := RX6) (T := TX6) (N := 10) hx hb hts inX6 hown hK.1 hP 0 rfl rfl 2 (by decide) (hts _ mf_X6_22) (fun _ h9 => h9) rfl dX6_spanEnd_17 ?_
    refine lv_aload_n hx hb dX6_spanEnd_20 rfl (lv_at hl 0 rfl) ?_
    refine va_get (D := G.1) (ci := 6) (v := .ref (xa 1)) (C := RX6) (T := TX6) (N := 10) hx hb hts inX6 hown hK.1 hP 0 rfl rfl 1 (by decide) (hts _ mf_X6_15) (fun _ h9 => h9) rfl dX6_spanEnd_21 ?_
    refine lv_iload_n hx hb dX6_spanEnd_24 rfl (lv_at hl 1 rfl) ?_
    refine xaldT hx hb hK hP 1 (j) (b := (ta 0)) rfl (by omega) (by decide) rfl (htg) dX6_spanEnd_25 ?_
    refine lawV (rest := []) (q0 := 0) ⟨hx, hb, hml, hown, hts⟩ (e_X2_load l G a b ta f tf r tr rw cl bk hrw hcl hbk t1 t2 t3) mi_yX2_load mv_yX2_load ml_X6_184 ⟨rfl, rfl, Nat.le_of_ble_eq_true rfl, Nat.le_of_ble_eq_true rfl⟩ hK hP (hDD _ _ _ _ _ _ _ _ _ _ _ _ _ _ _ _ _) (pl_perm (xBlk G x xa ta a b ga ua la lb lc tg gg (upd xf 0 x4) tf f qf gf uf lf mf nf tr r q gr ur lr mr nr) (sel := [2, 1]) (oth := [0, 3, 4, 5, 6, 7, 8, 9]) (by decide)) rfl rfl rfl hl.1 rfl (Nat.le_of_ble_eq_true rfl) dX6_spanEnd_26 ⟨Nat.zero_le _, Nat.zero_le _⟩ hS hA (fun w21 H locs hw21 hP hS => ?_)
    obtain ⟨x6, x7, x8, x9, x10, x11, x12, x13, x14, x15, x16, x17, x18, x19, rfl, h0, h1, h2, h3, h4, hLD⟩ := hw21
    have hP : PP G (xM G x xa ta a b ga ua la lb lc tg gg (upd xf 0 x4) tf (upd (upd (upd (upd (upd f 0 x6) 1 x7) 2 x8) 3 x9) 4 x10) qf gf uf lf mf nf tr (up2 (up2 (up2 (up2 (up2 (up2 (up2 (up2 (up2 r 6 x11) 7 x12) 8 x13) 9 x14) 10 x15) 11 x16) 12 x17) 13 x18) 14 x19) q gr ur lr mr nr) H := (hP rfl (xM G x xa ta a b ga ua la lb lc tg gg (upd xf 0 x4) tf (upd (upd (upd (upd (upd f 0 x6) 1 x7) 2 x8) 3 x9) 4 x10) qf gf uf lf mf nf tr (up2 (up2 (up2 (up2 (up2 (up2 (up2 (up2 (up2 r 6 x11) 7 x12) 8 x13) 9 x14) 10 x15) 11 x16) 12 x17) 13 x18) 14 x19) q gr ur lr mr nr) (pl_perm (xBlk G x xa ta a b ga ua la lb lc tg gg (upd xf 0 x4) tf (upd (upd (upd (upd (upd f 0 x6) 1 x7) 2 x8) 3 x9) 4 x10) qf gf uf lf mf nf tr (up2 (up2 (up2 (up2 (up2 (up2 (up2 (up2 (up2 r 6 x11) 7 x12) 8 x13) 9 x14) 10 x15) 11 x16) 12 x17) 13 x18) 14 x19) q gr ur lr mr nr) (sel := [2, 1]) (oth := [0, 3, 4, 5, 6, 7, 8, 9]) (by decide))).1
    obtain ⟨hNC1, dn, up, hdn, hup, e3, e4⟩ := hNC ho
    have hNR := hNC1 rw cl hrw hcl t1 t2
    have hLD : LDR rw cl bk (tr 4) (tr 5) (tr 6) (tr 7) (tr 8) (tr 9) (tr 10) (tr 11) x11 x12 x13 x14 x15 x16 x17 x18 x19 := hLD
    have h0 : x6 = nI rw := h0
    have h1 : x7 = nI cl := h1
    have h2 : x8 = nI dn := h2.trans e3
    have h3 : x9 = nI up := h3.trans e4
    have hRN := (LD_rv hLD hcl hNR).1
    have hRD := LD_rd hLD hrw hcl hbk hNR
    have hSC := LD_sc hLD
    have hSS : ∀ x y, x < rw → y < cl → ¬ x15 (x * 12 + y) = 0 → ¬ x11 x = 0 := fun x y h7 h8 h9 => (hSC x y h7 h8 h9).1
    have hcs := LD_cs hLD hbk
    have hRS : RSY x11 x12 x16 rw cl (NTc (tr 6)) (LTc (tr 5) (tr 6) cl) (HTc (tr 5) (tr 6) cl) x10 (q 0) := Or.inl h4
    have hNN : ∀ x y, x < rw → y < cl → ¬ x11 x = 0 → ∃ m, m ≤ 1000000 ∧ tr 6 (x * 12 + y) = nI m := fun x y h7 h8 h9 => hNR x y h7 h8 ((LD_so hLD h7).mp h9)
    refine lv_aload_n hx hb dX6_spanEnd_29 rfl (lv_at hl 0 rfl) ?_
    refine va_get (D := G.1) (ci := 6) (v := .ref (a 15)) (C := RX6) (T := TX6) (N := 10) hx hb hts inX6 hown hK.1 hP 0 rfl rfl 2 (by decide) (hts _ mf_X6_22) (fun _ h9 => h9) rfl dX6_spanEnd_30 ?_
    refine lv_iload_n hx hb dX6_spanEnd_33 rfl (lv_at hl 2 rfl) ?_
    refine lv_iload_n hx hb dX6_spanEnd_34 rfl (lv_at hl 3 rfl) ?_
    refine lv_iload hx hb dX6_spanEnd_35 (lv_at hl 4 rfl) ?_
    have hsi : ¬ x11 i = 0 := (LD_so hLD hi).mpr (by have h9 := (kfS_i hkk).2; rw [t2, nI_clamp (by omega)] at h9; exact h9)
    have hn9 := hRN i k hi hk hsi
    refine lawV (rest := []) (q0 := 0) ⟨hx, hb, hml, hown, hts⟩ (e_X2_moveToEnd l G a b (upd (upd (upd (upd (upd f 0 x6) 1 x7) 2 x8) 3 x9) 4 x10) qf (up2 (up2 (up2 (up2 (up2 (up2 (up2 (up2 (up2 r 6 x11) 7 x12) 8 x13) 9 x14) 10 x15) 11 x16) 12 x17) 13 x18) 14 x19) q i k gr_ rw cl (NTc (tr 6)) (NTc (tr 6)) (LTc (tr 5) (tr 6) cl) (HTc (tr 5) (tr 6) cl) hi hk hsi h0 h1 hRD hRS hRB) mi_yX2_moveToEnd mv_yX2_moveToEnd ml_X6_249 ⟨rfl, rfl, Nat.le_of_ble_eq_true rfl, Nat.le_of_ble_eq_true rfl⟩ hK hP (hDD _ _ _ _ _ _ _ _ _ _ _ _ _ _ _ _ _) (pl_perm (xBlk G x xa ta a b ga ua la lb lc tg gg (upd xf 0 x4) tf (upd (upd (upd (upd (upd f 0 x6) 1 x7) 2 x8) 3 x9) 4 x10) qf gf uf lf mf nf tr (up2 (up2 (up2 (up2 (up2 (up2 (up2 (up2 (up2 r 6 x11) 7 x12) 8 x13) 9 x14) 10 x15) 11 x16) 12 x17) 13 x18) 14 x19) q gr ur lr mr nr) (sel := [2, 3]) (oth := [0, 1, 4, 5, 6, 7, 8, 9]) (by decide)) rfl rfl rfl hl.1 rfl (Nat.le_of_ble_eq_true rfl) dX6_spanEnd_37 ⟨Nat.zero_le _, Nat.zero_le _⟩ hS hA (fun w29 H locs hw29 hP hS => ?_)
    obtain ⟨x22, x23, x24, x25, x26, x27, V3, rfl, hRD, hRS, hmv, hRB⟩ := hw29
    have hP : PP G (xM G x xa ta a b ga ua la lb lc tg gg (upd xf 0 x4) tf (upd (upd (upd (upd (upd f 0 x6) 1 x7) 2 x8) 3 x9) 4 x22) (upd qf 3 x26) gf uf lf mf nf tr (up2 (up2 (up2 (up2 (up2 (up2 (up2 (up2 (up2 r 6 x11) 7 x12) 8 x13) 9 x14) 10 x15) 11 x16) 12 x27) 13 x18) 14 x19) (up2 (up2 (up2 q 0 x23) 1 x24) 2 x25) gr ur lr mr nr) H := (hP rfl (xM G x xa ta a b ga ua la lb lc tg gg (upd xf 0 x4) tf (upd (upd (upd (upd (upd f 0 x6) 1 x7) 2 x8) 3 x9) 4 x22) (upd qf 3 x26) gf uf lf mf nf tr (up2 (up2 (up2 (up2 (up2 (up2 (up2 (up2 (up2 r 6 x11) 7 x12) 8 x13) 9 x14) 10 x15) 11 x16) 12 x27) 13 x18) 14 x19) (up2 (up2 (up2 q 0 x23) 1 x24) 2 x25) gr ur lr mr nr) (pl_perm (xBlk G x xa ta a b ga ua la lb lc tg gg (upd xf 0 x4) tf (upd (upd (upd (upd (upd f 0 x6) 1 x7) 2 x8) 3 x9) 4 x22) (upd qf 3 x26) gf uf lf mf nf tr (up2 (up2 (up2 (up2 (up2 (up2 (up2 (up2 (up2 r 6 x11) 7 x12) 8 x13) 9 x14) 10 x15) 11 x16) 12 x27) 13 x18) 14 x19) (up2 (up2 (up2 q 0 x23) 1 x24) 2 x25) gr ur lr mr nr) (sel := [2, 3]) (oth := [0, 1, 4, 5, 6, 7, 8, 9]) (by decide))).1
    refine lv_aload_n hx hb dX6_spanEnd_40 rfl (lv_at hl 0 rfl) ?_
    refine va_get (D := G.1) (ci := 6) (v := .ref (a 15)) (C := RX6) (T := TX6) (N := 10) hx hb hts inX6 hown hK.1 hP 0 rfl rfl 2 (by decide) (hts _ mf_X6_22) (fun _ h9 => h9) rfl dX6_spanEnd_41 ?_
    refine va_get (D := G.1) (ci := 2) (v := .ref (a 12)) (C := RX2) (T := TX2) (N := 15) hx hb hts inX2 hown hK.1 hP 11 rfl rfl 12 (by decide) (hts _ mf_X6_252) (fun _ h9 => h9) rfl dX6_spanEnd_44 ?_
    refine lv_iload_n hx hb dX6_spanEnd_47 rfl (lv_at hl 2 rfl) ?_
    refine lv_iload_n hx hb dX6_spanEnd_48 rfl (lv_at hl 3 rfl) ?_
    refine rdS (rest := [.ref (a 12)]) ⟨hx, hb, hml, hown, hts⟩ (c_X6_spotOf l G ((nI i)) ((nI k))) mi_yX6_spotOf mst_yX6_spotOf ml_X6_92 ⟨rfl, rfl, Nat.le_of_ble_eq_true rfl, Nat.le_of_ble_eq_true rfl⟩ hK (fun k q h => by simp at h) rfl hl.1 rfl (Nat.le_of_ble_eq_true rfl) dX6_spanEnd_49 ⟨Nat.zero_le _, Nat.zero_le _⟩ hS hA hP (fun r30 H locs hr30 hP hS => ?_)
    obtain rfl : r30 = nI (i * 12 + k) := spot_eq hr30
    refine xiald (f := x27) hx hb hK hP 18 ((i * 12 + k)) (rfl) (by omega) (by decide) rfl dX6_spanEnd_52 ?_
    refine lv_topi (fun v31 ev31 => ?_)
    obtain rfl : v31 = nI (V3 i k) := ev31.trans ((hRD.2.2.2.1 i k hi hk hsi).1)
    exact wr_iret hx hb hr hlocks hS hP ⟨x6, x7, x8, x9, x22, x23, x24, x25, x26, x11, x12, x13, x14, x15, x16, x27, x18, x19, x4, rfl, Or.inr ⟨hs0, i, k, by omega, by omega, rfl, rfl, Or.inl ⟨kfS_i hkk, ⟨rw, cl, bk, dn, up, x11, x12, x13, x14, x15, x16, x17, x18, x19, hrw, hcl, hbk, t1, t2, t3, e3, e4, hdn, hup, hNR, hLD, V3, rfl, hmv.imp (fun z9 => ⟨z9.1, by rw [z9.2]⟩) (fun z9 => ⟨z9.1, hRD.2.2.2.2 _, z9.2⟩)⟩⟩⟩, hRB⟩ dX6_spanEnd_53
  · have b11 := bF hw3r c5
    refine lv_iconst (v := -1) hx hb dX6_spanEnd_14 (by decide) ?_
    exact wr_iret hx hb hr hlocks hS hP ⟨(f 0), (f 1), (f 2), (f 3), (f 4), (q 0), (q 1), (q 2), (qf 3), (r 6), (r 7), (r 8), (r 9), (r 10), (r 11), (r 12), (r 13), (r 14), x4, rfl, atP_n hr1 b11 rfl (fun i k h => Or.inr ⟨fun z => h (kfS_g z.1.1 z.1.2 z.2), rfl⟩), hRB⟩ dX6_spanEnd_15
set_option maxHeartbeats 4000000 in
set_option maxRecDepth 100000 in
theorem y_least (l : Launch) (G : GG) (x : Nat) (xa ta a b ga ua la lb lc : Nat → Nat) (tg gg : Nat → Option Nat) (xf tf f qf gf uf lf mf nf : Nat → Int32) (tr r q gr ur lr mr nr : Nat → Nat → Int32) (tb : Int32) (row : Int32) (col : Int32) (j : Nat) (hj : j < 6) (hjt : tbJ tb j) (htg : tg j = some (ta 0)) (hT1 : nL 12 (tf 1)) (hT2 : nL 12 (tf 2)) (hT3 : nL 12 (tf 3)) (hT4 : nOK 12 12 (tr 4)) (hNC : ¬ (tf 0) = 0 → (∀ rw cl, rw ≤ 12 → cl ≤ 12 → (tf 1) = nI rw → (tf 2) = nI cl → NRC rw cl (tr 4) (tr 5) (tr 6)) ∧ ∃ dn up, dn ≤ 1000000 ∧ up ≤ 1000000 ∧ (tr 9) 3 = nI dn ∧ (tr 9) 4 = nI up) (hRB : RB adjR (q 0)) : WrI l yX6_least cX6_least 4 (some .int) ({ frames := 7, cells := 0, slots := 0, locals := 165 }) G (xM G x xa ta a b ga ua la lb lc tg gg xf tf f qf gf uf lf mf nf tr r q gr ur lr mr nr) [.ref x, .int tb, .int row, .int col] (fun qz w => ∃ (n_f_0 : Int32) (n_f_1 : Int32) (n_f_2 : Int32) (n_f_3 : Int32) (n_f_4 : Int32) (n_q_0 : Nat → Int32) (n_q_1 : Nat → Int32) (n_q_2 : Nat → Int32) (n_qf_3 : Int32) (n_r_6 : Nat → Int32) (n_r_7 : Nat → Int32) (n_r_8 : Nat → Int32) (n_r_9 : Nat → Int32) (n_r_10 : Nat → Int32) (n_r_11 : Nat → Int32) (n_r_12 : Nat → Int32) (n_r_13 : Nat → Int32) (n_r_14 : Nat → Int32) (n_xf_0 : Int32), w = xM G x xa ta a b ga ua la lb lc tg gg (upd xf 0 n_xf_0) tf (upd (upd (upd (upd (upd f 0 n_f_0) 1 n_f_1) 2 n_f_2) 3 n_f_3) 4 n_f_4) (upd qf 3 n_qf_3) gf uf lf mf nf tr (up2 (up2 (up2 (up2 (up2 (up2 (up2 (up2 (up2 r 6 n_r_6) 7 n_r_7) 8 n_r_8) 9 n_r_9) 10 n_r_10) 11 n_r_11) 12 n_r_12) 13 n_r_13) 14 n_r_14) (up2 (up2 (up2 q 0 n_q_0) 1 n_q_1) 2 n_q_2) gr ur lr mr nr ∧ atP (stX (tbO tb j (tf 0)) (tf 1) (tf 2) (tr 4) row col) row col (fun i k => sv ((¬ (tr 5) (i * 12 + k) = 0 ∧ ¬ (tr 5) (i * 12 + k) = 5) ∧ sndP ((tf 2)).toNatClampNeg (tr 4) (tr 5) i) (spX 0 qz (tf 1) (tf 2) (tf 3) (tr 4) (tr 5) (tr 6) (tr 7) (tr 8) (tr 9) (tr 10) (tr 11) i k) (qz = -1)) (qz = -1) ∧ (RB adjR n_q_0)) := by
  refine wr_entryI (by decide +kernel) (Nat.le_of_ble_eq_true rfl) ?_
  intro p e s m below meth c A C0 hP hK hD hA ls hl
  have hS : va_S A s.heap s.heap [] := va_S.rf
  obtain ⟨hx, hb, hml, hown, hts, hr, hlocks, hin⟩ := C0
  have hown : s.vm.findClass RX6 = some m.cls := hown
  have hDD : ∀ xf' tf' f' qf' gf' uf' lf' mf' nf' tr' r' q' gr' ur' lr' mr' nr', va_D A (xM G x xa ta a b ga ua la lb lc tg gg xf' tf' f' qf' gf' uf' lf' mf' nf' tr' r' q' gr' ur' lr' mr' nr') := fun xf' tf' f' qf' gf' uf' lf' mf' nf' tr' r' q' gr' ur' lr' mr' nr' => D_same hD rfl
  have hl : lv_has ls 4 [(0, .ref x), (1, .int tb), (2, .int row), (3, .int col)] := hl
  refine lv_aload_n hx hb dX6_least_0 rfl (lv_at hl 0 rfl) ?_
  refine lv_iload_n hx hb dX6_least_1 rfl (lv_at hl 1 rfl) ?_
  refine lv_iload_n hx hb dX6_least_2 rfl (lv_at hl 2 rfl) ?_
  refine lv_iload_n hx hb dX6_least_3 rfl (lv_at hl 3 rfl) ?_
  refine lv_iconst (v := 0) hx hb dX6_least_4 (by decide) ?_
  refine wrVIa (rest := []) (q0 := 0) ⟨hx, hb, hml, hown, hts⟩ (y_spanEnd l G x xa ta a b ga ua la lb lc tg gg xf tf f qf gf uf lf mf nf tr r q gr ur lr mr nr tb row col 0 j (by omega) hjt htg hT1 hT2 hT3 hT4 hNC hRB) mi_yX6_spanEnd mv_yX6_spanEnd ml_X6_180 ⟨rfl, rfl, Nat.le_of_ble_eq_true rfl, Nat.le_of_ble_eq_true rfl⟩ hK hP (hDD _ _ _ _ _ _ _ _ _ _ _ _ _ _ _ _ _) rfl rfl rfl hl.1 rfl (Nat.le_of_ble_eq_true rfl) dX6_least_5 ⟨Nat.zero_le _, Nat.zero_le _⟩ hS hA (fun r1 w2 H locs hw2 hP hS => ?_)
  obtain ⟨x3, x4, x5, x6, x7, x8, x9, x10, x11, x12, x13, x14, x15, x16, x17, x18, x19, x20, x21, rfl, hw2r, hRB⟩ := hw2
  have hP : PP G (xM G x xa ta a b ga ua la lb lc tg gg (upd xf 0 x21) tf (upd (upd (upd (upd (upd f 0 x3) 1 x4) 2 x5) 3 x6) 4 x7) (upd qf 3 x11) gf uf lf mf nf tr (up2 (up2 (up2 (up2 (up2 (up2 (up2 (up2 (up2 r 6 x12) 7 x13) 8 x14) 9 x15) 10 x16) 11 x17) 12 x18) 13 x19) 14 x20) (up2 (up2 (up2 q 0 x8) 1 x9) 2 x10) gr ur lr mr nr) H := hP
  have hRB : RB adjR x8 := hRB
  have hw2r : atP (stX (tbO tb j (tf 0)) (tf 1) (tf 2) (tr 4) row col) row col (fun i k => sv ((¬ (tr 5) (i * 12 + k) = 0 ∧ ¬ (tr 5) (i * 12 + k) = 5) ∧ sndP ((tf 2)).toNatClampNeg (tr 4) (tr 5) i) (spX 0 r1 (tf 1) (tf 2) (tf 3) (tr 4) (tr 5) (tr 6) (tr 7) (tr 8) (tr 9) (tr 10) (tr 11) i k) (r1 = -1)) (r1 = -1) := hw2r
  exact wr_iret hx hb hr hlocks hS hP ⟨x3, x4, x5, x6, x7, x8, x9, x10, x11, x12, x13, x14, x15, x16, x17, x18, x19, x20, x21, rfl, hw2r, hRB⟩ dX6_least_8
set_option maxHeartbeats 4000000 in
set_option maxRecDepth 100000 in
theorem y_greatest (l : Launch) (G : GG) (x : Nat) (xa ta a b ga ua la lb lc : Nat → Nat) (tg gg : Nat → Option Nat) (xf tf f qf gf uf lf mf nf : Nat → Int32) (tr r q gr ur lr mr nr : Nat → Nat → Int32) (tb : Int32) (row : Int32) (col : Int32) (j : Nat) (hj : j < 6) (hjt : tbJ tb j) (htg : tg j = some (ta 0)) (hT1 : nL 12 (tf 1)) (hT2 : nL 12 (tf 2)) (hT3 : nL 12 (tf 3)) (hT4 : nOK 12 12 (tr 4)) (hNC : ¬ (tf 0) = 0 → (∀ rw cl, rw ≤ 12 → cl ≤ 12 → (tf 1) = nI rw → (tf 2) = nI cl → NRC rw cl (tr 4) (tr 5) (tr 6)) ∧ ∃ dn up, dn ≤ 1000000 ∧ up ≤ 1000000 ∧ (tr 9) 3 = nI dn ∧ (tr 9) 4 = nI up) (hRB : RB adjR (q 0)) : WrI l yX6_greatest cX6_greatest 4 (some .int) ({ frames := 7, cells := 0, slots := 0, locals := 165 }) G (xM G x xa ta a b ga ua la lb lc tg gg xf tf f qf gf uf lf mf nf tr r q gr ur lr mr nr) [.ref x, .int tb, .int row, .int col] (fun qz w => ∃ (n_f_0 : Int32) (n_f_1 : Int32) (n_f_2 : Int32) (n_f_3 : Int32) (n_f_4 : Int32) (n_q_0 : Nat → Int32) (n_q_1 : Nat → Int32) (n_q_2 : Nat → Int32) (n_qf_3 : Int32) (n_r_6 : Nat → Int32) (n_r_7 : Nat → Int32) (n_r_8 : Nat → Int32) (n_r_9 : Nat → Int32) (n_r_10 : Nat → Int32) (n_r_11 : Nat → Int32) (n_r_12 : Nat → Int32) (n_r_13 : Nat → Int32) (n_r_14 : Nat → Int32) (n_xf_0 : Int32), w = xM G x xa ta a b ga ua la lb lc tg gg (upd xf 0 n_xf_0) tf (upd (upd (upd (upd (upd f 0 n_f_0) 1 n_f_1) 2 n_f_2) 3 n_f_3) 4 n_f_4) (upd qf 3 n_qf_3) gf uf lf mf nf tr (up2 (up2 (up2 (up2 (up2 (up2 (up2 (up2 (up2 r 6 n_r_6) 7 n_r_7) 8 n_r_8) 9 n_r_9) 10 n_r_10) 11 n_r_11) 12 n_r_12) 13 n_r_13) 14 n_r_14) (up2 (up2 (up2 q 0 n_q_0) 1 n_q_1) 2 n_q_2) gr ur lr mr nr ∧ atP (stX (tbO tb j (tf 0)) (tf 1) (tf 2) (tr 4) row col) row col (fun i k => sv ((¬ (tr 5) (i * 12 + k) = 0 ∧ ¬ (tr 5) (i * 12 + k) = 5) ∧ sndP ((tf 2)).toNatClampNeg (tr 4) (tr 5) i) (spX 1 qz (tf 1) (tf 2) (tf 3) (tr 4) (tr 5) (tr 6) (tr 7) (tr 8) (tr 9) (tr 10) (tr 11) i k) (qz = -1)) (qz = -1) ∧ (RB adjR n_q_0)) := by
  refine wr_entryI (by decide +kernel) (Nat.le_of_ble_eq_true rfl) ?_
  intro p e s m below meth c A C0 hP hK hD hA ls hl
  have hS : va_S A s.heap s.heap [] := va_S.rf
  obtain ⟨hx, hb, hml, hown, hts, hr, hlocks, hin⟩ := C0
  have hown : s.vm.findClass RX6 = some m.cls := hown
  have hDD : ∀ xf' tf' f' qf' gf' uf' lf' mf' nf' tr' r' q' gr' ur' lr' mr' nr', va_D A (xM G x xa ta a b ga ua la lb lc tg gg xf' tf' f' qf' gf' uf' lf' mf' nf' tr' r' q' gr' ur' lr' mr' nr') := fun xf' tf' f' qf' gf' uf' lf' mf' nf' tr' r' q' gr' ur' lr' mr' nr' => D_same hD rfl
  have hl : lv_has ls 4 [(0, .ref x), (1, .int tb), (2, .int row), (3, .int col)] := hl
  refine lv_aload_n hx hb dX6_greatest_0 rfl (lv_at hl 0 rfl) ?_
  refine lv_iload_n hx hb dX6_greatest_1 rfl (lv_at hl 1 rfl) ?_
  refine lv_iload_n hx hb dX6_greatest_2 rfl (lv_at hl 2 rfl) ?_
  refine lv_iload_n hx hb dX6_greatest_3 rfl (lv_at hl 3 rfl) ?_
  refine lv_iconst (v := 1) hx hb dX6_greatest_4 (by decide) ?_
  refine wrVIa (rest := []) (q0 := 0) ⟨hx, hb, hml, hown, hts⟩ (y_spanEnd l G x xa ta a b ga ua la lb lc tg gg xf tf f qf gf uf lf mf nf tr r q gr ur lr mr nr tb row col 1 j (by omega) hjt htg hT1 hT2 hT3 hT4 hNC hRB) mi_yX6_spanEnd mv_yX6_spanEnd ml_X6_180 ⟨rfl, rfl, Nat.le_of_ble_eq_true rfl, Nat.le_of_ble_eq_true rfl⟩ hK hP (hDD _ _ _ _ _ _ _ _ _ _ _ _ _ _ _ _ _) rfl rfl rfl hl.1 rfl (Nat.le_of_ble_eq_true rfl) dX6_greatest_5 ⟨Nat.zero_le _, Nat.zero_le _⟩ hS hA (fun r1 w2 H locs hw2 hP hS => ?_)
  obtain ⟨x3, x4, x5, x6, x7, x8, x9, x10, x11, x12, x13, x14, x15, x16, x17, x18, x19, x20, x21, rfl, hw2r, hRB⟩ := hw2
  have hP : PP G (xM G x xa ta a b ga ua la lb lc tg gg (upd xf 0 x21) tf (upd (upd (upd (upd (upd f 0 x3) 1 x4) 2 x5) 3 x6) 4 x7) (upd qf 3 x11) gf uf lf mf nf tr (up2 (up2 (up2 (up2 (up2 (up2 (up2 (up2 (up2 r 6 x12) 7 x13) 8 x14) 9 x15) 10 x16) 11 x17) 12 x18) 13 x19) 14 x20) (up2 (up2 (up2 q 0 x8) 1 x9) 2 x10) gr ur lr mr nr) H := hP
  have hRB : RB adjR x8 := hRB
  have hw2r : atP (stX (tbO tb j (tf 0)) (tf 1) (tf 2) (tr 4) row col) row col (fun i k => sv ((¬ (tr 5) (i * 12 + k) = 0 ∧ ¬ (tr 5) (i * 12 + k) = 5) ∧ sndP ((tf 2)).toNatClampNeg (tr 4) (tr 5) i) (spX 1 r1 (tf 1) (tf 2) (tf 3) (tr 4) (tr 5) (tr 6) (tr 7) (tr 8) (tr 9) (tr 10) (tr 11) i k) (r1 = -1)) (r1 = -1) := hw2r
  exact wr_iret hx hb hr hlocks hS hP ⟨x3, x4, x5, x6, x7, x8, x9, x10, x11, x12, x13, x14, x15, x16, x17, x18, x19, x20, x21, rfl, hw2r, hRB⟩ dX6_greatest_8
set_option maxHeartbeats 4000000 in
set_option maxRecDepth 100000 in
theorem y_kept (l : Launch) (G : GG) (x : Nat) (xa ta a b ga ua la lb lc : Nat → Nat) (tg gg : Nat → Option Nat) (xf tf f qf gf uf lf mf nf : Nat → Int32) (tr r q gr ur lr mr nr : Nat → Nat → Int32) (tb : Int32) (row : Int32) (col : Int32) (j : Nat) (hj : j < 6) (hjt : tbJ tb j) (htg : tg j = some (ta 0)) (hT1 : nL 12 (tf 1)) (hT2 : nL 12 (tf 2)) (hT3 : nL 12 (tf 3)) (hT4 : nOK 12 12 (tr 4)) : WrI l yX6_kept cX6_kept 4 (some .int) ({ frames := 6, cells := 0, slots := 0, locals := 141 }) G (xM G x xa ta a b ga ua la lb lc tg gg xf tf f qf gf uf lf mf nf tr r q gr ur lr mr nr) [.ref x, .int tb, .int row, .int col] (fun qz w => ∃ (n_xf_0 : Int32), w = xM G x xa ta a b ga ua la lb lc tg gg (upd xf 0 n_xf_0) tf f qf gf uf lf mf nf tr r q gr ur lr mr nr ∧ atP (stX (tbO tb j (tf 0)) (tf 1) (tf 2) (tr 4) row col) row col (fun i k => sv ((¬ (tr 5) (i * 12 + k) = 0 ∧ ¬ (tr 5) (i * 12 + k) = 5) ∧ sndP ((tf 2)).toNatClampNeg (tr 4) (tr 5) i) (sv (kpP (tr 5) (tr 6) (tr 7) (tr 8) (tr 9) (i * 12 + k)) (qz = 1) (qz = 0)) (qz = -1)) (qz = -1)) := by
  refine wr_entryI (by decide +kernel) (Nat.le_of_ble_eq_true rfl) ?_
  intro p e s m below meth c A C0 hP hK hD hA ls hl
  have hS : va_S A s.heap s.heap [] := va_S.rf
  obtain ⟨hx, hb, hml, hown, hts, hr, hlocks, hin⟩ := C0
  have hown : s.vm.findClass RX6 = some m.cls := hown
  have hDD : ∀ xf' tf' f' qf' gf' uf' lf' mf' nf' tr' r' q' gr' ur' lr' mr' nr', va_D A (xM G x xa ta a b ga ua la lb lc tg gg xf' tf' f' qf' gf' uf' lf' mf' nf' tr' r' q' gr' ur' lr' mr' nr') := fun xf' tf' f' qf' gf' uf' lf' mf' nf' tr' r' q' gr' ur' lr' mr' nr' => D_same hD rfl
  have hl : lv_has ls 4 [(0, .ref x), (1, .int tb), (2, .int row), (3, .int col)] := hl
  refine lv_aload_n hx hb dX6_kept_0 rfl (lv_at hl 0 rfl) ?_
  refine lv_aload_n hx hb dX6_kept_1 rfl (lv_at hl 0 rfl) ?_
  refine lv_iload_n hx hb dX6_kept_2 rfl (lv_at hl 1 rfl) ?_
  refine lv_iload_n hx hb dX6_kept_3 rfl (lv_at hl 2 rfl) ?_
  refine lv_iload_n hx hb dX6_kept_4 rfl (lv_at hl 3 rfl) ?_
  refine rdV (rest := [.ref x]) (q0 := 0) ⟨hx, hb, hml, hown, hts⟩ (x_soundCellStatus l G x xa ta a b ga ua la lb lc tg gg xf tf f qf gf uf lf mf nf tr r q gr ur lr mr nr tb row col j (by omega) hjt htg hT1 hT2 hT3) mi_yX6_soundCellStatus mv_yX6_soundCellStatus ml_X6_165 ⟨rfl, rfl, Nat.le_of_ble_eq_true rfl, Nat.le_of_ble_eq_true rfl⟩ hK (hP) rfl rfl rfl hl.1 rfl (Nat.le_of_ble_eq_true rfl) dX6_kept_5 ⟨Nat.zero_le _, Nat.zero_le _⟩ hS hA hP (fun r1 H locs hr1 hP hS => ?_)
  have hr1 : stK (stX (tbO tb j (tf 0)) (tf 1) (tf 2) (tr 4) row col) row col (fun i k => kfS ((tr 5) (i * 12 + k)) (sndP ((tf 2)).toNatClampNeg (tr 4) (tr 5) i)) r1 := hr1
  refine wrVIa (rest := []) (q0 := 0) ⟨hx, hb, hml, hown, hts⟩ (x_settled l G x xa ta a b ga ua la lb lc tg gg xf tf f qf gf uf lf mf nf tr r q gr ur lr mr nr r1  ) mi_yX6_settled mv_yX6_settled ml_X6_65 ⟨rfl, rfl, Nat.le_of_ble_eq_true rfl, Nat.le_of_ble_eq_true rfl⟩ hK hP (hDD _ _ _ _ _ _ _ _ _ _ _ _ _ _ _ _ _) rfl rfl rfl hl.1 rfl (Nat.le_of_ble_eq_true rfl) dX6_kept_8 ⟨Nat.zero_le _, Nat.zero_le _⟩ hS hA (fun r2 w3 H locs hw3 hP hS => ?_)
  obtain ⟨x4, rfl, hw3r⟩ := hw3
  have hP : PP G (xM G x xa ta a b ga ua la lb lc tg gg (upd xf 0 x4) tf f qf gf uf lf mf nf tr r q gr ur lr mr nr) H := hP
  have hw3r : ((r2 = 1 ∧ ((r1 : Int32) = 0)) ∨ (r2 = 0 ∧ ¬ ((r1 : Int32) = 0))) := hw3r
  refine lv_if_ne (tgt := 16) hx hb dX6_kept_11 (by decide) (fun c5 => ?_) (fun c5 => ?_)
  · have b11 := bT hw3r c5
    have hs0 := stK_0 hr1 b11
    obtain ⟨⟨ej, ho⟩, q1, q2⟩ := stX_0 hs0 rfl
    subst ej
    have q1c := q1
    have q2c := q2
    obtain ⟨rw, hrw, t1⟩ := hT1
    obtain ⟨cl, hcl, t2⟩ := hT2
    obtain ⟨bk, hbk, t3⟩ := hT3
    have hT1 : nL 12 (tf 1) := ⟨rw, hrw, t1⟩
    have hT2 : nL 12 (tf 2) := ⟨cl, hcl, t2⟩
    have hT3 : nL 12 (tf 3) := ⟨bk, hbk, t3⟩
    rw [t1] at q1c
    rw [t2] at q2c
    obtain ⟨i, hi, ei⟩ := inR_n (by omega) q1c
    subst ei
    obtain ⟨k, hk, ek⟩ := inR_n (by omega) q2c
    subst ek
    have hkk := stK_k hr1 b11 (show i < 12 by omega) (show k < 12 by omega) rfl rfl
    refine lv_aload_n hx hb dX6_kept_16 rfl (lv_at hl 0 rfl) ?_
    refine va_get (D := G.1) (ci := 6) (v := .ref (xa 1)) (C := RX6) (T := TX6) (N := 10) hx hb hts inX6 hown hK.1 hP 0 rfl rfl 1 (by decide) (hts _ mf_X6_15) (fun _ h9 => h9) rfl dX6_kept_17 ?_
    refine lv_iload_n hx hb dX6_kept_20 rfl (lv_at hl 1 rfl) ?_
    refine xaldT hx hb hK hP 1 (j) (b := (ta 0)) rfl (by omega) (by decide) rfl (htg) dX6_kept_21 ?_
    refine lv_iload_n hx hb dX6_kept_22 rfl (lv_at hl 2 rfl) ?_
    refine lv_iload_n hx hb dX6_kept_23 rfl (lv_at hl 3 rfl) ?_
    refine rdS (rest := [.ref (ta 0)]) ⟨hx, hb, hml, hown, hts⟩ (c_X6_spotOf l G ((nI i)) ((nI k))) mi_yX6_spotOf mst_yX6_spotOf ml_X6_92 ⟨rfl, rfl, Nat.le_of_ble_eq_true rfl, Nat.le_of_ble_eq_true rfl⟩ hK (fun k q h => by simp at h) rfl hl.1 rfl (Nat.le_of_ble_eq_true rfl) dX6_kept_24 ⟨Nat.zero_le _, Nat.zero_le _⟩ hS hA hP (fun r6 H locs hr6 hP hS => ?_)
    obtain rfl : r6 = nI (i * 12 + k) := spot_eq hr6
    refine rdV (rest := []) (q0 := 0) ⟨hx, hb, hml, hown, hts⟩ (c_X4_isKept l G ta tf tr (i * 12 + k) (by omega)) mi_yX4_isKept mv_yX4_isKept ml_X6_171 ⟨rfl, rfl, Nat.le_of_ble_eq_true rfl, Nat.le_of_ble_eq_true rfl⟩ hK (blk_sub (ws' := tW G ta tf tr) (xBlk G x xa ta a b ga ua la lb lc tg gg (upd xf 0 x4) tf f qf gf uf lf mf nf tr r q gr ur lr mr nr) (i := 1) hP rfl (by decide)) rfl rfl rfl hl.1 rfl (Nat.le_of_ble_eq_true rfl) dX6_kept_27 ⟨Nat.zero_le _, Nat.zero_le _⟩ hS hA hP (fun r7 H locs hr7 hP hS => ?_)
    refine lv_if_eq (tgt := 37) hx hb dX6_kept_30 (by decide) (fun c8 => ?_) (fun c8 => ?_)
    · have b30 := bF hr7 c8
      refine lv_iconst (v := 0) hx hb dX6_kept_37 (by decide) ?_
      exact wr_iret hx hb hr hlocks hS hP ⟨x4, rfl, Or.inr ⟨hs0, i, k, by omega, by omega, rfl, rfl, Or.inl ⟨kfS_i hkk, Or.inr ⟨b30, rfl⟩⟩⟩⟩ dX6_kept_38
    · have b30 := bT hr7 c8
      refine lv_iconst (v := 1) hx hb dX6_kept_33 (by decide) ?_
      refine lv_goto (tgt := 38) hx hb dX6_kept_34 (by decide) ?_
      exact wr_iret hx hb hr hlocks hS hP ⟨x4, rfl, Or.inr ⟨hs0, i, k, by omega, by omega, rfl, rfl, Or.inl ⟨kfS_i hkk, Or.inl ⟨b30, rfl⟩⟩⟩⟩ dX6_kept_38
  · have b11 := bF hw3r c5
    refine lv_iconst (v := -1) hx hb dX6_kept_14 (by decide) ?_
    exact wr_iret hx hb hr hlocks hS hP ⟨x4, rfl, atP_n hr1 b11 rfl (fun i k h => Or.inr ⟨fun z => h (kfS_g z.1.1 z.1.2 z.2), rfl⟩)⟩ dX6_kept_15
