theorem ml_X0_41 : Cond.methodLink RX0 41 yX0_forgetPlan ∈ TB := TB_t3 171 rfl rfl
theorem mcode_yX0_forgetPlan : Cond.code yX0_forgetPlan cX0_forgetPlan 2 none ∈ TB := TB_t3 174 rfl rfl
theorem mi_yX0_forgetPlan : MI yX0_forgetPlan cX0_forgetPlan 2 none 0 := ⟨mz_RX0, mcode_yX0_forgetPlan, by decide +kernel, by decide +kernel, by decide +kernel⟩
theorem mim_yX0_forgetPlan : Cond.instanceMethod yX0_forgetPlan ∈ TB := TB_t3 173 rfl rfl
theorem msel_yX0_forgetPlan : Cond.selects yX0_forgetPlan.cls yX0_forgetPlan yX0_forgetPlan ∈ TB := TB_s (n := 9) 20 (by decide +kernel)
theorem mv_yX0_forgetPlan : Cond.instanceMethod yX0_forgetPlan ∈ TB ∧ Cond.selects yX0_forgetPlan.cls yX0_forgetPlan yX0_forgetPlan ∈ TB := ⟨mim_yX0_forgetPlan, msel_yX0_forgetPlan⟩
theorem ml_X0_71 : Cond.methodLink RX0 71 yX0_tellPlanned ∈ TB := TB_t3 202 rfl rfl
theorem mcode_yX0_tellPlanned : Cond.code yX0_tellPlanned cX0_tellPlanned 3 none ∈ TB := TB_t3 205 rfl rfl
theorem mi_yX0_tellPlanned : MI yX0_tellPlanned cX0_tellPlanned 3 none 1 := ⟨mz_RX0, mcode_yX0_tellPlanned, by decide +kernel, by decide +kernel, by decide +kernel⟩
theorem mim_yX0_tellPlanned : Cond.instanceMethod yX0_tellPlanned ∈ TB := TB_t3 204 rfl rfl
theorem msel_yX0_tellPlanned : Cond.selects yX0_tellPlanned.cls yX0_tellPlanned yX0_tellPlanned ∈ TB := TB_s (n := 9) 25 (by decide +kernel)
theorem mv_yX0_tellPlanned : Cond.instanceMethod yX0_tellPlanned ∈ TB ∧ Cond.selects yX0_tellPlanned.cls yX0_tellPlanned yX0_tellPlanned ∈ TB := ⟨mim_yX0_tellPlanned, msel_yX0_tellPlanned⟩
theorem mf_X0_52 : Cond.fieldLink RX0 52 "CellKeeper$Reader" "secret" "[I" ∈ TB := TB_t1 71 rfl rfl
theorem ml_X0_63 : Cond.methodLink RX0 63 yX0_findThree ∈ TB := TB_t3 177 rfl rfl
theorem mcode_yX0_findThree : Cond.code yX0_findThree cX0_findThree 13 none ∈ TB := TB_t3 180 rfl rfl
theorem mi_yX0_findThree : MI yX0_findThree cX0_findThree 13 none 4 := ⟨mz_RX0, mcode_yX0_findThree, by decide +kernel, by decide +kernel, by decide +kernel⟩
theorem mim_yX0_findThree : Cond.instanceMethod yX0_findThree ∈ TB := TB_t3 179 rfl rfl
theorem msel_yX0_findThree : Cond.selects yX0_findThree.cls yX0_findThree yX0_findThree ∈ TB := TB_s (n := 9) 21 (by decide +kernel)
theorem mv_yX0_findThree : Cond.instanceMethod yX0_findThree ∈ TB ∧ Cond.selects yX0_findThree.cls yX0_findThree yX0_findThree ∈ TB := ⟨mim_yX0_findThree, msel_yX0_findThree⟩
theorem ml_X0_67 : Cond.methodLink RX0 67 yX0_keepThree ∈ TB := TB_t3 190 rfl rfl
theorem mcode_yX0_keepThree : Cond.code yX0_keepThree cX0_keepThree 4 (some .int) ∈ TB := TB_t3 193 rfl rfl
theorem mi_yX0_keepThree : MI yX0_keepThree cX0_keepThree 4 (some .int) 3 := ⟨mz_RX0, mcode_yX0_keepThree, by decide +kernel, by decide +kernel, by decide +kernel⟩
theorem mim_yX0_keepThree : Cond.instanceMethod yX0_keepThree ∈ TB := TB_t3 192 rfl rfl
theorem msel_yX0_keepThree : Cond.selects yX0_keepThree.cls yX0_keepThree yX0_keepThree ∈ TB := TB_s (n := 9) 23 (by decide +kernel)
theorem mv_yX0_keepThree : Cond.instanceMethod yX0_keepThree ∈ TB ∧ Cond.selects yX0_keepThree.cls yX0_keepThree yX0_keepThree ∈ TB := ⟨mim_yX0_keepThree, msel_yX0_keepThree⟩
theorem ml_X0_59 : Cond.methodLink RX0 59 yX2_isSafe ∈ TB := TB_t3 176 rfl rfl
theorem kcX0_followPlan_0 : CHb cX0_followPlan 0 [42, 182, 0, 41, 3, 62, 3, 54, 4, 21, 4, 44, 180, 0, 44, 162, 0, 124, 3, 54, 5, 21, 5, 44, 180, 0, 49, 162, 0, 106, 44, 180, 0, 52, 21, 4, 21, 5, 184, 0, 55, 46, 153, 0, 14, 44, 21, 4, 21, 5, 182, 0, 59, 153, 0, 7, 4, 167, 0, 4, 3, 54, 6, 3] := CHb_of (by decide +kernel)
theorem dX0_followPlan_0 : decode cX0_followPlan 0 = .ok (.aload_n 0, 1) := dw_42 (kcX0_followPlan_0 0 42 rfl)
theorem dX0_followPlan_1 : decode cX0_followPlan 1 = .ok (.invokevirtual 41, 3) := dw_182 (kcX0_followPlan_0 1 182 rfl) (kcX0_followPlan_0 2 0 rfl) (kcX0_followPlan_0 3 41 rfl) rfl
theorem dX0_followPlan_4 : decode cX0_followPlan 4 = .ok (.iconst 0, 1) := dw_3 (kcX0_followPlan_0 4 3 rfl)
theorem dX0_followPlan_5 : decode cX0_followPlan 5 = .ok (.istore_n 3, 1) := dw_62 (kcX0_followPlan_0 5 62 rfl)
theorem dX0_followPlan_6 : decode cX0_followPlan 6 = .ok (.iconst 0, 1) := dw_3 (kcX0_followPlan_0 6 3 rfl)
theorem dX0_followPlan_7 : decode cX0_followPlan 7 = .ok (.istore 4, 2) := dw_54 (kcX0_followPlan_0 7 54 rfl) (kcX0_followPlan_0 8 4 rfl)
theorem dX0_followPlan_9 : decode cX0_followPlan 9 = .ok (.iload 4, 2) := dw_21 (kcX0_followPlan_0 9 21 rfl) (kcX0_followPlan_0 10 4 rfl)
theorem dX0_followPlan_11 : decode cX0_followPlan 11 = .ok (.aload_n 2, 1) := dw_44 (kcX0_followPlan_0 11 44 rfl)
theorem dX0_followPlan_12 : decode cX0_followPlan 12 = .ok (.getfield 44, 3) := dw_180 (kcX0_followPlan_0 12 180 rfl) (kcX0_followPlan_0 13 0 rfl) (kcX0_followPlan_0 14 44 rfl) rfl
theorem dX0_followPlan_15 : decode cX0_followPlan 15 = .ok (.if_icmp .ge 124, 3) := dw_162 (kcX0_followPlan_0 15 162 rfl) (kcX0_followPlan_0 16 0 rfl) (kcX0_followPlan_0 17 124 rfl) rfl
theorem kcX0_followPlan_2 : CHb cX0_followPlan 128 [5, 1, 167, 255, 147, 132, 4, 1, 167, 255, 129, 42, 43, 182, 0, 71, 29, 172] := CHb_of (by decide +kernel)
theorem dX0_followPlan_139 : decode cX0_followPlan 139 = .ok (.aload_n 0, 1) := dw_42 (kcX0_followPlan_2 11 42 rfl)
theorem dX0_followPlan_140 : decode cX0_followPlan 140 = .ok (.aload_n 1, 1) := dw_43 (kcX0_followPlan_2 12 43 rfl)
theorem dX0_followPlan_141 : decode cX0_followPlan 141 = .ok (.invokevirtual 71, 3) := dw_182 (kcX0_followPlan_2 13 182 rfl) (kcX0_followPlan_2 14 0 rfl) (kcX0_followPlan_2 15 71 rfl) rfl
theorem dX0_followPlan_144 : decode cX0_followPlan 144 = .ok (.iload_n 3, 1) := dw_29 (kcX0_followPlan_2 16 29 rfl)
theorem dX0_followPlan_145 : decode cX0_followPlan 145 = .ok (.ireturn, 1) := dw_172 (kcX0_followPlan_2 17 172 rfl)
theorem dX0_followPlan_18 : decode cX0_followPlan 18 = .ok (.iconst 0, 1) := dw_3 (kcX0_followPlan_0 18 3 rfl)
theorem dX0_followPlan_19 : decode cX0_followPlan 19 = .ok (.istore 5, 2) := dw_54 (kcX0_followPlan_0 19 54 rfl) (kcX0_followPlan_0 20 5 rfl)
theorem dX0_followPlan_21 : decode cX0_followPlan 21 = .ok (.iload 5, 2) := dw_21 (kcX0_followPlan_0 21 21 rfl) (kcX0_followPlan_0 22 5 rfl)
theorem dX0_followPlan_23 : decode cX0_followPlan 23 = .ok (.aload_n 2, 1) := dw_44 (kcX0_followPlan_0 23 44 rfl)
theorem dX0_followPlan_24 : decode cX0_followPlan 24 = .ok (.getfield 49, 3) := dw_180 (kcX0_followPlan_0 24 180 rfl) (kcX0_followPlan_0 25 0 rfl) (kcX0_followPlan_0 26 49 rfl) rfl
theorem dX0_followPlan_27 : decode cX0_followPlan 27 = .ok (.if_icmp .ge 106, 3) := dw_162 (kcX0_followPlan_0 27 162 rfl) (kcX0_followPlan_0 28 0 rfl) (kcX0_followPlan_0 29 106 rfl) rfl
theorem dX0_followPlan_133 : decode cX0_followPlan 133 = .ok (.iinc 4 1, 3) := dw_132 (kcX0_followPlan_2 5 132 rfl) (kcX0_followPlan_2 6 4 rfl) (kcX0_followPlan_2 7 1 rfl) rfl
theorem dX0_followPlan_136 : decode cX0_followPlan 136 = .ok (.goto (-127), 3) := dw_167 (kcX0_followPlan_2 8 167 rfl) (kcX0_followPlan_2 9 255 rfl) (kcX0_followPlan_2 10 129 rfl) rfl
theorem dX0_followPlan_30 : decode cX0_followPlan 30 = .ok (.aload_n 2, 1) := dw_44 (kcX0_followPlan_0 30 44 rfl)
theorem dX0_followPlan_31 : decode cX0_followPlan 31 = .ok (.getfield 52, 3) := dw_180 (kcX0_followPlan_0 31 180 rfl) (kcX0_followPlan_0 32 0 rfl) (kcX0_followPlan_0 33 52 rfl) rfl
theorem dX0_followPlan_34 : decode cX0_followPlan 34 = .ok (.iload 4, 2) := dw_21 (kcX0_followPlan_0 34 21 rfl) (kcX0_followPlan_0 35 4 rfl)
theorem dX0_followPlan_36 : decode cX0_followPlan 36 = .ok (.iload 5, 2) := dw_21 (kcX0_followPlan_0 36 21 rfl) (kcX0_followPlan_0 37 5 rfl)
theorem dX0_followPlan_38 : decode cX0_followPlan 38 = .ok (.invokestatic 55, 3) := dw_184 (kcX0_followPlan_0 38 184 rfl) (kcX0_followPlan_0 39 0 rfl) (kcX0_followPlan_0 40 55 rfl) rfl
theorem dX0_followPlan_41 : decode cX0_followPlan 41 = .ok (.iaload, 1) := dw_46 (kcX0_followPlan_0 41 46 rfl)
theorem dX0_followPlan_42 : decode cX0_followPlan 42 = .ok (.ifCond .eq 14, 3) := dw_153 (kcX0_followPlan_0 42 153 rfl) (kcX0_followPlan_0 43 0 rfl) (kcX0_followPlan_0 44 14 rfl) rfl
theorem dX0_followPlan_56 : decode cX0_followPlan 56 = .ok (.iconst 1, 1) := dw_4 (kcX0_followPlan_0 56 4 rfl)
theorem dX0_followPlan_57 : decode cX0_followPlan 57 = .ok (.goto 4, 3) := dw_167 (kcX0_followPlan_0 57 167 rfl) (kcX0_followPlan_0 58 0 rfl) (kcX0_followPlan_0 59 4 rfl) rfl
theorem dX0_followPlan_61 : decode cX0_followPlan 61 = .ok (.istore 6, 2) := dw_54 (kcX0_followPlan_0 61 54 rfl) (kcX0_followPlan_0 62 6 rfl)
theorem dX0_followPlan_63 : decode cX0_followPlan 63 = .ok (.iconst 0, 1) := dw_3 (kcX0_followPlan_0 63 3 rfl)
theorem kcX0_followPlan_1 : CHb cX0_followPlan 64 [54, 7, 21, 7, 17, 0, 144, 162, 0, 56, 21, 6, 154, 0, 51, 42, 43, 44, 21, 4, 21, 5, 182, 0, 63, 42, 180, 0, 35, 2, 160, 0, 5, 2, 172, 29, 42, 44, 21, 4, 21, 5, 182, 0, 67, 96, 62, 44, 21, 4, 21, 5, 182, 0, 59, 54, 6, 132, 7, 1, 167, 255, 198, 132] := CHb_of (by decide +kernel)
theorem dX0_followPlan_64 : decode cX0_followPlan 64 = .ok (.istore 7, 2) := dw_54 (kcX0_followPlan_1 0 54 rfl) (kcX0_followPlan_1 1 7 rfl)
theorem dX0_followPlan_66 : decode cX0_followPlan 66 = .ok (.iload 7, 2) := dw_21 (kcX0_followPlan_1 2 21 rfl) (kcX0_followPlan_1 3 7 rfl)
theorem dX0_followPlan_68 : decode cX0_followPlan 68 = .ok (.sipush 144, 3) := dw_17 (kcX0_followPlan_1 4 17 rfl) (kcX0_followPlan_1 5 0 rfl) (kcX0_followPlan_1 6 144 rfl) rfl
theorem dX0_followPlan_71 : decode cX0_followPlan 71 = .ok (.if_icmp .ge 56, 3) := dw_162 (kcX0_followPlan_1 7 162 rfl) (kcX0_followPlan_1 8 0 rfl) (kcX0_followPlan_1 9 56 rfl) rfl
theorem dX0_followPlan_127 : decode cX0_followPlan 127 = .ok (.iinc 5 1, 3) := dw_132 (kcX0_followPlan_1 63 132 rfl) (kcX0_followPlan_2 0 5 rfl) (kcX0_followPlan_2 1 1 rfl) rfl
theorem dX0_followPlan_130 : decode cX0_followPlan 130 = .ok (.goto (-109), 3) := dw_167 (kcX0_followPlan_2 2 167 rfl) (kcX0_followPlan_2 3 255 rfl) (kcX0_followPlan_2 4 147 rfl) rfl
theorem dX0_followPlan_74 : decode cX0_followPlan 74 = .ok (.iload 6, 2) := dw_21 (kcX0_followPlan_1 10 21 rfl) (kcX0_followPlan_1 11 6 rfl)
theorem dX0_followPlan_76 : decode cX0_followPlan 76 = .ok (.ifCond .ne 51, 3) := dw_154 (kcX0_followPlan_1 12 154 rfl) (kcX0_followPlan_1 13 0 rfl) (kcX0_followPlan_1 14 51 rfl) rfl
theorem dX0_followPlan_79 : decode cX0_followPlan 79 = .ok (.aload_n 0, 1) := dw_42 (kcX0_followPlan_1 15 42 rfl)
theorem dX0_followPlan_80 : decode cX0_followPlan 80 = .ok (.aload_n 1, 1) := dw_43 (kcX0_followPlan_1 16 43 rfl)
theorem dX0_followPlan_81 : decode cX0_followPlan 81 = .ok (.aload_n 2, 1) := dw_44 (kcX0_followPlan_1 17 44 rfl)
theorem dX0_followPlan_82 : decode cX0_followPlan 82 = .ok (.iload 4, 2) := dw_21 (kcX0_followPlan_1 18 21 rfl) (kcX0_followPlan_1 19 4 rfl)
theorem dX0_followPlan_84 : decode cX0_followPlan 84 = .ok (.iload 5, 2) := dw_21 (kcX0_followPlan_1 20 21 rfl) (kcX0_followPlan_1 21 5 rfl)
theorem dX0_followPlan_86 : decode cX0_followPlan 86 = .ok (.invokevirtual 63, 3) := dw_182 (kcX0_followPlan_1 22 182 rfl) (kcX0_followPlan_1 23 0 rfl) (kcX0_followPlan_1 24 63 rfl) rfl
theorem dX0_followPlan_89 : decode cX0_followPlan 89 = .ok (.aload_n 0, 1) := dw_42 (kcX0_followPlan_1 25 42 rfl)
theorem dX0_followPlan_90 : decode cX0_followPlan 90 = .ok (.getfield 35, 3) := dw_180 (kcX0_followPlan_1 26 180 rfl) (kcX0_followPlan_1 27 0 rfl) (kcX0_followPlan_1 28 35 rfl) rfl
theorem dX0_followPlan_93 : decode cX0_followPlan 93 = .ok (.iconst (-1), 1) := dw_2 (kcX0_followPlan_1 29 2 rfl)
theorem dX0_followPlan_94 : decode cX0_followPlan 94 = .ok (.if_icmp .ne 5, 3) := dw_160 (kcX0_followPlan_1 30 160 rfl) (kcX0_followPlan_1 31 0 rfl) (kcX0_followPlan_1 32 5 rfl) rfl
theorem dX0_followPlan_99 : decode cX0_followPlan 99 = .ok (.iload_n 3, 1) := dw_29 (kcX0_followPlan_1 35 29 rfl)
theorem dX0_followPlan_100 : decode cX0_followPlan 100 = .ok (.aload_n 0, 1) := dw_42 (kcX0_followPlan_1 36 42 rfl)
theorem dX0_followPlan_101 : decode cX0_followPlan 101 = .ok (.aload_n 2, 1) := dw_44 (kcX0_followPlan_1 37 44 rfl)
theorem dX0_followPlan_102 : decode cX0_followPlan 102 = .ok (.iload 4, 2) := dw_21 (kcX0_followPlan_1 38 21 rfl) (kcX0_followPlan_1 39 4 rfl)
theorem dX0_followPlan_104 : decode cX0_followPlan 104 = .ok (.iload 5, 2) := dw_21 (kcX0_followPlan_1 40 21 rfl) (kcX0_followPlan_1 41 5 rfl)
theorem dX0_followPlan_106 : decode cX0_followPlan 106 = .ok (.invokevirtual 67, 3) := dw_182 (kcX0_followPlan_1 42 182 rfl) (kcX0_followPlan_1 43 0 rfl) (kcX0_followPlan_1 44 67 rfl) rfl
theorem dX0_followPlan_109 : decode cX0_followPlan 109 = .ok (.iadd, 1) := dw_96 (kcX0_followPlan_1 45 96 rfl)
theorem dX0_followPlan_110 : decode cX0_followPlan 110 = .ok (.istore_n 3, 1) := dw_62 (kcX0_followPlan_1 46 62 rfl)
theorem dX0_followPlan_111 : decode cX0_followPlan 111 = .ok (.aload_n 2, 1) := dw_44 (kcX0_followPlan_1 47 44 rfl)
theorem dX0_followPlan_112 : decode cX0_followPlan 112 = .ok (.iload 4, 2) := dw_21 (kcX0_followPlan_1 48 21 rfl) (kcX0_followPlan_1 49 4 rfl)
theorem dX0_followPlan_114 : decode cX0_followPlan 114 = .ok (.iload 5, 2) := dw_21 (kcX0_followPlan_1 50 21 rfl) (kcX0_followPlan_1 51 5 rfl)
theorem dX0_followPlan_116 : decode cX0_followPlan 116 = .ok (.invokevirtual 59, 3) := dw_182 (kcX0_followPlan_1 52 182 rfl) (kcX0_followPlan_1 53 0 rfl) (kcX0_followPlan_1 54 59 rfl) rfl
theorem dX0_followPlan_119 : decode cX0_followPlan 119 = .ok (.istore 6, 2) := dw_54 (kcX0_followPlan_1 55 54 rfl) (kcX0_followPlan_1 56 6 rfl)
theorem dX0_followPlan_121 : decode cX0_followPlan 121 = .ok (.iinc 7 1, 3) := dw_132 (kcX0_followPlan_1 57 132 rfl) (kcX0_followPlan_1 58 7 rfl) (kcX0_followPlan_1 59 1 rfl) rfl
theorem dX0_followPlan_124 : decode cX0_followPlan 124 = .ok (.goto (-58), 3) := dw_167 (kcX0_followPlan_1 60 167 rfl) (kcX0_followPlan_1 61 255 rfl) (kcX0_followPlan_1 62 198 rfl) rfl
theorem dX0_followPlan_97 : decode cX0_followPlan 97 = .ok (.iconst (-1), 1) := dw_2 (kcX0_followPlan_1 33 2 rfl)
theorem dX0_followPlan_98 : decode cX0_followPlan 98 = .ok (.ireturn, 1) := dw_172 (kcX0_followPlan_1 34 172 rfl)
theorem dX0_followPlan_45 : decode cX0_followPlan 45 = .ok (.aload_n 2, 1) := dw_44 (kcX0_followPlan_0 45 44 rfl)
theorem dX0_followPlan_46 : decode cX0_followPlan 46 = .ok (.iload 4, 2) := dw_21 (kcX0_followPlan_0 46 21 rfl) (kcX0_followPlan_0 47 4 rfl)
theorem dX0_followPlan_48 : decode cX0_followPlan 48 = .ok (.iload 5, 2) := dw_21 (kcX0_followPlan_0 48 21 rfl) (kcX0_followPlan_0 49 5 rfl)
theorem dX0_followPlan_50 : decode cX0_followPlan 50 = .ok (.invokevirtual 59, 3) := dw_182 (kcX0_followPlan_0 50 182 rfl) (kcX0_followPlan_0 51 0 rfl) (kcX0_followPlan_0 52 59 rfl) rfl
theorem dX0_followPlan_53 : decode cX0_followPlan 53 = .ok (.ifCond .eq 7, 3) := dw_153 (kcX0_followPlan_0 53 153 rfl) (kcX0_followPlan_0 54 0 rfl) (kcX0_followPlan_0 55 7 rfl) rfl
theorem dX0_followPlan_60 : decode cX0_followPlan 60 = .ok (.iconst 0, 1) := dw_3 (kcX0_followPlan_0 60 3 rfl)
theorem SF_c {so cs kp : Nat → Int32} {rw cl dn up i j : Nat} {Lo Hi N : Nat → Nat → Nat} {K : Nat → Nat → Bool} (hK : ∀ x y, x < rw → y < cl → K x y = KA kp x y) : SAFR (kpR so cs kp rw cl (cs i)) Lo Hi (rsT (dmR so cs rw cl (cs i)) N) i j dn up ↔ SFG rw cl (fun x => ¬ so x = 0) cs Lo Hi N dn up K i j := by
  have e1 : dmR so cs rw cl (cs i) = dG rw cl (fun x => ¬ so x = 0) cs (cs i) := funext (fun x => funext (fun y => eq_pB ⟨fun z => dmR_of z, fun z => dmR_mk z.1 z.2.1 z.2.2.1 z.2.2.2⟩))
  have e2 : kpR so cs kp rw cl (cs i) = kG rw cl (fun x => ¬ so x = 0) cs (cs i) K := funext (fun x => funext (fun y => by
    unfold kpR kG
    rw [e1]
    cases h : dG rw cl (fun x => ¬ so x = 0) cs (cs i) x y with
    | false => rfl
    | true =>
      have q := pB_i h
      rw [hK x y q.1 q.2.1]; rfl))
  unfold SFG
  rw [e1, e2]
theorem RD_kp {so cs kp kp2 va nu lo hi : Nat → Int32} {rw cl : Nat} {V0 V Lo Hi : Nat → Nat → Nat} (h : RDI so cs kp va lo hi rw cl V0 V Lo Hi) (hn : RVL so nu lo hi rw cl V0 Lo Hi) (hk : ∀ x y, x < rw → y < cl → ¬ kp (x * 12 + y) = 0 → ¬ kp2 (x * 12 + y) = 0) : RDI so cs kp2 va lo hi rw cl V0 V Lo Hi := by
  refine ⟨h.1, h.2.1, h.2.2.1, h.2.2.2.1, fun cc => agN_m (h.2.2.2.2 cc) (fun x y _ _ e => ?_) (fun x y _ _ e => ?_)⟩
  · obtain ⟨e1, e2⟩ := kpR_of e
    have q := dmR_of e1
    exact kpR_mk e1 (hk x y q.1 q.2.1 e2)
  · obtain ⟨e1, _⟩ := kpR_of e
    have q := dmR_of e1
    rw [rsT_t e1]
    have b := hn x y q.1 q.2.1 q.2.2.1
    exact ⟨b.2.2.2.2.2, b.2.2.2.2.1⟩
section CC
variable {rw cl : Nat} {mt zz : Nat → Nat → Prop} {pr : Nat → Nat → Nat} {K K2 : Nat → Nat → Bool} {i j q d : Nat}
theorem CAND_c (hK : ∀ x y, x < 12 → y < 12 → K2 x y = K x y) (hrw : rw ≤ 12) (hcl : cl ≤ 12) (hi : i < 12) (hj : j < 12) (h : CAND rw cl mt zz K i j q d) : CAND rw cl mt zz K2 i j q d := by
  obtain ⟨a1, a2, a3, a4, a5, a6, a7, a8, a9⟩ := h
  exact ⟨a1, a2, a3, a4, a5, a6, a7, a8, by rw [hK i d hi (by omega), hK q j (by omega) hj, hK q d (by omega) (by omega)]; exact a9⟩
theorem pc3_c (hK : ∀ x y, x < 12 → y < 12 → K2 x y = K x y) (hrw : rw ≤ 12) (hcl : cl ≤ 12) (hi : i < 12) (hj : j < 12) (hq : q < rw) (hd : d < cl) : pc3 pr K2 i j q d = pc3 pr K i j q d := by
  unfold pc3 pcT
  rw [hK i d hi (by omega), hK q j (by omega) hj, hK q d (by omega) (by omega)]
theorem nw3_c (hK : ∀ x y, x < 12 → y < 12 → K2 x y = K x y) (hi : i < 12) (hj : j < 12) (hq : q < 12) (hd : d < 12) : nw3 K2 i j q d = nw3 K i j q d := by
  unfold nw3 nw1
  rw [hK i d hi hd, hK q j hq hj, hK q d hq hd]
theorem NON_c {n : Nat} (hK : ∀ x y, x < 12 → y < 12 → K x y = K2 x y) (hrw : rw ≤ 12) (hcl : cl ≤ 12) (hi : i < 12) (hj : j < 12) (h : NON rw cl mt zz K i j n) : NON rw cl mt zz K2 i j n := fun q d hc => h q d (CAND_c hK hrw hcl hi hj hc)
theorem BSN_c {n : Nat} (hK : ∀ x y, x < 12 → y < 12 → K x y = K2 x y) (hrw : rw ≤ 12) (hcl : cl ≤ 12) (hi : i < 12) (hj : j < 12) (h : BSN rw cl mt zz pr K i j n q d) : BSN rw cl mt zz pr K2 i j n q d := by
  have hK2 : ∀ x y, x < 12 → y < 12 → K2 x y = K x y := fun x y hx hy => (hK x y hx hy).symm
  obtain ⟨h1, h2, h3⟩ := h
  refine ⟨CAND_c hK2 hrw hcl hi hj h1, h2, fun q2 d2 hc z => ?_⟩
  have hc2 := CAND_c hK hrw hcl hi hj hc
  rw [pc3_c hK2 hrw hcl hi hj h1.1 h1.2.1, pc3_c hK2 hrw hcl hi hj hc.1 hc.2.1]
  exact h3 q2 d2 hc2 z
theorem ad3_c (hK : ∀ x y, x < 12 → y < 12 → K2 x y = K x y) {x y : Nat} (hx : x < 12) (hy : y < 12) : ad3 K2 i j q d x y = ad3 K i j q d x y := by
  unfold ad3; exact ad1_c (ad1_c (ad1_c (hK x y hx hy)))
theorem ad3_m {x y : Nat} (h : K x y = true) : ad3 K i j q d x y = true := by unfold ad3 ad1; rw [h]; rfl
end CC
/-- what the plan holds as it goes: m places are done -/
def FPI (rw cl : Nat) (UN : (Nat → Nat → Bool) → Nat → Nat → Prop) (mt zz : Nat → Nat → Prop) (pr : Nat → Nat → Nat) (K0 : Nat → Nat → Bool) (U V0 Lo Hi : Nat → Nat → Nat) (so cs kp va lo hi g0 : Nat → Int32) (f4 : Int32) (s0 : Nat → Int32) (nn : Nat) (Pl : Nat → Nat → Bool) (c m : Nat) : Prop := PLS rw cl UN mt zz pr K0 nn Pl c ∧ (∀ x y, x < 12 → y < 12 → KA kp x y = kOf K0 Pl x y) ∧ (∀ x y, x < 12 → y < 12 → KA g0 x y = Pl x y) ∧ RDI so cs kp va lo hi rw cl V0 U Lo Hi ∧ RSY so cs kp rw cl U Lo Hi f4 s0 ∧ ∀ x y, x < rw → y < cl → 12 * x + y < m → ¬ UN (kOf K0 Pl) x y
section FP
variable {rw cl dn up nn c i k qq dd m : Nat} {sec mt zz : Nat → Nat → Prop} {pr U V0 Lo Hi : Nat → Nat → Nat} {K0 Pl : Nat → Nat → Bool} {so cs kp kp2 va nu lo hi g0 g2 s0 : Nat → Int32} {f4 f5 : Int32}
theorem FPI_0 (hK : K0 = KA kp) (hg : ∀ p, p < 144 → g0 p = 0) (hR : RDI so cs kp va lo hi rw cl V0 U Lo Hi) (hS : RSY so cs kp rw cl U Lo Hi f4 s0) {UN : (Nat → Nat → Bool) → Nat → Nat → Prop} : FPI rw cl UN mt zz pr K0 U V0 Lo Hi so cs kp va lo hi g0 f4 s0 0 (fun _ _ => false) 0 0 := ⟨⟨rfl, rfl⟩, fun x y _ _ => by rw [hK]; unfold kOf; rw [Bool.or_false], fun x y hx hy => KA_f (hg _ (by omega)), hR, hS, fun x y _ _ z => absurd z (by omega)⟩
theorem FPI_m {m2 : Nat} {UN : (Nat → Nat → Bool) → Nat → Nat → Prop} (h : FPI rw cl UN mt zz pr K0 U V0 Lo Hi so cs kp va lo hi g0 f4 s0 nn Pl c m) (hn : ∀ x y, x < rw → y < cl → m ≤ 12 * x + y → 12 * x + y < m2 → ¬ UN (kOf K0 Pl) x y) : FPI rw cl UN mt zz pr K0 U V0 Lo Hi so cs kp va lo hi g0 f4 s0 nn Pl c m2 := by
  obtain ⟨h1, h2, h3, h4, h5, h6⟩ := h
  refine ⟨h1, h2, h3, h4, h5, fun x y hx hy z => ?_⟩
  rcases Nat.lt_or_ge (12 * x + y) m with w | w
  · exact h6 x y hx hy w
  · exact hn x y hx hy w z
theorem FPI_s (hrw : rw ≤ 12) (hcl : cl ≤ 12) (h : FPI rw cl (UNG rw cl (fun x => ¬ so x = 0) cs sec Lo Hi V0 dn up) mt zz pr K0 U V0 Lo Hi so cs kp va lo hi g0 f4 s0 nn Pl c (12 * i + k)) (hun : UNG rw cl (fun x => ¬ so x = 0) cs sec Lo Hi V0 dn up (kOf K0 Pl) i k) (hsk : ∀ x y, x < rw → y < cl → sec x y → K0 x y = true) (hn : RVL so nu lo hi rw cl V0 Lo Hi) (hb : BSN rw cl mt zz pr (KA kp) i k 144 qq dd) (hg : ∀ x y, y < 12 → KA g2 x y = ad3 (KA g0) i k qq dd x y) (hk : ∀ x y, y < 12 → KA kp2 x y = ad3 (KA kp) i k qq dd x y) (hf : f5 = -2 ∨ (f5 = f4 ∧ kp2 = kp)) : FPI rw cl (UNG rw cl (fun x => ¬ so x = 0) cs sec Lo Hi V0 dn up) mt zz pr K0 U V0 Lo Hi so cs kp2 va lo hi g2 f5 s0 (nn + 1) (ad3 Pl i k qq dd) (c + nw3 (KA kp) i k qq dd) (12 * i + k) := by
  obtain ⟨h1, h2, h3, h4, h5, h6⟩ := h
  have hi := hun.1
  have hk' := hun.2.1
  have hbq := hb.1.1
  have hbd := hb.1.2.1
  have hmono : ∀ x y, kOf K0 Pl x y = true → kOf K0 (ad3 Pl i k qq dd) x y = true := fun x y e => by rw [kOf_3]; exact ad3_m e
  refine ⟨⟨Pl, c, i, k, qq, dd, h1, ⟨hi, hk', hun, h6⟩, BSN_c h2 hrw hcl (by omega) (by omega) hb, rfl, ?_⟩, fun x y hx hy => ?_, fun x y hx hy => ?_, RD_kp h4 hn (fun x y hx hy e => ?_), ?_, fun x y hx hy z z2 => h6 x y hx hy z (UNG_m hrw hcl ?_ ?_ (fun x y _ _ e => hmono x y e) z2)⟩
  · rw [nw3_c (K2 := KA kp) (K := kOf K0 Pl) h2 (by omega) (by omega) (by omega) (by omega)]
  · rw [hk x y hy, kOf_3]; exact ad3_c h2 hx hy
  · rw [hg x y hy]; exact ad3_c h3 hx hy
  · have a : KA kp2 x y = true := by rw [hk x y (by omega)]; exact ad3_m (KA_t e)
    exact KA_i a
  · rcases hf with e | ⟨e1, e2⟩
    · exact Or.inl e
    · rw [e1, e2]; exact h5
  · exact fun x y hx hy hs => by
      have b := hn x y hx hy hs
      exact ⟨b.2.2.2.2.2, b.2.2.2.2.1⟩
  · exact fun x y hx hy _ hs => by
      have a := hsk x y hx hy hs
      unfold kOf; rw [a]; rfl
end FP
theorem tl_P {g td : Nat → Int32} {Pl : Nat → Nat → Bool} {x y : Nat} (h : KA g x y = Pl x y) (hp : x * 12 + y < 144) : tlP g td 144 (x * 12 + y) = (if Pl x y = true then td (x * 12 + y) ||| 2 else td (x * 12 + y)) := by
  unfold tlP
  by_cases c : g (x * 12 + y) = 0
  · rw [if_neg (fun z => z.2 c), ← h, KA_f c, if_neg (by decide)]
  · rw [if_pos ⟨hp, c⟩, ← h, KA_t c, if_pos rfl]
set_option maxHeartbeats 4000000 in
set_option maxRecDepth 100000 in
theorem x_X0_followPlan (l : Launch) (G : GG) (x : Nat) (xa ta a b ga ua la lb lc : Nat → Nat) (tg gg : Nat → Option Nat) (xf tf f qf gf uf lf mf nf : Nat → Int32) (tr r q gr ur lr mr nr : Nat → Nat → Int32) (rw : Nat) (cl : Nat) (dn : Nat) (up : Nat) (V0 : Nat → Nat → Nat) (V : Nat → Nat → Nat) (Lo : Nat → Nat → Nat) (Hi : Nat → Nat → Nat) (hrw : rw ≤ 12) (hcl : cl ≤ 12) (h0 : (f 0) = nI rw) (h1 : (f 1) = nI cl) (h2 : (f 2) = nI dn) (h3 : (f 3) = nI up) (hdn : dn ≤ 1000000) (hup : up ≤ 1000000) (hRN : RVL (r 6) (r 9) (r 13) (r 14) rw cl V0 Lo Hi) (hSC : ∀ x y, x < rw → y < cl → ¬ (r 10) (x * 12 + y) = 0 → ¬ (r 6) x = 0 ∧ ¬ (r 11) (x * 12 + y) = 0) (hNN : ∀ x y, x < rw → y < cl → ¬ (r 6) x = 0 → ∃ m, m ≤ 1000000 ∧ (tr 6) (x * 12 + y) = nI m) (hRD : RDI (r 6) (r 7) (r 11) (r 12) (r 13) (r 14) rw cl V0 V Lo Hi) (hRS : RSY (r 6) (r 7) (r 11) rw cl V Lo Hi (f 4) (q 0)) (hRB : RB adjR (q 0)) : WrI l yX0_followPlan cX0_followPlan 8 (some .int) ({ frames := 5, cells := 0, slots := 0, locals := 134 }) G (xM G x xa ta a b ga ua la lb lc tg gg xf tf f qf gf uf lf mf nf tr r q gr ur lr mr nr) [.ref (ga 9), .ref (ta 0), .ref (a 15)] (fun qz w => ∃ (n_f_4 : Int32) (n_gf_7 : Int32) (n_gf_8 : Int32) (n_gr_0 : Nat → Int32) (n_q_0 : Nat → Int32) (n_q_1 : Nat → Int32) (n_q_2 : Nat → Int32) (n_qf_3 : Int32) (n_r_11 : Nat → Int32) (n_r_12 : Nat → Int32) (n_tr_7 : Nat → Int32) (nn9 : Nat) (Pl9 : Nat → Nat → Bool) (cc9 : Nat), w = xM G x xa ta a b ga ua la lb lc tg gg xf tf (upd f 4 n_f_4) (upd qf 3 n_qf_3) (upd (upd gf 7 n_gf_7) 8 n_gf_8) uf lf mf nf (up2 tr 7 n_tr_7) (up2 (up2 r 11 n_r_11) 12 n_r_12) (up2 (up2 (up2 q 0 n_q_0) 1 n_q_1) 2 n_q_2) (up2 gr 0 n_gr_0) ur lr mr nr ∧ ((PDN rw cl (UNG rw cl (fun x => ¬ (r 6) x = 0) (r 7) (fun x y => ¬ (r 10) (x * 12 + y) = 0) Lo Hi V0 dn up) (KA (r 11)) Pl9 ∧ qz = nI cc9 ∧ ∀ x y, x < 12 → y < 12 → n_tr_7 (x * 12 + y) = (if Pl9 x y = true then (tr 7) (x * 12 + y) ||| 2 else (tr 7) (x * 12 + y))) ∨ (PFL rw cl (UNG rw cl (fun x => ¬ (r 6) x = 0) (r 7) (fun x y => ¬ (r 10) (x * 12 + y) = 0) Lo Hi V0 dn up) (mtA (r 6) (r 7)) (zzA (r 8)) (KA (r 11)) Pl9 ∧ qz = -1 ∧ n_tr_7 = (tr 7))) ∧ (PLS rw cl (UNG rw cl (fun x => ¬ (r 6) x = 0) (r 7) (fun x y => ¬ (r 10) (x * 12 + y) = 0) Lo Hi V0 dn up) (mtA (r 6) (r 7)) (zzA (r 8)) (prA (tr 9) (tr 6)) (KA (r 11)) nn9 Pl9 cc9) ∧ (RB adjR n_q_0)) := by
  refine wr_entryI (by decide +kernel) (Nat.le_of_ble_eq_true rfl) ?_
  intro p e s m below meth c A C0 hP hK hD hA ls hl
  have hS : va_S A s.heap s.heap [] := va_S.rf
  obtain ⟨hx, hb, hml, hown, hts, hr, hlocks, hin⟩ := C0
  have hown : s.vm.findClass RX0 = some m.cls := hown
  have hDD : ∀ xf' tf' f' qf' gf' uf' lf' mf' nf' tr' r' q' gr' ur' lr' mr' nr', va_D A (xM G x xa ta a b ga ua la lb lc tg gg xf' tf' f' qf' gf' uf' lf' mf' nf' tr' r' q' gr' ur' lr' mr' nr') := fun xf' tf' f' qf' gf' uf' lf' mf' nf' tr' r' q' gr' ur' lr' mr' nr' => D_same hD rfl
  have hl : lv_has ls 8 [(0, .ref (ga 9)), (1, .ref (ta 0)), (2, .ref (a 15))] := hl
  have hSK := hSC
  refine lv_aload_n hx hb dX0_followPlan_0 rfl (lv_at hl 0 rfl) ?_
  refine wrVVa (rest := []) (q0 := 25) ⟨hx, hb, hml, hown, hts⟩ (x_X0_forgetPlan l G x xa ta a b ga ua la lb lc tg gg xf tf f qf gf uf lf mf nf tr r q gr ur lr mr nr   ) mi_yX0_forgetPlan mv_yX0_forgetPlan ml_X0_41 ⟨rfl, rfl, Nat.le_of_ble_eq_true rfl, Nat.le_of_ble_eq_true rfl⟩ hK hP (hDD _ _ _ _ _ _ _ _ _ _ _ _ _ _ _ _ _) rfl rfl rfl hl.1 rfl (Nat.le_of_ble_eq_true rfl) dX0_followPlan_1 ⟨Nat.zero_le _, Nat.zero_le _⟩ hS hA (fun w2 H locs hw2 hP hS => ?_)
  obtain ⟨x3, rfl, hfg⟩ := hw2
  have hP : PP G (xM G x xa ta a b ga ua la lb lc tg gg xf tf f qf gf uf lf mf nf tr r q (up2 gr 0 x3) ur lr mr nr) H := hP
  have hfg : ∀ p, p < 144 → x3 p = 0 := hfg
  have hI : FPI rw cl (UNG rw cl (fun x => ¬ (r 6) x = 0) (r 7) (fun x y => ¬ (r 10) (x * 12 + y) = 0) Lo Hi V0 dn up) (mtA (r 6) (r 7)) (zzA (r 8)) (prA (tr 9) (tr 6)) (KA (r 11)) V V0 Lo Hi (r 6) (r 7) (r 11) (r 12) (r 13) (r 14) x3 (f 4) (q 0) 0 (fun _ _ => false) 0 0 := FPI_0 rfl hfg hRD hRS
  refine lv_iconst (v := 0) hx hb dX0_followPlan_4 (by decide) ?_
  refine lv_istore_n (lv' := [(3, .int 0), (0, .ref (ga 9)), (1, .ref (ta 0)), (2, .ref (a 15))]) hx hb dX0_followPlan_5 rfl hl (by decide) rfl (fun ls hl => ?_)
  refine lv_iconst (v := 0) hx hb dX0_followPlan_6 (by decide) ?_
  refine lv_istore (lv' := [(4, .int 0), (3, .int 0), (0, .ref (ga 9)), (1, .ref (ta 0)), (2, .ref (a 15))]) hx hb dX0_followPlan_7 hl (by decide) rfl (fun ls hl => ?_)
  have loop9 : ∀ (k4 i : Nat) (cc : Nat) (U : Nat → Nat → Nat) (nn : Nat) (Pl : Nat → Nat → Bool) (x6 : Int32) (x7 : Int32) (x8 : Int32) (x9 : Nat → Int32) (x10 : Nat → Int32) (x11 : Nat → Int32) (x12 : Nat → Int32) (x13 : Int32) (x14 : Nat → Int32) (x15 : Nat → Int32), i ≤ rw → rw < i + k4 → (RB adjR x10) → (FPI rw cl (UNG rw cl (fun x => ¬ (r 6) x = 0) (r 7) (fun x y => ¬ (r 10) (x * 12 + y) = 0) Lo Hi V0 dn up) (mtA (r 6) (r 7)) (zzA (r 8)) (prA (tr 9) (tr 6)) (KA (r 11)) U V0 Lo Hi (r 6) (r 7) x14 x15 (r 13) (r 14) x9 x6 x10 nn Pl cc (12 * i)) → ∀ (H : Heap) (locs : List Loc) (ls : Array Slot), PP G (xM G x xa ta a b ga ua la lb lc tg gg xf tf (upd f 4 x6) (upd qf 3 x13) (upd (upd gf 7 x7) 8 x8) uf lf mf nf tr (up2 (up2 r 11 x14) 12 x15) (up2 (up2 (up2 q 0 x10) 1 x11) 2 x12) (up2 gr 0 x9) ur lr mr nr) H → va_S A s.heap H locs → lv_has ls 8 [(4, .int (nI i)), (3, .int (nI cc)), (0, .ref (ga 9)), (1, .ref (ta 0)), (2, .ref (a 15))] → W p l e ({ frames := 5, cells := 0, slots := 0, locals := 134 }) s m ([.ref (ga 9), .ref (ta 0), .ref (a 15)] : List Value).toArray below meth c H locs 0 0 (MQ below (QwI G (fun qz w => ∃ (n_f_4 : Int32) (n_gf_7 : Int32) (n_gf_8 : Int32) (n_gr_0 : Nat → Int32) (n_q_0 : Nat → Int32) (n_q_1 : Nat → Int32) (n_q_2 : Nat → Int32) (n_qf_3 : Int32) (n_r_11 : Nat → Int32) (n_r_12 : Nat → Int32) (n_tr_7 : Nat → Int32) (nn9 : Nat) (Pl9 : Nat → Nat → Bool) (cc9 : Nat), w = xM G x xa ta a b ga ua la lb lc tg gg xf tf (upd f 4 n_f_4) (upd qf 3 n_qf_3) (upd (upd gf 7 n_gf_7) 8 n_gf_8) uf lf mf nf (up2 tr 7 n_tr_7) (up2 (up2 r 11 n_r_11) 12 n_r_12) (up2 (up2 (up2 q 0 n_q_0) 1 n_q_1) 2 n_q_2) (up2 gr 0 n_gr_0) ur lr mr nr ∧ ((PDN rw cl (UNG rw cl (fun x => ¬ (r 6) x = 0) (r 7) (fun x y => ¬ (r 10) (x * 12 + y) = 0) Lo Hi V0 dn up) (KA (r 11)) Pl9 ∧ qz = nI cc9 ∧ ∀ x y, x < 12 → y < 12 → n_tr_7 (x * 12 + y) = (if Pl9 x y = true then (tr 7) (x * 12 + y) ||| 2 else (tr 7) (x * 12 + y))) ∨ (PFL rw cl (UNG rw cl (fun x => ¬ (r 6) x = 0) (r 7) (fun x y => ¬ (r 10) (x * 12 + y) = 0) Lo Hi V0 dn up) (mtA (r 6) (r 7)) (zzA (r 8)) (KA (r 11)) Pl9 ∧ qz = -1 ∧ n_tr_7 = (tr 7))) ∧ (PLS rw cl (UNG rw cl (fun x => ¬ (r 6) x = 0) (r 7) (fun x y => ¬ (r 10) (x * 12 + y) = 0) Lo Hi V0 dn up) (mtA (r 6) (r 7)) (zzA (r 8)) (prA (tr 9) (tr 6)) (KA (r 11)) nn9 Pl9 cc9) ∧ (RB adjR n_q_0)) A) ([.ref (ga 9), .ref (ta 0), .ref (a 15)] : List Value).toArray s 0 0 A) (F0 m 9 ls []) := by
    intro k4
    induction k4 with
    | zero => intro i cc U nn Pl x6 x7 x8 x9 x10 x11 x12 x13 x14 x15 h1 h2; exact absurd h1 (by omega)
    | succ k4 ih9k4 =>
      intro i cc U nn Pl x6 x7 x8 x9 x10 x11 x12 x13 x14 x15 hi_i hk_i hRB hI H locs ls hP hS hl
      refine lv_iload hx hb dX0_followPlan_9 (lv_at hl 0 rfl) ?_
      refine lv_aload_n hx hb dX0_followPlan_11 rfl (lv_at hl 4 rfl) ?_
      refine va_get (D := G.1) (ci := 2) (v := .int (f 0)) (C := RX2) (T := TX2) (N := 15) hx hb hts inX2 hown hK.1 hP 11 rfl rfl 0 (by decide) (hts _ mf_X0_44) (fun _ h9 => h9) rfl dX0_followPlan_12 ?_
      rw [show (f 0) = nI (rw) from h0]
      refine lv_icmp_ge (tgt := 139) hx hb dX0_followPlan_15 (by decide) (fun c16 => ?_) (fun c16 => ?_)
      · have b15 := qge_t (a := i) (b := (rw)) (by omega) (by omega) c16
        refine lv_aload_n hx hb dX0_followPlan_139 rfl (lv_at hl 2 rfl) ?_
        refine lv_aload_n hx hb dX0_followPlan_140 rfl (lv_at hl 3 rfl) ?_
        refine wrVVa (rest := []) (q0 := 25) ⟨hx, hb, hml, hown, hts⟩ (x_X0_tellPlanned l G x xa ta a b ga ua la lb lc tg gg xf tf (upd f 4 x6) (upd qf 3 x13) (upd (upd gf 7 x7) 8 x8) uf lf mf nf tr (up2 (up2 r 11 x14) 12 x15) (up2 (up2 (up2 q 0 x10) 1 x11) 2 x12) (up2 gr 0 x9) ur lr mr nr   ) mi_yX0_tellPlanned mv_yX0_tellPlanned ml_X0_71 ⟨rfl, rfl, Nat.le_of_ble_eq_true rfl, Nat.le_of_ble_eq_true rfl⟩ hK hP (hDD _ _ _ _ _ _ _ _ _ _ _ _ _ _ _ _ _) rfl rfl rfl hl.1 rfl (Nat.le_of_ble_eq_true rfl) dX0_followPlan_141 ⟨Nat.zero_le _, Nat.zero_le _⟩ hS hA (fun w18 H locs hw18 hP hS => ?_)
        obtain ⟨x19, rfl, htp⟩ := hw18
        have hP : PP G (xM G x xa ta a b ga ua la lb lc tg gg xf tf (upd f 4 x6) (upd qf 3 x13) (upd (upd gf 7 x7) 8 x8) uf lf mf nf (up2 tr 7 x19) (up2 (up2 r 11 x14) 12 x15) (up2 (up2 (up2 q 0 x10) 1 x11) 2 x12) (up2 gr 0 x9) ur lr mr nr) H := hP
        have htp : ∀ p, p < 144 → x19 p = tlP x9 (tr 7) 144 p := htp
        refine lv_iload_n hx hb dX0_followPlan_144 rfl (lv_at hl 1 rfl) ?_
        exact wr_iret hx hb hr hlocks hS hP ⟨x6, x7, x8, x9, x10, x11, x12, x13, x14, x15, x19, nn, Pl, cc, rfl, (Or.inl ⟨fun x y h8 h9 => hI.2.2.2.2.2 x y h8 h9 (by omega), rfl, fun x y h8 h9 => by rw [htp _ (by omega)]; exact tl_P (hI.2.2.1 x y h8 h9) (by omega)⟩), hI.1, hRB⟩ dX0_followPlan_145
      · have b15 := qge_f (a := i) (b := (rw)) (by omega) (by omega) c16
        refine lv_iconst (v := 0) hx hb dX0_followPlan_18 (by decide) ?_
        refine lv_istore (lv' := [(5, .int 0), (4, .int (nI i)), (3, .int (nI cc)), (0, .ref (ga 9)), (1, .ref (ta 0)), (2, .ref (a 15))]) hx hb dX0_followPlan_19 hl (by decide) rfl (fun ls hl => ?_)
        have loop21 : ∀ (k20 k : Nat) (cc : Nat) (U : Nat → Nat → Nat) (nn : Nat) (Pl : Nat → Nat → Bool) (x22 : Int32) (x23 : Int32) (x24 : Int32) (x25 : Nat → Int32) (x26 : Nat → Int32) (x27 : Nat → Int32) (x28 : Nat → Int32) (x29 : Int32) (x30 : Nat → Int32) (x31 : Nat → Int32), k ≤ cl → cl < k + k20 → (RB adjR x26) → (FPI rw cl (UNG rw cl (fun x => ¬ (r 6) x = 0) (r 7) (fun x y => ¬ (r 10) (x * 12 + y) = 0) Lo Hi V0 dn up) (mtA (r 6) (r 7)) (zzA (r 8)) (prA (tr 9) (tr 6)) (KA (r 11)) U V0 Lo Hi (r 6) (r 7) x30 x31 (r 13) (r 14) x25 x22 x26 nn Pl cc (12 * i + k)) → ∀ (H : Heap) (locs : List Loc) (ls : Array Slot), PP G (xM G x xa ta a b ga ua la lb lc tg gg xf tf (upd f 4 x22) (upd qf 3 x29) (upd (upd gf 7 x23) 8 x24) uf lf mf nf tr (up2 (up2 r 11 x30) 12 x31) (up2 (up2 (up2 q 0 x26) 1 x27) 2 x28) (up2 gr 0 x25) ur lr mr nr) H → va_S A s.heap H locs → lv_has ls 8 [(5, .int (nI k)), (4, .int (nI i)), (3, .int (nI cc)), (0, .ref (ga 9)), (1, .ref (ta 0)), (2, .ref (a 15))] → W p l e ({ frames := 5, cells := 0, slots := 0, locals := 134 }) s m ([.ref (ga 9), .ref (ta 0), .ref (a 15)] : List Value).toArray below meth c H locs 0 0 (MQ below (QwI G (fun qz w => ∃ (n_f_4 : Int32) (n_gf_7 : Int32) (n_gf_8 : Int32) (n_gr_0 : Nat → Int32) (n_q_0 : Nat → Int32) (n_q_1 : Nat → Int32) (n_q_2 : Nat → Int32) (n_qf_3 : Int32) (n_r_11 : Nat → Int32) (n_r_12 : Nat → Int32) (n_tr_7 : Nat → Int32) (nn9 : Nat) (Pl9 : Nat → Nat → Bool) (cc9 : Nat), w = xM G x xa ta a b ga ua la lb lc tg gg xf tf (upd f 4 n_f_4) (upd qf 3 n_qf_3) (upd (upd gf 7 n_gf_7) 8 n_gf_8) uf lf mf nf (up2 tr 7 n_tr_7) (up2 (up2 r 11 n_r_11) 12 n_r_12) (up2 (up2 (up2 q 0 n_q_0) 1 n_q_1) 2 n_q_2) (up2 gr 0 n_gr_0) ur lr mr nr ∧ ((PDN rw cl (UNG rw cl (fun x => ¬ (r 6) x = 0) (r 7) (fun x y => ¬ (r 10) (x * 12 + y) = 0) Lo Hi V0 dn up) (KA (r 11)) Pl9 ∧ qz = nI cc9 ∧ ∀ x y, x < 12 → y < 12 → n_tr_7 (x * 12 + y) = (if Pl9 x y = true then (tr 7) (x * 12 + y) ||| 2 else (tr 7) (x * 12 + y))) ∨ (PFL rw cl (UNG rw cl (fun x => ¬ (r 6) x = 0) (r 7) (fun x y => ¬ (r 10) (x * 12 + y) = 0) Lo Hi V0 dn up) (mtA (r 6) (r 7)) (zzA (r 8)) (KA (r 11)) Pl9 ∧ qz = -1 ∧ n_tr_7 = (tr 7))) ∧ (PLS rw cl (UNG rw cl (fun x => ¬ (r 6) x = 0) (r 7) (fun x y => ¬ (r 10) (x * 12 + y) = 0) Lo Hi V0 dn up) (mtA (r 6) (r 7)) (zzA (r 8)) (prA (tr 9) (tr 6)) (KA (r 11)) nn9 Pl9 cc9) ∧ (RB adjR n_q_0)) A) ([.ref (ga 9), .ref (ta 0), .ref (a 15)] : List Value).toArray s 0 0 A) (F0 m 21 ls []) := by
          intro k20
          induction k20 with
          | zero => intro k cc U nn Pl x22 x23 x24 x25 x26 x27 x28 x29 x30 x31 h1 h2; exact absurd h1 (by omega)
          | succ k20 ih21k20 =>
            intro k cc U nn Pl x22 x23 x24 x25 x26 x27 x28 x29 x30 x31 hi_k hk_k hRB hI H locs ls hP hS hl
            refine lv_iload hx hb dX0_followPlan_21 (lv_at hl 0 rfl) ?_
            refine lv_aload_n hx hb dX0_followPlan_23 rfl (lv_at hl 5 rfl) ?_
            refine va_get (D := G.1) (ci := 2) (v := .int (f 1)) (C := RX2) (T := TX2) (N := 15) hx hb hts inX2 hown hK.1 hP 11 rfl rfl 1 (by decide) (hts _ mf_X0_49) (fun _ h9 => h9) rfl dX0_followPlan_24 ?_
            rw [show (f 1) = nI (cl) from h1]
            refine lv_icmp_ge (tgt := 133) hx hb dX0_followPlan_27 (by decide) (fun c32 => ?_) (fun c32 => ?_)
            · have b27 := qge_t (a := k) (b := (cl)) (by omega) (by omega) c32
              obtain ⟨v33, ev33⟩ : ∃ y9 : Int32, y9 = (nI i) + Int32.ofInt (1) := ⟨_, rfl⟩
              refine lv_iinc (v := v33) (lv' := [(4, .int v33), (5, .int (nI k)), (3, .int (nI cc)), (0, .ref (ga 9)), (1, .ref (ta 0)), (2, .ref (a 15))]) hx hb dX0_followPlan_133 hl (k := 1) rfl ev33.symm (by decide) rfl (fun ls hl => ?_)
              obtain rfl : v33 = nI (i + 1) := nI_plus (i := i) (j := 1) ev33 rfl (by decide)
              refine lv_goto (tgt := 9) hx hb dX0_followPlan_136 (by decide) ?_
              exact ih9k4 (i + 1) cc U nn Pl x22 x23 x24 x25 x26 x27 x28 x29 x30 x31 (by omega) (by omega) hRB (FPI_m hI (fun x y h6 h7 h8 h9 => absurd h7 (by omega))) _ _ _ hP hS (lv_sub hl [0, 2, 3, 4, 5] rfl)
            · have b27 := qge_f (a := k) (b := (cl)) (by omega) (by omega) c32
              refine lv_aload_n hx hb dX0_followPlan_30 rfl (lv_at hl 5 rfl) ?_
              refine va_get (D := G.1) (ci := 2) (v := .ref (a 10)) (C := RX2) (T := TX2) (N := 15) hx hb hts inX2 hown hK.1 hP 11 rfl rfl 10 (by decide) (hts _ mf_X0_52) (fun _ h9 => h9) rfl dX0_followPlan_31 ?_
              refine lv_iload hx hb dX0_followPlan_34 (lv_at hl 1 rfl) ?_
              refine lv_iload hx hb dX0_followPlan_36 (lv_at hl 0 rfl) ?_
              refine rdSN (rest := [.ref (a 10)]) ⟨hx, hb, hml, hown, hts⟩ (c_X6_spotOf l G ((nI i)) ((nI k))) mi_yX6_spotOf mst_yX6_spotOf (by decide +kernel) ⟨rfl, rfl, Nat.le_of_ble_eq_true rfl, Nat.le_of_ble_eq_true rfl⟩ hK (fun k q h => by simp at h) rfl hl.1 rfl (Nat.le_of_ble_eq_true rfl) dX0_followPlan_38 ⟨Nat.zero_le _, Nat.zero_le _⟩ hS hA hP (fun r34 H locs hr34 hP hS => ?_)
              obtain rfl : r34 = nI (i * 12 + k) := spot_eq hr34
              refine xiald (f := (r 10)) hx hb hK hP 16 ((i * 12 + k)) (rfl) (by omega) (by decide) rfl dX0_followPlan_41 ?_
              refine lv_topi (fun v35 ev35 => ?_)
              refine lv_if_eq (tgt := 56) hx hb dX0_followPlan_42 (by decide) (fun c36 => ?_) (fun c36 => ?_)
              · refine lv_iconst (v := 1) hx hb dX0_followPlan_56 (by decide) ?_
                refine lv_goto (tgt := 61) hx hb dX0_followPlan_57 (by decide) ?_
                refine lv_istore (lv' := [(6, .int 1), (5, .int (nI k)), (4, .int (nI i)), (3, .int (nI cc)), (0, .ref (ga 9)), (1, .ref (ta 0)), (2, .ref (a 15))]) hx hb dX0_followPlan_61 hl (by decide) rfl (fun ls hl => ?_)
                refine lv_iconst (v := 0) hx hb dX0_followPlan_63 (by decide) ?_
                refine lv_istore (lv' := [(7, .int 0), (6, .int 1), (5, .int (nI k)), (4, .int (nI i)), (3, .int (nI cc)), (0, .ref (ga 9)), (1, .ref (ta 0)), (2, .ref (a 15))]) hx hb dX0_followPlan_64 hl (by decide) rfl (fun ls hl => ?_)
                have loop66 : ∀ (k37 tn : Nat) (z38 : Int32) (cc : Nat) (U : Nat → Nat → Nat) (nn : Nat) (Pl : Nat → Nat → Bool) (x40 : Int32) (x41 : Int32) (x42 : Int32) (x43 : Nat → Int32) (x44 : Nat → Int32) (x45 : Nat → Int32) (x46 : Nat → Int32) (x47 : Int32) (x48 : Nat → Int32) (x49 : Nat → Int32), tn ≤ 144 → 144 < tn + k37 → (RB adjR x44) → (FPI rw cl (UNG rw cl (fun x => ¬ (r 6) x = 0) (r 7) (fun x y => ¬ (r 10) (x * 12 + y) = 0) Lo Hi V0 dn up) (mtA (r 6) (r 7)) (zzA (r 8)) (prA (tr 9) (tr 6)) (KA (r 11)) U V0 Lo Hi (r 6) (r 7) x48 x49 (r 13) (r 14) x43 x40 x44 nn Pl cc (12 * i + k)) → (((z38 : Int32) = 1 ∧ ¬ UNG rw cl (fun x => ¬ (r 6) x = 0) (r 7) (fun x y => ¬ (r 10) (x * 12 + y) = 0) Lo Hi V0 dn up (kOf (KA (r 11)) Pl) i k) ∨ ((z38 : Int32) = 0 ∧ UNG rw cl (fun x => ¬ (r 6) x = 0) (r 7) (fun x y => ¬ (r 10) (x * 12 + y) = 0) Lo Hi V0 dn up (kOf (KA (r 11)) Pl) i k)) → (tn ≤ nn) → ∀ (H : Heap) (locs : List Loc) (ls : Array Slot), PP G (xM G x xa ta a b ga ua la lb lc tg gg xf tf (upd f 4 x40) (upd qf 3 x47) (upd (upd gf 7 x41) 8 x42) uf lf mf nf tr (up2 (up2 r 11 x48) 12 x49) (up2 (up2 (up2 q 0 x44) 1 x45) 2 x46) (up2 gr 0 x43) ur lr mr nr) H → va_S A s.heap H locs → lv_has ls 8 [(7, .int (nI tn)), (6, .int z38), (5, .int (nI k)), (4, .int (nI i)), (3, .int (nI cc)), (0, .ref (ga 9)), (1, .ref (ta 0)), (2, .ref (a 15))] → W p l e ({ frames := 5, cells := 0, slots := 0, locals := 134 }) s m ([.ref (ga 9), .ref (ta 0), .ref (a 15)] : List Value).toArray below meth c H locs 0 0 (MQ below (QwI G (fun qz w => ∃ (n_f_4 : Int32) (n_gf_7 : Int32) (n_gf_8 : Int32) (n_gr_0 : Nat → Int32) (n_q_0 : Nat → Int32) (n_q_1 : Nat → Int32) (n_q_2 : Nat → Int32) (n_qf_3 : Int32) (n_r_11 : Nat → Int32) (n_r_12 : Nat → Int32) (n_tr_7 : Nat → Int32) (nn9 : Nat) (Pl9 : Nat → Nat → Bool) (cc9 : Nat), w = xM G x xa ta a b ga ua la lb lc tg gg xf tf (upd f 4 n_f_4) (upd qf 3 n_qf_3) (upd (upd gf 7 n_gf_7) 8 n_gf_8) uf lf mf nf (up2 tr 7 n_tr_7) (up2 (up2 r 11 n_r_11) 12 n_r_12) (up2 (up2 (up2 q 0 n_q_0) 1 n_q_1) 2 n_q_2) (up2 gr 0 n_gr_0) ur lr mr nr ∧ ((PDN rw cl (UNG rw cl (fun x => ¬ (r 6) x = 0) (r 7) (fun x y => ¬ (r 10) (x * 12 + y) = 0) Lo Hi V0 dn up) (KA (r 11)) Pl9 ∧ qz = nI cc9 ∧ ∀ x y, x < 12 → y < 12 → n_tr_7 (x * 12 + y) = (if Pl9 x y = true then (tr 7) (x * 12 + y) ||| 2 else (tr 7) (x * 12 + y))) ∨ (PFL rw cl (UNG rw cl (fun x => ¬ (r 6) x = 0) (r 7) (fun x y => ¬ (r 10) (x * 12 + y) = 0) Lo Hi V0 dn up) (mtA (r 6) (r 7)) (zzA (r 8)) (KA (r 11)) Pl9 ∧ qz = -1 ∧ n_tr_7 = (tr 7))) ∧ (PLS rw cl (UNG rw cl (fun x => ¬ (r 6) x = 0) (r 7) (fun x y => ¬ (r 10) (x * 12 + y) = 0) Lo Hi V0 dn up) (mtA (r 6) (r 7)) (zzA (r 8)) (prA (tr 9) (tr 6)) (KA (r 11)) nn9 Pl9 cc9) ∧ (RB adjR n_q_0)) A) ([.ref (ga 9), .ref (ta 0), .ref (a 15)] : List Value).toArray s 0 0 A) (F0 m 66 ls []) := by
                  intro k37
                  induction k37 with
                  | zero => intro tn z38 cc U nn Pl x40 x41 x42 x43 x44 x45 x46 x47 x48 x49 h1 h2; exact absurd h1 (by omega)
                  | succ k37 ih66k37 =>
                    intro tn z38 cc U nn Pl x40 x41 x42 x43 x44 x45 x46 x47 x48 x49 hi_tn hk_tn hRB hI hDN htn H locs ls hP hS hl
                    refine lv_iload hx hb dX0_followPlan_66 (lv_at hl 0 rfl) ?_
                    refine lv_sipush (v := 144) hx hb dX0_followPlan_68 (by decide) ?_
                    refine lv_icmp_ge (tgt := 127) hx hb dX0_followPlan_71 (by decide) (fun c50 => ?_) (fun c50 => ?_)
                    · have b71 := qge_t (a := tn) (b := 144) (by omega) (by omega) c50
                      obtain ⟨v51, ev51⟩ : ∃ y9 : Int32, y9 = (nI k) + Int32.ofInt (1) := ⟨_, rfl⟩
                      refine lv_iinc (v := v51) (lv' := [(5, .int v51), (7, .int (nI tn)), (6, .int z38), (4, .int (nI i)), (3, .int (nI cc)), (0, .ref (ga 9)), (1, .ref (ta 0)), (2, .ref (a 15))]) hx hb dX0_followPlan_127 hl (k := 2) rfl ev51.symm (by decide) rfl (fun ls hl => ?_)
                      obtain rfl : v51 = nI (k + 1) := nI_plus (i := k) (j := 1) ev51 rfl (by decide)
                      refine lv_goto (tgt := 21) hx hb dX0_followPlan_130 (by decide) ?_
                      exact ih21k20 (k + 1) cc U nn Pl x40 x41 x42 x43 x44 x45 x46 x47 x48 x49 (by omega) (by omega) hRB (FPI_m hI (fun x y h6 h7 h8 h9 => by obtain ⟨e8, e9⟩ : x = i ∧ y = k := (by omega); rw [e8, e9]; exact fun z9 => absurd (PLS_lt hrw hcl hI.1 (show i < 12 by omega) (show k < 12 by omega) (KA_t (hSK i k (by omega) (by omega) z9.2.2.2.1).2)).1 (by omega))) _ _ _ hP hS (lv_sub hl [0, 3, 4, 5, 6, 7] rfl)
                    · have b71 := qge_f (a := tn) (b := 144) (by omega) (by omega) c50
                      refine lv_iload hx hb dX0_followPlan_74 (lv_at hl 1 rfl) ?_
                      refine lv_if_ne (tgt := 127) hx hb dX0_followPlan_76 (by decide) (fun c52 => ?_) (fun c52 => ?_)
                      · obtain ⟨v53, ev53⟩ : ∃ y9 : Int32, y9 = (nI k) + Int32.ofInt (1) := ⟨_, rfl⟩
                        refine lv_iinc (v := v53) (lv' := [(5, .int v53), (7, .int (nI tn)), (6, .int z38), (4, .int (nI i)), (3, .int (nI cc)), (0, .ref (ga 9)), (1, .ref (ta 0)), (2, .ref (a 15))]) hx hb dX0_followPlan_127 hl (k := 2) rfl ev53.symm (by decide) rfl (fun ls hl => ?_)
                        obtain rfl : v53 = nI (k + 1) := nI_plus (i := k) (j := 1) ev53 rfl (by decide)
                        refine lv_goto (tgt := 21) hx hb dX0_followPlan_130 (by decide) ?_
                        exact ih21k20 (k + 1) cc U nn Pl x40 x41 x42 x43 x44 x45 x46 x47 x48 x49 (by omega) (by omega) hRB (FPI_m hI (fun x y h6 h7 h8 h9 => by obtain ⟨e8, e9⟩ : x = i ∧ y = k := (by omega); rw [e8, e9]; exact (hDN.resolve_right (fun z9 => c52 z9.1)).2)) _ _ _ hP hS (lv_sub hl [0, 3, 4, 5, 6, 7] rfl)
                      · have hun := (hDN.resolve_left (fun z9 => absurd (z9.1.symm.trans c52) (by decide))).2
                        have hsi : ¬ r 6 i = 0 := hun.2.2.1
                        have hsec : ¬ r 10 (i * 12 + k) = 0 := hun.2.2.2.1
                        refine lv_aload_n hx hb dX0_followPlan_79 rfl (lv_at hl 5 rfl) ?_
                        refine lv_aload_n hx hb dX0_followPlan_80 rfl (lv_at hl 6 rfl) ?_
                        refine lv_aload_n hx hb dX0_followPlan_81 rfl (lv_at hl 7 rfl) ?_
                        refine lv_iload hx hb dX0_followPlan_82 (lv_at hl 3 rfl) ?_
                        refine lv_iload hx hb dX0_followPlan_84 (lv_at hl 2 rfl) ?_
                        refine wrVVa (rest := []) (q0 := 25) ⟨hx, hb, hml, hown, hts⟩ (x_X0_findThree l G x xa ta a b ga ua la lb lc tg gg xf tf (upd f 4 x40) (upd qf 3 x47) (upd (upd gf 7 x41) 8 x42) uf lf mf nf tr (up2 (up2 r 11 x48) 12 x49) (up2 (up2 (up2 q 0 x44) 1 x45) 2 x46) (up2 gr 0 x43) ur lr mr nr i k rw cl (by omega) (by omega) (by omega) (by omega) h0 h1 hsi hNN) mi_yX0_findThree mv_yX0_findThree ml_X0_63 ⟨rfl, rfl, Nat.le_of_ble_eq_true rfl, Nat.le_of_ble_eq_true rfl⟩ hK hP (hDD _ _ _ _ _ _ _ _ _ _ _ _ _ _ _ _ _) rfl rfl rfl hl.1 rfl (Nat.le_of_ble_eq_true rfl) dX0_followPlan_86 ⟨Nat.zero_le _, Nat.zero_le _⟩ hS hA (fun w55 H locs hw55 hP hS => ?_)
                        obtain ⟨x56, x57, rfl, hft⟩ := hw55
                        have hP : PP G (xM G x xa ta a b ga ua la lb lc tg gg xf tf (upd f 4 x40) (upd qf 3 x47) (upd (upd gf 7 x56) 8 x57) uf lf mf nf tr (up2 (up2 r 11 x48) 12 x49) (up2 (up2 (up2 q 0 x44) 1 x45) 2 x46) (up2 gr 0 x43) ur lr mr nr) H := hP
                        have hft : (x56 = -1 ∧ NON rw cl (mtA (r 6) (r 7)) (zzA (r 8)) (KA x48) i k 144) ∨ ∃ qq dd, x56 = nI qq ∧ x57 = nI dd ∧ BSN rw cl (mtA (r 6) (r 7)) (zzA (r 8)) (prA (tr 9) (tr 6)) (KA x48) i k 144 qq dd := hft
                        refine lv_aload_n hx hb dX0_followPlan_89 rfl (lv_at hl 5 rfl) ?_
                        refine va_get (D := G.1) (ci := 0) (v := .int x56) (C := RX0) (T := TX0) (N := 9) hx hb hts inX0 hown hK.1 hP 25 rfl rfl 7 (by decide) (hts _ mf_X0_35) (fun _ h9 => h9) rfl dX0_followPlan_90 ?_
                        refine lv_iconst (v := -1) hx hb dX0_followPlan_93 (by decide) ?_
                        refine lv_icmp_ne (tgt := 99) hx hb dX0_followPlan_94 (by decide) (fun c58 => ?_) (fun c58 => ?_)
                        · obtain ⟨qq, dd, g7, g8, hbn⟩ := hft.resolve_left (fun z9 => c58 z9.1)
                          obtain ⟨cq1, cq2, cq3, cq4, -⟩ := hbn.1
                          refine lv_iload_n hx hb dX0_followPlan_99 rfl (lv_at hl 4 rfl) ?_
                          refine lv_aload_n hx hb dX0_followPlan_100 rfl (lv_at hl 5 rfl) ?_
                          refine lv_aload_n hx hb dX0_followPlan_101 rfl (lv_at hl 7 rfl) ?_
                          refine lv_iload hx hb dX0_followPlan_102 (lv_at hl 3 rfl) ?_
                          refine lv_iload hx hb dX0_followPlan_104 (lv_at hl 2 rfl) ?_
                          refine wrVIa (rest := [.int (nI cc)]) (q0 := 25) ⟨hx, hb, hml, hown, hts⟩ (x_X0_keepThree l G x xa ta a b ga ua la lb lc tg gg xf tf (upd f 4 x40) (upd qf 3 x47) (upd (upd gf 7 x56) 8 x57) uf lf mf nf tr (up2 (up2 r 11 x48) 12 x49) (up2 (up2 (up2 q 0 x44) 1 x45) 2 x46) (up2 gr 0 x43) ur lr mr nr i k qq dd (by omega) (by omega) (by omega) (by omega) (by omega) (by omega) g7 g8) mi_yX0_keepThree mv_yX0_keepThree ml_X0_67 ⟨rfl, rfl, Nat.le_of_ble_eq_true rfl, Nat.le_of_ble_eq_true rfl⟩ hK hP (hDD _ _ _ _ _ _ _ _ _ _ _ _ _ _ _ _ _) rfl rfl rfl hl.1 rfl (Nat.le_of_ble_eq_true rfl) dX0_followPlan_106 ⟨Nat.zero_le _, Nat.zero_le _⟩ hS hA (fun r59 w60 H locs hw60 hP hS => ?_)
                          obtain ⟨x61, x62, x63, rfl, hw60r, hpl, hkp, hf4⟩ := hw60
                          have hP : PP G (xM G x xa ta a b ga ua la lb lc tg gg xf tf (upd f 4 x61) (upd qf 3 x47) (upd (upd gf 7 x56) 8 x57) uf lf mf nf tr (up2 (up2 r 11 x63) 12 x49) (up2 (up2 (up2 q 0 x44) 1 x45) 2 x46) (up2 gr 0 x62) ur lr mr nr) H := hP
                          have hpl : ∀ x y, y < 12 → KA x62 x y = ad3 (KA x43) i k qq dd x y := hpl
                          have hkp : ∀ x y, y < 12 → KA x63 x y = ad3 (KA x48) i k qq dd x y := hkp
                          have hf4 : x61 = -2 ∨ (x61 = x40 ∧ x63 = x48) := hf4
                          obtain rfl := hw60r
                          have hI := FPI_s hrw hcl hI hun (fun x y h7 h8 h9 => KA_t (hSK x y h7 h8 h9).2) hRN hbn hpl hkp hf4
                          have hI : FPI rw cl (UNG rw cl (fun x => ¬ (r 6) x = 0) (r 7) (fun x y => ¬ (r 10) (x * 12 + y) = 0) Lo Hi V0 dn up) (mtA (r 6) (r 7)) (zzA (r 8)) (prA (tr 9) (tr 6)) (KA (r 11)) U V0 Lo Hi (r 6) (r 7) x63 x49 (r 13) (r 14) x62 x61 x44 (nn + 1) (ad3 Pl i k qq dd) (cc + nw3 (KA x48) i k qq dd) (12 * i + k) := hI
                          refine lv_iadd hx hb dX0_followPlan_109 ?_
                          refine lv_topi (fun v64 ev64 => ?_)
                          obtain rfl : v64 = nI (cc + (nw3 (KA x48) i k qq dd)) := nI_plus ev64 rfl rfl
                          refine lv_istore_n (lv' := [(3, .int (nI (cc + (nw3 (KA x48) i k qq dd)))), (7, .int (nI tn)), (6, .int z38), (5, .int (nI k)), (4, .int (nI i)), (0, .ref (ga 9)), (1, .ref (ta 0)), (2, .ref (a 15))]) hx hb dX0_followPlan_110 rfl hl (by decide) rfl (fun ls hl => ?_)
                          refine lv_aload_n hx hb dX0_followPlan_111 rfl (lv_at hl 7 rfl) ?_
                          refine lv_iload hx hb dX0_followPlan_112 (lv_at hl 4 rfl) ?_
                          refine lv_iload hx hb dX0_followPlan_114 (lv_at hl 3 rfl) ?_
                          obtain ⟨j1, j2, j3, j4, j5, j6⟩ := hI
                          refine lawI (rest := []) (q0 := 0) ⟨hx, hb, hml, hown, hts⟩ (e_X2_isSafe l G a b (upd f 4 x61) (upd qf 3 x47) (up2 (up2 r 11 x63) 12 x49) (up2 (up2 (up2 q 0 x44) 1 x45) 2 x46) i k rw cl dn up V0 U Lo Hi (by omega) (by omega) hsi h0 h1 h2 h3 hdn hup (hRN i k (by omega) (by omega) hsi).1 (by have h9 := hRN i k (by omega) (by omega) hsi; omega) j4 j5 hRB) mi_yX2_isSafe mv_yX2_isSafe ml_X0_59 ⟨rfl, rfl, Nat.le_of_ble_eq_true rfl, Nat.le_of_ble_eq_true rfl⟩ hK hP (hDD _ _ _ _ _ _ _ _ _ _ _ _ _ _ _ _ _) (pl_perm (xBlk G x xa ta a b ga ua la lb lc tg gg xf tf (upd f 4 x61) (upd qf 3 x47) (upd (upd gf 7 x56) 8 x57) uf lf mf nf tr (up2 (up2 r 11 x63) 12 x49) (up2 (up2 (up2 q 0 x44) 1 x45) 2 x46) (up2 gr 0 x62) ur lr mr nr) (sel := [2, 3]) (oth := [0, 1, 4, 5, 6, 7, 8, 9]) (by decide)) rfl rfl rfl hl.1 rfl (Nat.le_of_ble_eq_true rfl) dX0_followPlan_116 ⟨Nat.zero_le _, Nat.zero_le _⟩ hS hA (fun r71 w72 H locs hw72 hP hS => ?_)
                          obtain ⟨x65, x66, x67, x68, x69, x70, V3, rfl, hsf, j4, j5, hRB⟩ := hw72
                          have hP : PP G (xM G x xa ta a b ga ua la lb lc tg gg xf tf (upd f 4 x65) (upd qf 3 x69) (upd (upd gf 7 x56) 8 x57) uf lf mf nf tr (up2 (up2 r 11 x63) 12 x70) (up2 (up2 (up2 q 0 x66) 1 x67) 2 x68) (up2 gr 0 x62) ur lr mr nr) H := (hP rfl (xM G x xa ta a b ga ua la lb lc tg gg xf tf (upd f 4 x65) (upd qf 3 x69) (upd (upd gf 7 x56) 8 x57) uf lf mf nf tr (up2 (up2 r 11 x63) 12 x70) (up2 (up2 (up2 q 0 x66) 1 x67) 2 x68) (up2 gr 0 x62) ur lr mr nr) (pl_perm (xBlk G x xa ta a b ga ua la lb lc tg gg xf tf (upd f 4 x65) (upd qf 3 x69) (upd (upd gf 7 x56) 8 x57) uf lf mf nf tr (up2 (up2 r 11 x63) 12 x70) (up2 (up2 (up2 q 0 x66) 1 x67) 2 x68) (up2 gr 0 x62) ur lr mr nr) (sel := [2, 3]) (oth := [0, 1, 4, 5, 6, 7, 8, 9]) (by decide))).1
                          have hRB : RB adjR x66 := hRB
                          have hI : FPI rw cl (UNG rw cl (fun x => ¬ (r 6) x = 0) (r 7) (fun x y => ¬ (r 10) (x * 12 + y) = 0) Lo Hi V0 dn up) (mtA (r 6) (r 7)) (zzA (r 8)) (prA (tr 9) (tr 6)) (KA (r 11)) V3 V0 Lo Hi (r 6) (r 7) x63 x70 (r 13) (r 14) x62 x65 x66 (nn + 1) (ad3 Pl i k qq dd) (cc + nw3 (KA x48) i k qq dd) (12 * i + k) := ⟨j1, j2, j3, j4, j5, j6⟩
                          have hsg : (r71 = 1 ∧ SFG rw cl (fun x => ¬ r 6 x = 0) (r 7) Lo Hi V0 dn up (kOf (KA (r 11)) (ad3 Pl i k qq dd)) i k) ∨ (r71 = 0 ∧ ¬ SFG rw cl (fun x => ¬ r 6 x = 0) (r 7) Lo Hi V0 dn up (kOf (KA (r 11)) (ad3 Pl i k qq dd)) i k) := hsf.imp (fun z9 => ⟨z9.1, (SF_c (fun x y h8 h9 => (j2 x y (by omega) (by omega)).symm)).mp z9.2⟩) (fun z9 => ⟨z9.1, fun y9 => z9.2 ((SF_c (fun x y h8 h9 => (j2 x y (by omega) (by omega)).symm)).mpr y9)⟩)
                          refine lv_istore (lv' := [(6, .int r71), (3, .int (nI (cc + (nw3 (KA x48) i k qq dd)))), (7, .int (nI tn)), (5, .int (nI k)), (4, .int (nI i)), (0, .ref (ga 9)), (1, .ref (ta 0)), (2, .ref (a 15))]) hx hb dX0_followPlan_119 hl (by decide) rfl (fun ls hl => ?_)
                          obtain ⟨v73, ev73⟩ : ∃ y9 : Int32, y9 = (nI tn) + Int32.ofInt (1) := ⟨_, rfl⟩
                          refine lv_iinc (v := v73) (lv' := [(7, .int v73), (6, .int r71), (3, .int (nI (cc + (nw3 (KA x48) i k qq dd)))), (5, .int (nI k)), (4, .int (nI i)), (0, .ref (ga 9)), (1, .ref (ta 0)), (2, .ref (a 15))]) hx hb dX0_followPlan_121 hl (k := 2) rfl ev73.symm (by decide) rfl (fun ls hl => ?_)
                          obtain rfl : v73 = nI (tn + 1) := nI_plus (i := tn) (j := 1) ev73 rfl (by decide)
                          refine lv_goto (tgt := 66) hx hb dX0_followPlan_124 (by decide) ?_
                          exact ih66k37 (tn + 1) r71 (cc + (nw3 (KA x48) i k qq dd)) V3 (nn + 1) (ad3 Pl i k qq dd) x65 x56 x57 x62 x66 x67 x68 x69 x63 x70 (by omega) (by omega) hRB (hI) (hsg.imp (fun z9 => ⟨z9.1, fun y9 => y9.2.2.2.2 z9.2⟩) (fun z9 => ⟨z9.1, by omega, by omega, hsi, hsec, z9.2⟩)) (by omega) _ _ _ hP hS (lv_sub hl [0, 1, 3, 4, 2, 5, 6, 7] rfl)
                        · have hnon := hft.resolve_right (fun ⟨q9, d9, z9, z8, z7⟩ => absurd (z9.symm.trans c58) (nI_nm1 (by have h9 := z7.1.1; omega)))
                          refine lv_iconst (v := -1) hx hb dX0_followPlan_97 (by decide) ?_
                          exact wr_iret hx hb hr hlocks hS hP ⟨x40, x56, x57, x43, x44, x45, x46, x47, x48, x49, (tr 7), nn, Pl, cc, rfl, (Or.inr ⟨⟨i, k, ⟨by omega, by omega, hun, hI.2.2.2.2.2⟩, NON_c hI.2.1 hrw hcl (by omega) (by omega) hnon.2⟩, rfl, rfl⟩), hI.1, hRB⟩ dX0_followPlan_98
                exact loop66 (144 + 1) 0 1 cc U nn Pl x22 x23 x24 x25 x26 x27 x28 x29 x30 x31 (by omega) (by omega) hRB (hI) (Or.inl ⟨rfl, fun z9 => z9.2.2.2.1 (ev35.symm.trans c36)⟩) (Nat.zero_le _) _ _ _ hP hS (lv_sub hl [0, 1, 2, 3, 4, 5, 6, 7] rfl)
              · have hsec : ¬ r 10 (i * 12 + k) = 0 := fun z9 => c36 (ev35.trans z9)
                have hsi := (hSK i k (by omega) (by omega) hsec).1
                refine lv_aload_n hx hb dX0_followPlan_45 rfl (lv_at hl 5 rfl) ?_
                refine lv_iload hx hb dX0_followPlan_46 (lv_at hl 1 rfl) ?_
                refine lv_iload hx hb dX0_followPlan_48 (lv_at hl 0 rfl) ?_
                obtain ⟨j1, j2, j3, j4, j5, j6⟩ := hI
                refine lawI (rest := []) (q0 := 0) ⟨hx, hb, hml, hown, hts⟩ (e_X2_isSafe l G a b (upd f 4 x22) (upd qf 3 x29) (up2 (up2 r 11 x30) 12 x31) (up2 (up2 (up2 q 0 x26) 1 x27) 2 x28) i k rw cl dn up V0 U Lo Hi (by omega) (by omega) hsi h0 h1 h2 h3 hdn hup (hRN i k (by omega) (by omega) hsi).1 (by have h9 := hRN i k (by omega) (by omega) hsi; omega) j4 j5 hRB) mi_yX2_isSafe mv_yX2_isSafe ml_X0_59 ⟨rfl, rfl, Nat.le_of_ble_eq_true rfl, Nat.le_of_ble_eq_true rfl⟩ hK hP (hDD _ _ _ _ _ _ _ _ _ _ _ _ _ _ _ _ _) (pl_perm (xBlk G x xa ta a b ga ua la lb lc tg gg xf tf (upd f 4 x22) (upd qf 3 x29) (upd (upd gf 7 x23) 8 x24) uf lf mf nf tr (up2 (up2 r 11 x30) 12 x31) (up2 (up2 (up2 q 0 x26) 1 x27) 2 x28) (up2 gr 0 x25) ur lr mr nr) (sel := [2, 3]) (oth := [0, 1, 4, 5, 6, 7, 8, 9]) (by decide)) rfl rfl rfl hl.1 rfl (Nat.le_of_ble_eq_true rfl) dX0_followPlan_50 ⟨Nat.zero_le _, Nat.zero_le _⟩ hS hA (fun r80 w81 H locs hw81 hP hS => ?_)
                obtain ⟨x74, x75, x76, x77, x78, x79, V3, rfl, hsf, j4, j5, hRB⟩ := hw81
                have hP : PP G (xM G x xa ta a b ga ua la lb lc tg gg xf tf (upd f 4 x74) (upd qf 3 x78) (upd (upd gf 7 x23) 8 x24) uf lf mf nf tr (up2 (up2 r 11 x30) 12 x79) (up2 (up2 (up2 q 0 x75) 1 x76) 2 x77) (up2 gr 0 x25) ur lr mr nr) H := (hP rfl (xM G x xa ta a b ga ua la lb lc tg gg xf tf (upd f 4 x74) (upd qf 3 x78) (upd (upd gf 7 x23) 8 x24) uf lf mf nf tr (up2 (up2 r 11 x30) 12 x79) (up2 (up2 (up2 q 0 x75) 1 x76) 2 x77) (up2 gr 0 x25) ur lr mr nr) (pl_perm (xBlk G x xa ta a b ga ua la lb lc tg gg xf tf (upd f 4 x74) (upd qf 3 x78) (upd (upd gf 7 x23) 8 x24) uf lf mf nf tr (up2 (up2 r 11 x30) 12 x79) (up2 (up2 (up2 q 0 x75) 1 x76) 2 x77) (up2 gr 0 x25) ur lr mr nr) (sel := [2, 3]) (oth := [0, 1, 4, 5, 6, 7, 8, 9]) (by decide))).1
                have hRB : RB adjR x75 := hRB
                have hI : FPI rw cl (UNG rw cl (fun x => ¬ (r 6) x = 0) (r 7) (fun x y => ¬ (r 10) (x * 12 + y) = 0) Lo Hi V0 dn up) (mtA (r 6) (r 7)) (zzA (r 8)) (prA (tr 9) (tr 6)) (KA (r 11)) V3 V0 Lo Hi (r 6) (r 7) x30 x79 (r 13) (r 14) x25 x74 x75 nn Pl cc (12 * i + k) := ⟨j1, j2, j3, j4, j5, j6⟩
                have hsg : (r80 = 1 ∧ SFG rw cl (fun x => ¬ r 6 x = 0) (r 7) Lo Hi V0 dn up (kOf (KA (r 11)) Pl) i k) ∨ (r80 = 0 ∧ ¬ SFG rw cl (fun x => ¬ r 6 x = 0) (r 7) Lo Hi V0 dn up (kOf (KA (r 11)) Pl) i k) := hsf.imp (fun z9 => ⟨z9.1, (SF_c (fun x y h8 h9 => (j2 x y (by omega) (by omega)).symm)).mp z9.2⟩) (fun z9 => ⟨z9.1, fun y9 => z9.2 ((SF_c (fun x y h8 h9 => (j2 x y (by omega) (by omega)).symm)).mpr y9)⟩)
                refine lv_if_eq (tgt := 60) hx hb dX0_followPlan_53 (by decide) (fun c82 => ?_) (fun c82 => ?_)
                · refine lv_iconst (v := 0) hx hb dX0_followPlan_60 (by decide) ?_
                  refine lv_istore (lv' := [(6, .int 0), (5, .int (nI k)), (4, .int (nI i)), (3, .int (nI cc)), (0, .ref (ga 9)), (1, .ref (ta 0)), (2, .ref (a 15))]) hx hb dX0_followPlan_61 hl (by decide) rfl (fun ls hl => ?_)
                  refine lv_iconst (v := 0) hx hb dX0_followPlan_63 (by decide) ?_
                  refine lv_istore (lv' := [(7, .int 0), (6, .int 0), (5, .int (nI k)), (4, .int (nI i)), (3, .int (nI cc)), (0, .ref (ga 9)), (1, .ref (ta 0)), (2, .ref (a 15))]) hx hb dX0_followPlan_64 hl (by decide) rfl (fun ls hl => ?_)
                  have loop66 : ∀ (k83 tn : Nat) (z84 : Int32) (cc : Nat) (U : Nat → Nat → Nat) (nn : Nat) (Pl : Nat → Nat → Bool) (x86 : Int32) (x87 : Int32) (x88 : Int32) (x89 : Nat → Int32) (x90 : Nat → Int32) (x91 : Nat → Int32) (x92 : Nat → Int32) (x93 : Int32) (x94 : Nat → Int32) (x95 : Nat → Int32), tn ≤ 144 → 144 < tn + k83 → (RB adjR x90) → (FPI rw cl (UNG rw cl (fun x => ¬ (r 6) x = 0) (r 7) (fun x y => ¬ (r 10) (x * 12 + y) = 0) Lo Hi V0 dn up) (mtA (r 6) (r 7)) (zzA (r 8)) (prA (tr 9) (tr 6)) (KA (r 11)) U V0 Lo Hi (r 6) (r 7) x94 x95 (r 13) (r 14) x89 x86 x90 nn Pl cc (12 * i + k)) → (((z84 : Int32) = 1 ∧ ¬ UNG rw cl (fun x => ¬ (r 6) x = 0) (r 7) (fun x y => ¬ (r 10) (x * 12 + y) = 0) Lo Hi V0 dn up (kOf (KA (r 11)) Pl) i k) ∨ ((z84 : Int32) = 0 ∧ UNG rw cl (fun x => ¬ (r 6) x = 0) (r 7) (fun x y => ¬ (r 10) (x * 12 + y) = 0) Lo Hi V0 dn up (kOf (KA (r 11)) Pl) i k)) → (tn ≤ nn) → ∀ (H : Heap) (locs : List Loc) (ls : Array Slot), PP G (xM G x xa ta a b ga ua la lb lc tg gg xf tf (upd f 4 x86) (upd qf 3 x93) (upd (upd gf 7 x87) 8 x88) uf lf mf nf tr (up2 (up2 r 11 x94) 12 x95) (up2 (up2 (up2 q 0 x90) 1 x91) 2 x92) (up2 gr 0 x89) ur lr mr nr) H → va_S A s.heap H locs → lv_has ls 8 [(7, .int (nI tn)), (6, .int z84), (5, .int (nI k)), (4, .int (nI i)), (3, .int (nI cc)), (0, .ref (ga 9)), (1, .ref (ta 0)), (2, .ref (a 15))] → W p l e ({ frames := 5, cells := 0, slots := 0, locals := 134 }) s m ([.ref (ga 9), .ref (ta 0), .ref (a 15)] : List Value).toArray below meth c H locs 0 0 (MQ below (QwI G (fun qz w => ∃ (n_f_4 : Int32) (n_gf_7 : Int32) (n_gf_8 : Int32) (n_gr_0 : Nat → Int32) (n_q_0 : Nat → Int32) (n_q_1 : Nat → Int32) (n_q_2 : Nat → Int32) (n_qf_3 : Int32) (n_r_11 : Nat → Int32) (n_r_12 : Nat → Int32) (n_tr_7 : Nat → Int32) (nn9 : Nat) (Pl9 : Nat → Nat → Bool) (cc9 : Nat), w = xM G x xa ta a b ga ua la lb lc tg gg xf tf (upd f 4 n_f_4) (upd qf 3 n_qf_3) (upd (upd gf 7 n_gf_7) 8 n_gf_8) uf lf mf nf (up2 tr 7 n_tr_7) (up2 (up2 r 11 n_r_11) 12 n_r_12) (up2 (up2 (up2 q 0 n_q_0) 1 n_q_1) 2 n_q_2) (up2 gr 0 n_gr_0) ur lr mr nr ∧ ((PDN rw cl (UNG rw cl (fun x => ¬ (r 6) x = 0) (r 7) (fun x y => ¬ (r 10) (x * 12 + y) = 0) Lo Hi V0 dn up) (KA (r 11)) Pl9 ∧ qz = nI cc9 ∧ ∀ x y, x < 12 → y < 12 → n_tr_7 (x * 12 + y) = (if Pl9 x y = true then (tr 7) (x * 12 + y) ||| 2 else (tr 7) (x * 12 + y))) ∨ (PFL rw cl (UNG rw cl (fun x => ¬ (r 6) x = 0) (r 7) (fun x y => ¬ (r 10) (x * 12 + y) = 0) Lo Hi V0 dn up) (mtA (r 6) (r 7)) (zzA (r 8)) (KA (r 11)) Pl9 ∧ qz = -1 ∧ n_tr_7 = (tr 7))) ∧ (PLS rw cl (UNG rw cl (fun x => ¬ (r 6) x = 0) (r 7) (fun x y => ¬ (r 10) (x * 12 + y) = 0) Lo Hi V0 dn up) (mtA (r 6) (r 7)) (zzA (r 8)) (prA (tr 9) (tr 6)) (KA (r 11)) nn9 Pl9 cc9) ∧ (RB adjR n_q_0)) A) ([.ref (ga 9), .ref (ta 0), .ref (a 15)] : List Value).toArray s 0 0 A) (F0 m 66 ls []) := by
                    intro k83
                    induction k83 with
                    | zero => intro tn z84 cc U nn Pl x86 x87 x88 x89 x90 x91 x92 x93 x94 x95 h1 h2; exact absurd h1 (by omega)
                    | succ k83 ih66k83 =>
                      intro tn z84 cc U nn Pl x86 x87 x88 x89 x90 x91 x92 x93 x94 x95 hi_tn hk_tn hRB hI hDN htn H locs ls hP hS hl
                      refine lv_iload hx hb dX0_followPlan_66 (lv_at hl 0 rfl) ?_
                      refine lv_sipush (v := 144) hx hb dX0_followPlan_68 (by decide) ?_
                      refine lv_icmp_ge (tgt := 127) hx hb dX0_followPlan_71 (by decide) (fun c96 => ?_) (fun c96 => ?_)
                      · have b71 := qge_t (a := tn) (b := 144) (by omega) (by omega) c96
                        obtain ⟨v97, ev97⟩ : ∃ y9 : Int32, y9 = (nI k) + Int32.ofInt (1) := ⟨_, rfl⟩
                        refine lv_iinc (v := v97) (lv' := [(5, .int v97), (7, .int (nI tn)), (6, .int z84), (4, .int (nI i)), (3, .int (nI cc)), (0, .ref (ga 9)), (1, .ref (ta 0)), (2, .ref (a 15))]) hx hb dX0_followPlan_127 hl (k := 2) rfl ev97.symm (by decide) rfl (fun ls hl => ?_)
                        obtain rfl : v97 = nI (k + 1) := nI_plus (i := k) (j := 1) ev97 rfl (by decide)
                        refine lv_goto (tgt := 21) hx hb dX0_followPlan_130 (by decide) ?_
                        exact ih21k20 (k + 1) cc U nn Pl x86 x87 x88 x89 x90 x91 x92 x93 x94 x95 (by omega) (by omega) hRB (FPI_m hI (fun x y h6 h7 h8 h9 => by obtain ⟨e8, e9⟩ : x = i ∧ y = k := (by omega); rw [e8, e9]; exact fun z9 => absurd (PLS_lt hrw hcl hI.1 (show i < 12 by omega) (show k < 12 by omega) (KA_t (hSK i k (by omega) (by omega) z9.2.2.2.1).2)).1 (by omega))) _ _ _ hP hS (lv_sub hl [0, 3, 4, 5, 6, 7] rfl)
                      · have b71 := qge_f (a := tn) (b := 144) (by omega) (by omega) c96
                        refine lv_iload hx hb dX0_followPlan_74 (lv_at hl 1 rfl) ?_
                        refine lv_if_ne (tgt := 127) hx hb dX0_followPlan_76 (by decide) (fun c98 => ?_) (fun c98 => ?_)
                        · obtain ⟨v99, ev99⟩ : ∃ y9 : Int32, y9 = (nI k) + Int32.ofInt (1) := ⟨_, rfl⟩
                          refine lv_iinc (v := v99) (lv' := [(5, .int v99), (7, .int (nI tn)), (6, .int z84), (4, .int (nI i)), (3, .int (nI cc)), (0, .ref (ga 9)), (1, .ref (ta 0)), (2, .ref (a 15))]) hx hb dX0_followPlan_127 hl (k := 2) rfl ev99.symm (by decide) rfl (fun ls hl => ?_)
                          obtain rfl : v99 = nI (k + 1) := nI_plus (i := k) (j := 1) ev99 rfl (by decide)
                          refine lv_goto (tgt := 21) hx hb dX0_followPlan_130 (by decide) ?_
                          exact ih21k20 (k + 1) cc U nn Pl x86 x87 x88 x89 x90 x91 x92 x93 x94 x95 (by omega) (by omega) hRB (FPI_m hI (fun x y h6 h7 h8 h9 => by obtain ⟨e8, e9⟩ : x = i ∧ y = k := (by omega); rw [e8, e9]; exact (hDN.resolve_right (fun z9 => c98 z9.1)).2)) _ _ _ hP hS (lv_sub hl [0, 3, 4, 5, 6, 7] rfl)
                        · have hun := (hDN.resolve_left (fun z9 => absurd (z9.1.symm.trans c98) (by decide))).2
                          have hsi : ¬ r 6 i = 0 := hun.2.2.1
                          have hsec : ¬ r 10 (i * 12 + k) = 0 := hun.2.2.2.1
                          refine lv_aload_n hx hb dX0_followPlan_79 rfl (lv_at hl 5 rfl) ?_
                          refine lv_aload_n hx hb dX0_followPlan_80 rfl (lv_at hl 6 rfl) ?_
                          refine lv_aload_n hx hb dX0_followPlan_81 rfl (lv_at hl 7 rfl) ?_
                          refine lv_iload hx hb dX0_followPlan_82 (lv_at hl 3 rfl) ?_
                          refine lv_iload hx hb dX0_followPlan_84 (lv_at hl 2 rfl) ?_
                          refine wrVVa (rest := []) (q0 := 25) ⟨hx, hb, hml, hown, hts⟩ (x_X0_findThree l G x xa ta a b ga ua la lb lc tg gg xf tf (upd f 4 x86) (upd qf 3 x93) (upd (upd gf 7 x87) 8 x88) uf lf mf nf tr (up2 (up2 r 11 x94) 12 x95) (up2 (up2 (up2 q 0 x90) 1 x91) 2 x92) (up2 gr 0 x89) ur lr mr nr i k rw cl (by omega) (by omega) (by omega) (by omega) h0 h1 hsi hNN) mi_yX0_findThree mv_yX0_findThree ml_X0_63 ⟨rfl, rfl, Nat.le_of_ble_eq_true rfl, Nat.le_of_ble_eq_true rfl⟩ hK hP (hDD _ _ _ _ _ _ _ _ _ _ _ _ _ _ _ _ _) rfl rfl rfl hl.1 rfl (Nat.le_of_ble_eq_true rfl) dX0_followPlan_86 ⟨Nat.zero_le _, Nat.zero_le _⟩ hS hA (fun w101 H locs hw101 hP hS => ?_)
                          obtain ⟨x102, x103, rfl, hft⟩ := hw101
                          have hP : PP G (xM G x xa ta a b ga ua la lb lc tg gg xf tf (upd f 4 x86) (upd qf 3 x93) (upd (upd gf 7 x102) 8 x103) uf lf mf nf tr (up2 (up2 r 11 x94) 12 x95) (up2 (up2 (up2 q 0 x90) 1 x91) 2 x92) (up2 gr 0 x89) ur lr mr nr) H := hP
                          have hft : (x102 = -1 ∧ NON rw cl (mtA (r 6) (r 7)) (zzA (r 8)) (KA x94) i k 144) ∨ ∃ qq dd, x102 = nI qq ∧ x103 = nI dd ∧ BSN rw cl (mtA (r 6) (r 7)) (zzA (r 8)) (prA (tr 9) (tr 6)) (KA x94) i k 144 qq dd := hft
                          refine lv_aload_n hx hb dX0_followPlan_89 rfl (lv_at hl 5 rfl) ?_
                          refine va_get (D := G.1) (ci := 0) (v := .int x102) (C := RX0) (T := TX0) (N := 9) hx hb hts inX0 hown hK.1 hP 25 rfl rfl 7 (by decide) (hts _ mf_X0_35) (fun _ h9 => h9) rfl dX0_followPlan_90 ?_
                          refine lv_iconst (v := -1) hx hb dX0_followPlan_93 (by decide) ?_
                          refine lv_icmp_ne (tgt := 99) hx hb dX0_followPlan_94 (by decide) (fun c104 => ?_) (fun c104 => ?_)
                          · obtain ⟨qq, dd, g7, g8, hbn⟩ := hft.resolve_left (fun z9 => c104 z9.1)
                            obtain ⟨cq1, cq2, cq3, cq4, -⟩ := hbn.1
                            refine lv_iload_n hx hb dX0_followPlan_99 rfl (lv_at hl 4 rfl) ?_
                            refine lv_aload_n hx hb dX0_followPlan_100 rfl (lv_at hl 5 rfl) ?_
                            refine lv_aload_n hx hb dX0_followPlan_101 rfl (lv_at hl 7 rfl) ?_
                            refine lv_iload hx hb dX0_followPlan_102 (lv_at hl 3 rfl) ?_
                            refine lv_iload hx hb dX0_followPlan_104 (lv_at hl 2 rfl) ?_
                            refine wrVIa (rest := [.int (nI cc)]) (q0 := 25) ⟨hx, hb, hml, hown, hts⟩ (x_X0_keepThree l G x xa ta a b ga ua la lb lc tg gg xf tf (upd f 4 x86) (upd qf 3 x93) (upd (upd gf 7 x102) 8 x103) uf lf mf nf tr (up2 (up2 r 11 x94) 12 x95) (up2 (up2 (up2 q 0 x90) 1 x91) 2 x92) (up2 gr 0 x89) ur lr mr nr i k qq dd (by omega) (by omega) (by omega) (by omega) (by omega) (by omega) g7 g8) mi_yX0_keepThree mv_yX0_keepThree ml_X0_67 ⟨rfl, rfl, Nat.le_of_ble_eq_true rfl, Nat.le_of_ble_eq_true rfl⟩ hK hP (hDD _ _ _ _ _ _ _ _ _ _ _ _ _ _ _ _ _) rfl rfl rfl hl.1 rfl (Nat.le_of_ble_eq_true rfl) dX0_followPlan_106 ⟨Nat.zero_le _, Nat.zero_le _⟩ hS hA (fun r105 w106 H locs hw106 hP hS => ?_)
                            obtain ⟨x107, x108, x109, rfl, hw106r, hpl, hkp, hf4⟩ := hw106
                            have hP : PP G (xM G x xa ta a b ga ua la lb lc tg gg xf tf (upd f 4 x107) (upd qf 3 x93) (upd (upd gf 7 x102) 8 x103) uf lf mf nf tr (up2 (up2 r 11 x109) 12 x95) (up2 (up2 (up2 q 0 x90) 1 x91) 2 x92) (up2 gr 0 x108) ur lr mr nr) H := hP
                            have hpl : ∀ x y, y < 12 → KA x108 x y = ad3 (KA x89) i k qq dd x y := hpl
                            have hkp : ∀ x y, y < 12 → KA x109 x y = ad3 (KA x94) i k qq dd x y := hkp
                            have hf4 : x107 = -2 ∨ (x107 = x86 ∧ x109 = x94) := hf4
                            obtain rfl := hw106r
                            have hI := FPI_s hrw hcl hI hun (fun x y h7 h8 h9 => KA_t (hSK x y h7 h8 h9).2) hRN hbn hpl hkp hf4
                            have hI : FPI rw cl (UNG rw cl (fun x => ¬ (r 6) x = 0) (r 7) (fun x y => ¬ (r 10) (x * 12 + y) = 0) Lo Hi V0 dn up) (mtA (r 6) (r 7)) (zzA (r 8)) (prA (tr 9) (tr 6)) (KA (r 11)) U V0 Lo Hi (r 6) (r 7) x109 x95 (r 13) (r 14) x108 x107 x90 (nn + 1) (ad3 Pl i k qq dd) (cc + nw3 (KA x94) i k qq dd) (12 * i + k) := hI
                            refine lv_iadd hx hb dX0_followPlan_109 ?_
                            refine lv_topi (fun v110 ev110 => ?_)
                            obtain rfl : v110 = nI (cc + (nw3 (KA x94) i k qq dd)) := nI_plus ev110 rfl rfl
                            refine lv_istore_n (lv' := [(3, .int (nI (cc + (nw3 (KA x94) i k qq dd)))), (7, .int (nI tn)), (6, .int z84), (5, .int (nI k)), (4, .int (nI i)), (0, .ref (ga 9)), (1, .ref (ta 0)), (2, .ref (a 15))]) hx hb dX0_followPlan_110 rfl hl (by decide) rfl (fun ls hl => ?_)
                            refine lv_aload_n hx hb dX0_followPlan_111 rfl (lv_at hl 7 rfl) ?_
                            refine lv_iload hx hb dX0_followPlan_112 (lv_at hl 4 rfl) ?_
                            refine lv_iload hx hb dX0_followPlan_114 (lv_at hl 3 rfl) ?_
                            obtain ⟨j1, j2, j3, j4, j5, j6⟩ := hI
                            refine lawI (rest := []) (q0 := 0) ⟨hx, hb, hml, hown, hts⟩ (e_X2_isSafe l G a b (upd f 4 x107) (upd qf 3 x93) (up2 (up2 r 11 x109) 12 x95) (up2 (up2 (up2 q 0 x90) 1 x91) 2 x92) i k rw cl dn up V0 U Lo Hi (by omega) (by omega) hsi h0 h1 h2 h3 hdn hup (hRN i k (by omega) (by omega) hsi).1 (by have h9 := hRN i k (by omega) (by omega) hsi; omega) j4 j5 hRB) mi_yX2_isSafe mv_yX2_isSafe ml_X0_59 ⟨rfl, rfl, Nat.le_of_ble_eq_true rfl, Nat.le_of_ble_eq_true rfl⟩ hK hP (hDD _ _ _ _ _ _ _ _ _ _ _ _ _ _ _ _ _) (pl_perm (xBlk G x xa ta a b ga ua la lb lc tg gg xf tf (upd f 4 x107) (upd qf 3 x93) (upd (upd gf 7 x102) 8 x103) uf lf mf nf tr (up2 (up2 r 11 x109) 12 x95) (up2 (up2 (up2 q 0 x90) 1 x91) 2 x92) (up2 gr 0 x108) ur lr mr nr) (sel := [2, 3]) (oth := [0, 1, 4, 5, 6, 7, 8, 9]) (by decide)) rfl rfl rfl hl.1 rfl (Nat.le_of_ble_eq_true rfl) dX0_followPlan_116 ⟨Nat.zero_le _, Nat.zero_le _⟩ hS hA (fun r117 w118 H locs hw118 hP hS => ?_)
                            obtain ⟨x111, x112, x113, x114, x115, x116, V3, rfl, hsf, j4, j5, hRB⟩ := hw118
                            have hP : PP G (xM G x xa ta a b ga ua la lb lc tg gg xf tf (upd f 4 x111) (upd qf 3 x115) (upd (upd gf 7 x102) 8 x103) uf lf mf nf tr (up2 (up2 r 11 x109) 12 x116) (up2 (up2 (up2 q 0 x112) 1 x113) 2 x114) (up2 gr 0 x108) ur lr mr nr) H := (hP rfl (xM G x xa ta a b ga ua la lb lc tg gg xf tf (upd f 4 x111) (upd qf 3 x115) (upd (upd gf 7 x102) 8 x103) uf lf mf nf tr (up2 (up2 r 11 x109) 12 x116) (up2 (up2 (up2 q 0 x112) 1 x113) 2 x114) (up2 gr 0 x108) ur lr mr nr) (pl_perm (xBlk G x xa ta a b ga ua la lb lc tg gg xf tf (upd f 4 x111) (upd qf 3 x115) (upd (upd gf 7 x102) 8 x103) uf lf mf nf tr (up2 (up2 r 11 x109) 12 x116) (up2 (up2 (up2 q 0 x112) 1 x113) 2 x114) (up2 gr 0 x108) ur lr mr nr) (sel := [2, 3]) (oth := [0, 1, 4, 5, 6, 7, 8, 9]) (by decide))).1
                            have hRB : RB adjR x112 := hRB
                            have hI : FPI rw cl (UNG rw cl (fun x => ¬ (r 6) x = 0) (r 7) (fun x y => ¬ (r 10) (x * 12 + y) = 0) Lo Hi V0 dn up) (mtA (r 6) (r 7)) (zzA (r 8)) (prA (tr 9) (tr 6)) (KA (r 11)) V3 V0 Lo Hi (r 6) (r 7) x109 x116 (r 13) (r 14) x108 x111 x112 (nn + 1) (ad3 Pl i k qq dd) (cc + nw3 (KA x94) i k qq dd) (12 * i + k) := ⟨j1, j2, j3, j4, j5, j6⟩
                            have hsg : (r117 = 1 ∧ SFG rw cl (fun x => ¬ r 6 x = 0) (r 7) Lo Hi V0 dn up (kOf (KA (r 11)) (ad3 Pl i k qq dd)) i k) ∨ (r117 = 0 ∧ ¬ SFG rw cl (fun x => ¬ r 6 x = 0) (r 7) Lo Hi V0 dn up (kOf (KA (r 11)) (ad3 Pl i k qq dd)) i k) := hsf.imp (fun z9 => ⟨z9.1, (SF_c (fun x y h8 h9 => (j2 x y (by omega) (by omega)).symm)).mp z9.2⟩) (fun z9 => ⟨z9.1, fun y9 => z9.2 ((SF_c (fun x y h8 h9 => (j2 x y (by omega) (by omega)).symm)).mpr y9)⟩)
                            refine lv_istore (lv' := [(6, .int r117), (3, .int (nI (cc + (nw3 (KA x94) i k qq dd)))), (7, .int (nI tn)), (5, .int (nI k)), (4, .int (nI i)), (0, .ref (ga 9)), (1, .ref (ta 0)), (2, .ref (a 15))]) hx hb dX0_followPlan_119 hl (by decide) rfl (fun ls hl => ?_)
                            obtain ⟨v119, ev119⟩ : ∃ y9 : Int32, y9 = (nI tn) + Int32.ofInt (1) := ⟨_, rfl⟩
                            refine lv_iinc (v := v119) (lv' := [(7, .int v119), (6, .int r117), (3, .int (nI (cc + (nw3 (KA x94) i k qq dd)))), (5, .int (nI k)), (4, .int (nI i)), (0, .ref (ga 9)), (1, .ref (ta 0)), (2, .ref (a 15))]) hx hb dX0_followPlan_121 hl (k := 2) rfl ev119.symm (by decide) rfl (fun ls hl => ?_)
                            obtain rfl : v119 = nI (tn + 1) := nI_plus (i := tn) (j := 1) ev119 rfl (by decide)
                            refine lv_goto (tgt := 66) hx hb dX0_followPlan_124 (by decide) ?_
                            exact ih66k83 (tn + 1) r117 (cc + (nw3 (KA x94) i k qq dd)) V3 (nn + 1) (ad3 Pl i k qq dd) x111 x102 x103 x108 x112 x113 x114 x115 x109 x116 (by omega) (by omega) hRB (hI) (hsg.imp (fun z9 => ⟨z9.1, fun y9 => y9.2.2.2.2 z9.2⟩) (fun z9 => ⟨z9.1, by omega, by omega, hsi, hsec, z9.2⟩)) (by omega) _ _ _ hP hS (lv_sub hl [0, 1, 3, 4, 2, 5, 6, 7] rfl)
                          · have hnon := hft.resolve_right (fun ⟨q9, d9, z9, z8, z7⟩ => absurd (z9.symm.trans c104) (nI_nm1 (by have h9 := z7.1.1; omega)))
                            refine lv_iconst (v := -1) hx hb dX0_followPlan_97 (by decide) ?_
                            exact wr_iret hx hb hr hlocks hS hP ⟨x86, x102, x103, x89, x90, x91, x92, x93, x94, x95, (tr 7), nn, Pl, cc, rfl, (Or.inr ⟨⟨i, k, ⟨by omega, by omega, hun, hI.2.2.2.2.2⟩, NON_c hI.2.1 hrw hcl (by omega) (by omega) hnon.2⟩, rfl, rfl⟩), hI.1, hRB⟩ dX0_followPlan_98
                  exact loop66 (144 + 1) 0 0 cc V3 nn Pl x74 x23 x24 x25 x75 x76 x77 x78 x30 x79 (by omega) (by omega) hRB (hI) (Or.inr ⟨rfl, by omega, by omega, hsi, hsec, bF hsg c82⟩) (Nat.zero_le _) _ _ _ hP hS (lv_sub hl [0, 1, 2, 3, 4, 5, 6, 7] rfl)
                · refine lv_iconst (v := 1) hx hb dX0_followPlan_56 (by decide) ?_
                  refine lv_goto (tgt := 61) hx hb dX0_followPlan_57 (by decide) ?_
                  refine lv_istore (lv' := [(6, .int 1), (5, .int (nI k)), (4, .int (nI i)), (3, .int (nI cc)), (0, .ref (ga 9)), (1, .ref (ta 0)), (2, .ref (a 15))]) hx hb dX0_followPlan_61 hl (by decide) rfl (fun ls hl => ?_)
                  refine lv_iconst (v := 0) hx hb dX0_followPlan_63 (by decide) ?_
                  refine lv_istore (lv' := [(7, .int 0), (6, .int 1), (5, .int (nI k)), (4, .int (nI i)), (3, .int (nI cc)), (0, .ref (ga 9)), (1, .ref (ta 0)), (2, .ref (a 15))]) hx hb dX0_followPlan_64 hl (by decide) rfl (fun ls hl => ?_)
                  have loop66 : ∀ (k120 tn : Nat) (z121 : Int32) (cc : Nat) (U : Nat → Nat → Nat) (nn : Nat) (Pl : Nat → Nat → Bool) (x123 : Int32) (x124 : Int32) (x125 : Int32) (x126 : Nat → Int32) (x127 : Nat → Int32) (x128 : Nat → Int32) (x129 : Nat → Int32) (x130 : Int32) (x131 : Nat → Int32) (x132 : Nat → Int32), tn ≤ 144 → 144 < tn + k120 → (RB adjR x127) → (FPI rw cl (UNG rw cl (fun x => ¬ (r 6) x = 0) (r 7) (fun x y => ¬ (r 10) (x * 12 + y) = 0) Lo Hi V0 dn up) (mtA (r 6) (r 7)) (zzA (r 8)) (prA (tr 9) (tr 6)) (KA (r 11)) U V0 Lo Hi (r 6) (r 7) x131 x132 (r 13) (r 14) x126 x123 x127 nn Pl cc (12 * i + k)) → (((z121 : Int32) = 1 ∧ ¬ UNG rw cl (fun x => ¬ (r 6) x = 0) (r 7) (fun x y => ¬ (r 10) (x * 12 + y) = 0) Lo Hi V0 dn up (kOf (KA (r 11)) Pl) i k) ∨ ((z121 : Int32) = 0 ∧ UNG rw cl (fun x => ¬ (r 6) x = 0) (r 7) (fun x y => ¬ (r 10) (x * 12 + y) = 0) Lo Hi V0 dn up (kOf (KA (r 11)) Pl) i k)) → (tn ≤ nn) → ∀ (H : Heap) (locs : List Loc) (ls : Array Slot), PP G (xM G x xa ta a b ga ua la lb lc tg gg xf tf (upd f 4 x123) (upd qf 3 x130) (upd (upd gf 7 x124) 8 x125) uf lf mf nf tr (up2 (up2 r 11 x131) 12 x132) (up2 (up2 (up2 q 0 x127) 1 x128) 2 x129) (up2 gr 0 x126) ur lr mr nr) H → va_S A s.heap H locs → lv_has ls 8 [(7, .int (nI tn)), (6, .int z121), (5, .int (nI k)), (4, .int (nI i)), (3, .int (nI cc)), (0, .ref (ga 9)), (1, .ref (ta 0)), (2, .ref (a 15))] → W p l e ({ frames := 5, cells := 0, slots := 0, locals := 134 }) s m ([.ref (ga 9), .ref (ta 0), .ref (a 15)] : List Value).toArray below meth c H locs 0 0 (MQ below (QwI G (fun qz w => ∃ (n_f_4 : Int32) (n_gf_7 : Int32) (n_gf_8 : Int32) (n_gr_0 : Nat → Int32) (n_q_0 : Nat → Int32) (n_q_1 : Nat → Int32) (n_q_2 : Nat → Int32) (n_qf_3 : Int32) (n_r_11 : Nat → Int32) (n_r_12 : Nat → Int32) (n_tr_7 : Nat → Int32) (nn9 : Nat) (Pl9 : Nat → Nat → Bool) (cc9 : Nat), w = xM G x xa ta a b ga ua la lb lc tg gg xf tf (upd f 4 n_f_4) (upd qf 3 n_qf_3) (upd (upd gf 7 n_gf_7) 8 n_gf_8) uf lf mf nf (up2 tr 7 n_tr_7) (up2 (up2 r 11 n_r_11) 12 n_r_12) (up2 (up2 (up2 q 0 n_q_0) 1 n_q_1) 2 n_q_2) (up2 gr 0 n_gr_0) ur lr mr nr ∧ ((PDN rw cl (UNG rw cl (fun x => ¬ (r 6) x = 0) (r 7) (fun x y => ¬ (r 10) (x * 12 + y) = 0) Lo Hi V0 dn up) (KA (r 11)) Pl9 ∧ qz = nI cc9 ∧ ∀ x y, x < 12 → y < 12 → n_tr_7 (x * 12 + y) = (if Pl9 x y = true then (tr 7) (x * 12 + y) ||| 2 else (tr 7) (x * 12 + y))) ∨ (PFL rw cl (UNG rw cl (fun x => ¬ (r 6) x = 0) (r 7) (fun x y => ¬ (r 10) (x * 12 + y) = 0) Lo Hi V0 dn up) (mtA (r 6) (r 7)) (zzA (r 8)) (KA (r 11)) Pl9 ∧ qz = -1 ∧ n_tr_7 = (tr 7))) ∧ (PLS rw cl (UNG rw cl (fun x => ¬ (r 6) x = 0) (r 7) (fun x y => ¬ (r 10) (x * 12 + y) = 0) Lo Hi V0 dn up) (mtA (r 6) (r 7)) (zzA (r 8)) (prA (tr 9) (tr 6)) (KA (r 11)) nn9 Pl9 cc9) ∧ (RB adjR n_q_0)) A) ([.ref (ga 9), .ref (ta 0), .ref (a 15)] : List Value).toArray s 0 0 A) (F0 m 66 ls []) := by
                    intro k120
                    induction k120 with
                    | zero => intro tn z121 cc U nn Pl x123 x124 x125 x126 x127 x128 x129 x130 x131 x132 h1 h2; exact absurd h1 (by omega)
                    | succ k120 ih66k120 =>
                      intro tn z121 cc U nn Pl x123 x124 x125 x126 x127 x128 x129 x130 x131 x132 hi_tn hk_tn hRB hI hDN htn H locs ls hP hS hl
                      refine lv_iload hx hb dX0_followPlan_66 (lv_at hl 0 rfl) ?_
                      refine lv_sipush (v := 144) hx hb dX0_followPlan_68 (by decide) ?_
                      refine lv_icmp_ge (tgt := 127) hx hb dX0_followPlan_71 (by decide) (fun c133 => ?_) (fun c133 => ?_)
                      · have b71 := qge_t (a := tn) (b := 144) (by omega) (by omega) c133
                        obtain ⟨v134, ev134⟩ : ∃ y9 : Int32, y9 = (nI k) + Int32.ofInt (1) := ⟨_, rfl⟩
                        refine lv_iinc (v := v134) (lv' := [(5, .int v134), (7, .int (nI tn)), (6, .int z121), (4, .int (nI i)), (3, .int (nI cc)), (0, .ref (ga 9)), (1, .ref (ta 0)), (2, .ref (a 15))]) hx hb dX0_followPlan_127 hl (k := 2) rfl ev134.symm (by decide) rfl (fun ls hl => ?_)
                        obtain rfl : v134 = nI (k + 1) := nI_plus (i := k) (j := 1) ev134 rfl (by decide)
                        refine lv_goto (tgt := 21) hx hb dX0_followPlan_130 (by decide) ?_
                        exact ih21k20 (k + 1) cc U nn Pl x123 x124 x125 x126 x127 x128 x129 x130 x131 x132 (by omega) (by omega) hRB (FPI_m hI (fun x y h6 h7 h8 h9 => by obtain ⟨e8, e9⟩ : x = i ∧ y = k := (by omega); rw [e8, e9]; exact fun z9 => absurd (PLS_lt hrw hcl hI.1 (show i < 12 by omega) (show k < 12 by omega) (KA_t (hSK i k (by omega) (by omega) z9.2.2.2.1).2)).1 (by omega))) _ _ _ hP hS (lv_sub hl [0, 3, 4, 5, 6, 7] rfl)
                      · have b71 := qge_f (a := tn) (b := 144) (by omega) (by omega) c133
                        refine lv_iload hx hb dX0_followPlan_74 (lv_at hl 1 rfl) ?_
                        refine lv_if_ne (tgt := 127) hx hb dX0_followPlan_76 (by decide) (fun c135 => ?_) (fun c135 => ?_)
                        · obtain ⟨v136, ev136⟩ : ∃ y9 : Int32, y9 = (nI k) + Int32.ofInt (1) := ⟨_, rfl⟩
                          refine lv_iinc (v := v136) (lv' := [(5, .int v136), (7, .int (nI tn)), (6, .int z121), (4, .int (nI i)), (3, .int (nI cc)), (0, .ref (ga 9)), (1, .ref (ta 0)), (2, .ref (a 15))]) hx hb dX0_followPlan_127 hl (k := 2) rfl ev136.symm (by decide) rfl (fun ls hl => ?_)
                          obtain rfl : v136 = nI (k + 1) := nI_plus (i := k) (j := 1) ev136 rfl (by decide)
                          refine lv_goto (tgt := 21) hx hb dX0_followPlan_130 (by decide) ?_
                          exact ih21k20 (k + 1) cc U nn Pl x123 x124 x125 x126 x127 x128 x129 x130 x131 x132 (by omega) (by omega) hRB (FPI_m hI (fun x y h6 h7 h8 h9 => by obtain ⟨e8, e9⟩ : x = i ∧ y = k := (by omega); rw [e8, e9]; exact (hDN.resolve_right (fun z9 => c135 z9.1)).2)) _ _ _ hP hS (lv_sub hl [0, 3, 4, 5, 6, 7] rfl)
                        · have hun := (hDN.resolve_left (fun z9 => absurd (z9.1.symm.trans c135) (by decide))).2
                          have hsi : ¬ r 6 i = 0 := hun.2.2.1
                          have hsec : ¬ r 10 (i * 12 + k) = 0 := hun.2.2.2.1
                          refine lv_aload_n hx hb dX0_followPlan_79 rfl (lv_at hl 5 rfl) ?_
                          refine lv_aload_n hx hb dX0_followPlan_80 rfl (lv_at hl 6 rfl) ?_
                          refine lv_aload_n hx hb dX0_followPlan_81 rfl (lv_at hl 7 rfl) ?_
                          refine lv_iload hx hb dX0_followPlan_82 (lv_at hl 3 rfl) ?_
                          refine lv_iload hx hb dX0_followPlan_84 (lv_at hl 2 rfl) ?_
                          refine wrVVa (rest := []) (q0 := 25) ⟨hx, hb, hml, hown, hts⟩ (x_X0_findThree l G x xa ta a b ga ua la lb lc tg gg xf tf (upd f 4 x123) (upd qf 3 x130) (upd (upd gf 7 x124) 8 x125) uf lf mf nf tr (up2 (up2 r 11 x131) 12 x132) (up2 (up2 (up2 q 0 x127) 1 x128) 2 x129) (up2 gr 0 x126) ur lr mr nr i k rw cl (by omega) (by omega) (by omega) (by omega) h0 h1 hsi hNN) mi_yX0_findThree mv_yX0_findThree ml_X0_63 ⟨rfl, rfl, Nat.le_of_ble_eq_true rfl, Nat.le_of_ble_eq_true rfl⟩ hK hP (hDD _ _ _ _ _ _ _ _ _ _ _ _ _ _ _ _ _) rfl rfl rfl hl.1 rfl (Nat.le_of_ble_eq_true rfl) dX0_followPlan_86 ⟨Nat.zero_le _, Nat.zero_le _⟩ hS hA (fun w138 H locs hw138 hP hS => ?_)
                          obtain ⟨x139, x140, rfl, hft⟩ := hw138
                          have hP : PP G (xM G x xa ta a b ga ua la lb lc tg gg xf tf (upd f 4 x123) (upd qf 3 x130) (upd (upd gf 7 x139) 8 x140) uf lf mf nf tr (up2 (up2 r 11 x131) 12 x132) (up2 (up2 (up2 q 0 x127) 1 x128) 2 x129) (up2 gr 0 x126) ur lr mr nr) H := hP
                          have hft : (x139 = -1 ∧ NON rw cl (mtA (r 6) (r 7)) (zzA (r 8)) (KA x131) i k 144) ∨ ∃ qq dd, x139 = nI qq ∧ x140 = nI dd ∧ BSN rw cl (mtA (r 6) (r 7)) (zzA (r 8)) (prA (tr 9) (tr 6)) (KA x131) i k 144 qq dd := hft
                          refine lv_aload_n hx hb dX0_followPlan_89 rfl (lv_at hl 5 rfl) ?_
                          refine va_get (D := G.1) (ci := 0) (v := .int x139) (C := RX0) (T := TX0) (N := 9) hx hb hts inX0 hown hK.1 hP 25 rfl rfl 7 (by decide) (hts _ mf_X0_35) (fun _ h9 => h9) rfl dX0_followPlan_90 ?_
                          refine lv_iconst (v := -1) hx hb dX0_followPlan_93 (by decide) ?_
                          refine lv_icmp_ne (tgt := 99) hx hb dX0_followPlan_94 (by decide) (fun c141 => ?_) (fun c141 => ?_)
                          · obtain ⟨qq, dd, g7, g8, hbn⟩ := hft.resolve_left (fun z9 => c141 z9.1)
                            obtain ⟨cq1, cq2, cq3, cq4, -⟩ := hbn.1
                            refine lv_iload_n hx hb dX0_followPlan_99 rfl (lv_at hl 4 rfl) ?_
                            refine lv_aload_n hx hb dX0_followPlan_100 rfl (lv_at hl 5 rfl) ?_
                            refine lv_aload_n hx hb dX0_followPlan_101 rfl (lv_at hl 7 rfl) ?_
                            refine lv_iload hx hb dX0_followPlan_102 (lv_at hl 3 rfl) ?_
                            refine lv_iload hx hb dX0_followPlan_104 (lv_at hl 2 rfl) ?_
                            refine wrVIa (rest := [.int (nI cc)]) (q0 := 25) ⟨hx, hb, hml, hown, hts⟩ (x_X0_keepThree l G x xa ta a b ga ua la lb lc tg gg xf tf (upd f 4 x123) (upd qf 3 x130) (upd (upd gf 7 x139) 8 x140) uf lf mf nf tr (up2 (up2 r 11 x131) 12 x132) (up2 (up2 (up2 q 0 x127) 1 x128) 2 x129) (up2 gr 0 x126) ur lr mr nr i k qq dd (by omega) (by omega) (by omega) (by omega) (by omega) (by omega) g7 g8) mi_yX0_keepThree mv_yX0_keepThree ml_X0_67 ⟨rfl, rfl, Nat.le_of_ble_eq_true rfl, Nat.le_of_ble_eq_true rfl⟩ hK hP (hDD _ _ _ _ _ _ _ _ _ _ _ _ _ _ _ _ _) rfl rfl rfl hl.1 rfl (Nat.le_of_ble_eq_true rfl) dX0_followPlan_106 ⟨Nat.zero_le _, Nat.zero_le _⟩ hS hA (fun r142 w143 H locs hw143 hP hS => ?_)
                            obtain ⟨x144, x145, x146, rfl, hw143r, hpl, hkp, hf4⟩ := hw143
                            have hP : PP G (xM G x xa ta a b ga ua la lb lc tg gg xf tf (upd f 4 x144) (upd qf 3 x130) (upd (upd gf 7 x139) 8 x140) uf lf mf nf tr (up2 (up2 r 11 x146) 12 x132) (up2 (up2 (up2 q 0 x127) 1 x128) 2 x129) (up2 gr 0 x145) ur lr mr nr) H := hP
                            have hpl : ∀ x y, y < 12 → KA x145 x y = ad3 (KA x126) i k qq dd x y := hpl
                            have hkp : ∀ x y, y < 12 → KA x146 x y = ad3 (KA x131) i k qq dd x y := hkp
                            have hf4 : x144 = -2 ∨ (x144 = x123 ∧ x146 = x131) := hf4
                            obtain rfl := hw143r
                            have hI := FPI_s hrw hcl hI hun (fun x y h7 h8 h9 => KA_t (hSK x y h7 h8 h9).2) hRN hbn hpl hkp hf4
                            have hI : FPI rw cl (UNG rw cl (fun x => ¬ (r 6) x = 0) (r 7) (fun x y => ¬ (r 10) (x * 12 + y) = 0) Lo Hi V0 dn up) (mtA (r 6) (r 7)) (zzA (r 8)) (prA (tr 9) (tr 6)) (KA (r 11)) U V0 Lo Hi (r 6) (r 7) x146 x132 (r 13) (r 14) x145 x144 x127 (nn + 1) (ad3 Pl i k qq dd) (cc + nw3 (KA x131) i k qq dd) (12 * i + k) := hI
                            refine lv_iadd hx hb dX0_followPlan_109 ?_
                            refine lv_topi (fun v147 ev147 => ?_)
                            obtain rfl : v147 = nI (cc + (nw3 (KA x131) i k qq dd)) := nI_plus ev147 rfl rfl
                            refine lv_istore_n (lv' := [(3, .int (nI (cc + (nw3 (KA x131) i k qq dd)))), (7, .int (nI tn)), (6, .int z121), (5, .int (nI k)), (4, .int (nI i)), (0, .ref (ga 9)), (1, .ref (ta 0)), (2, .ref (a 15))]) hx hb dX0_followPlan_110 rfl hl (by decide) rfl (fun ls hl => ?_)
                            refine lv_aload_n hx hb dX0_followPlan_111 rfl (lv_at hl 7 rfl) ?_
                            refine lv_iload hx hb dX0_followPlan_112 (lv_at hl 4 rfl) ?_
                            refine lv_iload hx hb dX0_followPlan_114 (lv_at hl 3 rfl) ?_
                            obtain ⟨j1, j2, j3, j4, j5, j6⟩ := hI
                            refine lawI (rest := []) (q0 := 0) ⟨hx, hb, hml, hown, hts⟩ (e_X2_isSafe l G a b (upd f 4 x144) (upd qf 3 x130) (up2 (up2 r 11 x146) 12 x132) (up2 (up2 (up2 q 0 x127) 1 x128) 2 x129) i k rw cl dn up V0 U Lo Hi (by omega) (by omega) hsi h0 h1 h2 h3 hdn hup (hRN i k (by omega) (by omega) hsi).1 (by have h9 := hRN i k (by omega) (by omega) hsi; omega) j4 j5 hRB) mi_yX2_isSafe mv_yX2_isSafe ml_X0_59 ⟨rfl, rfl, Nat.le_of_ble_eq_true rfl, Nat.le_of_ble_eq_true rfl⟩ hK hP (hDD _ _ _ _ _ _ _ _ _ _ _ _ _ _ _ _ _) (pl_perm (xBlk G x xa ta a b ga ua la lb lc tg gg xf tf (upd f 4 x144) (upd qf 3 x130) (upd (upd gf 7 x139) 8 x140) uf lf mf nf tr (up2 (up2 r 11 x146) 12 x132) (up2 (up2 (up2 q 0 x127) 1 x128) 2 x129) (up2 gr 0 x145) ur lr mr nr) (sel := [2, 3]) (oth := [0, 1, 4, 5, 6, 7, 8, 9]) (by decide)) rfl rfl rfl hl.1 rfl (Nat.le_of_ble_eq_true rfl) dX0_followPlan_116 ⟨Nat.zero_le _, Nat.zero_le _⟩ hS hA (fun r154 w155 H locs hw155 hP hS => ?_)
                            obtain ⟨x148, x149, x150, x151, x152, x153, V3, rfl, hsf, j4, j5, hRB⟩ := hw155
                            have hP : PP G (xM G x xa ta a b ga ua la lb lc tg gg xf tf (upd f 4 x148) (upd qf 3 x152) (upd (upd gf 7 x139) 8 x140) uf lf mf nf tr (up2 (up2 r 11 x146) 12 x153) (up2 (up2 (up2 q 0 x149) 1 x150) 2 x151) (up2 gr 0 x145) ur lr mr nr) H := (hP rfl (xM G x xa ta a b ga ua la lb lc tg gg xf tf (upd f 4 x148) (upd qf 3 x152) (upd (upd gf 7 x139) 8 x140) uf lf mf nf tr (up2 (up2 r 11 x146) 12 x153) (up2 (up2 (up2 q 0 x149) 1 x150) 2 x151) (up2 gr 0 x145) ur lr mr nr) (pl_perm (xBlk G x xa ta a b ga ua la lb lc tg gg xf tf (upd f 4 x148) (upd qf 3 x152) (upd (upd gf 7 x139) 8 x140) uf lf mf nf tr (up2 (up2 r 11 x146) 12 x153) (up2 (up2 (up2 q 0 x149) 1 x150) 2 x151) (up2 gr 0 x145) ur lr mr nr) (sel := [2, 3]) (oth := [0, 1, 4, 5, 6, 7, 8, 9]) (by decide))).1
                            have hRB : RB adjR x149 := hRB
                            have hI : FPI rw cl (UNG rw cl (fun x => ¬ (r 6) x = 0) (r 7) (fun x y => ¬ (r 10) (x * 12 + y) = 0) Lo Hi V0 dn up) (mtA (r 6) (r 7)) (zzA (r 8)) (prA (tr 9) (tr 6)) (KA (r 11)) V3 V0 Lo Hi (r 6) (r 7) x146 x153 (r 13) (r 14) x145 x148 x149 (nn + 1) (ad3 Pl i k qq dd) (cc + nw3 (KA x131) i k qq dd) (12 * i + k) := ⟨j1, j2, j3, j4, j5, j6⟩
                            have hsg : (r154 = 1 ∧ SFG rw cl (fun x => ¬ r 6 x = 0) (r 7) Lo Hi V0 dn up (kOf (KA (r 11)) (ad3 Pl i k qq dd)) i k) ∨ (r154 = 0 ∧ ¬ SFG rw cl (fun x => ¬ r 6 x = 0) (r 7) Lo Hi V0 dn up (kOf (KA (r 11)) (ad3 Pl i k qq dd)) i k) := hsf.imp (fun z9 => ⟨z9.1, (SF_c (fun x y h8 h9 => (j2 x y (by omega) (by omega)).symm)).mp z9.2⟩) (fun z9 => ⟨z9.1, fun y9 => z9.2 ((SF_c (fun x y h8 h9 => (j2 x y (by omega) (by omega)).symm)).mpr y9)⟩)
                            refine lv_istore (lv' := [(6, .int r154), (3, .int (nI (cc + (nw3 (KA x131) i k qq dd)))), (7, .int (nI tn)), (5, .int (nI k)), (4, .int (nI i)), (0, .ref (ga 9)), (1, .ref (ta 0)), (2, .ref (a 15))]) hx hb dX0_followPlan_119 hl (by decide) rfl (fun ls hl => ?_)
                            obtain ⟨v156, ev156⟩ : ∃ y9 : Int32, y9 = (nI tn) + Int32.ofInt (1) := ⟨_, rfl⟩
                            refine lv_iinc (v := v156) (lv' := [(7, .int v156), (6, .int r154), (3, .int (nI (cc + (nw3 (KA x131) i k qq dd)))), (5, .int (nI k)), (4, .int (nI i)), (0, .ref (ga 9)), (1, .ref (ta 0)), (2, .ref (a 15))]) hx hb dX0_followPlan_121 hl (k := 2) rfl ev156.symm (by decide) rfl (fun ls hl => ?_)
                            obtain rfl : v156 = nI (tn + 1) := nI_plus (i := tn) (j := 1) ev156 rfl (by decide)
                            refine lv_goto (tgt := 66) hx hb dX0_followPlan_124 (by decide) ?_
                            exact ih66k120 (tn + 1) r154 (cc + (nw3 (KA x131) i k qq dd)) V3 (nn + 1) (ad3 Pl i k qq dd) x148 x139 x140 x145 x149 x150 x151 x152 x146 x153 (by omega) (by omega) hRB (hI) (hsg.imp (fun z9 => ⟨z9.1, fun y9 => y9.2.2.2.2 z9.2⟩) (fun z9 => ⟨z9.1, by omega, by omega, hsi, hsec, z9.2⟩)) (by omega) _ _ _ hP hS (lv_sub hl [0, 1, 3, 4, 2, 5, 6, 7] rfl)
                          · have hnon := hft.resolve_right (fun ⟨q9, d9, z9, z8, z7⟩ => absurd (z9.symm.trans c141) (nI_nm1 (by have h9 := z7.1.1; omega)))
                            refine lv_iconst (v := -1) hx hb dX0_followPlan_97 (by decide) ?_
                            exact wr_iret hx hb hr hlocks hS hP ⟨x123, x139, x140, x126, x127, x128, x129, x130, x131, x132, (tr 7), nn, Pl, cc, rfl, (Or.inr ⟨⟨i, k, ⟨by omega, by omega, hun, hI.2.2.2.2.2⟩, NON_c hI.2.1 hrw hcl (by omega) (by omega) hnon.2⟩, rfl, rfl⟩), hI.1, hRB⟩ dX0_followPlan_98
                  exact loop66 (144 + 1) 0 1 cc V3 nn Pl x74 x23 x24 x25 x75 x76 x77 x78 x30 x79 (by omega) (by omega) hRB (hI) (Or.inl ⟨rfl, fun z9 => z9.2.2.2.2 (bT hsg c82)⟩) (Nat.zero_le _) _ _ _ hP hS (lv_sub hl [0, 1, 2, 3, 4, 5, 6, 7] rfl)
        exact loop21 (cl + 1) 0 cc U nn Pl x6 x7 x8 x9 x10 x11 x12 x13 x14 x15 (by omega) (by omega) hRB (hI) _ _ _ hP hS (lv_sub hl [0, 1, 2, 3, 4, 5] rfl)
  exact loop9 (rw + 1) 0 0 V 0 (fun _ _ => false) (f 4) (gf 7) (gf 8) x3 (q 0) (q 1) (q 2) (qf 3) (r 11) (r 12) (by omega) (by omega) hRB (hI) _ _ _ hP hS (lv_sub hl [0, 1, 2, 3, 4] rfl)
