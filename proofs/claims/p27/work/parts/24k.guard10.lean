theorem ml_X0_126 : Cond.methodLink RX0 126 yX2_keepSecretsAlone ∈ TB := TB_t3 223 rfl rfl
theorem mcode_yX2_keepSecretsAlone : Cond.code yX2_keepSecretsAlone cX2_keepSecretsAlone 4 none ∈ TB := TB_t3 226 rfl rfl
theorem mi_yX2_keepSecretsAlone : MI yX2_keepSecretsAlone cX2_keepSecretsAlone 4 none 0 := ⟨mz_RX2, mcode_yX2_keepSecretsAlone, by decide +kernel, by decide +kernel, by decide +kernel⟩
theorem mim_yX2_keepSecretsAlone : Cond.instanceMethod yX2_keepSecretsAlone ∈ TB := TB_t3 224 rfl rfl
theorem msel_yX2_keepSecretsAlone : Cond.selects yX2_keepSecretsAlone.cls yX2_keepSecretsAlone yX2_keepSecretsAlone ∈ TB := TB_t3 225 rfl rfl
theorem mv_yX2_keepSecretsAlone : Cond.instanceMethod yX2_keepSecretsAlone ∈ TB ∧ Cond.selects yX2_keepSecretsAlone.cls yX2_keepSecretsAlone yX2_keepSecretsAlone ∈ TB := ⟨mim_yX2_keepSecretsAlone, msel_yX2_keepSecretsAlone⟩
theorem ml_X0_113 : Cond.methodLink RX0 113 yX0_guards ∈ TB := TB_t3 219 rfl rfl
theorem mcode_yX0_guards : Cond.code yX0_guards cX0_guards 5 (some .boolean) ∈ TB := TB_t3 222 rfl rfl
theorem mi_yX0_guards : MI yX0_guards cX0_guards 5 (some .boolean) 2 := ⟨mz_RX0, mcode_yX0_guards, by decide +kernel, by decide +kernel, by decide +kernel⟩
theorem mim_yX0_guards : Cond.instanceMethod yX0_guards ∈ TB := TB_t3 221 rfl rfl
theorem msel_yX0_guards : Cond.selects yX0_guards.cls yX0_guards yX0_guards ∈ TB := TB_s (n := 9) 26 (by decide +kernel)
theorem mv_yX0_guards : Cond.instanceMethod yX0_guards ∈ TB ∧ Cond.selects yX0_guards.cls yX0_guards yX0_guards ∈ TB := ⟨mim_yX0_guards, msel_yX0_guards⟩
theorem ml_X0_117 : Cond.methodLink RX0 117 yX0_priceSets ∈ TB := TB_t3 231 rfl rfl
theorem mcode_yX0_priceSets : Cond.code yX0_priceSets cX0_priceSets 4 none ∈ TB := TB_t3 234 rfl rfl
theorem mi_yX0_priceSets : MI yX0_priceSets cX0_priceSets 4 none 1 := ⟨mz_RX0, mcode_yX0_priceSets, by decide +kernel, by decide +kernel, by decide +kernel⟩
theorem mim_yX0_priceSets : Cond.instanceMethod yX0_priceSets ∈ TB := TB_t3 233 rfl rfl
theorem msel_yX0_priceSets : Cond.selects yX0_priceSets.cls yX0_priceSets yX0_priceSets ∈ TB := TB_s (n := 9) 28 (by decide +kernel)
theorem mv_yX0_priceSets : Cond.instanceMethod yX0_priceSets ∈ TB ∧ Cond.selects yX0_priceSets.cls yX0_priceSets yX0_priceSets ∈ TB := ⟨mim_yX0_priceSets, msel_yX0_priceSets⟩
theorem ml_X0_120 : Cond.methodLink RX0 120 yX0_nextSet ∈ TB := TB_t3 235 rfl rfl
theorem mcode_yX0_nextSet : Cond.code yX0_nextSet cX0_nextSet 5 (some .int) ∈ TB := TB_t3 238 rfl rfl
theorem mi_yX0_nextSet : MI yX0_nextSet cX0_nextSet 5 (some .int) 2 := ⟨mz_RX0, mcode_yX0_nextSet, by decide +kernel, by decide +kernel, by decide +kernel⟩
theorem mim_yX0_nextSet : Cond.instanceMethod yX0_nextSet ∈ TB := TB_t3 237 rfl rfl
theorem msel_yX0_nextSet : Cond.selects yX0_nextSet.cls yX0_nextSet yX0_nextSet ∈ TB := TB_s (n := 9) 29 (by decide +kernel)
theorem mv_yX0_nextSet : Cond.instanceMethod yX0_nextSet ∈ TB ∧ Cond.selects yX0_nextSet.cls yX0_nextSet yX0_nextSet ∈ TB := ⟨mim_yX0_nextSet, msel_yX0_nextSet⟩
theorem kcX0_guards_0 : CHb cX0_guards 0 [43, 182, 0, 126, 3, 62, 29, 42, 180, 0, 25, 162, 0, 29, 28, 42, 29, 182, 0, 110, 126, 153, 0, 13, 43, 42, 180, 0, 15, 29, 46, 182, 0, 106, 132, 3, 1, 167, 255, 225, 42, 180, 0, 29, 2, 159, 0, 20, 43, 42, 180, 0, 29, 42, 180, 0, 32, 182, 0, 59, 154, 0, 5, 3] := CHb_of (by decide +kernel)
theorem dX0_guards_0 : decode cX0_guards 0 = .ok (.aload_n 1, 1) := dw_43 (kcX0_guards_0 0 43 rfl)
theorem dX0_guards_1 : decode cX0_guards 1 = .ok (.invokevirtual 126, 3) := dw_182 (kcX0_guards_0 1 182 rfl) (kcX0_guards_0 2 0 rfl) (kcX0_guards_0 3 126 rfl) rfl
theorem dX0_guards_4 : decode cX0_guards 4 = .ok (.iconst 0, 1) := dw_3 (kcX0_guards_0 4 3 rfl)
theorem dX0_guards_5 : decode cX0_guards 5 = .ok (.istore_n 3, 1) := dw_62 (kcX0_guards_0 5 62 rfl)
theorem dX0_guards_6 : decode cX0_guards 6 = .ok (.iload_n 3, 1) := dw_29 (kcX0_guards_0 6 29 rfl)
theorem dX0_guards_7 : decode cX0_guards 7 = .ok (.aload_n 0, 1) := dw_42 (kcX0_guards_0 7 42 rfl)
theorem dX0_guards_8 : decode cX0_guards 8 = .ok (.getfield 25, 3) := dw_180 (kcX0_guards_0 8 180 rfl) (kcX0_guards_0 9 0 rfl) (kcX0_guards_0 10 25 rfl) rfl
theorem dX0_guards_11 : decode cX0_guards 11 = .ok (.if_icmp .ge 29, 3) := dw_162 (kcX0_guards_0 11 162 rfl) (kcX0_guards_0 12 0 rfl) (kcX0_guards_0 13 29 rfl) rfl
theorem dX0_guards_14 : decode cX0_guards 14 = .ok (.iload_n 2, 1) := dw_28 (kcX0_guards_0 14 28 rfl)
theorem dX0_guards_15 : decode cX0_guards 15 = .ok (.aload_n 0, 1) := dw_42 (kcX0_guards_0 15 42 rfl)
theorem dX0_guards_16 : decode cX0_guards 16 = .ok (.iload_n 3, 1) := dw_29 (kcX0_guards_0 16 29 rfl)
theorem dX0_guards_17 : decode cX0_guards 17 = .ok (.invokevirtual 110, 3) := dw_182 (kcX0_guards_0 17 182 rfl) (kcX0_guards_0 18 0 rfl) (kcX0_guards_0 19 110 rfl) rfl
theorem dX0_guards_20 : decode cX0_guards 20 = .ok (.iand, 1) := dw_126 (kcX0_guards_0 20 126 rfl)
theorem dX0_guards_21 : decode cX0_guards 21 = .ok (.ifCond .eq 13, 3) := dw_153 (kcX0_guards_0 21 153 rfl) (kcX0_guards_0 22 0 rfl) (kcX0_guards_0 23 13 rfl) rfl
theorem dX0_guards_34 : decode cX0_guards 34 = .ok (.iinc 3 1, 3) := dw_132 (kcX0_guards_0 34 132 rfl) (kcX0_guards_0 35 3 rfl) (kcX0_guards_0 36 1 rfl) rfl
theorem dX0_guards_37 : decode cX0_guards 37 = .ok (.goto (-31), 3) := dw_167 (kcX0_guards_0 37 167 rfl) (kcX0_guards_0 38 255 rfl) (kcX0_guards_0 39 225 rfl) rfl
theorem dX0_guards_24 : decode cX0_guards 24 = .ok (.aload_n 1, 1) := dw_43 (kcX0_guards_0 24 43 rfl)
theorem dX0_guards_25 : decode cX0_guards 25 = .ok (.aload_n 0, 1) := dw_42 (kcX0_guards_0 25 42 rfl)
theorem dX0_guards_26 : decode cX0_guards 26 = .ok (.getfield 15, 3) := dw_180 (kcX0_guards_0 26 180 rfl) (kcX0_guards_0 27 0 rfl) (kcX0_guards_0 28 15 rfl) rfl
theorem dX0_guards_29 : decode cX0_guards 29 = .ok (.iload_n 3, 1) := dw_29 (kcX0_guards_0 29 29 rfl)
theorem dX0_guards_30 : decode cX0_guards 30 = .ok (.iaload, 1) := dw_46 (kcX0_guards_0 30 46 rfl)
theorem dX0_guards_31 : decode cX0_guards 31 = .ok (.invokevirtual 106, 3) := dw_182 (kcX0_guards_0 31 182 rfl) (kcX0_guards_0 32 0 rfl) (kcX0_guards_0 33 106 rfl) rfl
theorem dX0_guards_40 : decode cX0_guards 40 = .ok (.aload_n 0, 1) := dw_42 (kcX0_guards_0 40 42 rfl)
theorem dX0_guards_41 : decode cX0_guards 41 = .ok (.getfield 29, 3) := dw_180 (kcX0_guards_0 41 180 rfl) (kcX0_guards_0 42 0 rfl) (kcX0_guards_0 43 29 rfl) rfl
theorem dX0_guards_44 : decode cX0_guards 44 = .ok (.iconst (-1), 1) := dw_2 (kcX0_guards_0 44 2 rfl)
theorem dX0_guards_45 : decode cX0_guards 45 = .ok (.if_icmp .eq 20, 3) := dw_159 (kcX0_guards_0 45 159 rfl) (kcX0_guards_0 46 0 rfl) (kcX0_guards_0 47 20 rfl) rfl
theorem kcX0_guards_1 : CHb cX0_guards 64 [172, 3, 62, 29, 43, 180, 0, 44, 162, 0, 64, 3, 54, 4, 21, 4, 43, 180, 0, 49, 162, 0, 46, 43, 180, 0, 52, 29, 21, 4, 184, 0, 55, 46, 153, 0, 26, 43, 29, 21, 4, 182, 0, 59, 154, 0, 16, 42, 29, 181, 0, 29, 42, 21, 4, 181, 0, 32, 3, 172, 132, 4, 1, 167] := CHb_of (by decide +kernel)
theorem dX0_guards_65 : decode cX0_guards 65 = .ok (.iconst 0, 1) := dw_3 (kcX0_guards_1 1 3 rfl)
theorem dX0_guards_66 : decode cX0_guards 66 = .ok (.istore_n 3, 1) := dw_62 (kcX0_guards_1 2 62 rfl)
theorem dX0_guards_67 : decode cX0_guards 67 = .ok (.iload_n 3, 1) := dw_29 (kcX0_guards_1 3 29 rfl)
theorem dX0_guards_68 : decode cX0_guards 68 = .ok (.aload_n 1, 1) := dw_43 (kcX0_guards_1 4 43 rfl)
theorem dX0_guards_69 : decode cX0_guards 69 = .ok (.getfield 44, 3) := dw_180 (kcX0_guards_1 5 180 rfl) (kcX0_guards_1 6 0 rfl) (kcX0_guards_1 7 44 rfl) rfl
theorem dX0_guards_72 : decode cX0_guards 72 = .ok (.if_icmp .ge 64, 3) := dw_162 (kcX0_guards_1 8 162 rfl) (kcX0_guards_1 9 0 rfl) (kcX0_guards_1 10 64 rfl) rfl
theorem kcX0_guards_2 : CHb cX0_guards 128 [255, 207, 132, 3, 1, 167, 255, 190, 4, 172] := CHb_of (by decide +kernel)
theorem dX0_guards_136 : decode cX0_guards 136 = .ok (.iconst 1, 1) := dw_4 (kcX0_guards_2 8 4 rfl)
theorem dX0_guards_137 : decode cX0_guards 137 = .ok (.ireturn, 1) := dw_172 (kcX0_guards_2 9 172 rfl)
theorem dX0_guards_75 : decode cX0_guards 75 = .ok (.iconst 0, 1) := dw_3 (kcX0_guards_1 11 3 rfl)
theorem dX0_guards_76 : decode cX0_guards 76 = .ok (.istore 4, 2) := dw_54 (kcX0_guards_1 12 54 rfl) (kcX0_guards_1 13 4 rfl)
theorem dX0_guards_78 : decode cX0_guards 78 = .ok (.iload 4, 2) := dw_21 (kcX0_guards_1 14 21 rfl) (kcX0_guards_1 15 4 rfl)
theorem dX0_guards_80 : decode cX0_guards 80 = .ok (.aload_n 1, 1) := dw_43 (kcX0_guards_1 16 43 rfl)
theorem dX0_guards_81 : decode cX0_guards 81 = .ok (.getfield 49, 3) := dw_180 (kcX0_guards_1 17 180 rfl) (kcX0_guards_1 18 0 rfl) (kcX0_guards_1 19 49 rfl) rfl
theorem dX0_guards_84 : decode cX0_guards 84 = .ok (.if_icmp .ge 46, 3) := dw_162 (kcX0_guards_1 20 162 rfl) (kcX0_guards_1 21 0 rfl) (kcX0_guards_1 22 46 rfl) rfl
theorem dX0_guards_130 : decode cX0_guards 130 = .ok (.iinc 3 1, 3) := dw_132 (kcX0_guards_2 2 132 rfl) (kcX0_guards_2 3 3 rfl) (kcX0_guards_2 4 1 rfl) rfl
theorem dX0_guards_133 : decode cX0_guards 133 = .ok (.goto (-66), 3) := dw_167 (kcX0_guards_2 5 167 rfl) (kcX0_guards_2 6 255 rfl) (kcX0_guards_2 7 190 rfl) rfl
theorem dX0_guards_87 : decode cX0_guards 87 = .ok (.aload_n 1, 1) := dw_43 (kcX0_guards_1 23 43 rfl)
theorem dX0_guards_88 : decode cX0_guards 88 = .ok (.getfield 52, 3) := dw_180 (kcX0_guards_1 24 180 rfl) (kcX0_guards_1 25 0 rfl) (kcX0_guards_1 26 52 rfl) rfl
theorem dX0_guards_91 : decode cX0_guards 91 = .ok (.iload_n 3, 1) := dw_29 (kcX0_guards_1 27 29 rfl)
theorem dX0_guards_92 : decode cX0_guards 92 = .ok (.iload 4, 2) := dw_21 (kcX0_guards_1 28 21 rfl) (kcX0_guards_1 29 4 rfl)
theorem dX0_guards_94 : decode cX0_guards 94 = .ok (.invokestatic 55, 3) := dw_184 (kcX0_guards_1 30 184 rfl) (kcX0_guards_1 31 0 rfl) (kcX0_guards_1 32 55 rfl) rfl
theorem dX0_guards_97 : decode cX0_guards 97 = .ok (.iaload, 1) := dw_46 (kcX0_guards_1 33 46 rfl)
theorem dX0_guards_98 : decode cX0_guards 98 = .ok (.ifCond .eq 26, 3) := dw_153 (kcX0_guards_1 34 153 rfl) (kcX0_guards_1 35 0 rfl) (kcX0_guards_1 36 26 rfl) rfl
theorem dX0_guards_124 : decode cX0_guards 124 = .ok (.iinc 4 1, 3) := dw_132 (kcX0_guards_1 60 132 rfl) (kcX0_guards_1 61 4 rfl) (kcX0_guards_1 62 1 rfl) rfl
theorem dX0_guards_127 : decode cX0_guards 127 = .ok (.goto (-49), 3) := dw_167 (kcX0_guards_1 63 167 rfl) (kcX0_guards_2 0 255 rfl) (kcX0_guards_2 1 207 rfl) rfl
theorem dX0_guards_101 : decode cX0_guards 101 = .ok (.aload_n 1, 1) := dw_43 (kcX0_guards_1 37 43 rfl)
theorem dX0_guards_102 : decode cX0_guards 102 = .ok (.iload_n 3, 1) := dw_29 (kcX0_guards_1 38 29 rfl)
theorem dX0_guards_103 : decode cX0_guards 103 = .ok (.iload 4, 2) := dw_21 (kcX0_guards_1 39 21 rfl) (kcX0_guards_1 40 4 rfl)
theorem dX0_guards_105 : decode cX0_guards 105 = .ok (.invokevirtual 59, 3) := dw_182 (kcX0_guards_1 41 182 rfl) (kcX0_guards_1 42 0 rfl) (kcX0_guards_1 43 59 rfl) rfl
theorem dX0_guards_108 : decode cX0_guards 108 = .ok (.ifCond .ne 16, 3) := dw_154 (kcX0_guards_1 44 154 rfl) (kcX0_guards_1 45 0 rfl) (kcX0_guards_1 46 16 rfl) rfl
theorem dX0_guards_111 : decode cX0_guards 111 = .ok (.aload_n 0, 1) := dw_42 (kcX0_guards_1 47 42 rfl)
theorem dX0_guards_112 : decode cX0_guards 112 = .ok (.iload_n 3, 1) := dw_29 (kcX0_guards_1 48 29 rfl)
theorem dX0_guards_113 : decode cX0_guards 113 = .ok (.putfield 29, 3) := dw_181 (kcX0_guards_1 49 181 rfl) (kcX0_guards_1 50 0 rfl) (kcX0_guards_1 51 29 rfl) rfl
theorem dX0_guards_116 : decode cX0_guards 116 = .ok (.aload_n 0, 1) := dw_42 (kcX0_guards_1 52 42 rfl)
theorem dX0_guards_117 : decode cX0_guards 117 = .ok (.iload 4, 2) := dw_21 (kcX0_guards_1 53 21 rfl) (kcX0_guards_1 54 4 rfl)
theorem dX0_guards_119 : decode cX0_guards 119 = .ok (.putfield 32, 3) := dw_181 (kcX0_guards_1 55 181 rfl) (kcX0_guards_1 56 0 rfl) (kcX0_guards_1 57 32 rfl) rfl
theorem dX0_guards_122 : decode cX0_guards 122 = .ok (.iconst 0, 1) := dw_3 (kcX0_guards_1 58 3 rfl)
theorem dX0_guards_123 : decode cX0_guards 123 = .ok (.ireturn, 1) := dw_172 (kcX0_guards_1 59 172 rfl)
theorem dX0_guards_48 : decode cX0_guards 48 = .ok (.aload_n 1, 1) := dw_43 (kcX0_guards_0 48 43 rfl)
theorem dX0_guards_49 : decode cX0_guards 49 = .ok (.aload_n 0, 1) := dw_42 (kcX0_guards_0 49 42 rfl)
theorem dX0_guards_50 : decode cX0_guards 50 = .ok (.getfield 29, 3) := dw_180 (kcX0_guards_0 50 180 rfl) (kcX0_guards_0 51 0 rfl) (kcX0_guards_0 52 29 rfl) rfl
theorem dX0_guards_53 : decode cX0_guards 53 = .ok (.aload_n 0, 1) := dw_42 (kcX0_guards_0 53 42 rfl)
theorem dX0_guards_54 : decode cX0_guards 54 = .ok (.getfield 32, 3) := dw_180 (kcX0_guards_0 54 180 rfl) (kcX0_guards_0 55 0 rfl) (kcX0_guards_0 56 32 rfl) rfl
theorem dX0_guards_57 : decode cX0_guards 57 = .ok (.invokevirtual 59, 3) := dw_182 (kcX0_guards_0 57 182 rfl) (kcX0_guards_0 58 0 rfl) (kcX0_guards_0 59 59 rfl) rfl
theorem dX0_guards_60 : decode cX0_guards 60 = .ok (.ifCond .ne 5, 3) := dw_154 (kcX0_guards_0 60 154 rfl) (kcX0_guards_0 61 0 rfl) (kcX0_guards_0 62 5 rfl) rfl
theorem dX0_guards_63 : decode cX0_guards 63 = .ok (.iconst 0, 1) := dw_3 (kcX0_guards_0 63 3 rfl)
theorem dX0_guards_64 : decode cX0_guards 64 = .ok (.ireturn, 1) := dw_172 (kcX0_guards_1 0 172 rfl)
theorem kcX0_cheapest_0 : CHb cX0_cheapest 0 [4, 42, 180, 0, 25, 120, 61, 42, 2, 181, 0, 29, 42, 2, 181, 0, 32, 42, 43, 28, 4, 100, 182, 0, 113, 154, 0, 5, 2, 172, 42, 28, 182, 0, 117, 42, 28, 2, 182, 0, 120, 62, 3, 54, 4, 21, 4, 28, 162, 0, 32, 29, 2, 159, 0, 27, 42, 43, 29, 182, 0, 113, 153, 0] := CHb_of (by decide +kernel)
theorem dX0_cheapest_0 : decode cX0_cheapest 0 = .ok (.iconst 1, 1) := dw_4 (kcX0_cheapest_0 0 4 rfl)
theorem dX0_cheapest_1 : decode cX0_cheapest 1 = .ok (.aload_n 0, 1) := dw_42 (kcX0_cheapest_0 1 42 rfl)
theorem dX0_cheapest_2 : decode cX0_cheapest 2 = .ok (.getfield 25, 3) := dw_180 (kcX0_cheapest_0 2 180 rfl) (kcX0_cheapest_0 3 0 rfl) (kcX0_cheapest_0 4 25 rfl) rfl
theorem dX0_cheapest_5 : decode cX0_cheapest 5 = .ok (.ishl, 1) := dw_120 (kcX0_cheapest_0 5 120 rfl)
theorem dX0_cheapest_6 : decode cX0_cheapest 6 = .ok (.istore_n 2, 1) := dw_61 (kcX0_cheapest_0 6 61 rfl)
theorem dX0_cheapest_7 : decode cX0_cheapest 7 = .ok (.aload_n 0, 1) := dw_42 (kcX0_cheapest_0 7 42 rfl)
theorem dX0_cheapest_8 : decode cX0_cheapest 8 = .ok (.iconst (-1), 1) := dw_2 (kcX0_cheapest_0 8 2 rfl)
theorem dX0_cheapest_9 : decode cX0_cheapest 9 = .ok (.putfield 29, 3) := dw_181 (kcX0_cheapest_0 9 181 rfl) (kcX0_cheapest_0 10 0 rfl) (kcX0_cheapest_0 11 29 rfl) rfl
theorem dX0_cheapest_12 : decode cX0_cheapest 12 = .ok (.aload_n 0, 1) := dw_42 (kcX0_cheapest_0 12 42 rfl)
theorem dX0_cheapest_13 : decode cX0_cheapest 13 = .ok (.iconst (-1), 1) := dw_2 (kcX0_cheapest_0 13 2 rfl)
theorem dX0_cheapest_14 : decode cX0_cheapest 14 = .ok (.putfield 32, 3) := dw_181 (kcX0_cheapest_0 14 181 rfl) (kcX0_cheapest_0 15 0 rfl) (kcX0_cheapest_0 16 32 rfl) rfl
theorem dX0_cheapest_17 : decode cX0_cheapest 17 = .ok (.aload_n 0, 1) := dw_42 (kcX0_cheapest_0 17 42 rfl)
theorem dX0_cheapest_18 : decode cX0_cheapest 18 = .ok (.aload_n 1, 1) := dw_43 (kcX0_cheapest_0 18 43 rfl)
theorem dX0_cheapest_19 : decode cX0_cheapest 19 = .ok (.iload_n 2, 1) := dw_28 (kcX0_cheapest_0 19 28 rfl)
theorem dX0_cheapest_20 : decode cX0_cheapest 20 = .ok (.iconst 1, 1) := dw_4 (kcX0_cheapest_0 20 4 rfl)
theorem dX0_cheapest_21 : decode cX0_cheapest 21 = .ok (.isub, 1) := dw_100 (kcX0_cheapest_0 21 100 rfl)
theorem dX0_cheapest_22 : decode cX0_cheapest 22 = .ok (.invokevirtual 113, 3) := dw_182 (kcX0_cheapest_0 22 182 rfl) (kcX0_cheapest_0 23 0 rfl) (kcX0_cheapest_0 24 113 rfl) rfl
theorem dX0_cheapest_25 : decode cX0_cheapest 25 = .ok (.ifCond .ne 5, 3) := dw_154 (kcX0_cheapest_0 25 154 rfl) (kcX0_cheapest_0 26 0 rfl) (kcX0_cheapest_0 27 5 rfl) rfl
theorem dX0_cheapest_30 : decode cX0_cheapest 30 = .ok (.aload_n 0, 1) := dw_42 (kcX0_cheapest_0 30 42 rfl)
theorem dX0_cheapest_31 : decode cX0_cheapest 31 = .ok (.iload_n 2, 1) := dw_28 (kcX0_cheapest_0 31 28 rfl)
theorem dX0_cheapest_32 : decode cX0_cheapest 32 = .ok (.invokevirtual 117, 3) := dw_182 (kcX0_cheapest_0 32 182 rfl) (kcX0_cheapest_0 33 0 rfl) (kcX0_cheapest_0 34 117 rfl) rfl
theorem dX0_cheapest_35 : decode cX0_cheapest 35 = .ok (.aload_n 0, 1) := dw_42 (kcX0_cheapest_0 35 42 rfl)
theorem dX0_cheapest_36 : decode cX0_cheapest 36 = .ok (.iload_n 2, 1) := dw_28 (kcX0_cheapest_0 36 28 rfl)
theorem dX0_cheapest_37 : decode cX0_cheapest 37 = .ok (.iconst (-1), 1) := dw_2 (kcX0_cheapest_0 37 2 rfl)
theorem dX0_cheapest_38 : decode cX0_cheapest 38 = .ok (.invokevirtual 120, 3) := dw_182 (kcX0_cheapest_0 38 182 rfl) (kcX0_cheapest_0 39 0 rfl) (kcX0_cheapest_0 40 120 rfl) rfl
theorem dX0_cheapest_41 : decode cX0_cheapest 41 = .ok (.istore_n 3, 1) := dw_62 (kcX0_cheapest_0 41 62 rfl)
theorem dX0_cheapest_42 : decode cX0_cheapest 42 = .ok (.iconst 0, 1) := dw_3 (kcX0_cheapest_0 42 3 rfl)
theorem dX0_cheapest_43 : decode cX0_cheapest 43 = .ok (.istore 4, 2) := dw_54 (kcX0_cheapest_0 43 54 rfl) (kcX0_cheapest_0 44 4 rfl)
theorem dX0_cheapest_45 : decode cX0_cheapest 45 = .ok (.iload 4, 2) := dw_21 (kcX0_cheapest_0 45 21 rfl) (kcX0_cheapest_0 46 4 rfl)
theorem dX0_cheapest_47 : decode cX0_cheapest 47 = .ok (.iload_n 2, 1) := dw_28 (kcX0_cheapest_0 47 28 rfl)
theorem dX0_cheapest_48 : decode cX0_cheapest 48 = .ok (.if_icmp .ge 32, 3) := dw_162 (kcX0_cheapest_0 48 162 rfl) (kcX0_cheapest_0 49 0 rfl) (kcX0_cheapest_0 50 32 rfl) rfl
theorem kcX0_cheapest_1 : CHb cX0_cheapest 64 [5, 29, 172, 42, 28, 29, 182, 0, 120, 62, 132, 4, 1, 167, 255, 224, 2, 172] := CHb_of (by decide +kernel)
theorem dX0_cheapest_80 : decode cX0_cheapest 80 = .ok (.iconst (-1), 1) := dw_2 (kcX0_cheapest_1 16 2 rfl)
theorem dX0_cheapest_81 : decode cX0_cheapest 81 = .ok (.ireturn, 1) := dw_172 (kcX0_cheapest_1 17 172 rfl)
theorem dX0_cheapest_51 : decode cX0_cheapest 51 = .ok (.iload_n 3, 1) := dw_29 (kcX0_cheapest_0 51 29 rfl)
theorem dX0_cheapest_52 : decode cX0_cheapest 52 = .ok (.iconst (-1), 1) := dw_2 (kcX0_cheapest_0 52 2 rfl)
theorem dX0_cheapest_53 : decode cX0_cheapest 53 = .ok (.if_icmp .eq 27, 3) := dw_159 (kcX0_cheapest_0 53 159 rfl) (kcX0_cheapest_0 54 0 rfl) (kcX0_cheapest_0 55 27 rfl) rfl
theorem dX0_cheapest_56 : decode cX0_cheapest 56 = .ok (.aload_n 0, 1) := dw_42 (kcX0_cheapest_0 56 42 rfl)
theorem dX0_cheapest_57 : decode cX0_cheapest 57 = .ok (.aload_n 1, 1) := dw_43 (kcX0_cheapest_0 57 43 rfl)
theorem dX0_cheapest_58 : decode cX0_cheapest 58 = .ok (.iload_n 3, 1) := dw_29 (kcX0_cheapest_0 58 29 rfl)
theorem dX0_cheapest_59 : decode cX0_cheapest 59 = .ok (.invokevirtual 113, 3) := dw_182 (kcX0_cheapest_0 59 182 rfl) (kcX0_cheapest_0 60 0 rfl) (kcX0_cheapest_0 61 113 rfl) rfl
theorem dX0_cheapest_62 : decode cX0_cheapest 62 = .ok (.ifCond .eq 5, 3) := dw_153 (kcX0_cheapest_0 62 153 rfl) (kcX0_cheapest_0 63 0 rfl) (kcX0_cheapest_1 0 5 rfl) rfl
theorem dX0_cheapest_67 : decode cX0_cheapest 67 = .ok (.aload_n 0, 1) := dw_42 (kcX0_cheapest_1 3 42 rfl)
theorem dX0_cheapest_68 : decode cX0_cheapest 68 = .ok (.iload_n 2, 1) := dw_28 (kcX0_cheapest_1 4 28 rfl)
theorem dX0_cheapest_69 : decode cX0_cheapest 69 = .ok (.iload_n 3, 1) := dw_29 (kcX0_cheapest_1 5 29 rfl)
theorem dX0_cheapest_70 : decode cX0_cheapest 70 = .ok (.invokevirtual 120, 3) := dw_182 (kcX0_cheapest_1 6 182 rfl) (kcX0_cheapest_1 7 0 rfl) (kcX0_cheapest_1 8 120 rfl) rfl
theorem dX0_cheapest_73 : decode cX0_cheapest 73 = .ok (.istore_n 3, 1) := dw_62 (kcX0_cheapest_1 9 62 rfl)
theorem dX0_cheapest_74 : decode cX0_cheapest 74 = .ok (.iinc 4 1, 3) := dw_132 (kcX0_cheapest_1 10 132 rfl) (kcX0_cheapest_1 11 4 rfl) (kcX0_cheapest_1 12 1 rfl) rfl
theorem dX0_cheapest_77 : decode cX0_cheapest 77 = .ok (.goto (-32), 3) := dw_167 (kcX0_cheapest_1 13 167 rfl) (kcX0_cheapest_1 14 255 rfl) (kcX0_cheapest_1 15 224 rfl) rfl
theorem dX0_cheapest_65 : decode cX0_cheapest 65 = .ok (.iload_n 3, 1) := dw_29 (kcX0_cheapest_1 1 29 rfl)
theorem dX0_cheapest_66 : decode cX0_cheapest 66 = .ok (.ireturn, 1) := dw_172 (kcX0_cheapest_1 2 172 rfl)
theorem dX0_cheapest_28 : decode cX0_cheapest 28 = .ok (.iconst (-1), 1) := dw_2 (kcX0_cheapest_0 28 2 rfl)
theorem dX0_cheapest_29 : decode cX0_cheapest 29 = .ok (.ireturn, 1) := dw_172 (kcX0_cheapest_0 29 172 rfl)
theorem kcX0_tell_0 : CHb cX0_tell 0 [3, 62, 29, 17, 0, 144, 162, 0, 16, 43, 29, 5, 3, 182, 0, 75, 132, 3, 1, 167, 255, 239, 3, 62, 29, 42, 180, 0, 25, 162, 0, 31, 28, 42, 29, 182, 0, 110, 126, 153, 0, 15, 43, 42, 180, 0, 15, 29, 46, 5, 4, 182, 0, 75, 132, 3, 1, 167, 255, 223, 177] := CHb_of (by decide +kernel)
theorem dX0_tell_0 : decode cX0_tell 0 = .ok (.iconst 0, 1) := dw_3 (kcX0_tell_0 0 3 rfl)
theorem dX0_tell_1 : decode cX0_tell 1 = .ok (.istore_n 3, 1) := dw_62 (kcX0_tell_0 1 62 rfl)
theorem dX0_tell_2 : decode cX0_tell 2 = .ok (.iload_n 3, 1) := dw_29 (kcX0_tell_0 2 29 rfl)
theorem dX0_tell_3 : decode cX0_tell 3 = .ok (.sipush 144, 3) := dw_17 (kcX0_tell_0 3 17 rfl) (kcX0_tell_0 4 0 rfl) (kcX0_tell_0 5 144 rfl) rfl
theorem dX0_tell_6 : decode cX0_tell 6 = .ok (.if_icmp .ge 16, 3) := dw_162 (kcX0_tell_0 6 162 rfl) (kcX0_tell_0 7 0 rfl) (kcX0_tell_0 8 16 rfl) rfl
theorem dX0_tell_9 : decode cX0_tell 9 = .ok (.aload_n 1, 1) := dw_43 (kcX0_tell_0 9 43 rfl)
theorem dX0_tell_10 : decode cX0_tell 10 = .ok (.iload_n 3, 1) := dw_29 (kcX0_tell_0 10 29 rfl)
theorem dX0_tell_11 : decode cX0_tell 11 = .ok (.iconst 2, 1) := dw_5 (kcX0_tell_0 11 5 rfl)
theorem dX0_tell_12 : decode cX0_tell 12 = .ok (.iconst 0, 1) := dw_3 (kcX0_tell_0 12 3 rfl)
theorem dX0_tell_13 : decode cX0_tell 13 = .ok (.invokevirtual 75, 3) := dw_182 (kcX0_tell_0 13 182 rfl) (kcX0_tell_0 14 0 rfl) (kcX0_tell_0 15 75 rfl) rfl
theorem dX0_tell_16 : decode cX0_tell 16 = .ok (.iinc 3 1, 3) := dw_132 (kcX0_tell_0 16 132 rfl) (kcX0_tell_0 17 3 rfl) (kcX0_tell_0 18 1 rfl) rfl
theorem dX0_tell_19 : decode cX0_tell 19 = .ok (.goto (-17), 3) := dw_167 (kcX0_tell_0 19 167 rfl) (kcX0_tell_0 20 255 rfl) (kcX0_tell_0 21 239 rfl) rfl
theorem dX0_tell_22 : decode cX0_tell 22 = .ok (.iconst 0, 1) := dw_3 (kcX0_tell_0 22 3 rfl)
theorem dX0_tell_23 : decode cX0_tell 23 = .ok (.istore_n 3, 1) := dw_62 (kcX0_tell_0 23 62 rfl)
theorem dX0_tell_24 : decode cX0_tell 24 = .ok (.iload_n 3, 1) := dw_29 (kcX0_tell_0 24 29 rfl)
theorem dX0_tell_25 : decode cX0_tell 25 = .ok (.aload_n 0, 1) := dw_42 (kcX0_tell_0 25 42 rfl)
theorem dX0_tell_26 : decode cX0_tell 26 = .ok (.getfield 25, 3) := dw_180 (kcX0_tell_0 26 180 rfl) (kcX0_tell_0 27 0 rfl) (kcX0_tell_0 28 25 rfl) rfl
theorem dX0_tell_29 : decode cX0_tell 29 = .ok (.if_icmp .ge 31, 3) := dw_162 (kcX0_tell_0 29 162 rfl) (kcX0_tell_0 30 0 rfl) (kcX0_tell_0 31 31 rfl) rfl
theorem dX0_tell_60 : decode cX0_tell 60 = .ok (.return_, 1) := dw_177 (kcX0_tell_0 60 177 rfl)
theorem dX0_tell_32 : decode cX0_tell 32 = .ok (.iload_n 2, 1) := dw_28 (kcX0_tell_0 32 28 rfl)
theorem dX0_tell_33 : decode cX0_tell 33 = .ok (.aload_n 0, 1) := dw_42 (kcX0_tell_0 33 42 rfl)
theorem dX0_tell_34 : decode cX0_tell 34 = .ok (.iload_n 3, 1) := dw_29 (kcX0_tell_0 34 29 rfl)
theorem dX0_tell_35 : decode cX0_tell 35 = .ok (.invokevirtual 110, 3) := dw_182 (kcX0_tell_0 35 182 rfl) (kcX0_tell_0 36 0 rfl) (kcX0_tell_0 37 110 rfl) rfl
theorem dX0_tell_38 : decode cX0_tell 38 = .ok (.iand, 1) := dw_126 (kcX0_tell_0 38 126 rfl)
theorem dX0_tell_39 : decode cX0_tell 39 = .ok (.ifCond .eq 15, 3) := dw_153 (kcX0_tell_0 39 153 rfl) (kcX0_tell_0 40 0 rfl) (kcX0_tell_0 41 15 rfl) rfl
theorem dX0_tell_54 : decode cX0_tell 54 = .ok (.iinc 3 1, 3) := dw_132 (kcX0_tell_0 54 132 rfl) (kcX0_tell_0 55 3 rfl) (kcX0_tell_0 56 1 rfl) rfl
theorem dX0_tell_57 : decode cX0_tell 57 = .ok (.goto (-33), 3) := dw_167 (kcX0_tell_0 57 167 rfl) (kcX0_tell_0 58 255 rfl) (kcX0_tell_0 59 223 rfl) rfl
theorem dX0_tell_42 : decode cX0_tell 42 = .ok (.aload_n 1, 1) := dw_43 (kcX0_tell_0 42 43 rfl)
theorem dX0_tell_43 : decode cX0_tell 43 = .ok (.aload_n 0, 1) := dw_42 (kcX0_tell_0 43 42 rfl)
theorem dX0_tell_44 : decode cX0_tell 44 = .ok (.getfield 15, 3) := dw_180 (kcX0_tell_0 44 180 rfl) (kcX0_tell_0 45 0 rfl) (kcX0_tell_0 46 15 rfl) rfl
theorem dX0_tell_47 : decode cX0_tell 47 = .ok (.iload_n 3, 1) := dw_29 (kcX0_tell_0 47 29 rfl)
theorem dX0_tell_48 : decode cX0_tell 48 = .ok (.iaload, 1) := dw_46 (kcX0_tell_0 48 46 rfl)
theorem dX0_tell_49 : decode cX0_tell 49 = .ok (.iconst 2, 1) := dw_5 (kcX0_tell_0 49 5 rfl)
theorem dX0_tell_50 : decode cX0_tell 50 = .ok (.iconst 1, 1) := dw_4 (kcX0_tell_0 50 4 rfl)
theorem dX0_tell_51 : decode cX0_tell 51 = .ok (.invokevirtual 75, 3) := dw_182 (kcX0_tell_0 51 182 rfl) (kcX0_tell_0 52 0 rfl) (kcX0_tell_0 53 75 rfl) rfl
theorem KA_s {k : Nat → Int32} {s : Int32} {x y n : Nat} {P Q : Prop} (h : k (x * 12 + y) = (if s = 0 then 0 else 1)) : KA k x y = pB (¬ s = 0 ∨ (P ∧ n < 0 ∧ Q)) := by
  by_cases c : s = 0
  · rw [if_pos c] at h
    rw [KA_f h, pB_f (fun z => z.elim (fun z => z c) (fun z => absurd z.2.1 (by omega)))]
  · rw [if_neg c] at h
    rw [KA_t (by rw [h]; decide), pB_t (Or.inl c)]
section KK
variable {rw cl k m sq xx yy : Nat} {S M : Nat → Nat → Prop} {kp : Nat → Int32}
theorem KK_n (h : ∀ x y, x < rw → y < cl → KA kp x y = pB (S x y ∨ (M x y ∧ rkG M (12 * x + y) < k ∧ bt (nI sq) (m - 1 - rkG M (12 * x + y)) = true))) (hb : bt (nI sq) (m - 1 - k) = false) : ∀ x y, x < rw → y < cl → KA kp x y = pB (S x y ∨ (M x y ∧ rkG M (12 * x + y) < k + 1 ∧ bt (nI sq) (m - 1 - rkG M (12 * x + y)) = true)) := fun x y hx hy => by
  rw [h x y hx hy]
  refine pB_c ⟨fun z => z.imp id (fun z => ⟨z.1, by omega, z.2.2⟩), fun z => z.imp id (fun z => ⟨z.1, ?_, z.2.2⟩)⟩
  by_cases e : rkG M (12 * x + y) = k
  · have := z.2.2
    rw [e, hb] at this
    exact absurd this (by decide)
  · omega
theorem KK_y (hM : ∀ x y, M x y → y < 12) (hcl : cl ≤ 12) (h : ∀ x y, x < rw → y < cl → KA kp x y = pB (S x y ∨ (M x y ∧ rkG M (12 * x + y) < k ∧ bt (nI sq) (m - 1 - rkG M (12 * x + y)) = true))) (hm : M xx yy) (hr : rkG M (12 * xx + yy) = k) (hb : bt (nI sq) (m - 1 - k) = true) : ∀ x y, x < rw → y < cl → KA (upd kp (xx * 12 + yy) 1) x y = pB (S x y ∨ (M x y ∧ rkG M (12 * x + y) < k + 1 ∧ bt (nI sq) (m - 1 - rkG M (12 * x + y)) = true)) := fun x y hx hy => by
  rw [KA_u (hM xx yy hm) (by omega)]
  by_cases e : x = xx ∧ y = yy
  · rw [e.1, e.2, pB_t (Or.inr ⟨hm, by omega, by rw [hr]; exact hb⟩)]
    unfold ad1; rw [decide_eq_true (rfl : xx = xx), decide_eq_true (rfl : yy = yy)]; simp
  · have e2 : (decide (x = xx) && decide (y = yy)) = false := by
      by_cases c : x = xx
      · rw [decide_eq_false (fun z => e ⟨c, z⟩), Bool.and_false]
      · rw [decide_eq_false c, Bool.false_and]
    unfold ad1
    rw [e2, Bool.or_false, h x y hx hy]
    refine pB_c ⟨fun z => z.imp id (fun z => ⟨z.1, by omega, z.2.2⟩), fun z => z.imp id (fun z => ⟨z.1, ?_, z.2.2⟩)⟩
    by_cases c : rkG M (12 * x + y) = k
    · exact absurd (rk_inj (by omega) (hM xx yy hm) z.1 hm (c.trans hr.symm)) e
    · omega
theorem KK_e (hM : ∀ x y, M x y → rkG M (12 * x + y) < k) (h : ∀ x y, x < rw → y < cl → KA kp x y = pB (S x y ∨ (M x y ∧ rkG M (12 * x + y) < k ∧ bt (nI sq) (m - 1 - rkG M (12 * x + y)) = true))) : ∀ x y, x < rw → y < cl → KS S M m sq x y = KA kp x y := fun x y hx hy => by
  rw [h x y hx hy]
  exact pB_c ⟨fun z => z.imp id (fun z => ⟨z.1, hM x y z.1, z.2⟩), fun z => z.imp id (fun z => ⟨z.1, z.2.2⟩)⟩
end KK
theorem RD_0 {so cs kp va nu lo hi : Nat → Int32} {rw cl : Nat} {V0 Lo Hi : Nat → Nat → Nat} (hrw : rw ≤ 12) (hcl : cl ≤ 12) (hcs : ∀ x, x < rw → ¬ cs x = -2) (hn : RVL so nu lo hi rw cl V0 Lo Hi) (hv : ∀ x y, x < rw → y < cl → va (x * 12 + y) = nu (x * 12 + y)) : RDI so cs kp va lo hi rw cl V0 V0 Lo Hi := by
  refine ⟨hrw, hcl, hcs, fun x y hx hy hs => by rw [hv x y hx hy]; exact hn x y hx hy hs, fun cc => agN_r (fun x y _ _ e => ?_)⟩
  obtain ⟨e1, _⟩ := kpR_of e
  have q := dmR_of e1
  rw [rsT_t e1]
  have b := hn x y q.1 q.2.1 q.2.2.1
  exact ⟨b.2.2.2.2.2, b.2.2.2.2.1⟩
def GDI (so cs kp va lo hi : Nat → Int32) (rw cl : Nat) (V0 U Lo Hi : Nat → Nat → Nat) (f4 : Int32) (s0 : Nat → Int32) (Q : Nat → Nat → Prop) (n : Nat) : Prop := RDI so cs kp va lo hi rw cl V0 U Lo Hi ∧ RSY so cs kp rw cl U Lo Hi f4 s0 ∧ ∀ x y, x < rw → y < cl → 12 * x + y < n → ¬ Q x y
theorem GDI_m {so cs kp va lo hi : Nat → Int32} {rw cl n n2 : Nat} {V0 U Lo Hi : Nat → Nat → Nat} {f4 : Int32} {s0 : Nat → Int32} {Q : Nat → Nat → Prop} (h : GDI so cs kp va lo hi rw cl V0 U Lo Hi f4 s0 Q n) (hn : ∀ x y, x < rw → y < cl → n ≤ 12 * x + y → 12 * x + y < n2 → ¬ Q x y) : GDI so cs kp va lo hi rw cl V0 U Lo Hi f4 s0 Q n2 := ⟨h.1, h.2.1, fun x y hx hy z => by
  rcases Nat.lt_or_ge (12 * x + y) n with w | w
  · exact h.2.2 x y hx hy w
  · exact hn x y hx hy w z⟩
/-- what stays hard -/
def HRD (rw cl : Nat) (r10 : Nat → Int32) (a b : Int32) : Prop := a = -1 ∨ ∃ ii jj, ii < rw ∧ jj < cl ∧ a = nI ii ∧ b = nI jj ∧ ¬ r10 (ii * 12 + jj) = 0
/-- the cheapest set so far -/
def CST (cp : Nat → Nat) (m : Nat) (G : Nat → Prop) (n : Nat) (q : Int32) : Prop := (q = -1 ∧ ∀ s, s < 2 ^ m → ¬ G s) ∨ ∃ b, b < 2 ^ m ∧ q = nI b ∧ n ≤ cBf cp m b (2 ^ m) ∧ ∀ s, s < 2 ^ m → BEF cp m s b → ¬ G s
theorem CST_0 {cp : Nat → Nat} {m : Nat} {G : Nat → Prop} {q : Int32} (h : (q = -1 ∧ ∀ s, s < 2 ^ m → ¬ AFT cp m (-1) s) ∨ ∃ b, b < 2 ^ m ∧ q = nI b ∧ AFT cp m (-1) b ∧ ∀ s, s < 2 ^ m → AFT cp m (-1) s → s = b ∨ BEF cp m b s) : CST cp m G 0 q := by
  rcases h with ⟨h1, h2⟩ | ⟨b, h1, h2, _, h4⟩
  · exact Or.inl ⟨h1, fun s hs => absurd (Or.inl rfl) (h2 s hs)⟩
  · refine Or.inr ⟨b, h1, h2, Nat.zero_le _, fun s hs hb => ?_⟩
    rcases h4 s hs (Or.inl rfl) with e | e
    · rw [e] at hb; exact absurd hb BEF_n
    · exact absurd (BEF_t hb e) BEF_n
theorem CST_s {cp : Nat → Nat} {m n b0 : Nat} {G : Nat → Prop} {q : Int32} (hm : m < 9) (h0 : b0 < 2 ^ m) (hn : n ≤ cBf cp m b0 (2 ^ m)) (hbe : ∀ s, s < 2 ^ m → BEF cp m s b0 → ¬ G s) (hg : ¬ G b0) (h : (q = -1 ∧ ∀ s, s < 2 ^ m → ¬ AFT cp m (nI b0) s) ∨ ∃ b, b < 2 ^ m ∧ q = nI b ∧ AFT cp m (nI b0) b ∧ ∀ s, s < 2 ^ m → AFT cp m (nI b0) s → s = b ∨ BEF cp m b s) : CST cp m G (n + 1) q := by
  have hp := p2_le m hm
  have af : ∀ s, BEF cp m b0 s → AFT cp m (nI b0) s := fun s z => Or.inr ⟨b0, by omega, rfl, z⟩
  have fa : ∀ s, AFT cp m (nI b0) s → BEF cp m b0 s := fun s z => z.elim (fun e => absurd e (nI_nm1 (by omega))) (fun ⟨o, ho, e, z⟩ => by
    have e2 := (nI_eq (by omega) (by omega)).mp e
    rw [e2]; exact z)
  rcases h with ⟨h1, h2⟩ | ⟨b, h1, h2, h3, h4⟩
  · refine Or.inl ⟨h1, fun s hs => ?_⟩
    rcases BEF_or (cp := cp) (m := m) (a := s) (b := b0) with z | z | z
    · exact hbe s hs z
    · rw [z]; exact hg
    · exact absurd (af s z) (h2 s hs)
  · refine Or.inr ⟨b, h1, h2, ?_, fun s hs hb => ?_⟩
    · have := cBf_s (fa b h3) (2 ^ m) h0
      omega
    · rcases BEF_or (cp := cp) (m := m) (a := s) (b := b0) with z | z | z
      · exact hbe s hs z
      · rw [z]; exact hg
      · rcases h4 s hs (af s z) with e | e
        · rw [e] at hb; exact absurd hb BEF_n
        · exact absurd (BEF_t hb e) BEF_n
set_option maxHeartbeats 4000000 in
set_option maxRecDepth 100000 in
theorem x_X0_guards (l : Launch) (G : GG) (x : Nat) (xa ta a b ga ua la lb lc : Nat → Nat) (tg gg : Nat → Option Nat) (xf tf f qf gf uf lf mf nf : Nat → Int32) (tr r q gr ur lr mr nr : Nat → Nat → Int32) (sq : Nat) (rw : Nat) (cl : Nat) (dn : Nat) (up : Nat) (V0 : Nat → Nat → Nat) (Lo : Nat → Nat → Nat) (Hi : Nat → Nat → Nat) (mm : Nat) (hrw : rw ≤ 12) (hcl : cl ≤ 12) (h0 : (f 0) = nI rw) (h1 : (f 1) = nI cl) (h2 : (f 2) = nI dn) (h3 : (f 3) = nI up) (hdn : dn ≤ 1000000) (hup : up ≤ 1000000) (hRN : RVL (r 6) (r 9) (r 13) (r 14) rw cl V0 Lo Hi) (hcs : ∀ x, x < rw → ¬ (r 7) x = -2) (hSS : ∀ x y, x < rw → y < cl → ¬ (r 10) (x * 12 + y) = 0 → ¬ (r 6) x = 0) (hm8 : mm < 9) (hg4 : (gf 4) = nI mm) (hmk : mm = rkG (mayA (r 8) (r 10) rw cl) (12 * rw)) (hgc : GCH (mayA (r 8) (r 10) rw cl) (12 * rw) (gr 1) (gr 2) (fun x y => coR ((tr 9) 5) ((tr 6) (x * 12 + y)))) (hRB : RB adjR (q 0)) (hsq : sq < 2 ^ mm) (hHD : HRD rw cl (r 10) (gf 5) (gf 6)) : WrI l yX0_guards cX0_guards 5 (some .boolean) ({ frames := 5, cells := 0, slots := 0, locals := 134 }) G (xM G x xa ta a b ga ua la lb lc tg gg xf tf f qf gf uf lf mf nf tr r q gr ur lr mr nr) [.ref (ga 9), .ref (a 15), .int (nI sq)] (fun qz w => ∃ (n_f_4 : Int32) (n_gf_5 : Int32) (n_gf_6 : Int32) (n_q_0 : Nat → Int32) (n_q_1 : Nat → Int32) (n_q_2 : Nat → Int32) (n_qf_3 : Int32) (n_r_11 : Nat → Int32) (n_r_12 : Nat → Int32), w = xM G x xa ta a b ga ua la lb lc tg gg xf tf (upd f 4 n_f_4) (upd qf 3 n_qf_3) (upd (upd gf 5 n_gf_5) 6 n_gf_6) uf lf mf nf tr (up2 (up2 r 11 n_r_11) 12 n_r_12) (up2 (up2 (up2 q 0 n_q_0) 1 n_q_1) 2 n_q_2) gr ur lr mr nr ∧ ((qz = 1 ∧ ((GRD rw cl (UNG rw cl (fun x => ¬ (r 6) x = 0) (r 7) (secA (r 10)) Lo Hi V0 dn up) (secA (r 10)) (mayA (r 8) (r 10) rw cl) mm) sq)) ∨ (qz = 0 ∧ ¬ ((GRD rw cl (UNG rw cl (fun x => ¬ (r 6) x = 0) (r 7) (secA (r 10)) Lo Hi V0 dn up) (secA (r 10)) (mayA (r 8) (r 10) rw cl) mm) sq))) ∧ (HRD rw cl (r 10) n_gf_5 n_gf_6) ∧ (RB adjR n_q_0)) := by
  refine wr_entryI (by decide +kernel) (Nat.le_of_ble_eq_true rfl) ?_
  intro p e s m below meth c A C0 hP hK hD hA ls hl
  have hS : va_S A s.heap s.heap [] := va_S.rf
  obtain ⟨hx, hb, hml, hown, hts, hr, hlocks, hin⟩ := C0
  have hown : s.vm.findClass RX0 = some m.cls := hown
  have hDD : ∀ xf' tf' f' qf' gf' uf' lf' mf' nf' tr' r' q' gr' ur' lr' mr' nr', va_D A (xM G x xa ta a b ga ua la lb lc tg gg xf' tf' f' qf' gf' uf' lf' mf' nf' tr' r' q' gr' ur' lr' mr' nr') := fun xf' tf' f' qf' gf' uf' lf' mf' nf' tr' r' q' gr' ur' lr' mr' nr' => D_same hD rfl
  have hl : lv_has ls 5 [(0, .ref (ga 9)), (1, .ref (a 15)), (2, .int (nI sq))] := hl
  have hMr : ∀ x y, (mayA (r 8) (r 10) rw cl) x y → rkG (mayA (r 8) (r 10) rw cl) (12 * x + y) < mm := fun x y h9 => by rw [hmk]; exact rk_lt (by have := h9.2.1; omega) h9 (by have h8 := h9.1; have h7 := h9.2.1; omega)
  have hM12 : ∀ x y, (mayA (r 8) (r 10) rw cl) x y → y < 12 := fun x y h9 => by have := h9.2.1; omega
  refine lv_aload_n hx hb dX0_guards_0 rfl (lv_at hl 1 rfl) ?_
  refine lawV (rest := []) (q0 := 0) ⟨hx, hb, hml, hown, hts⟩ (e_X2_keepSecretsAlone l G a b f r rw cl hrw hcl h0 h1) mi_yX2_keepSecretsAlone mv_yX2_keepSecretsAlone ml_X0_126 ⟨rfl, rfl, Nat.le_of_ble_eq_true rfl, Nat.le_of_ble_eq_true rfl⟩ hK hP (hDD _ _ _ _ _ _ _ _ _ _ _ _ _ _ _ _ _) (pl_perm (xBlk G x xa ta a b ga ua la lb lc tg gg xf tf f qf gf uf lf mf nf tr r q gr ur lr mr nr) (sel := [2]) (oth := [0, 1, 3, 4, 5, 6, 7, 8, 9]) (by decide)) rfl rfl rfl hl.1 rfl (Nat.le_of_ble_eq_true rfl) dX0_guards_1 ⟨Nat.zero_le _, Nat.zero_le _⟩ hS hA (fun w5 H locs hw5 hP hS => ?_)
  obtain ⟨x1, x2, x3, rfl, hks, hk4⟩ := hw5
  have hP : PP G (xM G x xa ta a b ga ua la lb lc tg gg xf tf (upd f 4 x1) qf gf uf lf mf nf tr (up2 (up2 r 11 x2) 12 x3) q gr ur lr mr nr) H := (hP rfl (xM G x xa ta a b ga ua la lb lc tg gg xf tf (upd f 4 x1) qf gf uf lf mf nf tr (up2 (up2 r 11 x2) 12 x3) q gr ur lr mr nr) (pl_perm (xBlk G x xa ta a b ga ua la lb lc tg gg xf tf (upd f 4 x1) qf gf uf lf mf nf tr (up2 (up2 r 11 x2) 12 x3) q gr ur lr mr nr) (sel := [2]) (oth := [0, 1, 3, 4, 5, 6, 7, 8, 9]) (by decide))).1
  have hks : ∀ x y, x < rw → y < cl → x2 (x * 12 + y) = (if r 10 (x * 12 + y) = 0 then 0 else 1) ∧ x3 (x * 12 + y) = r 9 (x * 12 + y) := hks
  refine lv_iconst (v := 0) hx hb dX0_guards_4 (by decide) ?_
  refine lv_istore_n (lv' := [(3, .int 0), (0, .ref (ga 9)), (1, .ref (a 15)), (2, .int (nI sq))]) hx hb dX0_guards_5 rfl hl (by decide) rfl (fun ls hl => ?_)
  have loop6 : ∀ (k6 k : Nat) (x7 : Int32) (x8 : Nat → Int32), k ≤ mm → mm < k + k6 → (∀ x y, x < rw → y < cl → KA x8 x y = pB ((secA (r 10)) x y ∨ ((mayA (r 8) (r 10) rw cl) x y ∧ rkG (mayA (r 8) (r 10) rw cl) (12 * x + y) < k ∧ bt (nI sq) (mm - 1 - rkG (mayA (r 8) (r 10) rw cl) (12 * x + y)) = true))) → (x7 = -2) → ∀ (H : Heap) (locs : List Loc) (ls : Array Slot), PP G (xM G x xa ta a b ga ua la lb lc tg gg xf tf (upd f 4 x7) qf gf uf lf mf nf tr (up2 (up2 r 11 x8) 12 x3) q gr ur lr mr nr) H → va_S A s.heap H locs → lv_has ls 5 [(3, .int (nI k)), (0, .ref (ga 9)), (1, .ref (a 15)), (2, .int (nI sq))] → W p l e ({ frames := 5, cells := 0, slots := 0, locals := 134 }) s m ([.ref (ga 9), .ref (a 15), .int (nI sq)] : List Value).toArray below meth c H locs 0 0 (MQ below (QwI G (fun qz w => ∃ (n_f_4 : Int32) (n_gf_5 : Int32) (n_gf_6 : Int32) (n_q_0 : Nat → Int32) (n_q_1 : Nat → Int32) (n_q_2 : Nat → Int32) (n_qf_3 : Int32) (n_r_11 : Nat → Int32) (n_r_12 : Nat → Int32), w = xM G x xa ta a b ga ua la lb lc tg gg xf tf (upd f 4 n_f_4) (upd qf 3 n_qf_3) (upd (upd gf 5 n_gf_5) 6 n_gf_6) uf lf mf nf tr (up2 (up2 r 11 n_r_11) 12 n_r_12) (up2 (up2 (up2 q 0 n_q_0) 1 n_q_1) 2 n_q_2) gr ur lr mr nr ∧ ((qz = 1 ∧ ((GRD rw cl (UNG rw cl (fun x => ¬ (r 6) x = 0) (r 7) (secA (r 10)) Lo Hi V0 dn up) (secA (r 10)) (mayA (r 8) (r 10) rw cl) mm) sq)) ∨ (qz = 0 ∧ ¬ ((GRD rw cl (UNG rw cl (fun x => ¬ (r 6) x = 0) (r 7) (secA (r 10)) Lo Hi V0 dn up) (secA (r 10)) (mayA (r 8) (r 10) rw cl) mm) sq))) ∧ (HRD rw cl (r 10) n_gf_5 n_gf_6) ∧ (RB adjR n_q_0)) A) ([.ref (ga 9), .ref (a 15), .int (nI sq)] : List Value).toArray s 0 0 A) (F0 m 6 ls []) := by
    intro k6
    induction k6 with
    | zero => intro k x7 x8 h1 h2; exact absurd h1 (by omega)
    | succ k6 ih6k6 =>
      intro k x7 x8 hi_k hk_k hKK hf4 H locs ls hP hS hl
      refine lv_iload_n hx hb dX0_guards_6 rfl (lv_at hl 0 rfl) ?_
      refine lv_aload_n hx hb dX0_guards_7 rfl (lv_at hl 1 rfl) ?_
      refine va_get (D := G.1) (ci := 0) (v := .int (gf 4)) (C := RX0) (T := TX0) (N := 9) hx hb hts inX0 hown hK.1 hP 25 rfl rfl 4 (by decide) (hts _ mf_X0_25) (fun _ h9 => h9) rfl dX0_guards_8 ?_
      rw [show (gf 4) = nI (mm) from hg4]
      refine lv_icmp_ge (tgt := 40) hx hb dX0_guards_11 (by decide) (fun c9 => ?_) (fun c9 => ?_)
      · have b11 := qge_t (a := k) (b := (mm)) (by omega) (by omega) c9
        have hKS := KK_e hMr (show ∀ x y, x < rw → y < cl → KA x8 x y = pB ((secA (r 10)) x y ∨ ((mayA (r 8) (r 10) rw cl) x y ∧ rkG (mayA (r 8) (r 10) rw cl) (12 * x + y) < mm ∧ bt (nI sq) (mm - 1 - rkG (mayA (r 8) (r 10) rw cl) (12 * x + y)) = true)) by rw [show mm = k by omega] at hKK ⊢; exact hKK)
        have hI : GDI (r 6) (r 7) x8 x3 (r 13) (r 14) rw cl V0 V0 Lo Hi x7 (q 0) (UNG rw cl (fun x => ¬ (r 6) x = 0) (r 7) (secA (r 10)) Lo Hi V0 dn up (KS (secA (r 10)) (mayA (r 8) (r 10) rw cl) mm sq)) 0 := ⟨RD_0 hrw hcl hcs hRN (fun x y h8 h9 => (hks x y h8 h9).2), Or.inl hf4, fun x y _ _ h9 => absurd h9 (by omega)⟩
        refine lv_aload_n hx hb dX0_guards_40 rfl (lv_at hl 1 rfl) ?_
        refine va_get (D := G.1) (ci := 0) (v := .int (gf 5)) (C := RX0) (T := TX0) (N := 9) hx hb hts inX0 hown hK.1 hP 25 rfl rfl 5 (by decide) (hts _ mf_X0_29) (fun _ h9 => h9) rfl dX0_guards_41 ?_
        refine lv_iconst (v := -1) hx hb dX0_guards_44 (by decide) ?_
        refine lv_icmp_eq (tgt := 65) hx hb dX0_guards_45 (by decide) (fun c10 => ?_) (fun c10 => ?_)
        · refine lv_iconst (v := 0) hx hb dX0_guards_65 (by decide) ?_
          refine lv_istore_n (lv' := [(3, .int 0), (0, .ref (ga 9)), (1, .ref (a 15)), (2, .int (nI sq))]) hx hb dX0_guards_66 rfl hl (by decide) rfl (fun ls hl => ?_)
          have loop67 : ∀ (k11 i : Nat) (U : Nat → Nat → Nat) (x12 : Int32) (x13 : Int32) (x14 : Int32) (x15 : Nat → Int32) (x16 : Nat → Int32) (x17 : Nat → Int32) (x18 : Int32) (x19 : Nat → Int32), i ≤ rw → rw < i + k11 → (RB adjR x15) → (HRD rw cl (r 10) x13 x14) → (GDI (r 6) (r 7) x8 x19 (r 13) (r 14) rw cl V0 U Lo Hi x12 x15 (UNG rw cl (fun x => ¬ (r 6) x = 0) (r 7) (secA (r 10)) Lo Hi V0 dn up (KS (secA (r 10)) (mayA (r 8) (r 10) rw cl) mm sq)) (12 * i)) → ∀ (H : Heap) (locs : List Loc) (ls : Array Slot), PP G (xM G x xa ta a b ga ua la lb lc tg gg xf tf (upd f 4 x12) (upd qf 3 x18) (upd (upd gf 5 x13) 6 x14) uf lf mf nf tr (up2 (up2 r 11 x8) 12 x19) (up2 (up2 (up2 q 0 x15) 1 x16) 2 x17) gr ur lr mr nr) H → va_S A s.heap H locs → lv_has ls 5 [(3, .int (nI i)), (0, .ref (ga 9)), (1, .ref (a 15))] → W p l e ({ frames := 5, cells := 0, slots := 0, locals := 134 }) s m ([.ref (ga 9), .ref (a 15), .int (nI sq)] : List Value).toArray below meth c H locs 0 0 (MQ below (QwI G (fun qz w => ∃ (n_f_4 : Int32) (n_gf_5 : Int32) (n_gf_6 : Int32) (n_q_0 : Nat → Int32) (n_q_1 : Nat → Int32) (n_q_2 : Nat → Int32) (n_qf_3 : Int32) (n_r_11 : Nat → Int32) (n_r_12 : Nat → Int32), w = xM G x xa ta a b ga ua la lb lc tg gg xf tf (upd f 4 n_f_4) (upd qf 3 n_qf_3) (upd (upd gf 5 n_gf_5) 6 n_gf_6) uf lf mf nf tr (up2 (up2 r 11 n_r_11) 12 n_r_12) (up2 (up2 (up2 q 0 n_q_0) 1 n_q_1) 2 n_q_2) gr ur lr mr nr ∧ ((qz = 1 ∧ ((GRD rw cl (UNG rw cl (fun x => ¬ (r 6) x = 0) (r 7) (secA (r 10)) Lo Hi V0 dn up) (secA (r 10)) (mayA (r 8) (r 10) rw cl) mm) sq)) ∨ (qz = 0 ∧ ¬ ((GRD rw cl (UNG rw cl (fun x => ¬ (r 6) x = 0) (r 7) (secA (r 10)) Lo Hi V0 dn up) (secA (r 10)) (mayA (r 8) (r 10) rw cl) mm) sq))) ∧ (HRD rw cl (r 10) n_gf_5 n_gf_6) ∧ (RB adjR n_q_0)) A) ([.ref (ga 9), .ref (a 15), .int (nI sq)] : List Value).toArray s 0 0 A) (F0 m 67 ls []) := by
            intro k11
            induction k11 with
            | zero => intro i U x12 x13 x14 x15 x16 x17 x18 x19 h1 h2; exact absurd h1 (by omega)
            | succ k11 ih67k11 =>
              intro i U x12 x13 x14 x15 x16 x17 x18 x19 hi_i hk_i hRB hHD hI H locs ls hP hS hl
              refine lv_iload_n hx hb dX0_guards_67 rfl (lv_at hl 0 rfl) ?_
              refine lv_aload_n hx hb dX0_guards_68 rfl (lv_at hl 2 rfl) ?_
              refine va_get (D := G.1) (ci := 2) (v := .int (f 0)) (C := RX2) (T := TX2) (N := 15) hx hb hts inX2 hown hK.1 hP 11 rfl rfl 0 (by decide) (hts _ mf_X0_44) (fun _ h9 => h9) rfl dX0_guards_69 ?_
              rw [show (f 0) = nI (rw) from h0]
              refine lv_icmp_ge (tgt := 136) hx hb dX0_guards_72 (by decide) (fun c20 => ?_) (fun c20 => ?_)
              · have b72 := qge_t (a := i) (b := (rw)) (by omega) (by omega) c20
                refine lv_iconst (v := 1) hx hb dX0_guards_136 (by decide) ?_
                exact wr_zret hx hb hr hlocks (Or.inr rfl) hS hP ⟨x12, x13, x14, x15, x16, x17, x18, x8, x19, rfl, (Or.inl ⟨rfl, fun x y h8 h9 => hI.2.2 x y h8 h9 (by omega)⟩), hHD, hRB⟩ dX0_guards_137
              · have b72 := qge_f (a := i) (b := (rw)) (by omega) (by omega) c20
                refine lv_iconst (v := 0) hx hb dX0_guards_75 (by decide) ?_
                refine lv_istore (lv' := [(4, .int 0), (3, .int (nI i)), (0, .ref (ga 9)), (1, .ref (a 15))]) hx hb dX0_guards_76 hl (by decide) rfl (fun ls hl => ?_)
                have loop78 : ∀ (k21 k : Nat) (U : Nat → Nat → Nat) (x22 : Int32) (x23 : Int32) (x24 : Int32) (x25 : Nat → Int32) (x26 : Nat → Int32) (x27 : Nat → Int32) (x28 : Int32) (x29 : Nat → Int32), k ≤ cl → cl < k + k21 → (RB adjR x25) → (HRD rw cl (r 10) x23 x24) → (GDI (r 6) (r 7) x8 x29 (r 13) (r 14) rw cl V0 U Lo Hi x22 x25 (UNG rw cl (fun x => ¬ (r 6) x = 0) (r 7) (secA (r 10)) Lo Hi V0 dn up (KS (secA (r 10)) (mayA (r 8) (r 10) rw cl) mm sq)) (12 * i + k)) → ∀ (H : Heap) (locs : List Loc) (ls : Array Slot), PP G (xM G x xa ta a b ga ua la lb lc tg gg xf tf (upd f 4 x22) (upd qf 3 x28) (upd (upd gf 5 x23) 6 x24) uf lf mf nf tr (up2 (up2 r 11 x8) 12 x29) (up2 (up2 (up2 q 0 x25) 1 x26) 2 x27) gr ur lr mr nr) H → va_S A s.heap H locs → lv_has ls 5 [(4, .int (nI k)), (3, .int (nI i)), (0, .ref (ga 9)), (1, .ref (a 15))] → W p l e ({ frames := 5, cells := 0, slots := 0, locals := 134 }) s m ([.ref (ga 9), .ref (a 15), .int (nI sq)] : List Value).toArray below meth c H locs 0 0 (MQ below (QwI G (fun qz w => ∃ (n_f_4 : Int32) (n_gf_5 : Int32) (n_gf_6 : Int32) (n_q_0 : Nat → Int32) (n_q_1 : Nat → Int32) (n_q_2 : Nat → Int32) (n_qf_3 : Int32) (n_r_11 : Nat → Int32) (n_r_12 : Nat → Int32), w = xM G x xa ta a b ga ua la lb lc tg gg xf tf (upd f 4 n_f_4) (upd qf 3 n_qf_3) (upd (upd gf 5 n_gf_5) 6 n_gf_6) uf lf mf nf tr (up2 (up2 r 11 n_r_11) 12 n_r_12) (up2 (up2 (up2 q 0 n_q_0) 1 n_q_1) 2 n_q_2) gr ur lr mr nr ∧ ((qz = 1 ∧ ((GRD rw cl (UNG rw cl (fun x => ¬ (r 6) x = 0) (r 7) (secA (r 10)) Lo Hi V0 dn up) (secA (r 10)) (mayA (r 8) (r 10) rw cl) mm) sq)) ∨ (qz = 0 ∧ ¬ ((GRD rw cl (UNG rw cl (fun x => ¬ (r 6) x = 0) (r 7) (secA (r 10)) Lo Hi V0 dn up) (secA (r 10)) (mayA (r 8) (r 10) rw cl) mm) sq))) ∧ (HRD rw cl (r 10) n_gf_5 n_gf_6) ∧ (RB adjR n_q_0)) A) ([.ref (ga 9), .ref (a 15), .int (nI sq)] : List Value).toArray s 0 0 A) (F0 m 78 ls []) := by
                  intro k21
                  induction k21 with
                  | zero => intro k U x22 x23 x24 x25 x26 x27 x28 x29 h1 h2; exact absurd h1 (by omega)
                  | succ k21 ih78k21 =>
                    intro k U x22 x23 x24 x25 x26 x27 x28 x29 hi_k hk_k hRB hHD hI H locs ls hP hS hl
                    refine lv_iload hx hb dX0_guards_78 (lv_at hl 0 rfl) ?_
                    refine lv_aload_n hx hb dX0_guards_80 rfl (lv_at hl 3 rfl) ?_
                    refine va_get (D := G.1) (ci := 2) (v := .int (f 1)) (C := RX2) (T := TX2) (N := 15) hx hb hts inX2 hown hK.1 hP 11 rfl rfl 1 (by decide) (hts _ mf_X0_49) (fun _ h9 => h9) rfl dX0_guards_81 ?_
                    rw [show (f 1) = nI (cl) from h1]
                    refine lv_icmp_ge (tgt := 130) hx hb dX0_guards_84 (by decide) (fun c30 => ?_) (fun c30 => ?_)
                    · have b84 := qge_t (a := k) (b := (cl)) (by omega) (by omega) c30
                      obtain ⟨v31, ev31⟩ : ∃ y9 : Int32, y9 = (nI i) + Int32.ofInt (1) := ⟨_, rfl⟩
                      refine lv_iinc (v := v31) (lv' := [(3, .int v31), (4, .int (nI k)), (0, .ref (ga 9)), (1, .ref (a 15))]) hx hb dX0_guards_130 hl (k := 1) rfl ev31.symm (by decide) rfl (fun ls hl => ?_)
                      obtain rfl : v31 = nI (i + 1) := nI_plus (i := i) (j := 1) ev31 rfl (by decide)
                      refine lv_goto (tgt := 67) hx hb dX0_guards_133 (by decide) ?_
                      exact ih67k11 (i + 1) U x22 x23 x24 x25 x26 x27 x28 x29 (by omega) (by omega) hRB hHD (GDI_m hI (fun x y h6 h7 h8 h9 => absurd h7 (by omega))) _ _ _ hP hS (lv_sub hl [0, 2, 3] rfl)
                    · have b84 := qge_f (a := k) (b := (cl)) (by omega) (by omega) c30
                      refine lv_aload_n hx hb dX0_guards_87 rfl (lv_at hl 3 rfl) ?_
                      refine va_get (D := G.1) (ci := 2) (v := .ref (a 10)) (C := RX2) (T := TX2) (N := 15) hx hb hts inX2 hown hK.1 hP 11 rfl rfl 10 (by decide) (hts _ mf_X0_52) (fun _ h9 => h9) rfl dX0_guards_88 ?_
                      refine lv_iload_n hx hb dX0_guards_91 rfl (lv_at hl 1 rfl) ?_
                      refine lv_iload hx hb dX0_guards_92 (lv_at hl 0 rfl) ?_
                      refine rdSN (rest := [.ref (a 10)]) ⟨hx, hb, hml, hown, hts⟩ (c_X6_spotOf l G ((nI i)) ((nI k))) mi_yX6_spotOf mst_yX6_spotOf (by decide +kernel) ⟨rfl, rfl, Nat.le_of_ble_eq_true rfl, Nat.le_of_ble_eq_true rfl⟩ hK (fun k q h => by simp at h) rfl hl.1 rfl (Nat.le_of_ble_eq_true rfl) dX0_guards_94 ⟨Nat.zero_le _, Nat.zero_le _⟩ hS hA hP (fun r32 H locs hr32 hP hS => ?_)
                      obtain rfl : r32 = nI (i * 12 + k) := spot_eq hr32
                      refine xiald (f := (r 10)) hx hb hK hP 16 ((i * 12 + k)) (rfl) (by omega) (by decide) rfl dX0_guards_97 ?_
                      refine lv_topi (fun v33 ev33 => ?_)
                      refine lv_if_eq (tgt := 124) hx hb dX0_guards_98 (by decide) (fun c34 => ?_) (fun c34 => ?_)
                      · obtain ⟨v35, ev35⟩ : ∃ y9 : Int32, y9 = (nI k) + Int32.ofInt (1) := ⟨_, rfl⟩
                        refine lv_iinc (v := v35) (lv' := [(4, .int v35), (3, .int (nI i)), (0, .ref (ga 9)), (1, .ref (a 15))]) hx hb dX0_guards_124 hl (k := 0) rfl ev35.symm (by decide) rfl (fun ls hl => ?_)
                        obtain rfl : v35 = nI (k + 1) := nI_plus (i := k) (j := 1) ev35 rfl (by decide)
                        refine lv_goto (tgt := 78) hx hb dX0_guards_127 (by decide) ?_
                        exact ih78k21 (k + 1) U x22 x23 x24 x25 x26 x27 x28 x29 (by omega) (by omega) hRB hHD (GDI_m hI (fun x y h6 h7 h8 h9 => by obtain ⟨e8, e9⟩ : x = i ∧ y = k := (by omega); rw [e8, e9]; exact fun z9 => z9.2.2.2.1 (ev33.symm.trans c34))) _ _ _ hP hS (lv_sub hl [0, 1, 2, 3] rfl)
                      · have hse : ¬ r 10 (i * 12 + k) = 0 := fun z9 => c34 (ev33.trans z9)
                        have hsi := hSS i k (by omega) (by omega) hse
                        refine lv_aload_n hx hb dX0_guards_101 rfl (lv_at hl 3 rfl) ?_
                        refine lv_iload_n hx hb dX0_guards_102 rfl (lv_at hl 1 rfl) ?_
                        refine lv_iload hx hb dX0_guards_103 (lv_at hl 0 rfl) ?_
                        obtain ⟨j4, j5, j6⟩ := hI
                        refine lawI (rest := []) (q0 := 0) ⟨hx, hb, hml, hown, hts⟩ (e_X2_isSafe l G a b (upd f 4 x22) (upd qf 3 x28) (up2 (up2 r 11 x8) 12 x29) (up2 (up2 (up2 q 0 x25) 1 x26) 2 x27) i k rw cl dn up V0 U Lo Hi (by omega) (by omega) hsi h0 h1 h2 h3 hdn hup (hRN i k (by omega) (by omega) hsi).1 (by have h9 := hRN i k (by omega) (by omega) hsi; omega) j4 j5 hRB) mi_yX2_isSafe mv_yX2_isSafe ml_X0_59 ⟨rfl, rfl, Nat.le_of_ble_eq_true rfl, Nat.le_of_ble_eq_true rfl⟩ hK hP (hDD _ _ _ _ _ _ _ _ _ _ _ _ _ _ _ _ _) (pl_perm (xBlk G x xa ta a b ga ua la lb lc tg gg xf tf (upd f 4 x22) (upd qf 3 x28) (upd (upd gf 5 x23) 6 x24) uf lf mf nf tr (up2 (up2 r 11 x8) 12 x29) (up2 (up2 (up2 q 0 x25) 1 x26) 2 x27) gr ur lr mr nr) (sel := [2, 3]) (oth := [0, 1, 4, 5, 6, 7, 8, 9]) (by decide)) rfl rfl rfl hl.1 rfl (Nat.le_of_ble_eq_true rfl) dX0_guards_105 ⟨Nat.zero_le _, Nat.zero_le _⟩ hS hA (fun r42 w43 H locs hw43 hP hS => ?_)
                        obtain ⟨x36, x37, x38, x39, x40, x41, V3, rfl, hsf, j4, j5, hRB⟩ := hw43
                        have hP : PP G (xM G x xa ta a b ga ua la lb lc tg gg xf tf (upd f 4 x36) (upd qf 3 x40) (upd (upd gf 5 x23) 6 x24) uf lf mf nf tr (up2 (up2 r 11 x8) 12 x41) (up2 (up2 (up2 q 0 x37) 1 x38) 2 x39) gr ur lr mr nr) H := (hP rfl (xM G x xa ta a b ga ua la lb lc tg gg xf tf (upd f 4 x36) (upd qf 3 x40) (upd (upd gf 5 x23) 6 x24) uf lf mf nf tr (up2 (up2 r 11 x8) 12 x41) (up2 (up2 (up2 q 0 x37) 1 x38) 2 x39) gr ur lr mr nr) (pl_perm (xBlk G x xa ta a b ga ua la lb lc tg gg xf tf (upd f 4 x36) (upd qf 3 x40) (upd (upd gf 5 x23) 6 x24) uf lf mf nf tr (up2 (up2 r 11 x8) 12 x41) (up2 (up2 (up2 q 0 x37) 1 x38) 2 x39) gr ur lr mr nr) (sel := [2, 3]) (oth := [0, 1, 4, 5, 6, 7, 8, 9]) (by decide))).1
                        have hRB : RB adjR x37 := hRB
                        have hI : GDI (r 6) (r 7) x8 x41 (r 13) (r 14) rw cl V0 V3 Lo Hi x36 x37 (UNG rw cl (fun x => ¬ (r 6) x = 0) (r 7) (secA (r 10)) Lo Hi V0 dn up (KS (secA (r 10)) (mayA (r 8) (r 10) rw cl) mm sq)) (12 * i + k) := ⟨j4, j5, j6⟩
                        have hsg : (r42 = 1 ∧ SFG rw cl (fun x => ¬ r 6 x = 0) (r 7) Lo Hi V0 dn up (KS (secA (r 10)) (mayA (r 8) (r 10) rw cl) mm sq) i k) ∨ (r42 = 0 ∧ ¬ SFG rw cl (fun x => ¬ r 6 x = 0) (r 7) Lo Hi V0 dn up (KS (secA (r 10)) (mayA (r 8) (r 10) rw cl) mm sq) i k) := hsf.imp (fun z9 => ⟨z9.1, (SF_c hKS).mp z9.2⟩) (fun z9 => ⟨z9.1, fun y9 => z9.2 ((SF_c hKS).mpr y9)⟩)
                        refine lv_if_ne (tgt := 124) hx hb dX0_guards_108 (by decide) (fun c44 => ?_) (fun c44 => ?_)
                        · obtain ⟨v45, ev45⟩ : ∃ y9 : Int32, y9 = (nI k) + Int32.ofInt (1) := ⟨_, rfl⟩
                          refine lv_iinc (v := v45) (lv' := [(4, .int v45), (3, .int (nI i)), (0, .ref (ga 9)), (1, .ref (a 15))]) hx hb dX0_guards_124 hl (k := 0) rfl ev45.symm (by decide) rfl (fun ls hl => ?_)
                          obtain rfl : v45 = nI (k + 1) := nI_plus (i := k) (j := 1) ev45 rfl (by decide)
                          refine lv_goto (tgt := 78) hx hb dX0_guards_127 (by decide) ?_
                          exact ih78k21 (k + 1) V3 x36 x23 x24 x37 x38 x39 x40 x41 (by omega) (by omega) hRB hHD (GDI_m hI (fun x y h6 h7 h8 h9 => by obtain ⟨e8, e9⟩ : x = i ∧ y = k := (by omega); rw [e8, e9]; exact fun z9 => z9.2.2.2.2 (bT hsg c44))) _ _ _ hP hS (lv_sub hl [0, 1, 2, 3] rfl)
                        · refine lv_aload_n hx hb dX0_guards_111 rfl (lv_at hl 2 rfl) ?_
                          refine lv_iload_n hx hb dX0_guards_112 rfl (lv_at hl 1 rfl) ?_
                          refine va_put (D := G.1) (ci := 0) (v := .int (nI i)) (C := RX0) (T := TX0) (N := 9) hx hb hts inX0 tyX0 tyX0_ok nmX0 hown hK.1 hP (hDD _ _ _ _ _ _ _ _ _ _ _ _ _ _ _ _ _) hS 25 rfl rfl 5 (by decide) (hts _ mf_X0_29) (fun _ h9 => h9) rfl (tyX0_ok 5 (by decide)) (rfl) (rfl) (Nat.le_of_ble_eq_true rfl) dX0_guards_113 (fun H locs hP _ hS => ?_)
                          have hP : PP G (xM G x xa ta a b ga ua la lb lc tg gg xf tf (upd f 4 x36) (upd qf 3 x40) (upd (upd gf 5 (nI i)) 6 x24) uf lf mf nf tr (up2 (up2 r 11 x8) 12 x41) (up2 (up2 (up2 q 0 x37) 1 x38) 2 x39) gr ur lr mr nr) H := hP
                          refine lv_aload_n hx hb dX0_guards_116 rfl (lv_at hl 2 rfl) ?_
                          refine lv_iload hx hb dX0_guards_117 (lv_at hl 0 rfl) ?_
                          refine va_put (D := G.1) (ci := 0) (v := .int (nI k)) (C := RX0) (T := TX0) (N := 9) hx hb hts inX0 tyX0 tyX0_ok nmX0 hown hK.1 hP (hDD _ _ _ _ _ _ _ _ _ _ _ _ _ _ _ _ _) hS 25 rfl rfl 6 (by decide) (hts _ mf_X0_32) (fun _ h9 => h9) rfl (tyX0_ok 6 (by decide)) (rfl) (rfl) (Nat.le_of_ble_eq_true rfl) dX0_guards_119 (fun H locs hP _ hS => ?_)
                          have hP : PP G (xM G x xa ta a b ga ua la lb lc tg gg xf tf (upd f 4 x36) (upd qf 3 x40) (upd (upd gf 5 (nI i)) 6 (nI k)) uf lf mf nf tr (up2 (up2 r 11 x8) 12 x41) (up2 (up2 (up2 q 0 x37) 1 x38) 2 x39) gr ur lr mr nr) H := hP
                          refine lv_iconst (v := 0) hx hb dX0_guards_122 (by decide) ?_
                          exact wr_zret hx hb hr hlocks (Or.inl rfl) hS hP ⟨x36, (nI i), (nI k), x37, x38, x39, x40, x8, x41, rfl, (Or.inr ⟨rfl, fun z9 => z9 i k (by omega) (by omega) ⟨by omega, by omega, hsi, hse, bF hsg c44⟩⟩), (Or.inr ⟨i, k, by omega, by omega, rfl, rfl, hse⟩), hRB⟩ dX0_guards_123
                exact loop78 (cl + 1) 0 U x12 x13 x14 x15 x16 x17 x18 x19 (by omega) (by omega) hRB hHD (hI) _ _ _ hP hS (lv_sub hl [0, 1, 2, 3] rfl)
          exact loop67 (rw + 1) 0 V0 x7 (gf 5) (gf 6) (q 0) (q 1) (q 2) (qf 3) x3 (by omega) (by omega) hRB hHD (GDI_m hI (fun x y _ _ h8 h9 => absurd h9 (by omega))) _ _ _ hP hS (lv_sub hl [0, 1, 2] rfl)
        · obtain ⟨ii, jj, hii, hjj, e5, e6, hse⟩ := hHD.resolve_left c10
          have hsi := hSS ii jj hii hjj hse
          refine lv_aload_n hx hb dX0_guards_48 rfl (lv_at hl 2 rfl) ?_
          refine lv_aload_n hx hb dX0_guards_49 rfl (lv_at hl 1 rfl) ?_
          refine va_get (D := G.1) (ci := 0) (v := .int (gf 5)) (C := RX0) (T := TX0) (N := 9) hx hb hts inX0 hown hK.1 hP 25 rfl rfl 5 (by decide) (hts _ mf_X0_29) (fun _ h9 => h9) rfl dX0_guards_50 ?_
          rw [show (gf 5) = nI (ii) from e5]
          refine lv_aload_n hx hb dX0_guards_53 rfl (lv_at hl 1 rfl) ?_
          refine va_get (D := G.1) (ci := 0) (v := .int (gf 6)) (C := RX0) (T := TX0) (N := 9) hx hb hts inX0 hown hK.1 hP 25 rfl rfl 6 (by decide) (hts _ mf_X0_32) (fun _ h9 => h9) rfl dX0_guards_54 ?_
          rw [show (gf 6) = nI (jj) from e6]
          obtain ⟨j4, j5, j6⟩ := hI
          refine lawI (rest := []) (q0 := 0) ⟨hx, hb, hml, hown, hts⟩ (e_X2_isSafe l G a b (upd f 4 x7) qf (up2 (up2 r 11 x8) 12 x3) q (ii) (jj) rw cl dn up V0 V0 Lo Hi (by omega) (by omega) hsi h0 h1 h2 h3 hdn hup (hRN (ii) (jj) (by omega) (by omega) hsi).1 (by have h9 := hRN (ii) (jj) (by omega) (by omega) hsi; omega) j4 j5 hRB) mi_yX2_isSafe mv_yX2_isSafe ml_X0_59 ⟨rfl, rfl, Nat.le_of_ble_eq_true rfl, Nat.le_of_ble_eq_true rfl⟩ hK hP (hDD _ _ _ _ _ _ _ _ _ _ _ _ _ _ _ _ _) (pl_perm (xBlk G x xa ta a b ga ua la lb lc tg gg xf tf (upd f 4 x7) qf gf uf lf mf nf tr (up2 (up2 r 11 x8) 12 x3) q gr ur lr mr nr) (sel := [2, 3]) (oth := [0, 1, 4, 5, 6, 7, 8, 9]) (by decide)) rfl rfl rfl hl.1 rfl (Nat.le_of_ble_eq_true rfl) dX0_guards_57 ⟨Nat.zero_le _, Nat.zero_le _⟩ hS hA (fun r52 w53 H locs hw53 hP hS => ?_)
          obtain ⟨x46, x47, x48, x49, x50, x51, V3, rfl, hsf, j4, j5, hRB⟩ := hw53
          have hP : PP G (xM G x xa ta a b ga ua la lb lc tg gg xf tf (upd f 4 x46) (upd qf 3 x50) gf uf lf mf nf tr (up2 (up2 r 11 x8) 12 x51) (up2 (up2 (up2 q 0 x47) 1 x48) 2 x49) gr ur lr mr nr) H := (hP rfl (xM G x xa ta a b ga ua la lb lc tg gg xf tf (upd f 4 x46) (upd qf 3 x50) gf uf lf mf nf tr (up2 (up2 r 11 x8) 12 x51) (up2 (up2 (up2 q 0 x47) 1 x48) 2 x49) gr ur lr mr nr) (pl_perm (xBlk G x xa ta a b ga ua la lb lc tg gg xf tf (upd f 4 x46) (upd qf 3 x50) gf uf lf mf nf tr (up2 (up2 r 11 x8) 12 x51) (up2 (up2 (up2 q 0 x47) 1 x48) 2 x49) gr ur lr mr nr) (sel := [2, 3]) (oth := [0, 1, 4, 5, 6, 7, 8, 9]) (by decide))).1
          have hRB : RB adjR x47 := hRB
          have hI : GDI (r 6) (r 7) x8 x51 (r 13) (r 14) rw cl V0 V3 Lo Hi x46 x47 (UNG rw cl (fun x => ¬ (r 6) x = 0) (r 7) (secA (r 10)) Lo Hi V0 dn up (KS (secA (r 10)) (mayA (r 8) (r 10) rw cl) mm sq)) 0 := ⟨j4, j5, j6⟩
          have hsg : (r52 = 1 ∧ SFG rw cl (fun x => ¬ r 6 x = 0) (r 7) Lo Hi V0 dn up (KS (secA (r 10)) (mayA (r 8) (r 10) rw cl) mm sq) (ii) (jj)) ∨ (r52 = 0 ∧ ¬ SFG rw cl (fun x => ¬ r 6 x = 0) (r 7) Lo Hi V0 dn up (KS (secA (r 10)) (mayA (r 8) (r 10) rw cl) mm sq) (ii) (jj)) := hsf.imp (fun z9 => ⟨z9.1, (SF_c hKS).mp z9.2⟩) (fun z9 => ⟨z9.1, fun y9 => z9.2 ((SF_c hKS).mpr y9)⟩)
          refine lv_if_ne (tgt := 65) hx hb dX0_guards_60 (by decide) (fun c54 => ?_) (fun c54 => ?_)
          · refine lv_iconst (v := 0) hx hb dX0_guards_65 (by decide) ?_
            refine lv_istore_n (lv' := [(3, .int 0), (0, .ref (ga 9)), (1, .ref (a 15)), (2, .int (nI sq))]) hx hb dX0_guards_66 rfl hl (by decide) rfl (fun ls hl => ?_)
            have loop67 : ∀ (k55 i : Nat) (U : Nat → Nat → Nat) (x56 : Int32) (x57 : Int32) (x58 : Int32) (x59 : Nat → Int32) (x60 : Nat → Int32) (x61 : Nat → Int32) (x62 : Int32) (x63 : Nat → Int32), i ≤ rw → rw < i + k55 → (HRD rw cl (r 10) x57 x58) → (RB adjR x59) → (GDI (r 6) (r 7) x8 x63 (r 13) (r 14) rw cl V0 U Lo Hi x56 x59 (UNG rw cl (fun x => ¬ (r 6) x = 0) (r 7) (secA (r 10)) Lo Hi V0 dn up (KS (secA (r 10)) (mayA (r 8) (r 10) rw cl) mm sq)) (12 * i)) → ∀ (H : Heap) (locs : List Loc) (ls : Array Slot), PP G (xM G x xa ta a b ga ua la lb lc tg gg xf tf (upd f 4 x56) (upd qf 3 x62) (upd (upd gf 5 x57) 6 x58) uf lf mf nf tr (up2 (up2 r 11 x8) 12 x63) (up2 (up2 (up2 q 0 x59) 1 x60) 2 x61) gr ur lr mr nr) H → va_S A s.heap H locs → lv_has ls 5 [(3, .int (nI i)), (0, .ref (ga 9)), (1, .ref (a 15))] → W p l e ({ frames := 5, cells := 0, slots := 0, locals := 134 }) s m ([.ref (ga 9), .ref (a 15), .int (nI sq)] : List Value).toArray below meth c H locs 0 0 (MQ below (QwI G (fun qz w => ∃ (n_f_4 : Int32) (n_gf_5 : Int32) (n_gf_6 : Int32) (n_q_0 : Nat → Int32) (n_q_1 : Nat → Int32) (n_q_2 : Nat → Int32) (n_qf_3 : Int32) (n_r_11 : Nat → Int32) (n_r_12 : Nat → Int32), w = xM G x xa ta a b ga ua la lb lc tg gg xf tf (upd f 4 n_f_4) (upd qf 3 n_qf_3) (upd (upd gf 5 n_gf_5) 6 n_gf_6) uf lf mf nf tr (up2 (up2 r 11 n_r_11) 12 n_r_12) (up2 (up2 (up2 q 0 n_q_0) 1 n_q_1) 2 n_q_2) gr ur lr mr nr ∧ ((qz = 1 ∧ ((GRD rw cl (UNG rw cl (fun x => ¬ (r 6) x = 0) (r 7) (secA (r 10)) Lo Hi V0 dn up) (secA (r 10)) (mayA (r 8) (r 10) rw cl) mm) sq)) ∨ (qz = 0 ∧ ¬ ((GRD rw cl (UNG rw cl (fun x => ¬ (r 6) x = 0) (r 7) (secA (r 10)) Lo Hi V0 dn up) (secA (r 10)) (mayA (r 8) (r 10) rw cl) mm) sq))) ∧ (HRD rw cl (r 10) n_gf_5 n_gf_6) ∧ (RB adjR n_q_0)) A) ([.ref (ga 9), .ref (a 15), .int (nI sq)] : List Value).toArray s 0 0 A) (F0 m 67 ls []) := by
              intro k55
              induction k55 with
              | zero => intro i U x56 x57 x58 x59 x60 x61 x62 x63 h1 h2; exact absurd h1 (by omega)
              | succ k55 ih67k55 =>
                intro i U x56 x57 x58 x59 x60 x61 x62 x63 hi_i hk_i hHD hRB hI H locs ls hP hS hl
                refine lv_iload_n hx hb dX0_guards_67 rfl (lv_at hl 0 rfl) ?_
                refine lv_aload_n hx hb dX0_guards_68 rfl (lv_at hl 2 rfl) ?_
                refine va_get (D := G.1) (ci := 2) (v := .int (f 0)) (C := RX2) (T := TX2) (N := 15) hx hb hts inX2 hown hK.1 hP 11 rfl rfl 0 (by decide) (hts _ mf_X0_44) (fun _ h9 => h9) rfl dX0_guards_69 ?_
                rw [show (f 0) = nI (rw) from h0]
                refine lv_icmp_ge (tgt := 136) hx hb dX0_guards_72 (by decide) (fun c64 => ?_) (fun c64 => ?_)
                · have b72 := qge_t (a := i) (b := (rw)) (by omega) (by omega) c64
                  refine lv_iconst (v := 1) hx hb dX0_guards_136 (by decide) ?_
                  exact wr_zret hx hb hr hlocks (Or.inr rfl) hS hP ⟨x56, x57, x58, x59, x60, x61, x62, x8, x63, rfl, (Or.inl ⟨rfl, fun x y h8 h9 => hI.2.2 x y h8 h9 (by omega)⟩), hHD, hRB⟩ dX0_guards_137
                · have b72 := qge_f (a := i) (b := (rw)) (by omega) (by omega) c64
                  refine lv_iconst (v := 0) hx hb dX0_guards_75 (by decide) ?_
                  refine lv_istore (lv' := [(4, .int 0), (3, .int (nI i)), (0, .ref (ga 9)), (1, .ref (a 15))]) hx hb dX0_guards_76 hl (by decide) rfl (fun ls hl => ?_)
                  have loop78 : ∀ (k65 k : Nat) (U : Nat → Nat → Nat) (x66 : Int32) (x67 : Int32) (x68 : Int32) (x69 : Nat → Int32) (x70 : Nat → Int32) (x71 : Nat → Int32) (x72 : Int32) (x73 : Nat → Int32), k ≤ cl → cl < k + k65 → (HRD rw cl (r 10) x67 x68) → (RB adjR x69) → (GDI (r 6) (r 7) x8 x73 (r 13) (r 14) rw cl V0 U Lo Hi x66 x69 (UNG rw cl (fun x => ¬ (r 6) x = 0) (r 7) (secA (r 10)) Lo Hi V0 dn up (KS (secA (r 10)) (mayA (r 8) (r 10) rw cl) mm sq)) (12 * i + k)) → ∀ (H : Heap) (locs : List Loc) (ls : Array Slot), PP G (xM G x xa ta a b ga ua la lb lc tg gg xf tf (upd f 4 x66) (upd qf 3 x72) (upd (upd gf 5 x67) 6 x68) uf lf mf nf tr (up2 (up2 r 11 x8) 12 x73) (up2 (up2 (up2 q 0 x69) 1 x70) 2 x71) gr ur lr mr nr) H → va_S A s.heap H locs → lv_has ls 5 [(4, .int (nI k)), (3, .int (nI i)), (0, .ref (ga 9)), (1, .ref (a 15))] → W p l e ({ frames := 5, cells := 0, slots := 0, locals := 134 }) s m ([.ref (ga 9), .ref (a 15), .int (nI sq)] : List Value).toArray below meth c H locs 0 0 (MQ below (QwI G (fun qz w => ∃ (n_f_4 : Int32) (n_gf_5 : Int32) (n_gf_6 : Int32) (n_q_0 : Nat → Int32) (n_q_1 : Nat → Int32) (n_q_2 : Nat → Int32) (n_qf_3 : Int32) (n_r_11 : Nat → Int32) (n_r_12 : Nat → Int32), w = xM G x xa ta a b ga ua la lb lc tg gg xf tf (upd f 4 n_f_4) (upd qf 3 n_qf_3) (upd (upd gf 5 n_gf_5) 6 n_gf_6) uf lf mf nf tr (up2 (up2 r 11 n_r_11) 12 n_r_12) (up2 (up2 (up2 q 0 n_q_0) 1 n_q_1) 2 n_q_2) gr ur lr mr nr ∧ ((qz = 1 ∧ ((GRD rw cl (UNG rw cl (fun x => ¬ (r 6) x = 0) (r 7) (secA (r 10)) Lo Hi V0 dn up) (secA (r 10)) (mayA (r 8) (r 10) rw cl) mm) sq)) ∨ (qz = 0 ∧ ¬ ((GRD rw cl (UNG rw cl (fun x => ¬ (r 6) x = 0) (r 7) (secA (r 10)) Lo Hi V0 dn up) (secA (r 10)) (mayA (r 8) (r 10) rw cl) mm) sq))) ∧ (HRD rw cl (r 10) n_gf_5 n_gf_6) ∧ (RB adjR n_q_0)) A) ([.ref (ga 9), .ref (a 15), .int (nI sq)] : List Value).toArray s 0 0 A) (F0 m 78 ls []) := by
                    intro k65
                    induction k65 with
                    | zero => intro k U x66 x67 x68 x69 x70 x71 x72 x73 h1 h2; exact absurd h1 (by omega)
                    | succ k65 ih78k65 =>
                      intro k U x66 x67 x68 x69 x70 x71 x72 x73 hi_k hk_k hHD hRB hI H locs ls hP hS hl
                      refine lv_iload hx hb dX0_guards_78 (lv_at hl 0 rfl) ?_
                      refine lv_aload_n hx hb dX0_guards_80 rfl (lv_at hl 3 rfl) ?_
                      refine va_get (D := G.1) (ci := 2) (v := .int (f 1)) (C := RX2) (T := TX2) (N := 15) hx hb hts inX2 hown hK.1 hP 11 rfl rfl 1 (by decide) (hts _ mf_X0_49) (fun _ h9 => h9) rfl dX0_guards_81 ?_
                      rw [show (f 1) = nI (cl) from h1]
                      refine lv_icmp_ge (tgt := 130) hx hb dX0_guards_84 (by decide) (fun c74 => ?_) (fun c74 => ?_)
                      · have b84 := qge_t (a := k) (b := (cl)) (by omega) (by omega) c74
                        obtain ⟨v75, ev75⟩ : ∃ y9 : Int32, y9 = (nI i) + Int32.ofInt (1) := ⟨_, rfl⟩
                        refine lv_iinc (v := v75) (lv' := [(3, .int v75), (4, .int (nI k)), (0, .ref (ga 9)), (1, .ref (a 15))]) hx hb dX0_guards_130 hl (k := 1) rfl ev75.symm (by decide) rfl (fun ls hl => ?_)
                        obtain rfl : v75 = nI (i + 1) := nI_plus (i := i) (j := 1) ev75 rfl (by decide)
                        refine lv_goto (tgt := 67) hx hb dX0_guards_133 (by decide) ?_
                        exact ih67k55 (i + 1) U x66 x67 x68 x69 x70 x71 x72 x73 (by omega) (by omega) hHD hRB (GDI_m hI (fun x y h6 h7 h8 h9 => absurd h7 (by omega))) _ _ _ hP hS (lv_sub hl [0, 2, 3] rfl)
                      · have b84 := qge_f (a := k) (b := (cl)) (by omega) (by omega) c74
                        refine lv_aload_n hx hb dX0_guards_87 rfl (lv_at hl 3 rfl) ?_
                        refine va_get (D := G.1) (ci := 2) (v := .ref (a 10)) (C := RX2) (T := TX2) (N := 15) hx hb hts inX2 hown hK.1 hP 11 rfl rfl 10 (by decide) (hts _ mf_X0_52) (fun _ h9 => h9) rfl dX0_guards_88 ?_
                        refine lv_iload_n hx hb dX0_guards_91 rfl (lv_at hl 1 rfl) ?_
                        refine lv_iload hx hb dX0_guards_92 (lv_at hl 0 rfl) ?_
                        refine rdSN (rest := [.ref (a 10)]) ⟨hx, hb, hml, hown, hts⟩ (c_X6_spotOf l G ((nI i)) ((nI k))) mi_yX6_spotOf mst_yX6_spotOf (by decide +kernel) ⟨rfl, rfl, Nat.le_of_ble_eq_true rfl, Nat.le_of_ble_eq_true rfl⟩ hK (fun k q h => by simp at h) rfl hl.1 rfl (Nat.le_of_ble_eq_true rfl) dX0_guards_94 ⟨Nat.zero_le _, Nat.zero_le _⟩ hS hA hP (fun r76 H locs hr76 hP hS => ?_)
                        obtain rfl : r76 = nI (i * 12 + k) := spot_eq hr76
                        refine xiald (f := (r 10)) hx hb hK hP 16 ((i * 12 + k)) (rfl) (by omega) (by decide) rfl dX0_guards_97 ?_
                        refine lv_topi (fun v77 ev77 => ?_)
                        refine lv_if_eq (tgt := 124) hx hb dX0_guards_98 (by decide) (fun c78 => ?_) (fun c78 => ?_)
                        · obtain ⟨v79, ev79⟩ : ∃ y9 : Int32, y9 = (nI k) + Int32.ofInt (1) := ⟨_, rfl⟩
                          refine lv_iinc (v := v79) (lv' := [(4, .int v79), (3, .int (nI i)), (0, .ref (ga 9)), (1, .ref (a 15))]) hx hb dX0_guards_124 hl (k := 0) rfl ev79.symm (by decide) rfl (fun ls hl => ?_)
                          obtain rfl : v79 = nI (k + 1) := nI_plus (i := k) (j := 1) ev79 rfl (by decide)
                          refine lv_goto (tgt := 78) hx hb dX0_guards_127 (by decide) ?_
                          exact ih78k65 (k + 1) U x66 x67 x68 x69 x70 x71 x72 x73 (by omega) (by omega) hHD hRB (GDI_m hI (fun x y h6 h7 h8 h9 => by obtain ⟨e8, e9⟩ : x = i ∧ y = k := (by omega); rw [e8, e9]; exact fun z9 => z9.2.2.2.1 (ev77.symm.trans c78))) _ _ _ hP hS (lv_sub hl [0, 1, 2, 3] rfl)
                        · have hse : ¬ r 10 (i * 12 + k) = 0 := fun z9 => c78 (ev77.trans z9)
                          have hsi := hSS i k (by omega) (by omega) hse
                          refine lv_aload_n hx hb dX0_guards_101 rfl (lv_at hl 3 rfl) ?_
                          refine lv_iload_n hx hb dX0_guards_102 rfl (lv_at hl 1 rfl) ?_
                          refine lv_iload hx hb dX0_guards_103 (lv_at hl 0 rfl) ?_
                          obtain ⟨j4, j5, j6⟩ := hI
                          refine lawI (rest := []) (q0 := 0) ⟨hx, hb, hml, hown, hts⟩ (e_X2_isSafe l G a b (upd f 4 x66) (upd qf 3 x72) (up2 (up2 r 11 x8) 12 x73) (up2 (up2 (up2 q 0 x69) 1 x70) 2 x71) i k rw cl dn up V0 U Lo Hi (by omega) (by omega) hsi h0 h1 h2 h3 hdn hup (hRN i k (by omega) (by omega) hsi).1 (by have h9 := hRN i k (by omega) (by omega) hsi; omega) j4 j5 hRB) mi_yX2_isSafe mv_yX2_isSafe ml_X0_59 ⟨rfl, rfl, Nat.le_of_ble_eq_true rfl, Nat.le_of_ble_eq_true rfl⟩ hK hP (hDD _ _ _ _ _ _ _ _ _ _ _ _ _ _ _ _ _) (pl_perm (xBlk G x xa ta a b ga ua la lb lc tg gg xf tf (upd f 4 x66) (upd qf 3 x72) (upd (upd gf 5 x67) 6 x68) uf lf mf nf tr (up2 (up2 r 11 x8) 12 x73) (up2 (up2 (up2 q 0 x69) 1 x70) 2 x71) gr ur lr mr nr) (sel := [2, 3]) (oth := [0, 1, 4, 5, 6, 7, 8, 9]) (by decide)) rfl rfl rfl hl.1 rfl (Nat.le_of_ble_eq_true rfl) dX0_guards_105 ⟨Nat.zero_le _, Nat.zero_le _⟩ hS hA (fun r86 w87 H locs hw87 hP hS => ?_)
                          obtain ⟨x80, x81, x82, x83, x84, x85, V3, rfl, hsf, j4, j5, hRB⟩ := hw87
                          have hP : PP G (xM G x xa ta a b ga ua la lb lc tg gg xf tf (upd f 4 x80) (upd qf 3 x84) (upd (upd gf 5 x67) 6 x68) uf lf mf nf tr (up2 (up2 r 11 x8) 12 x85) (up2 (up2 (up2 q 0 x81) 1 x82) 2 x83) gr ur lr mr nr) H := (hP rfl (xM G x xa ta a b ga ua la lb lc tg gg xf tf (upd f 4 x80) (upd qf 3 x84) (upd (upd gf 5 x67) 6 x68) uf lf mf nf tr (up2 (up2 r 11 x8) 12 x85) (up2 (up2 (up2 q 0 x81) 1 x82) 2 x83) gr ur lr mr nr) (pl_perm (xBlk G x xa ta a b ga ua la lb lc tg gg xf tf (upd f 4 x80) (upd qf 3 x84) (upd (upd gf 5 x67) 6 x68) uf lf mf nf tr (up2 (up2 r 11 x8) 12 x85) (up2 (up2 (up2 q 0 x81) 1 x82) 2 x83) gr ur lr mr nr) (sel := [2, 3]) (oth := [0, 1, 4, 5, 6, 7, 8, 9]) (by decide))).1
                          have hRB : RB adjR x81 := hRB
                          have hI : GDI (r 6) (r 7) x8 x85 (r 13) (r 14) rw cl V0 V3 Lo Hi x80 x81 (UNG rw cl (fun x => ¬ (r 6) x = 0) (r 7) (secA (r 10)) Lo Hi V0 dn up (KS (secA (r 10)) (mayA (r 8) (r 10) rw cl) mm sq)) (12 * i + k) := ⟨j4, j5, j6⟩
                          have hsg : (r86 = 1 ∧ SFG rw cl (fun x => ¬ r 6 x = 0) (r 7) Lo Hi V0 dn up (KS (secA (r 10)) (mayA (r 8) (r 10) rw cl) mm sq) i k) ∨ (r86 = 0 ∧ ¬ SFG rw cl (fun x => ¬ r 6 x = 0) (r 7) Lo Hi V0 dn up (KS (secA (r 10)) (mayA (r 8) (r 10) rw cl) mm sq) i k) := hsf.imp (fun z9 => ⟨z9.1, (SF_c hKS).mp z9.2⟩) (fun z9 => ⟨z9.1, fun y9 => z9.2 ((SF_c hKS).mpr y9)⟩)
                          refine lv_if_ne (tgt := 124) hx hb dX0_guards_108 (by decide) (fun c88 => ?_) (fun c88 => ?_)
                          · obtain ⟨v89, ev89⟩ : ∃ y9 : Int32, y9 = (nI k) + Int32.ofInt (1) := ⟨_, rfl⟩
                            refine lv_iinc (v := v89) (lv' := [(4, .int v89), (3, .int (nI i)), (0, .ref (ga 9)), (1, .ref (a 15))]) hx hb dX0_guards_124 hl (k := 0) rfl ev89.symm (by decide) rfl (fun ls hl => ?_)
                            obtain rfl : v89 = nI (k + 1) := nI_plus (i := k) (j := 1) ev89 rfl (by decide)
                            refine lv_goto (tgt := 78) hx hb dX0_guards_127 (by decide) ?_
                            exact ih78k65 (k + 1) V3 x80 x67 x68 x81 x82 x83 x84 x85 (by omega) (by omega) hHD hRB (GDI_m hI (fun x y h6 h7 h8 h9 => by obtain ⟨e8, e9⟩ : x = i ∧ y = k := (by omega); rw [e8, e9]; exact fun z9 => z9.2.2.2.2 (bT hsg c88))) _ _ _ hP hS (lv_sub hl [0, 1, 2, 3] rfl)
                          · refine lv_aload_n hx hb dX0_guards_111 rfl (lv_at hl 2 rfl) ?_
                            refine lv_iload_n hx hb dX0_guards_112 rfl (lv_at hl 1 rfl) ?_
                            refine va_put (D := G.1) (ci := 0) (v := .int (nI i)) (C := RX0) (T := TX0) (N := 9) hx hb hts inX0 tyX0 tyX0_ok nmX0 hown hK.1 hP (hDD _ _ _ _ _ _ _ _ _ _ _ _ _ _ _ _ _) hS 25 rfl rfl 5 (by decide) (hts _ mf_X0_29) (fun _ h9 => h9) rfl (tyX0_ok 5 (by decide)) (rfl) (rfl) (Nat.le_of_ble_eq_true rfl) dX0_guards_113 (fun H locs hP _ hS => ?_)
                            have hP : PP G (xM G x xa ta a b ga ua la lb lc tg gg xf tf (upd f 4 x80) (upd qf 3 x84) (upd (upd gf 5 (nI i)) 6 x68) uf lf mf nf tr (up2 (up2 r 11 x8) 12 x85) (up2 (up2 (up2 q 0 x81) 1 x82) 2 x83) gr ur lr mr nr) H := hP
                            refine lv_aload_n hx hb dX0_guards_116 rfl (lv_at hl 2 rfl) ?_
                            refine lv_iload hx hb dX0_guards_117 (lv_at hl 0 rfl) ?_
                            refine va_put (D := G.1) (ci := 0) (v := .int (nI k)) (C := RX0) (T := TX0) (N := 9) hx hb hts inX0 tyX0 tyX0_ok nmX0 hown hK.1 hP (hDD _ _ _ _ _ _ _ _ _ _ _ _ _ _ _ _ _) hS 25 rfl rfl 6 (by decide) (hts _ mf_X0_32) (fun _ h9 => h9) rfl (tyX0_ok 6 (by decide)) (rfl) (rfl) (Nat.le_of_ble_eq_true rfl) dX0_guards_119 (fun H locs hP _ hS => ?_)
                            have hP : PP G (xM G x xa ta a b ga ua la lb lc tg gg xf tf (upd f 4 x80) (upd qf 3 x84) (upd (upd gf 5 (nI i)) 6 (nI k)) uf lf mf nf tr (up2 (up2 r 11 x8) 12 x85) (up2 (up2 (up2 q 0 x81) 1 x82) 2 x83) gr ur lr mr nr) H := hP
                            refine lv_iconst (v := 0) hx hb dX0_guards_122 (by decide) ?_
                            exact wr_zret hx hb hr hlocks (Or.inl rfl) hS hP ⟨x80, (nI i), (nI k), x81, x82, x83, x84, x8, x85, rfl, (Or.inr ⟨rfl, fun z9 => z9 i k (by omega) (by omega) ⟨by omega, by omega, hsi, hse, bF hsg c88⟩⟩), (Or.inr ⟨i, k, by omega, by omega, rfl, rfl, hse⟩), hRB⟩ dX0_guards_123
                  exact loop78 (cl + 1) 0 U x56 x57 x58 x59 x60 x61 x62 x63 (by omega) (by omega) hHD hRB (hI) _ _ _ hP hS (lv_sub hl [0, 1, 2, 3] rfl)
            exact loop67 (rw + 1) 0 V3 x46 (gf 5) (gf 6) x47 x48 x49 x50 x51 (by omega) (by omega) hHD hRB (GDI_m hI (fun x y _ _ h8 h9 => absurd h9 (by omega))) _ _ _ hP hS (lv_sub hl [0, 1, 2] rfl)
          · refine lv_iconst (v := 0) hx hb dX0_guards_63 (by decide) ?_
            exact wr_zret hx hb hr hlocks (Or.inl rfl) hS hP ⟨x46, (gf 5), (gf 6), x47, x48, x49, x50, x8, x51, rfl, (Or.inr ⟨rfl, fun z9 => z9 ii jj hii hjj ⟨hii, hjj, hsi, hse, bF hsg c54⟩⟩), hHD, hRB⟩ dX0_guards_64
      · have b11 := qge_f (a := k) (b := (mm)) (by omega) (by omega) c9
        refine lv_iload_n hx hb dX0_guards_14 rfl (lv_at hl 3 rfl) ?_
        refine lv_aload_n hx hb dX0_guards_15 rfl (lv_at hl 1 rfl) ?_
        refine lv_iload_n hx hb dX0_guards_16 rfl (lv_at hl 0 rfl) ?_
        refine rdV (rest := [.int (nI sq)]) (q0 := 25) ⟨hx, hb, hml, hown, hts⟩ (x_X0_bitOf l G x xa ta a b ga ua la lb lc tg gg xf tf (upd f 4 x7) qf gf uf lf mf nf tr (up2 (up2 r 11 x8) 12 x3) q gr ur lr mr nr k mm (by omega) hg4 (by omega)) mi_yX0_bitOf mv_yX0_bitOf ml_X0_110 ⟨rfl, rfl, Nat.le_of_ble_eq_true rfl, Nat.le_of_ble_eq_true rfl⟩ hK (hP) rfl rfl rfl hl.1 rfl (Nat.le_of_ble_eq_true rfl) dX0_guards_17 ⟨Nat.zero_le _, Nat.zero_le _⟩ hS hA hP (fun r90 H locs hr90 hP hS => ?_)
        obtain rfl := hr90
        refine lv_topi (fun v91 ev91 => ?_)
        refine lv_iand hx hb dX0_guards_20 ?_
        refine lv_topi (fun v92 ev92 => ?_)
        refine lv_if_eq (tgt := 34) hx hb dX0_guards_21 (by decide) (fun c93 => ?_) (fun c93 => ?_)
        · have hbt := bt_n (s := sq) (v := mm - 1 - k) (by omega) ev92 ev91 c93
          obtain ⟨v94, ev94⟩ : ∃ y9 : Int32, y9 = (nI k) + Int32.ofInt (1) := ⟨_, rfl⟩
          refine lv_iinc (v := v94) (lv' := [(3, .int v94), (0, .ref (ga 9)), (1, .ref (a 15)), (2, .int (nI sq))]) hx hb dX0_guards_34 hl (k := 0) rfl ev94.symm (by decide) rfl (fun ls hl => ?_)
          obtain rfl : v94 = nI (k + 1) := nI_plus (i := k) (j := 1) ev94 rfl (by decide)
          refine lv_goto (tgt := 6) hx hb dX0_guards_37 (by decide) ?_
          exact ih6k6 (k + 1) x7 x8 (by omega) (by omega) (KK_n hKK hbt) (hf4) _ _ _ hP hS (lv_sub hl [0, 1, 2, 3] rfl)
        · have hbt := bt_y (s := sq) (v := mm - 1 - k) (by omega) ev92 ev91 c93
          refine lv_aload_n hx hb dX0_guards_24 rfl (lv_at hl 2 rfl) ?_
          refine lv_aload_n hx hb dX0_guards_25 rfl (lv_at hl 1 rfl) ?_
          refine va_get (D := G.1) (ci := 0) (v := .ref (ga 1)) (C := RX0) (T := TX0) (N := 9) hx hb hts inX0 hown hK.1 hP 25 rfl rfl 1 (by decide) (hts _ mf_X0_15) (fun _ h9 => h9) rfl dX0_guards_26 ?_
          refine lv_iload_n hx hb dX0_guards_29 rfl (lv_at hl 0 rfl) ?_
          refine xiald (f := (gr 1)) hx hb hK hP 27 (k) (rfl) (by omega) (by decide) rfl dX0_guards_30 ?_
          refine lv_topi (fun v95 ev95 => ?_)
          obtain ⟨xx, yy, hy9, hn9, hM9, hr9⟩ := rk_ex (M := (mayA (r 8) (r 10) rw cl)) (12 * rw) (show k < rkG (mayA (r 8) (r 10) rw cl) (12 * rw) by omega)
          have hc9 := (hgc xx yy hM9 hn9 (by omega)).1
          rw [hr9] at hc9
          have hxx := hM9.1
          have hyy := hM9.2.1
          obtain rfl : v95 = nI (xx * 12 + yy) := ev95.trans (hc9)
          refine lawV (rest := []) (q0 := 0) ⟨hx, hb, hml, hown, hts⟩ (c_X2_alsoKeep l G a b (upd f 4 x7) (up2 (up2 r 11 x8) 12 x3) (xx * 12 + yy) (by omega)) mi_yX2_alsoKeep mv_yX2_alsoKeep ml_X0_106 ⟨rfl, rfl, Nat.le_of_ble_eq_true rfl, Nat.le_of_ble_eq_true rfl⟩ hK hP (hDD _ _ _ _ _ _ _ _ _ _ _ _ _ _ _ _ _) (pl_perm (xBlk G x xa ta a b ga ua la lb lc tg gg xf tf (upd f 4 x7) qf gf uf lf mf nf tr (up2 (up2 r 11 x8) 12 x3) q gr ur lr mr nr) (sel := [2]) (oth := [0, 1, 3, 4, 5, 6, 7, 8, 9]) (by decide)) rfl rfl rfl hl.1 rfl (Nat.le_of_ble_eq_true rfl) dX0_guards_31 ⟨Nat.zero_le _, Nat.zero_le _⟩ hS hA (fun w97 H locs hw97 hP hS => ?_)
          obtain rfl := hw97
          have hP : PP G (xM G x xa ta a b ga ua la lb lc tg gg xf tf (upd f 4 (-2)) qf gf uf lf mf nf tr (up2 (up2 r 11 (upd x8 (xx * 12 + yy) 1)) 12 x3) q gr ur lr mr nr) H := (hP rfl (xM G x xa ta a b ga ua la lb lc tg gg xf tf (upd f 4 (-2)) qf gf uf lf mf nf tr (up2 (up2 r 11 (upd x8 (xx * 12 + yy) 1)) 12 x3) q gr ur lr mr nr) (pl_perm (xBlk G x xa ta a b ga ua la lb lc tg gg xf tf (upd f 4 (-2)) qf gf uf lf mf nf tr (up2 (up2 r 11 (upd x8 (xx * 12 + yy) 1)) 12 x3) q gr ur lr mr nr) (sel := [2]) (oth := [0, 1, 3, 4, 5, 6, 7, 8, 9]) (by decide))).1
          obtain ⟨v98, ev98⟩ : ∃ y9 : Int32, y9 = (nI k) + Int32.ofInt (1) := ⟨_, rfl⟩
          refine lv_iinc (v := v98) (lv' := [(3, .int v98), (0, .ref (ga 9)), (1, .ref (a 15)), (2, .int (nI sq))]) hx hb dX0_guards_34 hl (k := 0) rfl ev98.symm (by decide) rfl (fun ls hl => ?_)
          obtain rfl : v98 = nI (k + 1) := nI_plus (i := k) (j := 1) ev98 rfl (by decide)
          refine lv_goto (tgt := 6) hx hb dX0_guards_37 (by decide) ?_
          exact ih6k6 (k + 1) (-2) (upd x8 (xx * 12 + yy) 1) (by omega) (by omega) (KK_y hM12 hcl hKK hM9 hr9 hbt) (rfl) _ _ _ hP hS (lv_sub hl [0, 1, 2, 3] rfl)
  exact loop6 (mm + 1) 0 x1 x2 (by omega) (by omega) (fun x y h8 h9 => KA_s (hks x y h8 h9).1) (hk4) _ _ _ hP hS (lv_sub hl [0, 1, 2, 3] rfl)
set_option maxHeartbeats 4000000 in
set_option maxRecDepth 100000 in
theorem x_X0_cheapest (l : Launch) (G : GG) (x : Nat) (xa ta a b ga ua la lb lc : Nat → Nat) (tg gg : Nat → Option Nat) (xf tf f qf gf uf lf mf nf : Nat → Int32) (tr r q gr ur lr mr nr : Nat → Nat → Int32) (rw : Nat) (cl : Nat) (dn : Nat) (up : Nat) (V0 : Nat → Nat → Nat) (Lo : Nat → Nat → Nat) (Hi : Nat → Nat → Nat) (mm : Nat) (cp : Nat → Nat) (hrw : rw ≤ 12) (hcl : cl ≤ 12) (h0 : (f 0) = nI rw) (h1 : (f 1) = nI cl) (h2 : (f 2) = nI dn) (h3 : (f 3) = nI up) (hdn : dn ≤ 1000000) (hup : up ≤ 1000000) (hRN : RVL (r 6) (r 9) (r 13) (r 14) rw cl V0 Lo Hi) (hcs : ∀ x, x < rw → ¬ (r 7) x = -2) (hSS : ∀ x y, x < rw → y < cl → ¬ (r 10) (x * 12 + y) = 0 → ¬ (r 6) x = 0) (hm8 : mm < 9) (hg4 : (gf 4) = nI mm) (hmk : mm = rkG (mayA (r 8) (r 10) rw cl) (12 * rw)) (hgc : GCH (mayA (r 8) (r 10) rw cl) (12 * rw) (gr 1) (gr 2) (fun x y => coR ((tr 9) 5) ((tr 6) (x * 12 + y)))) (hRB : RB adjR (q 0)) (hcp : ∀ k, k < mm → (gr 2) k = nI (cp k)) (hcb : ∀ k, k < mm → cp k ≤ 1000001) : WrI l yX0_cheapest cX0_cheapest 5 (some .int) ({ frames := 6, cells := 0, slots := 0, locals := 158 }) G (xM G x xa ta a b ga ua la lb lc tg gg xf tf f qf gf uf lf mf nf tr r q gr ur lr mr nr) [.ref (ga 9), .ref (a 15)] (fun qz w => ∃ (n_f_4 : Int32) (n_gf_5 : Int32) (n_gf_6 : Int32) (n_gr_3 : Nat → Int32) (n_q_0 : Nat → Int32) (n_q_1 : Nat → Int32) (n_q_2 : Nat → Int32) (n_qf_3 : Int32) (n_r_11 : Nat → Int32) (n_r_12 : Nat → Int32), w = xM G x xa ta a b ga ua la lb lc tg gg xf tf (upd f 4 n_f_4) (upd qf 3 n_qf_3) (upd (upd gf 5 n_gf_5) 6 n_gf_6) uf lf mf nf tr (up2 (up2 r 11 n_r_11) 12 n_r_12) (up2 (up2 (up2 q 0 n_q_0) 1 n_q_1) 2 n_q_2) (up2 gr 3 n_gr_3) ur lr mr nr ∧ ((qz = -1 ∧ ∀ s, s < 2 ^ mm → ¬ (GRD rw cl (UNG rw cl (fun x => ¬ (r 6) x = 0) (r 7) (secA (r 10)) Lo Hi V0 dn up) (secA (r 10)) (mayA (r 8) (r 10) rw cl) mm) s) ∨ ∃ b9, qz = nI b9 ∧ LSG cp mm (GRD rw cl (UNG rw cl (fun x => ¬ (r 6) x = 0) (r 7) (secA (r 10)) Lo Hi V0 dn up) (secA (r 10)) (mayA (r 8) (r 10) rw cl) mm) b9 ∧ ∀ s, s < 2 ^ mm → n_gr_3 s = nI (prc cp mm s)) ∧ (RB adjR n_q_0)) := by
  refine wr_entryI (by decide +kernel) (Nat.le_of_ble_eq_true rfl) ?_
  intro p e s m below meth c A C0 hP hK hD hA ls hl
  have hS : va_S A s.heap s.heap [] := va_S.rf
  obtain ⟨hx, hb, hml, hown, hts, hr, hlocks, hin⟩ := C0
  have hown : s.vm.findClass RX0 = some m.cls := hown
  have hDD : ∀ xf' tf' f' qf' gf' uf' lf' mf' nf' tr' r' q' gr' ur' lr' mr' nr', va_D A (xM G x xa ta a b ga ua la lb lc tg gg xf' tf' f' qf' gf' uf' lf' mf' nf' tr' r' q' gr' ur' lr' mr' nr') := fun xf' tf' f' qf' gf' uf' lf' mf' nf' tr' r' q' gr' ur' lr' mr' nr' => D_same hD rfl
  have hl : lv_has ls 5 [(0, .ref (ga 9)), (1, .ref (a 15))] := hl
  have h256 := p2_le mm hm8
  have hpb : ∀ s, prc cp mm s ≤ 9000009 := fun s => Nat.le_trans (prS_le (B := 1000001) mm hcb) (by omega)
  have hMr : ∀ x y, (mayA (r 8) (r 10) rw cl) x y → y < 12 ∧ rkG (mayA (r 8) (r 10) rw cl) (12 * x + y) < mm := fun x y h9 => ⟨by have := h9.2.1; omega, by rw [hmk]; exact rk_lt (by have := h9.2.1; omega) h9 (by have h8 := h9.1; have h7 := h9.2.1; omega)⟩
  have hBN : BNG rw cl (fun x => ¬ r 6 x = 0) Lo Hi V0 := fun x y h7 h8 h9 => by have b9 := hRN x y h7 h8 h9; exact ⟨b9.2.2.2.2.2, b9.2.2.2.2.1⟩
  refine lv_iconst (v := 1) hx hb dX0_cheapest_0 (by decide) ?_
  refine lv_aload_n hx hb dX0_cheapest_1 rfl (lv_at hl 0 rfl) ?_
  refine va_get (D := G.1) (ci := 0) (v := .int (gf 4)) (C := RX0) (T := TX0) (N := 9) hx hb hts inX0 hown hK.1 hP 25 rfl rfl 4 (by decide) (hts _ mf_X0_25) (fun _ h9 => h9) rfl dX0_cheapest_2 ?_
  rw [show (gf 4) = nI (mm) from hg4]
  refine lv_ishl hx hb dX0_cheapest_5 ?_
  refine lv_topi (fun v1 ev1 => ?_)
  obtain rfl : v1 = nI (2 ^ mm) := ev1.trans (sh_2 mm hm8)
  refine lv_istore_n (lv' := [(2, .int (nI (2 ^ mm))), (0, .ref (ga 9)), (1, .ref (a 15))]) hx hb dX0_cheapest_6 rfl hl (by decide) rfl (fun ls hl => ?_)
  refine lv_aload_n hx hb dX0_cheapest_7 rfl (lv_at hl 1 rfl) ?_
  refine lv_iconst (v := -1) hx hb dX0_cheapest_8 (by decide) ?_
  refine va_put (D := G.1) (ci := 0) (v := .int (-1)) (C := RX0) (T := TX0) (N := 9) hx hb hts inX0 tyX0 tyX0_ok nmX0 hown hK.1 hP (hDD _ _ _ _ _ _ _ _ _ _ _ _ _ _ _ _ _) hS 25 rfl rfl 5 (by decide) (hts _ mf_X0_29) (fun _ h9 => h9) rfl (tyX0_ok 5 (by decide)) (rfl) (rfl) (Nat.le_of_ble_eq_true rfl) dX0_cheapest_9 (fun H locs hP _ hS => ?_)
  have hP : PP G (xM G x xa ta a b ga ua la lb lc tg gg xf tf f qf (upd gf 5 (-1)) uf lf mf nf tr r q gr ur lr mr nr) H := hP
  refine lv_aload_n hx hb dX0_cheapest_12 rfl (lv_at hl 1 rfl) ?_
  refine lv_iconst (v := -1) hx hb dX0_cheapest_13 (by decide) ?_
  refine va_put (D := G.1) (ci := 0) (v := .int (-1)) (C := RX0) (T := TX0) (N := 9) hx hb hts inX0 tyX0 tyX0_ok nmX0 hown hK.1 hP (hDD _ _ _ _ _ _ _ _ _ _ _ _ _ _ _ _ _) hS 25 rfl rfl 6 (by decide) (hts _ mf_X0_32) (fun _ h9 => h9) rfl (tyX0_ok 6 (by decide)) (rfl) (rfl) (Nat.le_of_ble_eq_true rfl) dX0_cheapest_14 (fun H locs hP _ hS => ?_)
  have hP : PP G (xM G x xa ta a b ga ua la lb lc tg gg xf tf f qf (upd (upd gf 5 (-1)) 6 (-1)) uf lf mf nf tr r q gr ur lr mr nr) H := hP
  refine lv_aload_n hx hb dX0_cheapest_17 rfl (lv_at hl 1 rfl) ?_
  refine lv_aload_n hx hb dX0_cheapest_18 rfl (lv_at hl 2 rfl) ?_
  refine lv_iload_n hx hb dX0_cheapest_19 rfl (lv_at hl 0 rfl) ?_
  refine lv_iconst (v := 1) hx hb dX0_cheapest_20 (by decide) ?_
  refine lv_isub hx hb dX0_cheapest_21 ?_
  refine lv_topi (fun v2 ev2 => ?_)
  obtain rfl : v2 = nI ((2 ^ mm) - 1) := nI_minus ev2 rfl rfl (by omega)
  refine wrVIa (rest := []) (q0 := 25) ⟨hx, hb, hml, hown, hts⟩ (x_X0_guards l G x xa ta a b ga ua la lb lc tg gg xf tf f qf (upd (upd gf 5 (-1)) 6 (-1)) uf lf mf nf tr r q gr ur lr mr nr ((2 ^ mm) - 1) rw cl dn up V0 Lo Hi mm (by omega) (by omega) h0 h1 h2 h3 (by omega) (by omega) hRN hcs hSS (by omega) hg4 hmk hgc hRB (by omega) (Or.inl rfl)) mi_yX0_guards mv_yX0_guards ml_X0_113 ⟨rfl, rfl, Nat.le_of_ble_eq_true rfl, Nat.le_of_ble_eq_true rfl⟩ hK hP (hDD _ _ _ _ _ _ _ _ _ _ _ _ _ _ _ _ _) rfl rfl rfl hl.1 rfl (Nat.le_of_ble_eq_true rfl) dX0_cheapest_22 ⟨Nat.zero_le _, Nat.zero_le _⟩ hS hA (fun r3 w4 H locs hw4 hP hS => ?_)
  obtain ⟨x5, x6, x7, x8, x9, x10, x11, x12, x13, rfl, hw4r, hHD, hRB⟩ := hw4
  have hP : PP G (xM G x xa ta a b ga ua la lb lc tg gg xf tf (upd f 4 x5) (upd qf 3 x11) (upd (upd gf 5 x6) 6 x7) uf lf mf nf tr (up2 (up2 r 11 x12) 12 x13) (up2 (up2 (up2 q 0 x8) 1 x9) 2 x10) gr ur lr mr nr) H := hP
  have hHD : HRD rw cl (r 10) x6 x7 := hHD
  have hRB : RB adjR x8 := hRB
  have hw4r : ((r3 = 1 ∧ ((GRD rw cl (UNG rw cl (fun x => ¬ (r 6) x = 0) (r 7) (secA (r 10)) Lo Hi V0 dn up) (secA (r 10)) (mayA (r 8) (r 10) rw cl) mm) ((2 ^ mm) - 1))) ∨ (r3 = 0 ∧ ¬ ((GRD rw cl (UNG rw cl (fun x => ¬ (r 6) x = 0) (r 7) (secA (r 10)) Lo Hi V0 dn up) (secA (r 10)) (mayA (r 8) (r 10) rw cl) mm) ((2 ^ mm) - 1)))) := hw4r
  refine lv_if_ne (tgt := 30) hx hb dX0_cheapest_25 (by decide) (fun c14 => ?_) (fun c14 => ?_)
  · have b25 := bT hw4r c14
    refine lv_aload_n hx hb dX0_cheapest_30 rfl (lv_at hl 1 rfl) ?_
    refine lv_iload_n hx hb dX0_cheapest_31 rfl (lv_at hl 0 rfl) ?_
    refine wrVVa (rest := []) (q0 := 25) ⟨hx, hb, hml, hown, hts⟩ (x_X0_priceSets l G x xa ta a b ga ua la lb lc tg gg xf tf (upd f 4 x5) (upd qf 3 x11) (upd (upd gf 5 x6) 6 x7) uf lf mf nf tr (up2 (up2 r 11 x12) 12 x13) (up2 (up2 (up2 q 0 x8) 1 x9) 2 x10) gr ur lr mr nr (2 ^ mm) mm cp (by omega) hg4 (by omega) hcp) mi_yX0_priceSets mv_yX0_priceSets ml_X0_117 ⟨rfl, rfl, Nat.le_of_ble_eq_true rfl, Nat.le_of_ble_eq_true rfl⟩ hK hP (hDD _ _ _ _ _ _ _ _ _ _ _ _ _ _ _ _ _) rfl rfl rfl hl.1 rfl (Nat.le_of_ble_eq_true rfl) dX0_cheapest_32 ⟨Nat.zero_le _, Nat.zero_le _⟩ hS hA (fun w16 H locs hw16 hP hS => ?_)
    obtain ⟨x17, rfl, hps⟩ := hw16
    have hP : PP G (xM G x xa ta a b ga ua la lb lc tg gg xf tf (upd f 4 x5) (upd qf 3 x11) (upd (upd gf 5 x6) 6 x7) uf lf mf nf tr (up2 (up2 r 11 x12) 12 x13) (up2 (up2 (up2 q 0 x8) 1 x9) 2 x10) (up2 gr 3 x17) ur lr mr nr) H := hP
    have hps : ∀ s, s < (2 ^ mm) → x17 s = nI (prc cp mm s) := hps
    refine lv_aload_n hx hb dX0_cheapest_35 rfl (lv_at hl 1 rfl) ?_
    refine lv_iload_n hx hb dX0_cheapest_36 rfl (lv_at hl 0 rfl) ?_
    refine lv_iconst (v := -1) hx hb dX0_cheapest_37 (by decide) ?_
    refine rdV (rest := []) (q0 := 25) ⟨hx, hb, hml, hown, hts⟩ (x_X0_nextSet l G x xa ta a b ga ua la lb lc tg gg xf tf (upd f 4 x5) (upd qf 3 x11) (upd (upd gf 5 x6) 6 x7) uf lf mf nf tr (up2 (up2 r 11 x12) 12 x13) (up2 (up2 (up2 q 0 x8) 1 x9) 2 x10) (up2 gr 3 x17) ur lr mr nr (2 ^ mm) (-1) mm cp hps hpb (by omega) rfl (Or.inl rfl)) mi_yX0_nextSet mv_yX0_nextSet ml_X0_120 ⟨rfl, rfl, Nat.le_of_ble_eq_true rfl, Nat.le_of_ble_eq_true rfl⟩ hK (hP) rfl rfl rfl hl.1 rfl (Nat.le_of_ble_eq_true rfl) dX0_cheapest_38 ⟨Nat.zero_le _, Nat.zero_le _⟩ hS hA hP (fun r18 H locs hr18 hP hS => ?_)
    have hr18 : ((r18 = -1 ∧ ∀ s, s < 2 ^ mm → ¬ AFT cp mm (-1) s) ∨ ∃ bz, bz < 2 ^ mm ∧ r18 = nI bz ∧ AFT cp mm (-1) bz ∧ ∀ s, s < 2 ^ mm → AFT cp mm (-1) s → s = bz ∨ BEF cp mm bz s) := hr18
    refine lv_istore_n (lv' := [(3, .int r18), (2, .int (nI (2 ^ mm))), (0, .ref (ga 9)), (1, .ref (a 15))]) hx hb dX0_cheapest_41 rfl hl (by decide) rfl (fun ls hl => ?_)
    refine lv_iconst (v := 0) hx hb dX0_cheapest_42 (by decide) ?_
    refine lv_istore (lv' := [(4, .int 0), (3, .int r18), (2, .int (nI (2 ^ mm))), (0, .ref (ga 9)), (1, .ref (a 15))]) hx hb dX0_cheapest_43 hl (by decide) rfl (fun ls hl => ?_)
    have loop45 : ∀ (k19 tn : Nat) (z20 : Int32) (x21 : Int32) (x22 : Int32) (x23 : Int32) (x24 : Nat → Int32) (x25 : Nat → Int32) (x26 : Nat → Int32) (x27 : Int32) (x28 : Nat → Int32) (x29 : Nat → Int32), tn ≤ (2 ^ mm) → (2 ^ mm) < tn + k19 → (HRD rw cl (r 10) x22 x23) → (RB adjR x24) → (CST cp mm (GRD rw cl (UNG rw cl (fun x => ¬ (r 6) x = 0) (r 7) (secA (r 10)) Lo Hi V0 dn up) (secA (r 10)) (mayA (r 8) (r 10) rw cl) mm) tn (z20 : Int32)) → ∀ (H : Heap) (locs : List Loc) (ls : Array Slot), PP G (xM G x xa ta a b ga ua la lb lc tg gg xf tf (upd f 4 x21) (upd qf 3 x27) (upd (upd gf 5 x22) 6 x23) uf lf mf nf tr (up2 (up2 r 11 x28) 12 x29) (up2 (up2 (up2 q 0 x24) 1 x25) 2 x26) (up2 gr 3 x17) ur lr mr nr) H → va_S A s.heap H locs → lv_has ls 5 [(4, .int (nI tn)), (3, .int z20), (2, .int (nI (2 ^ mm))), (0, .ref (ga 9)), (1, .ref (a 15))] → W p l e ({ frames := 6, cells := 0, slots := 0, locals := 158 }) s m ([.ref (ga 9), .ref (a 15)] : List Value).toArray below meth c H locs 0 0 (MQ below (QwI G (fun qz w => ∃ (n_f_4 : Int32) (n_gf_5 : Int32) (n_gf_6 : Int32) (n_gr_3 : Nat → Int32) (n_q_0 : Nat → Int32) (n_q_1 : Nat → Int32) (n_q_2 : Nat → Int32) (n_qf_3 : Int32) (n_r_11 : Nat → Int32) (n_r_12 : Nat → Int32), w = xM G x xa ta a b ga ua la lb lc tg gg xf tf (upd f 4 n_f_4) (upd qf 3 n_qf_3) (upd (upd gf 5 n_gf_5) 6 n_gf_6) uf lf mf nf tr (up2 (up2 r 11 n_r_11) 12 n_r_12) (up2 (up2 (up2 q 0 n_q_0) 1 n_q_1) 2 n_q_2) (up2 gr 3 n_gr_3) ur lr mr nr ∧ ((qz = -1 ∧ ∀ s, s < 2 ^ mm → ¬ (GRD rw cl (UNG rw cl (fun x => ¬ (r 6) x = 0) (r 7) (secA (r 10)) Lo Hi V0 dn up) (secA (r 10)) (mayA (r 8) (r 10) rw cl) mm) s) ∨ ∃ b9, qz = nI b9 ∧ LSG cp mm (GRD rw cl (UNG rw cl (fun x => ¬ (r 6) x = 0) (r 7) (secA (r 10)) Lo Hi V0 dn up) (secA (r 10)) (mayA (r 8) (r 10) rw cl) mm) b9 ∧ ∀ s, s < 2 ^ mm → n_gr_3 s = nI (prc cp mm s)) ∧ (RB adjR n_q_0)) A) ([.ref (ga 9), .ref (a 15)] : List Value).toArray s 0 0 A) (F0 m 45 ls []) := by
      intro k19
      induction k19 with
      | zero => intro tn z20 x21 x22 x23 x24 x25 x26 x27 x28 x29 h1 h2; exact absurd h1 (by omega)
      | succ k19 ih45k19 =>
        intro tn z20 x21 x22 x23 x24 x25 x26 x27 x28 x29 hi_tn hk_tn hHD hRB hst9 H locs ls hP hS hl
        refine lv_iload hx hb dX0_cheapest_45 (lv_at hl 0 rfl) ?_
        refine lv_iload_n hx hb dX0_cheapest_47 rfl (lv_at hl 2 rfl) ?_
        refine lv_icmp_ge (tgt := 80) hx hb dX0_cheapest_48 (by decide) (fun c30 => ?_) (fun c30 => ?_)
        · have b48 := qge_t (a := tn) (b := (2 ^ mm)) (by omega) (by omega) c30
          have hno := (hst9.resolve_right (fun ⟨b8, h8, z8, h7, _⟩ => absurd (cBf_lt (cp := cp) (m := mm) (2 ^ mm) h8) (by omega))).2
          refine lv_iconst (v := -1) hx hb dX0_cheapest_80 (by decide) ?_
          exact wr_iret hx hb hr hlocks hS hP ⟨x21, x22, x23, x17, x24, x25, x26, x27, x28, x29, rfl, (Or.inl ⟨rfl, hno⟩), hRB⟩ dX0_cheapest_81
        · have b48 := qge_f (a := tn) (b := (2 ^ mm)) (by omega) (by omega) c30
          refine lv_iload_n hx hb dX0_cheapest_51 rfl (lv_at hl 1 rfl) ?_
          refine lv_iconst (v := -1) hx hb dX0_cheapest_52 (by decide) ?_
          refine lv_icmp_eq (tgt := 80) hx hb dX0_cheapest_53 (by decide) (fun c31 => ?_) (fun c31 => ?_)
          · have hno := (hst9.resolve_right (fun ⟨b8, h8, z8, _⟩ => absurd (z8.symm.trans c31) (nI_nm1 (by omega)))).2
            refine lv_iconst (v := -1) hx hb dX0_cheapest_80 (by decide) ?_
            exact wr_iret hx hb hr hlocks hS hP ⟨x21, x22, x23, x17, x24, x25, x26, x27, x28, x29, rfl, (Or.inl ⟨rfl, hno⟩), hRB⟩ dX0_cheapest_81
          · obtain ⟨b9, hb9, ez, hnb, hbe⟩ := hst9.resolve_left (fun z9 => c31 z9.1)
            subst ez
            refine lv_aload_n hx hb dX0_cheapest_56 rfl (lv_at hl 3 rfl) ?_
            refine lv_aload_n hx hb dX0_cheapest_57 rfl (lv_at hl 4 rfl) ?_
            refine lv_iload_n hx hb dX0_cheapest_58 rfl (lv_at hl 1 rfl) ?_
            refine wrVIa (rest := []) (q0 := 25) ⟨hx, hb, hml, hown, hts⟩ (x_X0_guards l G x xa ta a b ga ua la lb lc tg gg xf tf (upd f 4 x21) (upd qf 3 x27) (upd (upd gf 5 x22) 6 x23) uf lf mf nf tr (up2 (up2 r 11 x28) 12 x29) (up2 (up2 (up2 q 0 x24) 1 x25) 2 x26) (up2 gr 3 x17) ur lr mr nr b9 rw cl dn up V0 Lo Hi mm (by omega) (by omega) h0 h1 h2 h3 (by omega) (by omega) hRN hcs hSS (by omega) hg4 hmk hgc hRB hb9 hHD) mi_yX0_guards mv_yX0_guards ml_X0_113 ⟨rfl, rfl, Nat.le_of_ble_eq_true rfl, Nat.le_of_ble_eq_true rfl⟩ hK hP (hDD _ _ _ _ _ _ _ _ _ _ _ _ _ _ _ _ _) rfl rfl rfl hl.1 rfl (Nat.le_of_ble_eq_true rfl) dX0_cheapest_59 ⟨Nat.zero_le _, Nat.zero_le _⟩ hS hA (fun r32 w33 H locs hw33 hP hS => ?_)
            obtain ⟨x34, x35, x36, x37, x38, x39, x40, x41, x42, rfl, hw33r, hHD, hRB⟩ := hw33
            have hP : PP G (xM G x xa ta a b ga ua la lb lc tg gg xf tf (upd f 4 x34) (upd qf 3 x40) (upd (upd gf 5 x35) 6 x36) uf lf mf nf tr (up2 (up2 r 11 x41) 12 x42) (up2 (up2 (up2 q 0 x37) 1 x38) 2 x39) (up2 gr 3 x17) ur lr mr nr) H := hP
            have hHD : HRD rw cl (r 10) x35 x36 := hHD
            have hRB : RB adjR x37 := hRB
            have hw33r : ((r32 = 1 ∧ ((GRD rw cl (UNG rw cl (fun x => ¬ (r 6) x = 0) (r 7) (secA (r 10)) Lo Hi V0 dn up) (secA (r 10)) (mayA (r 8) (r 10) rw cl) mm) b9)) ∨ (r32 = 0 ∧ ¬ ((GRD rw cl (UNG rw cl (fun x => ¬ (r 6) x = 0) (r 7) (secA (r 10)) Lo Hi V0 dn up) (secA (r 10)) (mayA (r 8) (r 10) rw cl) mm) b9))) := hw33r
            refine lv_if_eq (tgt := 67) hx hb dX0_cheapest_62 (by decide) (fun c43 => ?_) (fun c43 => ?_)
            · have b62 := bF hw33r c43
              refine lv_aload_n hx hb dX0_cheapest_67 rfl (lv_at hl 3 rfl) ?_
              refine lv_iload_n hx hb dX0_cheapest_68 rfl (lv_at hl 2 rfl) ?_
              refine lv_iload_n hx hb dX0_cheapest_69 rfl (lv_at hl 1 rfl) ?_
              refine rdV (rest := []) (q0 := 25) ⟨hx, hb, hml, hown, hts⟩ (x_X0_nextSet l G x xa ta a b ga ua la lb lc tg gg xf tf (upd f 4 x34) (upd qf 3 x40) (upd (upd gf 5 x35) 6 x36) uf lf mf nf tr (up2 (up2 r 11 x41) 12 x42) (up2 (up2 (up2 q 0 x37) 1 x38) 2 x39) (up2 gr 3 x17) ur lr mr nr (2 ^ mm) (nI b9) mm cp hps hpb (by omega) rfl (Or.inr ⟨b9, hb9, rfl⟩)) mi_yX0_nextSet mv_yX0_nextSet ml_X0_120 ⟨rfl, rfl, Nat.le_of_ble_eq_true rfl, Nat.le_of_ble_eq_true rfl⟩ hK (hP) rfl rfl rfl hl.1 rfl (Nat.le_of_ble_eq_true rfl) dX0_cheapest_70 ⟨Nat.zero_le _, Nat.zero_le _⟩ hS hA hP (fun r44 H locs hr44 hP hS => ?_)
              have hr44 : ((r44 = -1 ∧ ∀ s, s < 2 ^ mm → ¬ AFT cp mm (nI b9) s) ∨ ∃ bz, bz < 2 ^ mm ∧ r44 = nI bz ∧ AFT cp mm (nI b9) bz ∧ ∀ s, s < 2 ^ mm → AFT cp mm (nI b9) s → s = bz ∨ BEF cp mm bz s) := hr44
              refine lv_istore_n (lv' := [(3, .int r44), (4, .int (nI tn)), (2, .int (nI (2 ^ mm))), (0, .ref (ga 9)), (1, .ref (a 15))]) hx hb dX0_cheapest_73 rfl hl (by decide) rfl (fun ls hl => ?_)
              obtain ⟨v45, ev45⟩ : ∃ y9 : Int32, y9 = (nI tn) + Int32.ofInt (1) := ⟨_, rfl⟩
              refine lv_iinc (v := v45) (lv' := [(4, .int v45), (3, .int r44), (2, .int (nI (2 ^ mm))), (0, .ref (ga 9)), (1, .ref (a 15))]) hx hb dX0_cheapest_74 hl (k := 1) rfl ev45.symm (by decide) rfl (fun ls hl => ?_)
              obtain rfl : v45 = nI (tn + 1) := nI_plus (i := tn) (j := 1) ev45 rfl (by decide)
              refine lv_goto (tgt := 45) hx hb dX0_cheapest_77 (by decide) ?_
              exact ih45k19 (tn + 1) r44 x34 x35 x36 x37 x38 x39 x40 x41 x42 (by omega) (by omega) hHD hRB (CST_s hm8 hb9 hnb hbe b62 hr44) _ _ _ hP hS (lv_sub hl [0, 1, 2, 3, 4] rfl)
            · have b62 := bT hw33r c43
              refine lv_iload_n hx hb dX0_cheapest_65 rfl (lv_at hl 1 rfl) ?_
              exact wr_iret hx hb hr hlocks hS hP ⟨x34, x35, x36, x17, x37, x38, x39, x40, x41, x42, rfl, (Or.inr ⟨b9, rfl, ⟨hb9, b62, fun s h8 h9 => (BEF_or (cp := cp) (m := mm) (a := b9) (b := s)).elim (fun z9 => Or.inr z9) (fun z9 => z9.elim (fun y9 => Or.inl y9.symm) (fun y9 => absurd h9 (hbe s h8 y9)))⟩, hps⟩), hRB⟩ dX0_cheapest_66
    exact loop45 ((2 ^ mm) + 1) 0 r18 x5 x6 x7 x8 x9 x10 x11 x12 x13 (by omega) (by omega) hHD hRB (CST_0 hr18) _ _ _ hP hS (lv_sub hl [0, 1, 2, 3, 4] rfl)
  · have b25 := bF hw4r c14
    refine lv_iconst (v := -1) hx hb dX0_cheapest_28 (by decide) ?_
    exact wr_iret hx hb hr hlocks hS hP ⟨x5, x6, x7, (gr 3), x8, x9, x10, x11, x12, x13, rfl, (Or.inl ⟨rfl, fun s h8 h9 => b25 (GRD_all hrw hcl hm8 hMr hBN h9)⟩), hRB⟩ dX0_cheapest_29
def tgF (td : Nat → Int32) (b : Bool) (p : Nat) : Int32 := if b = true then (td p &&& (2 ^^^ (-1))) ||| 2 else td p &&& (2 ^^^ (-1))
theorem tgF_c {td : Nat → Int32} {P Q : Prop} {p : Nat} (h : P ↔ Q) : tgF td (pB P) p = tgF td (pB Q) p := by rw [pB_c h]
theorem tg_c {td t2 : Nat → Int32} {n : Nat} {v : Int32} (h : ∀ p, p < 144 → t2 p = (if p < n then td p &&& (2 ^^^ (-1)) else td p)) (hn : n < 144) (hv : v = t2 n &&& (2 ^^^ (-1))) : ∀ p, p < 144 → upd t2 n v p = (if p < n + 1 then td p &&& (2 ^^^ (-1)) else td p) := fun p hp => by
  by_cases e : p = n
  · subst e; rw [pk_us, hv, h p hp, if_neg (by omega), if_pos (by omega)]
  · rw [pk_un e, h p hp]
    by_cases c : p < n
    · rw [if_pos c, if_pos (by omega)]
    · rw [if_neg c, if_neg (by omega)]
theorem tg_0 {td t2 : Nat → Int32} {P Q : Prop} {a n p : Nat} (h : t2 p = (if p < n then td p &&& (2 ^^^ (-1)) else td p)) (hp : p < n) : t2 p = tgF td (pB (P ∧ a < 0 ∧ Q)) p := by
  rw [h, if_pos hp]
  unfold tgF
  rw [pB_f (fun z => absurd z.2.1 (by omega)), if_neg (by decide)]
section TG
variable {td t2 : Nat → Int32} {M : Nat → Nat → Prop} {k m sq xx yy : Nat} {v : Int32}
theorem tg_n (h : ∀ x y, x < 12 → y < 12 → t2 (x * 12 + y) = tgF td (pB (M x y ∧ rkG M (12 * x + y) < k ∧ bt (nI sq) (m - 1 - rkG M (12 * x + y)) = true)) (x * 12 + y)) (hb : bt (nI sq) (m - 1 - k) = false) : ∀ x y, x < 12 → y < 12 → t2 (x * 12 + y) = tgF td (pB (M x y ∧ rkG M (12 * x + y) < k + 1 ∧ bt (nI sq) (m - 1 - rkG M (12 * x + y)) = true)) (x * 12 + y) := fun x y hx hy => by
  rw [h x y hx hy]
  refine tgF_c ⟨fun z => ⟨z.1, by omega, z.2.2⟩, fun z => ⟨z.1, ?_, z.2.2⟩⟩
  by_cases e : rkG M (12 * x + y) = k
  · have := z.2.2
    rw [e, hb] at this
    exact absurd this (by decide)
  · omega
theorem tg_y (hM : ∀ x y, M x y → y < 12) (hm : M xx yy) (hr : rkG M (12 * xx + yy) = k) (hb : bt (nI sq) (m - 1 - k) = true) (h : ∀ x y, x < 12 → y < 12 → t2 (x * 12 + y) = tgF td (pB (M x y ∧ rkG M (12 * x + y) < k ∧ bt (nI sq) (m - 1 - rkG M (12 * x + y)) = true)) (x * 12 + y)) (hxx : xx < 12) (hv : v = t2 (xx * 12 + yy) ||| 2) : ∀ x y, x < 12 → y < 12 → upd t2 (xx * 12 + yy) v (x * 12 + y) = tgF td (pB (M x y ∧ rkG M (12 * x + y) < k + 1 ∧ bt (nI sq) (m - 1 - rkG M (12 * x + y)) = true)) (x * 12 + y) := fun x y hx hy => by
  have hyy := hM xx yy hm
  by_cases e : x = xx ∧ y = yy
  · obtain ⟨rfl, rfl⟩ := e
    rw [pk_us, hv, h x y hx hy]
    unfold tgF
    rw [pB_f (fun z => absurd z.2.1 (by omega)), pB_t ⟨hm, by omega, by rw [hr]; exact hb⟩, if_neg (by decide), if_pos rfl]
  · rw [pk_un (by omega), h x y hx hy]
    refine tgF_c ⟨fun z => ⟨z.1, by omega, z.2.2⟩, fun z => ⟨z.1, ?_, z.2.2⟩⟩
    by_cases c : rkG M (12 * x + y) = k
    · exact absurd (rk_inj hy hyy z.1 hm (c.trans hr.symm)) e
    · omega
end TG
set_option maxHeartbeats 4000000 in
set_option maxRecDepth 100000 in
theorem x_X0_tell (l : Launch) (G : GG) (x : Nat) (xa ta a b ga ua la lb lc : Nat → Nat) (tg gg : Nat → Option Nat) (xf tf f qf gf uf lf mf nf : Nat → Int32) (tr r q gr ur lr mr nr : Nat → Nat → Int32) (sq : Nat) (rw : Nat) (cl : Nat) (mm : Nat) (hrw : rw ≤ 12) (hcl : cl ≤ 12) (hm8 : mm < 9) (hg4 : (gf 4) = nI mm) (hmk : mm = rkG (mayA (r 8) (r 10) rw cl) (12 * rw)) (hgc : GCH (mayA (r 8) (r 10) rw cl) (12 * rw) (gr 1) (gr 2) (fun x y => coR ((tr 9) 5) ((tr 6) (x * 12 + y)))) : WrV l yX0_tell cX0_tell 4 ({ frames := 1, cells := 0, slots := 0, locals := 23 }) G (xM G x xa ta a b ga ua la lb lc tg gg xf tf f qf gf uf lf mf nf tr r q gr ur lr mr nr) [.ref (ga 9), .ref (ta 0), .int (nI sq)] (fun w => ∃ (n_tr_7 : Nat → Int32), w = xM G x xa ta a b ga ua la lb lc tg gg xf tf f qf gf uf lf mf nf (up2 tr 7 n_tr_7) r q gr ur lr mr nr ∧ (∀ x y, x < 12 → y < 12 → n_tr_7 (x * 12 + y) = tgF (tr 7) (pB ((mayA (r 8) (r 10) rw cl) x y ∧ bt (nI sq) (mm - 1 - rkG (mayA (r 8) (r 10) rw cl) (12 * x + y)) = true)) (x * 12 + y))) := by
  refine wr_entryV (by decide +kernel) (Nat.le_of_ble_eq_true rfl) ?_
  intro p e s m below meth c A C0 hP hK hD hA ls hl
  have hS : va_S A s.heap s.heap [] := va_S.rf
  obtain ⟨hx, hb, hml, hown, hts, hr, hlocks, hin⟩ := C0
  have hown : s.vm.findClass RX0 = some m.cls := hown
  have hDD : ∀ xf' tf' f' qf' gf' uf' lf' mf' nf' tr' r' q' gr' ur' lr' mr' nr', va_D A (xM G x xa ta a b ga ua la lb lc tg gg xf' tf' f' qf' gf' uf' lf' mf' nf' tr' r' q' gr' ur' lr' mr' nr') := fun xf' tf' f' qf' gf' uf' lf' mf' nf' tr' r' q' gr' ur' lr' mr' nr' => D_same hD rfl
  have hl : lv_has ls 4 [(0, .ref (ga 9)), (1, .ref (ta 0)), (2, .int (nI sq))] := hl
  have hMr : ∀ x y, (mayA (r 8) (r 10) rw cl) x y → rkG (mayA (r 8) (r 10) rw cl) (12 * x + y) < mm := fun x y h9 => by rw [hmk]; exact rk_lt (by have := h9.2.1; omega) h9 (by have h8 := h9.1; have h7 := h9.2.1; omega)
  have hM12 : ∀ x y, (mayA (r 8) (r 10) rw cl) x y → y < 12 := fun x y h9 => by have := h9.2.1; omega
  refine lv_iconst (v := 0) hx hb dX0_tell_0 (by decide) ?_
  refine lv_istore_n (lv' := [(3, .int 0), (0, .ref (ga 9)), (1, .ref (ta 0)), (2, .int (nI sq))]) hx hb dX0_tell_1 rfl hl (by decide) rfl (fun ls hl => ?_)
  have loop2 : ∀ (k1 n : Nat) (x2 : Nat → Int32), n ≤ 144 → 144 < n + k1 → (∀ p, p < 144 → x2 p = (if p < n then tr 7 p &&& (2 ^^^ (-1)) else tr 7 p)) → ∀ (H : Heap) (locs : List Loc) (ls : Array Slot), PP G (xM G x xa ta a b ga ua la lb lc tg gg xf tf f qf gf uf lf mf nf (up2 tr 7 x2) r q gr ur lr mr nr) H → va_S A s.heap H locs → lv_has ls 4 [(3, .int (nI n)), (0, .ref (ga 9)), (1, .ref (ta 0)), (2, .int (nI sq))] → W p l e ({ frames := 1, cells := 0, slots := 0, locals := 23 }) s m ([.ref (ga 9), .ref (ta 0), .int (nI sq)] : List Value).toArray below meth c H locs 0 0 (MQ below (QwV G (fun w => ∃ (n_tr_7 : Nat → Int32), w = xM G x xa ta a b ga ua la lb lc tg gg xf tf f qf gf uf lf mf nf (up2 tr 7 n_tr_7) r q gr ur lr mr nr ∧ (∀ x y, x < 12 → y < 12 → n_tr_7 (x * 12 + y) = tgF (tr 7) (pB ((mayA (r 8) (r 10) rw cl) x y ∧ bt (nI sq) (mm - 1 - rkG (mayA (r 8) (r 10) rw cl) (12 * x + y)) = true)) (x * 12 + y))) A) ([.ref (ga 9), .ref (ta 0), .int (nI sq)] : List Value).toArray s 0 0 A) (F0 m 2 ls []) := by
    intro k1
    induction k1 with
    | zero => intro n x2 h1 h2; exact absurd h1 (by omega)
    | succ k1 ih2k1 =>
      intro n x2 hi_n hk_n hz H locs ls hP hS hl
      refine lv_iload_n hx hb dX0_tell_2 rfl (lv_at hl 0 rfl) ?_
      refine lv_sipush (v := 144) hx hb dX0_tell_3 (by decide) ?_
      refine lv_icmp_ge (tgt := 22) hx hb dX0_tell_6 (by decide) (fun c3 => ?_) (fun c3 => ?_)
      · have b6 := qge_t (a := n) (b := 144) (by omega) (by omega) c3
        refine lv_iconst (v := 0) hx hb dX0_tell_22 (by decide) ?_
        refine lv_istore_n (lv' := [(3, .int 0), (0, .ref (ga 9)), (1, .ref (ta 0)), (2, .int (nI sq))]) hx hb dX0_tell_23 rfl hl (by decide) rfl (fun ls hl => ?_)
        have loop24 : ∀ (k4 k : Nat) (x5 : Nat → Int32), k ≤ mm → mm < k + k4 → (∀ x y, x < 12 → y < 12 → x5 (x * 12 + y) = tgF (tr 7) (pB ((mayA (r 8) (r 10) rw cl) x y ∧ rkG (mayA (r 8) (r 10) rw cl) (12 * x + y) < k ∧ bt (nI sq) (mm - 1 - rkG (mayA (r 8) (r 10) rw cl) (12 * x + y)) = true)) (x * 12 + y)) → ∀ (H : Heap) (locs : List Loc) (ls : Array Slot), PP G (xM G x xa ta a b ga ua la lb lc tg gg xf tf f qf gf uf lf mf nf (up2 tr 7 x5) r q gr ur lr mr nr) H → va_S A s.heap H locs → lv_has ls 4 [(3, .int (nI k)), (0, .ref (ga 9)), (1, .ref (ta 0)), (2, .int (nI sq))] → W p l e ({ frames := 1, cells := 0, slots := 0, locals := 23 }) s m ([.ref (ga 9), .ref (ta 0), .int (nI sq)] : List Value).toArray below meth c H locs 0 0 (MQ below (QwV G (fun w => ∃ (n_tr_7 : Nat → Int32), w = xM G x xa ta a b ga ua la lb lc tg gg xf tf f qf gf uf lf mf nf (up2 tr 7 n_tr_7) r q gr ur lr mr nr ∧ (∀ x y, x < 12 → y < 12 → n_tr_7 (x * 12 + y) = tgF (tr 7) (pB ((mayA (r 8) (r 10) rw cl) x y ∧ bt (nI sq) (mm - 1 - rkG (mayA (r 8) (r 10) rw cl) (12 * x + y)) = true)) (x * 12 + y))) A) ([.ref (ga 9), .ref (ta 0), .int (nI sq)] : List Value).toArray s 0 0 A) (F0 m 24 ls []) := by
          intro k4
          induction k4 with
          | zero => intro k x5 h1 h2; exact absurd h1 (by omega)
          | succ k4 ih24k4 =>
            intro k x5 hi_k hk_k hy H locs ls hP hS hl
            refine lv_iload_n hx hb dX0_tell_24 rfl (lv_at hl 0 rfl) ?_
            refine lv_aload_n hx hb dX0_tell_25 rfl (lv_at hl 1 rfl) ?_
            refine va_get (D := G.1) (ci := 0) (v := .int (gf 4)) (C := RX0) (T := TX0) (N := 9) hx hb hts inX0 hown hK.1 hP 25 rfl rfl 4 (by decide) (hts _ mf_X0_25) (fun _ h9 => h9) rfl dX0_tell_26 ?_
            rw [show (gf 4) = nI (mm) from hg4]
            refine lv_icmp_ge (tgt := 60) hx hb dX0_tell_29 (by decide) (fun c6 => ?_) (fun c6 => ?_)
            · have b29 := qge_t (a := k) (b := (mm)) (by omega) (by omega) c6
              exact wr_vret hx hb hr hlocks hS hP ⟨x5, rfl, (fun x y h8 h9 => by rw [hy x y h8 h9]; exact tgF_c ⟨fun z9 => ⟨z9.1, z9.2.2⟩, fun z9 => ⟨z9.1, by have := hMr x y z9.1; omega, z9.2⟩⟩)⟩ dX0_tell_60
            · have b29 := qge_f (a := k) (b := (mm)) (by omega) (by omega) c6
              refine lv_iload_n hx hb dX0_tell_32 rfl (lv_at hl 3 rfl) ?_
              refine lv_aload_n hx hb dX0_tell_33 rfl (lv_at hl 1 rfl) ?_
              refine lv_iload_n hx hb dX0_tell_34 rfl (lv_at hl 0 rfl) ?_
              refine rdV (rest := [.int (nI sq)]) (q0 := 25) ⟨hx, hb, hml, hown, hts⟩ (x_X0_bitOf l G x xa ta a b ga ua la lb lc tg gg xf tf f qf gf uf lf mf nf (up2 tr 7 x5) r q gr ur lr mr nr k mm (by omega) hg4 (by omega)) mi_yX0_bitOf mv_yX0_bitOf ml_X0_110 ⟨rfl, rfl, Nat.le_of_ble_eq_true rfl, Nat.le_of_ble_eq_true rfl⟩ hK (hP) rfl rfl rfl hl.1 rfl (Nat.le_of_ble_eq_true rfl) dX0_tell_35 ⟨Nat.zero_le _, Nat.zero_le _⟩ hS hA hP (fun r7 H locs hr7 hP hS => ?_)
              obtain rfl := hr7
              refine lv_topi (fun v8 ev8 => ?_)
              refine lv_iand hx hb dX0_tell_38 ?_
              refine lv_topi (fun v9 ev9 => ?_)
              refine lv_if_eq (tgt := 54) hx hb dX0_tell_39 (by decide) (fun c10 => ?_) (fun c10 => ?_)
              · have hbt := bt_n (s := sq) (v := mm - 1 - k) (by omega) ev9 ev8 c10
                obtain ⟨v11, ev11⟩ : ∃ y9 : Int32, y9 = (nI k) + Int32.ofInt (1) := ⟨_, rfl⟩
                refine lv_iinc (v := v11) (lv' := [(3, .int v11), (0, .ref (ga 9)), (1, .ref (ta 0)), (2, .int (nI sq))]) hx hb dX0_tell_54 hl (k := 0) rfl ev11.symm (by decide) rfl (fun ls hl => ?_)
                obtain rfl : v11 = nI (k + 1) := nI_plus (i := k) (j := 1) ev11 rfl (by decide)
                refine lv_goto (tgt := 24) hx hb dX0_tell_57 (by decide) ?_
                exact ih24k4 (k + 1) x5 (by omega) (by omega) (tg_n hy hbt) _ _ _ hP hS (lv_sub hl [0, 1, 2, 3] rfl)
              · have hbt := bt_y (s := sq) (v := mm - 1 - k) (by omega) ev9 ev8 c10
                refine lv_aload_n hx hb dX0_tell_42 rfl (lv_at hl 2 rfl) ?_
                refine lv_aload_n hx hb dX0_tell_43 rfl (lv_at hl 1 rfl) ?_
                refine va_get (D := G.1) (ci := 0) (v := .ref (ga 1)) (C := RX0) (T := TX0) (N := 9) hx hb hts inX0 hown hK.1 hP 25 rfl rfl 1 (by decide) (hts _ mf_X0_15) (fun _ h9 => h9) rfl dX0_tell_44 ?_
                refine lv_iload_n hx hb dX0_tell_47 rfl (lv_at hl 0 rfl) ?_
                refine xiald (f := (gr 1)) hx hb hK hP 27 (k) (rfl) (by omega) (by decide) rfl dX0_tell_48 ?_
                refine lv_topi (fun v12 ev12 => ?_)
                obtain ⟨xx, yy, hy9, hn9, hM9, hr9⟩ := rk_ex (M := (mayA (r 8) (r 10) rw cl)) (12 * rw) (show k < rkG (mayA (r 8) (r 10) rw cl) (12 * rw) by omega)
                have hc9 := (hgc xx yy hM9 hn9 (by omega)).1
                rw [hr9] at hc9
                have hxx := hM9.1
                have hyy := hM9.2.1
                obtain rfl : v12 = nI (xx * 12 + yy) := ev12.trans (hc9)
                refine lv_iconst (v := 2) hx hb dX0_tell_49 (by decide) ?_
                refine lv_iconst (v := 1) hx hb dX0_tell_50 (by decide) ?_
                refine lawV (rest := []) (q0 := 0) ⟨hx, hb, hml, hown, hts⟩ (e_X4_tell l G ta tf (up2 tr 7 x5) (xx * 12 + yy) 2 1 (by omega)) mi_yX4_tell mv_yX4_tell ml_X0_75 ⟨rfl, rfl, Nat.le_of_ble_eq_true rfl, Nat.le_of_ble_eq_true rfl⟩ hK hP (hDD _ _ _ _ _ _ _ _ _ _ _ _ _ _ _ _ _) (pl_perm (xBlk G x xa ta a b ga ua la lb lc tg gg xf tf f qf gf uf lf mf nf (up2 tr 7 x5) r q gr ur lr mr nr) (sel := [1]) (oth := [0, 2, 3, 4, 5, 6, 7, 8, 9]) (by decide)) rfl rfl rfl hl.1 rfl (Nat.le_of_ble_eq_true rfl) dX0_tell_51 ⟨Nat.zero_le _, Nat.zero_le _⟩ hS hA (fun w15 H locs hw15 hP hS => ?_)
                obtain ⟨x13, rfl, g7⟩ := hw15
                have hP : PP G (xM G x xa ta a b ga ua la lb lc tg gg xf tf f qf gf uf lf mf nf (up2 tr 7 x13) r q gr ur lr mr nr) H := (hP rfl (xM G x xa ta a b ga ua la lb lc tg gg xf tf f qf gf uf lf mf nf (up2 tr 7 x13) r q gr ur lr mr nr) (pl_perm (xBlk G x xa ta a b ga ua la lb lc tg gg xf tf f qf gf uf lf mf nf (up2 tr 7 x13) r q gr ur lr mr nr) (sel := [1]) (oth := [0, 2, 3, 4, 5, 6, 7, 8, 9]) (by decide))).1
                obtain ⟨v16, ev16⟩ : ∃ y9 : Int32, y9 = (nI k) + Int32.ofInt (1) := ⟨_, rfl⟩
                refine lv_iinc (v := v16) (lv' := [(3, .int v16), (0, .ref (ga 9)), (1, .ref (ta 0)), (2, .int (nI sq))]) hx hb dX0_tell_54 hl (k := 0) rfl ev16.symm (by decide) rfl (fun ls hl => ?_)
                obtain rfl : v16 = nI (k + 1) := nI_plus (i := k) (j := 1) ev16 rfl (by decide)
                refine lv_goto (tgt := 24) hx hb dX0_tell_57 (by decide) ?_
                exact ih24k4 (k + 1) x13 (by omega) (by omega) (by rw [g7]; exact tg_y hM12 hM9 hr9 hbt hy (by omega) (if_neg (by decide))) _ _ _ hP hS (lv_sub hl [0, 1, 2, 3] rfl)
        exact loop24 (mm + 1) 0 x2 (by omega) (by omega) (fun x y h8 h9 => tg_0 (hz _ (by omega)) (by omega)) _ _ _ hP hS (lv_sub hl [0, 1, 2, 3] rfl)
      · have b6 := qge_f (a := n) (b := 144) (by omega) (by omega) c3
        refine lv_aload_n hx hb dX0_tell_9 rfl (lv_at hl 2 rfl) ?_
        refine lv_iload_n hx hb dX0_tell_10 rfl (lv_at hl 0 rfl) ?_
        refine lv_iconst (v := 2) hx hb dX0_tell_11 (by decide) ?_
        refine lv_iconst (v := 0) hx hb dX0_tell_12 (by decide) ?_
        refine lawV (rest := []) (q0 := 0) ⟨hx, hb, hml, hown, hts⟩ (e_X4_tell l G ta tf (up2 tr 7 x2) n 2 0 (by omega)) mi_yX4_tell mv_yX4_tell ml_X0_75 ⟨rfl, rfl, Nat.le_of_ble_eq_true rfl, Nat.le_of_ble_eq_true rfl⟩ hK hP (hDD _ _ _ _ _ _ _ _ _ _ _ _ _ _ _ _ _) (pl_perm (xBlk G x xa ta a b ga ua la lb lc tg gg xf tf f qf gf uf lf mf nf (up2 tr 7 x2) r q gr ur lr mr nr) (sel := [1]) (oth := [0, 2, 3, 4, 5, 6, 7, 8, 9]) (by decide)) rfl rfl rfl hl.1 rfl (Nat.le_of_ble_eq_true rfl) dX0_tell_13 ⟨Nat.zero_le _, Nat.zero_le _⟩ hS hA (fun w19 H locs hw19 hP hS => ?_)
        obtain ⟨x17, rfl, g7⟩ := hw19
        have hP : PP G (xM G x xa ta a b ga ua la lb lc tg gg xf tf f qf gf uf lf mf nf (up2 tr 7 x17) r q gr ur lr mr nr) H := (hP rfl (xM G x xa ta a b ga ua la lb lc tg gg xf tf f qf gf uf lf mf nf (up2 tr 7 x17) r q gr ur lr mr nr) (pl_perm (xBlk G x xa ta a b ga ua la lb lc tg gg xf tf f qf gf uf lf mf nf (up2 tr 7 x17) r q gr ur lr mr nr) (sel := [1]) (oth := [0, 2, 3, 4, 5, 6, 7, 8, 9]) (by decide))).1
        obtain ⟨v20, ev20⟩ : ∃ y9 : Int32, y9 = (nI n) + Int32.ofInt (1) := ⟨_, rfl⟩
        refine lv_iinc (v := v20) (lv' := [(3, .int v20), (0, .ref (ga 9)), (1, .ref (ta 0)), (2, .int (nI sq))]) hx hb dX0_tell_16 hl (k := 0) rfl ev20.symm (by decide) rfl (fun ls hl => ?_)
        obtain rfl : v20 = nI (n + 1) := nI_plus (i := n) (j := 1) ev20 rfl (by decide)
        refine lv_goto (tgt := 2) hx hb dX0_tell_19 (by decide) ?_
        exact ih2k1 (n + 1) x17 (by omega) (by omega) (by rw [g7]; exact tg_c hz (by omega) (if_pos rfl)) _ _ _ hP hS (lv_sub hl [0, 1, 2, 3] rfl)
  exact loop2 (144 + 1) 0 (tr 7) (by omega) (by omega) (fun p _ => (if_neg (by omega)).symm) _ _ _ hP hS (lv_sub hl [0, 1, 2, 3] rfl)
