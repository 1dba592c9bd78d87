theorem mf_X0_52 : Cond.fieldLink RX0 52 "CellKeeper$Reader" "secret" "[I" ∈ TB := TB_t1 71 rfl rfl
theorem ml_X0_126 : Cond.methodLink RX0 126 yX2_keepSecretsAlone ∈ TB := TB_t3 223 rfl rfl
theorem mcode_yX2_keepSecretsAlone : Cond.code yX2_keepSecretsAlone cX2_keepSecretsAlone 4 none ∈ TB := TB_t3 226 rfl rfl
theorem mi_yX2_keepSecretsAlone : MI yX2_keepSecretsAlone cX2_keepSecretsAlone 4 none 0 := ⟨mz_RX2, mcode_yX2_keepSecretsAlone, by decide +kernel, by decide +kernel, by decide +kernel⟩
theorem mim_yX2_keepSecretsAlone : Cond.instanceMethod yX2_keepSecretsAlone ∈ TB := TB_t3 224 rfl rfl
theorem msel_yX2_keepSecretsAlone : Cond.selects yX2_keepSecretsAlone.cls yX2_keepSecretsAlone yX2_keepSecretsAlone ∈ TB := TB_t3 225 rfl rfl
theorem mv_yX2_keepSecretsAlone : Cond.instanceMethod yX2_keepSecretsAlone ∈ TB ∧ Cond.selects yX2_keepSecretsAlone.cls yX2_keepSecretsAlone yX2_keepSecretsAlone ∈ TB := ⟨mim_yX2_keepSecretsAlone, msel_yX2_keepSecretsAlone⟩
theorem ml_X0_59 : Cond.methodLink RX0 59 yX2_isSafe ∈ TB := TB_t3 176 rfl rfl
theorem kcX0_gather_0 : CHb cX0_gather 0 [42, 3, 181, 0, 25, 3, 62, 29, 44, 180, 0, 44, 162, 0, 131, 3, 54, 4, 21, 4, 44, 180, 0, 49, 162, 0, 113, 29, 21, 4, 184, 0, 55, 54, 5, 44, 180, 0, 92, 21, 5, 46, 54, 6, 21, 6, 153, 0, 23, 21, 6, 7, 159, 0, 17, 44, 180, 0, 52, 21, 5, 46, 154, 0] := CHb_of (by decide +kernel)
theorem dX0_gather_0 : decode cX0_gather 0 = .ok (.aload_n 0, 1) := dw_42 (kcX0_gather_0 0 42 rfl)
theorem dX0_gather_1 : decode cX0_gather 1 = .ok (.iconst 0, 1) := dw_3 (kcX0_gather_0 1 3 rfl)
theorem dX0_gather_2 : decode cX0_gather 2 = .ok (.putfield 25, 3) := dw_181 (kcX0_gather_0 2 181 rfl) (kcX0_gather_0 3 0 rfl) (kcX0_gather_0 4 25 rfl) rfl
theorem dX0_gather_5 : decode cX0_gather 5 = .ok (.iconst 0, 1) := dw_3 (kcX0_gather_0 5 3 rfl)
theorem dX0_gather_6 : decode cX0_gather 6 = .ok (.istore_n 3, 1) := dw_62 (kcX0_gather_0 6 62 rfl)
theorem dX0_gather_7 : decode cX0_gather 7 = .ok (.iload_n 3, 1) := dw_29 (kcX0_gather_0 7 29 rfl)
theorem dX0_gather_8 : decode cX0_gather 8 = .ok (.aload_n 2, 1) := dw_44 (kcX0_gather_0 8 44 rfl)
theorem dX0_gather_9 : decode cX0_gather 9 = .ok (.getfield 44, 3) := dw_180 (kcX0_gather_0 9 180 rfl) (kcX0_gather_0 10 0 rfl) (kcX0_gather_0 11 44 rfl) rfl
theorem dX0_gather_12 : decode cX0_gather 12 = .ok (.if_icmp .ge 131, 3) := dw_162 (kcX0_gather_0 12 162 rfl) (kcX0_gather_0 13 0 rfl) (kcX0_gather_0 14 131 rfl) rfl
theorem kcX0_gather_2 : CHb cX0_gather 128 [181, 0, 25, 132, 4, 1, 167, 255, 140, 132, 3, 1, 167, 255, 123, 177] := CHb_of (by decide +kernel)
theorem dX0_gather_143 : decode cX0_gather 143 = .ok (.return_, 1) := dw_177 (kcX0_gather_2 15 177 rfl)
theorem dX0_gather_15 : decode cX0_gather 15 = .ok (.iconst 0, 1) := dw_3 (kcX0_gather_0 15 3 rfl)
theorem dX0_gather_16 : decode cX0_gather 16 = .ok (.istore 4, 2) := dw_54 (kcX0_gather_0 16 54 rfl) (kcX0_gather_0 17 4 rfl)
theorem dX0_gather_18 : decode cX0_gather 18 = .ok (.iload 4, 2) := dw_21 (kcX0_gather_0 18 21 rfl) (kcX0_gather_0 19 4 rfl)
theorem dX0_gather_20 : decode cX0_gather 20 = .ok (.aload_n 2, 1) := dw_44 (kcX0_gather_0 20 44 rfl)
theorem dX0_gather_21 : decode cX0_gather 21 = .ok (.getfield 49, 3) := dw_180 (kcX0_gather_0 21 180 rfl) (kcX0_gather_0 22 0 rfl) (kcX0_gather_0 23 49 rfl) rfl
theorem dX0_gather_24 : decode cX0_gather 24 = .ok (.if_icmp .ge 113, 3) := dw_162 (kcX0_gather_0 24 162 rfl) (kcX0_gather_0 25 0 rfl) (kcX0_gather_0 26 113 rfl) rfl
theorem dX0_gather_137 : decode cX0_gather 137 = .ok (.iinc 3 1, 3) := dw_132 (kcX0_gather_2 9 132 rfl) (kcX0_gather_2 10 3 rfl) (kcX0_gather_2 11 1 rfl) rfl
theorem dX0_gather_140 : decode cX0_gather 140 = .ok (.goto (-133), 3) := dw_167 (kcX0_gather_2 12 167 rfl) (kcX0_gather_2 13 255 rfl) (kcX0_gather_2 14 123 rfl) rfl
theorem dX0_gather_27 : decode cX0_gather 27 = .ok (.iload_n 3, 1) := dw_29 (kcX0_gather_0 27 29 rfl)
theorem dX0_gather_28 : decode cX0_gather 28 = .ok (.iload 4, 2) := dw_21 (kcX0_gather_0 28 21 rfl) (kcX0_gather_0 29 4 rfl)
theorem dX0_gather_30 : decode cX0_gather 30 = .ok (.invokestatic 55, 3) := dw_184 (kcX0_gather_0 30 184 rfl) (kcX0_gather_0 31 0 rfl) (kcX0_gather_0 32 55 rfl) rfl
theorem dX0_gather_33 : decode cX0_gather 33 = .ok (.istore 5, 2) := dw_54 (kcX0_gather_0 33 54 rfl) (kcX0_gather_0 34 5 rfl)
theorem dX0_gather_35 : decode cX0_gather 35 = .ok (.aload_n 2, 1) := dw_44 (kcX0_gather_0 35 44 rfl)
theorem dX0_gather_36 : decode cX0_gather 36 = .ok (.getfield 92, 3) := dw_180 (kcX0_gather_0 36 180 rfl) (kcX0_gather_0 37 0 rfl) (kcX0_gather_0 38 92 rfl) rfl
theorem dX0_gather_39 : decode cX0_gather 39 = .ok (.iload 5, 2) := dw_21 (kcX0_gather_0 39 21 rfl) (kcX0_gather_0 40 5 rfl)
theorem dX0_gather_41 : decode cX0_gather 41 = .ok (.iaload, 1) := dw_46 (kcX0_gather_0 41 46 rfl)
theorem dX0_gather_42 : decode cX0_gather 42 = .ok (.istore 6, 2) := dw_54 (kcX0_gather_0 42 54 rfl) (kcX0_gather_0 43 6 rfl)
theorem dX0_gather_44 : decode cX0_gather 44 = .ok (.iload 6, 2) := dw_21 (kcX0_gather_0 44 21 rfl) (kcX0_gather_0 45 6 rfl)
theorem dX0_gather_46 : decode cX0_gather 46 = .ok (.ifCond .eq 23, 3) := dw_153 (kcX0_gather_0 46 153 rfl) (kcX0_gather_0 47 0 rfl) (kcX0_gather_0 48 23 rfl) rfl
theorem kcX0_gather_1 : CHb cX0_gather 64 [7, 4, 167, 0, 4, 3, 54, 7, 21, 7, 153, 0, 38, 42, 180, 0, 25, 16, 8, 162, 0, 29, 42, 180, 0, 15, 42, 180, 0, 25, 21, 5, 79, 42, 180, 0, 19, 42, 180, 0, 25, 43, 21, 5, 182, 0, 98, 79, 42, 89, 180, 0, 25, 21, 7, 153, 0, 7, 4, 167, 0, 4, 3, 96] := CHb_of (by decide +kernel)
theorem dX0_gather_69 : decode cX0_gather 69 = .ok (.iconst 0, 1) := dw_3 (kcX0_gather_1 5 3 rfl)
theorem dX0_gather_70 : decode cX0_gather 70 = .ok (.istore 7, 2) := dw_54 (kcX0_gather_1 6 54 rfl) (kcX0_gather_1 7 7 rfl)
theorem dX0_gather_72 : decode cX0_gather 72 = .ok (.iload 7, 2) := dw_21 (kcX0_gather_1 8 21 rfl) (kcX0_gather_1 9 7 rfl)
theorem dX0_gather_74 : decode cX0_gather 74 = .ok (.ifCond .eq 38, 3) := dw_153 (kcX0_gather_1 10 153 rfl) (kcX0_gather_1 11 0 rfl) (kcX0_gather_1 12 38 rfl) rfl
theorem dX0_gather_112 : decode cX0_gather 112 = .ok (.aload_n 0, 1) := dw_42 (kcX0_gather_1 48 42 rfl)
theorem dX0_gather_113 : decode cX0_gather 113 = .ok (.dup, 1) := dw_89 (kcX0_gather_1 49 89 rfl)
theorem dX0_gather_114 : decode cX0_gather 114 = .ok (.getfield 25, 3) := dw_180 (kcX0_gather_1 50 180 rfl) (kcX0_gather_1 51 0 rfl) (kcX0_gather_1 52 25 rfl) rfl
theorem dX0_gather_117 : decode cX0_gather 117 = .ok (.iload 7, 2) := dw_21 (kcX0_gather_1 53 21 rfl) (kcX0_gather_1 54 7 rfl)
theorem dX0_gather_119 : decode cX0_gather 119 = .ok (.ifCond .eq 7, 3) := dw_153 (kcX0_gather_1 55 153 rfl) (kcX0_gather_1 56 0 rfl) (kcX0_gather_1 57 7 rfl) rfl
theorem dX0_gather_126 : decode cX0_gather 126 = .ok (.iconst 0, 1) := dw_3 (kcX0_gather_1 62 3 rfl)
theorem dX0_gather_127 : decode cX0_gather 127 = .ok (.iadd, 1) := dw_96 (kcX0_gather_1 63 96 rfl)
theorem dX0_gather_128 : decode cX0_gather 128 = .ok (.putfield 25, 3) := dw_181 (kcX0_gather_2 0 181 rfl) (kcX0_gather_2 1 0 rfl) (kcX0_gather_2 2 25 rfl) rfl
theorem dX0_gather_131 : decode cX0_gather 131 = .ok (.iinc 4 1, 3) := dw_132 (kcX0_gather_2 3 132 rfl) (kcX0_gather_2 4 4 rfl) (kcX0_gather_2 5 1 rfl) rfl
theorem dX0_gather_134 : decode cX0_gather 134 = .ok (.goto (-116), 3) := dw_167 (kcX0_gather_2 6 167 rfl) (kcX0_gather_2 7 255 rfl) (kcX0_gather_2 8 140 rfl) rfl
theorem dX0_gather_49 : decode cX0_gather 49 = .ok (.iload 6, 2) := dw_21 (kcX0_gather_0 49 21 rfl) (kcX0_gather_0 50 6 rfl)
theorem dX0_gather_51 : decode cX0_gather 51 = .ok (.iconst 4, 1) := dw_7 (kcX0_gather_0 51 7 rfl)
theorem dX0_gather_52 : decode cX0_gather 52 = .ok (.if_icmp .eq 17, 3) := dw_159 (kcX0_gather_0 52 159 rfl) (kcX0_gather_0 53 0 rfl) (kcX0_gather_0 54 17 rfl) rfl
theorem dX0_gather_55 : decode cX0_gather 55 = .ok (.aload_n 2, 1) := dw_44 (kcX0_gather_0 55 44 rfl)
theorem dX0_gather_56 : decode cX0_gather 56 = .ok (.getfield 52, 3) := dw_180 (kcX0_gather_0 56 180 rfl) (kcX0_gather_0 57 0 rfl) (kcX0_gather_0 58 52 rfl) rfl
theorem dX0_gather_59 : decode cX0_gather 59 = .ok (.iload 5, 2) := dw_21 (kcX0_gather_0 59 21 rfl) (kcX0_gather_0 60 5 rfl)
theorem dX0_gather_61 : decode cX0_gather 61 = .ok (.iaload, 1) := dw_46 (kcX0_gather_0 61 46 rfl)
theorem dX0_gather_62 : decode cX0_gather 62 = .ok (.ifCond .ne 7, 3) := dw_154 (kcX0_gather_0 62 154 rfl) (kcX0_gather_0 63 0 rfl) (kcX0_gather_1 0 7 rfl) rfl
theorem dX0_gather_65 : decode cX0_gather 65 = .ok (.iconst 1, 1) := dw_4 (kcX0_gather_1 1 4 rfl)
theorem dX0_gather_66 : decode cX0_gather 66 = .ok (.goto 4, 3) := dw_167 (kcX0_gather_1 2 167 rfl) (kcX0_gather_1 3 0 rfl) (kcX0_gather_1 4 4 rfl) rfl
theorem dX0_gather_77 : decode cX0_gather 77 = .ok (.aload_n 0, 1) := dw_42 (kcX0_gather_1 13 42 rfl)
theorem dX0_gather_78 : decode cX0_gather 78 = .ok (.getfield 25, 3) := dw_180 (kcX0_gather_1 14 180 rfl) (kcX0_gather_1 15 0 rfl) (kcX0_gather_1 16 25 rfl) rfl
theorem dX0_gather_81 : decode cX0_gather 81 = .ok (.bipush 8, 2) := dw_16 (kcX0_gather_1 17 16 rfl) (kcX0_gather_1 18 8 rfl) rfl
theorem dX0_gather_83 : decode cX0_gather 83 = .ok (.if_icmp .ge 29, 3) := dw_162 (kcX0_gather_1 19 162 rfl) (kcX0_gather_1 20 0 rfl) (kcX0_gather_1 21 29 rfl) rfl
theorem dX0_gather_122 : decode cX0_gather 122 = .ok (.iconst 1, 1) := dw_4 (kcX0_gather_1 58 4 rfl)
theorem dX0_gather_123 : decode cX0_gather 123 = .ok (.goto 4, 3) := dw_167 (kcX0_gather_1 59 167 rfl) (kcX0_gather_1 60 0 rfl) (kcX0_gather_1 61 4 rfl) rfl
theorem dX0_gather_86 : decode cX0_gather 86 = .ok (.aload_n 0, 1) := dw_42 (kcX0_gather_1 22 42 rfl)
theorem dX0_gather_87 : decode cX0_gather 87 = .ok (.getfield 15, 3) := dw_180 (kcX0_gather_1 23 180 rfl) (kcX0_gather_1 24 0 rfl) (kcX0_gather_1 25 15 rfl) rfl
theorem dX0_gather_90 : decode cX0_gather 90 = .ok (.aload_n 0, 1) := dw_42 (kcX0_gather_1 26 42 rfl)
theorem dX0_gather_91 : decode cX0_gather 91 = .ok (.getfield 25, 3) := dw_180 (kcX0_gather_1 27 180 rfl) (kcX0_gather_1 28 0 rfl) (kcX0_gather_1 29 25 rfl) rfl
theorem dX0_gather_94 : decode cX0_gather 94 = .ok (.iload 5, 2) := dw_21 (kcX0_gather_1 30 21 rfl) (kcX0_gather_1 31 5 rfl)
theorem dX0_gather_96 : decode cX0_gather 96 = .ok (.iastore, 1) := dw_79 (kcX0_gather_1 32 79 rfl)
theorem dX0_gather_97 : decode cX0_gather 97 = .ok (.aload_n 0, 1) := dw_42 (kcX0_gather_1 33 42 rfl)
theorem dX0_gather_98 : decode cX0_gather 98 = .ok (.getfield 19, 3) := dw_180 (kcX0_gather_1 34 180 rfl) (kcX0_gather_1 35 0 rfl) (kcX0_gather_1 36 19 rfl) rfl
theorem dX0_gather_101 : decode cX0_gather 101 = .ok (.aload_n 0, 1) := dw_42 (kcX0_gather_1 37 42 rfl)
theorem dX0_gather_102 : decode cX0_gather 102 = .ok (.getfield 25, 3) := dw_180 (kcX0_gather_1 38 180 rfl) (kcX0_gather_1 39 0 rfl) (kcX0_gather_1 40 25 rfl) rfl
theorem dX0_gather_105 : decode cX0_gather 105 = .ok (.aload_n 1, 1) := dw_43 (kcX0_gather_1 41 43 rfl)
theorem dX0_gather_106 : decode cX0_gather 106 = .ok (.iload 5, 2) := dw_21 (kcX0_gather_1 42 21 rfl) (kcX0_gather_1 43 5 rfl)
theorem dX0_gather_108 : decode cX0_gather 108 = .ok (.invokevirtual 98, 3) := dw_182 (kcX0_gather_1 44 182 rfl) (kcX0_gather_1 45 0 rfl) (kcX0_gather_1 46 98 rfl) rfl
theorem dX0_gather_111 : decode cX0_gather 111 = .ok (.iastore, 1) := dw_79 (kcX0_gather_1 47 79 rfl)
theorem kcX0_guards_0 : CHb cX0_guards 0 [43, 182, 0, 126, 3, 62, 29, 42, 180, 0, 25, 162, 0, 29, 28, 42, 29, 182, 0, 110, 126, 153, 0, 13, 43, 42, 180, 0, 15, 29, 46, 182, 0, 106, 132, 3, 1, 167, 255, 225, 42, 180, 0, 29, 2, 159, 0, 20, 43, 42, 180, 0, 29, 42, 180, 0, 32, 182, 0, 59, 154, 0, 5, 3] := CHb_of (by decide +kernel)
theorem dX0_guards_0 : decode cX0_guards 0 = .ok (.aload_n 1, 1) := dw_43 (kcX0_guards_0 0 43 rfl)
theorem dX0_guards_1 : decode cX0_guards 1 = .ok (.invokevirtual 126, 3) := dw_182 (kcX0_guards_0 1 182 rfl) (kcX0_guards_0 2 0 rfl) (kcX0_guards_0 3 126 rfl) rfl
theorem dX0_guards_4 : decode cX0_guards 4 = .ok (.iconst 0, 1) := dw_3 (kcX0_guards_0 4 3 rfl)
theorem dX0_guards_5 : decode cX0_guards 5 = .ok (.istore_n 3, 1) := dw_62 (kcX0_guards_0 5 62 rfl)
theorem kcX0_guards_1 : CHb cX0_guards 64 [172, 3, 62, 29, 43, 180, 0, 44, 162, 0, 64, 3, 54, 4, 21, 4, 43, 180, 0, 49, 162, 0, 46, 43, 180, 0, 52, 29, 21, 4, 184, 0, 55, 46, 153, 0, 26, 43, 29, 21, 4, 182, 0, 59, 154, 0, 16, 42, 29, 181, 0, 29, 42, 21, 4, 181, 0, 32, 3, 172, 132, 4, 1, 167] := CHb_of (by decide +kernel)
theorem dX0_guards_65 : decode cX0_guards 65 = .ok (.iconst 0, 1) := dw_3 (kcX0_guards_1 1 3 rfl)
theorem dX0_guards_66 : decode cX0_guards 66 = .ok (.istore_n 3, 1) := dw_62 (kcX0_guards_1 2 62 rfl)
theorem dX0_guards_67 : decode cX0_guards 67 = .ok (.iload_n 3, 1) := dw_29 (kcX0_guards_1 3 29 rfl)
theorem dX0_guards_68 : decode cX0_guards 68 = .ok (.aload_n 1, 1) := dw_43 (kcX0_guards_1 4 43 rfl)
theorem dX0_guards_69 : decode cX0_guards 69 = .ok (.getfield 44, 3) := dw_180 (kcX0_guards_1 5 180 rfl) (kcX0_guards_1 6 0 rfl) (kcX0_guards_1 7 44 rfl) rfl
theorem dX0_guards_72 : decode cX0_guards 72 = .ok (.if_icmp .ge 64, 3) := dw_162 (kcX0_guards_1 8 162 rfl) (kcX0_guards_1 9 0 rfl) (kcX0_guards_1 10 64 rfl) rfl
theorem kcX0_guards_2 : CHb cX0_guards 128 [255, 207, 132, 3, 1, 167, 255, 190, 4, 172] := CHb_of (by decide +kernel)
theorem dX0_guards_136 : decode cX0_guards 136 = .ok (.iconst 1, 1) := dw_4 (kcX0_guards_2 8 4 rfl)
theorem dX0_guards_137 : decode cX0_guards 137 = .ok (.ireturn, 1) := dw_172 (kcX0_guards_2 9 172 rfl)
theorem dX0_guards_75 : decode cX0_guards 75 = .ok (.iconst 0, 1) := dw_3 (kcX0_guards_1 11 3 rfl)
theorem dX0_guards_76 : decode cX0_guards 76 = .ok (.istore 4, 2) := dw_54 (kcX0_guards_1 12 54 rfl) (kcX0_guards_1 13 4 rfl)
theorem dX0_guards_78 : decode cX0_guards 78 = .ok (.iload 4, 2) := dw_21 (kcX0_guards_1 14 21 rfl) (kcX0_guards_1 15 4 rfl)
theorem dX0_guards_80 : decode cX0_guards 80 = .ok (.aload_n 1, 1) := dw_43 (kcX0_guards_1 16 43 rfl)
theorem dX0_guards_81 : decode cX0_guards 81 = .ok (.getfield 49, 3) := dw_180 (kcX0_guards_1 17 180 rfl) (kcX0_guards_1 18 0 rfl) (kcX0_guards_1 19 49 rfl) rfl
theorem dX0_guards_84 : decode cX0_guards 84 = .ok (.if_icmp .ge 46, 3) := dw_162 (kcX0_guards_1 20 162 rfl) (kcX0_guards_1 21 0 rfl) (kcX0_guards_1 22 46 rfl) rfl
theorem dX0_guards_130 : decode cX0_guards 130 = .ok (.iinc 3 1, 3) := dw_132 (kcX0_guards_2 2 132 rfl) (kcX0_guards_2 3 3 rfl) (kcX0_guards_2 4 1 rfl) rfl
theorem dX0_guards_133 : decode cX0_guards 133 = .ok (.goto (-66), 3) := dw_167 (kcX0_guards_2 5 167 rfl) (kcX0_guards_2 6 255 rfl) (kcX0_guards_2 7 190 rfl) rfl
theorem dX0_guards_87 : decode cX0_guards 87 = .ok (.aload_n 1, 1) := dw_43 (kcX0_guards_1 23 43 rfl)
theorem dX0_guards_88 : decode cX0_guards 88 = .ok (.getfield 52, 3) := dw_180 (kcX0_guards_1 24 180 rfl) (kcX0_guards_1 25 0 rfl) (kcX0_guards_1 26 52 rfl) rfl
theorem dX0_guards_91 : decode cX0_guards 91 = .ok (.iload_n 3, 1) := dw_29 (kcX0_guards_1 27 29 rfl)
theorem dX0_guards_92 : decode cX0_guards 92 = .ok (.iload 4, 2) := dw_21 (kcX0_guards_1 28 21 rfl) (kcX0_guards_1 29 4 rfl)
theorem dX0_guards_94 : decode cX0_guards 94 = .ok (.invokestatic 55, 3) := dw_184 (kcX0_guards_1 30 184 rfl) (kcX0_guards_1 31 0 rfl) (kcX0_guards_1 32 55 rfl) rfl
theorem dX0_guards_97 : decode cX0_guards 97 = .ok (.iaload, 1) := dw_46 (kcX0_guards_1 33 46 rfl)
theorem dX0_guards_98 : decode cX0_guards 98 = .ok (.ifCond .eq 26, 3) := dw_153 (kcX0_guards_1 34 153 rfl) (kcX0_guards_1 35 0 rfl) (kcX0_guards_1 36 26 rfl) rfl
theorem dX0_guards_124 : decode cX0_guards 124 = .ok (.iinc 4 1, 3) := dw_132 (kcX0_guards_1 60 132 rfl) (kcX0_guards_1 61 4 rfl) (kcX0_guards_1 62 1 rfl) rfl
theorem dX0_guards_127 : decode cX0_guards 127 = .ok (.goto (-49), 3) := dw_167 (kcX0_guards_1 63 167 rfl) (kcX0_guards_2 0 255 rfl) (kcX0_guards_2 1 207 rfl) rfl
theorem dX0_guards_101 : decode cX0_guards 101 = .ok (.aload_n 1, 1) := dw_43 (kcX0_guards_1 37 43 rfl)
theorem dX0_guards_102 : decode cX0_guards 102 = .ok (.iload_n 3, 1) := dw_29 (kcX0_guards_1 38 29 rfl)
theorem dX0_guards_103 : decode cX0_guards 103 = .ok (.iload 4, 2) := dw_21 (kcX0_guards_1 39 21 rfl) (kcX0_guards_1 40 4 rfl)
theorem dX0_guards_105 : decode cX0_guards 105 = .ok (.invokevirtual 59, 3) := dw_182 (kcX0_guards_1 41 182 rfl) (kcX0_guards_1 42 0 rfl) (kcX0_guards_1 43 59 rfl) rfl
theorem dX0_guards_108 : decode cX0_guards 108 = .ok (.ifCond .ne 16, 3) := dw_154 (kcX0_guards_1 44 154 rfl) (kcX0_guards_1 45 0 rfl) (kcX0_guards_1 46 16 rfl) rfl
theorem dX0_guards_111 : decode cX0_guards 111 = .ok (.aload_n 0, 1) := dw_42 (kcX0_guards_1 47 42 rfl)
theorem dX0_guards_112 : decode cX0_guards 112 = .ok (.iload_n 3, 1) := dw_29 (kcX0_guards_1 48 29 rfl)
theorem dX0_guards_113 : decode cX0_guards 113 = .ok (.putfield 29, 3) := dw_181 (kcX0_guards_1 49 181 rfl) (kcX0_guards_1 50 0 rfl) (kcX0_guards_1 51 29 rfl) rfl
theorem dX0_guards_116 : decode cX0_guards 116 = .ok (.aload_n 0, 1) := dw_42 (kcX0_guards_1 52 42 rfl)
theorem dX0_guards_117 : decode cX0_guards 117 = .ok (.iload 4, 2) := dw_21 (kcX0_guards_1 53 21 rfl) (kcX0_guards_1 54 4 rfl)
theorem dX0_guards_119 : decode cX0_guards 119 = .ok (.putfield 32, 3) := dw_181 (kcX0_guards_1 55 181 rfl) (kcX0_guards_1 56 0 rfl) (kcX0_guards_1 57 32 rfl) rfl
theorem dX0_guards_122 : decode cX0_guards 122 = .ok (.iconst 0, 1) := dw_3 (kcX0_guards_1 58 3 rfl)
theorem dX0_guards_123 : decode cX0_guards 123 = .ok (.ireturn, 1) := dw_172 (kcX0_guards_1 59 172 rfl)
theorem dX0_guards_6 : decode cX0_guards 6 = .ok (.iload_n 3, 1) := dw_29 (kcX0_guards_0 6 29 rfl)
theorem dX0_guards_7 : decode cX0_guards 7 = .ok (.aload_n 0, 1) := dw_42 (kcX0_guards_0 7 42 rfl)
theorem dX0_guards_8 : decode cX0_guards 8 = .ok (.getfield 25, 3) := dw_180 (kcX0_guards_0 8 180 rfl) (kcX0_guards_0 9 0 rfl) (kcX0_guards_0 10 25 rfl) rfl
theorem dX0_guards_11 : decode cX0_guards 11 = .ok (.if_icmp .ge 29, 3) := dw_162 (kcX0_guards_0 11 162 rfl) (kcX0_guards_0 12 0 rfl) (kcX0_guards_0 13 29 rfl) rfl
theorem dX0_guards_40 : decode cX0_guards 40 = .ok (.aload_n 0, 1) := dw_42 (kcX0_guards_0 40 42 rfl)
theorem dX0_guards_41 : decode cX0_guards 41 = .ok (.getfield 29, 3) := dw_180 (kcX0_guards_0 41 180 rfl) (kcX0_guards_0 42 0 rfl) (kcX0_guards_0 43 29 rfl) rfl
theorem dX0_guards_44 : decode cX0_guards 44 = .ok (.iconst (-1), 1) := dw_2 (kcX0_guards_0 44 2 rfl)
theorem dX0_guards_45 : decode cX0_guards 45 = .ok (.if_icmp .eq 20, 3) := dw_159 (kcX0_guards_0 45 159 rfl) (kcX0_guards_0 46 0 rfl) (kcX0_guards_0 47 20 rfl) rfl
theorem dX0_guards_48 : decode cX0_guards 48 = .ok (.aload_n 1, 1) := dw_43 (kcX0_guards_0 48 43 rfl)
theorem dX0_guards_49 : decode cX0_guards 49 = .ok (.aload_n 0, 1) := dw_42 (kcX0_guards_0 49 42 rfl)
theorem dX0_guards_50 : decode cX0_guards 50 = .ok (.getfield 29, 3) := dw_180 (kcX0_guards_0 50 180 rfl) (kcX0_guards_0 51 0 rfl) (kcX0_guards_0 52 29 rfl) rfl
theorem dX0_guards_53 : decode cX0_guards 53 = .ok (.aload_n 0, 1) := dw_42 (kcX0_guards_0 53 42 rfl)
theorem dX0_guards_54 : decode cX0_guards 54 = .ok (.getfield 32, 3) := dw_180 (kcX0_guards_0 54 180 rfl) (kcX0_guards_0 55 0 rfl) (kcX0_guards_0 56 32 rfl) rfl
theorem dX0_guards_57 : decode cX0_guards 57 = .ok (.invokevirtual 59, 3) := dw_182 (kcX0_guards_0 57 182 rfl) (kcX0_guards_0 58 0 rfl) (kcX0_guards_0 59 59 rfl) rfl
theorem dX0_guards_60 : decode cX0_guards 60 = .ok (.ifCond .ne 5, 3) := dw_154 (kcX0_guards_0 60 154 rfl) (kcX0_guards_0 61 0 rfl) (kcX0_guards_0 62 5 rfl) rfl
theorem dX0_guards_63 : decode cX0_guards 63 = .ok (.iconst 0, 1) := dw_3 (kcX0_guards_0 63 3 rfl)
theorem dX0_guards_64 : decode cX0_guards 64 = .ok (.ireturn, 1) := dw_172 (kcX0_guards_1 0 172 rfl)
theorem dX0_guards_14 : decode cX0_guards 14 = .ok (.iload_n 2, 1) := dw_28 (kcX0_guards_0 14 28 rfl)
theorem dX0_guards_15 : decode cX0_guards 15 = .ok (.aload_n 0, 1) := dw_42 (kcX0_guards_0 15 42 rfl)
theorem dX0_guards_16 : decode cX0_guards 16 = .ok (.iload_n 3, 1) := dw_29 (kcX0_guards_0 16 29 rfl)
theorem dX0_guards_17 : decode cX0_guards 17 = .ok (.invokevirtual 110, 3) := dw_182 (kcX0_guards_0 17 182 rfl) (kcX0_guards_0 18 0 rfl) (kcX0_guards_0 19 110 rfl) rfl
theorem dX0_guards_20 : decode cX0_guards 20 = .ok (.iand, 1) := dw_126 (kcX0_guards_0 20 126 rfl)
theorem dX0_guards_21 : decode cX0_guards 21 = .ok (.ifCond .eq 13, 3) := dw_153 (kcX0_guards_0 21 153 rfl) (kcX0_guards_0 22 0 rfl) (kcX0_guards_0 23 13 rfl) rfl
theorem dX0_guards_34 : decode cX0_guards 34 = .ok (.iinc 3 1, 3) := dw_132 (kcX0_guards_0 34 132 rfl) (kcX0_guards_0 35 3 rfl) (kcX0_guards_0 36 1 rfl) rfl
theorem dX0_guards_37 : decode cX0_guards 37 = .ok (.goto (-31), 3) := dw_167 (kcX0_guards_0 37 167 rfl) (kcX0_guards_0 38 255 rfl) (kcX0_guards_0 39 225 rfl) rfl
theorem dX0_guards_24 : decode cX0_guards 24 = .ok (.aload_n 1, 1) := dw_43 (kcX0_guards_0 24 43 rfl)
theorem dX0_guards_25 : decode cX0_guards 25 = .ok (.aload_n 0, 1) := dw_42 (kcX0_guards_0 25 42 rfl)
theorem dX0_guards_26 : decode cX0_guards 26 = .ok (.getfield 15, 3) := dw_180 (kcX0_guards_0 26 180 rfl) (kcX0_guards_0 27 0 rfl) (kcX0_guards_0 28 15 rfl) rfl
theorem dX0_guards_29 : decode cX0_guards 29 = .ok (.iload_n 3, 1) := dw_29 (kcX0_guards_0 29 29 rfl)
theorem dX0_guards_30 : decode cX0_guards 30 = .ok (.iaload, 1) := dw_46 (kcX0_guards_0 30 46 rfl)
theorem dX0_guards_31 : decode cX0_guards 31 = .ok (.invokevirtual 106, 3) := dw_182 (kcX0_guards_0 31 182 rfl) (kcX0_guards_0 32 0 rfl) (kcX0_guards_0 33 106 rfl) rfl
theorem chP_s {c : Nat → Int32} {n sp : Nat} (h : chP c (min n 8)) (hn : n < 8) (hs : sp < 144) : chP (upd c n (nI sp)) (min (n + 1) 8) := by
  intro k hk
  by_cases e : k = n
  · subst e; exact ⟨sp, hs, pk_us⟩
  · rw [pk_un e]; exact h k (by omega)
theorem chP_m {c : Nat → Int32} {n m : Nat} (h : chP c n) (e : m = n) : chP c m := e ▸ h
set_option maxHeartbeats 4000000 in
set_option maxRecDepth 100000 in
theorem c_X0_gather (l : Launch) (G : GG) (ga : Nat → Nat) (gf : Nat → Int32) (gr : Nat → Nat → Int32) (a b : Nat → Nat) (f : Nat → Int32) (r : Nat → Nat → Int32) (ta : Nat → Nat) (tf : Nat → Int32) (tr : Nat → Nat → Int32) (rw cl : Nat) (hrw : rw ≤ 12) (hcl : cl ≤ 12) (h0 : f 0 = nI rw) (h1 : f 1 = nI cl) : WrV l yX0_gather cX0_gather 8 ({ frames := 1, cells := 0, slots := 0, locals := 21 }) G ([((ga 9), .inr (0, [.ref (ga 0), .ref (ga 1), .ref (ga 2), .ref (ga 3), .int (gf 4), .int (gf 5), .int (gf 6), .int (gf 7), .int (gf 8)])), ((ga 0), .inl (G.2.2.1, 144, .inl (gr 0))), ((ga 1), .inl (G.2.1, 8, .inl (gr 1))), ((ga 2), .inl (G.2.1, 8, .inl (gr 2))), ((ga 3), .inl (G.2.1, 256, .inl (gr 3))), ((a 15), .inr (2, [.int (f 0), .int (f 1), .int (f 2), .int (f 3), .int (f 4), .ref (b 3), .ref (a 6), .ref (a 7), .ref (a 8), .ref (a 9), .ref (a 10), .ref (a 11), .ref (a 12), .ref (a 13), .ref (a 14)])), ((a 6), .inl (G.2.2.1, 12, .inl (r 6))), ((a 7), .inl (G.2.1, 12, .inl (r 7))), ((a 8), .inl (G.2.1, 144, .inl (r 8))), ((a 9), .inl (G.2.1, 144, .inl (r 9))), ((a 10), .inl (G.2.1, 144, .inl (r 10))), ((a 11), .inl (G.2.2.1, 144, .inl (r 11))), ((a 12), .inl (G.2.1, 144, .inl (r 12))), ((a 13), .inl (G.2.1, 144, .inl (r 13))), ((a 14), .inl (G.2.1, 144, .inl (r 14))), ((ta 0), .inr (4, [.int (tf 0), .int (tf 1), .int (tf 2), .int (tf 3), .ref (ta 4), .ref (ta 5), .ref (ta 6), .ref (ta 7), .ref (ta 8), .ref (ta 9), .ref (ta 10), .ref (ta 11)])), ((ta 4), .inl (G.2.1, 12, .inl (tr 4))), ((ta 5), .inl (G.2.1, 144, .inl (tr 5))), ((ta 6), .inl (G.2.1, 144, .inl (tr 6))), ((ta 7), .inl (G.2.1, 144, .inl (tr 7))), ((ta 8), .inl (G.2.1, 864, .inl (tr 8))), ((ta 9), .inl (G.2.1, 6, .inl (tr 9))), ((ta 10), .inl (G.2.1, 12, .inl (tr 10))), ((ta 11), .inl (G.2.1, 12, .inl (tr 11)))]) [.ref (ga 9), .ref (ta 0), .ref (a 15)] (fun w => ∃ (ch : Nat) (cho pri : Nat → Int32), ch ≤ 144 ∧ chP cho (min ch 8) ∧ w = [((ga 9), .inr (0, [.ref (ga 0), .ref (ga 1), .ref (ga 2), .ref (ga 3), .int (nI ch), .int (gf 5), .int (gf 6), .int (gf 7), .int (gf 8)])), ((ga 0), .inl (G.2.2.1, 144, .inl (gr 0))), ((ga 1), .inl (G.2.1, 8, .inl cho)), ((ga 2), .inl (G.2.1, 8, .inl pri)), ((ga 3), .inl (G.2.1, 256, .inl (gr 3))), ((a 15), .inr (2, [.int (f 0), .int (f 1), .int (f 2), .int (f 3), .int (f 4), .ref (b 3), .ref (a 6), .ref (a 7), .ref (a 8), .ref (a 9), .ref (a 10), .ref (a 11), .ref (a 12), .ref (a 13), .ref (a 14)])), ((a 6), .inl (G.2.2.1, 12, .inl (r 6))), ((a 7), .inl (G.2.1, 12, .inl (r 7))), ((a 8), .inl (G.2.1, 144, .inl (r 8))), ((a 9), .inl (G.2.1, 144, .inl (r 9))), ((a 10), .inl (G.2.1, 144, .inl (r 10))), ((a 11), .inl (G.2.2.1, 144, .inl (r 11))), ((a 12), .inl (G.2.1, 144, .inl (r 12))), ((a 13), .inl (G.2.1, 144, .inl (r 13))), ((a 14), .inl (G.2.1, 144, .inl (r 14))), ((ta 0), .inr (4, [.int (tf 0), .int (tf 1), .int (tf 2), .int (tf 3), .ref (ta 4), .ref (ta 5), .ref (ta 6), .ref (ta 7), .ref (ta 8), .ref (ta 9), .ref (ta 10), .ref (ta 11)])), ((ta 4), .inl (G.2.1, 12, .inl (tr 4))), ((ta 5), .inl (G.2.1, 144, .inl (tr 5))), ((ta 6), .inl (G.2.1, 144, .inl (tr 6))), ((ta 7), .inl (G.2.1, 144, .inl (tr 7))), ((ta 8), .inl (G.2.1, 864, .inl (tr 8))), ((ta 9), .inl (G.2.1, 6, .inl (tr 9))), ((ta 10), .inl (G.2.1, 12, .inl (tr 10))), ((ta 11), .inl (G.2.1, 12, .inl (tr 11)))]) := by
  refine wr_entryV (by decide +kernel) (Nat.le_of_ble_eq_true rfl) ?_
  intro p e s m below meth c A C0 hP hK hD hA ls hl
  have hS : va_S A s.heap s.heap [] := va_S.rf
  obtain ⟨hx, hb, hml, hown, hts, hr, hlocks, hin⟩ := C0
  have hown : s.vm.findClass RX0 = some m.cls := hown
  have hl : lv_has ls 8 [(0, .ref (ga 9)), (1, .ref (ta 0)), (2, .ref (a 15))] := hl
  refine lv_aload_n hx hb dX0_gather_0 rfl (lv_at hl 0 rfl) ?_
  refine lv_iconst (v := 0) hx hb dX0_gather_1 (by decide) ?_
  refine va_put (D := G.1) (ci := 0) (v := .int 0) (C := RX0) (T := TX0) (N := 9) hx hb hts inX0 tyX0 tyX0_ok nmX0 hown hK.1 hP hD hS 0 rfl rfl 4 (by decide) (hts _ mf_X0_25) (fun _ h9 => h9) rfl (tyX0_ok 4 (by decide)) (rfl) (rfl) (Nat.le_of_ble_eq_true rfl) dX0_gather_2 (fun H locs hP hD hS => ?_)
  have hP : PP G [((ga 9), .inr (0, [.ref (ga 0), .ref (ga 1), .ref (ga 2), .ref (ga 3), .int 0, .int (gf 5), .int (gf 6), .int (gf 7), .int (gf 8)])), ((ga 0), .inl (G.2.2.1, 144, .inl (gr 0))), ((ga 1), .inl (G.2.1, 8, .inl (gr 1))), ((ga 2), .inl (G.2.1, 8, .inl (gr 2))), ((ga 3), .inl (G.2.1, 256, .inl (gr 3))), ((a 15), .inr (2, [.int (f 0), .int (f 1), .int (f 2), .int (f 3), .int (f 4), .ref (b 3), .ref (a 6), .ref (a 7), .ref (a 8), .ref (a 9), .ref (a 10), .ref (a 11), .ref (a 12), .ref (a 13), .ref (a 14)])), ((a 6), .inl (G.2.2.1, 12, .inl (r 6))), ((a 7), .inl (G.2.1, 12, .inl (r 7))), ((a 8), .inl (G.2.1, 144, .inl (r 8))), ((a 9), .inl (G.2.1, 144, .inl (r 9))), ((a 10), .inl (G.2.1, 144, .inl (r 10))), ((a 11), .inl (G.2.2.1, 144, .inl (r 11))), ((a 12), .inl (G.2.1, 144, .inl (r 12))), ((a 13), .inl (G.2.1, 144, .inl (r 13))), ((a 14), .inl (G.2.1, 144, .inl (r 14))), ((ta 0), .inr (4, [.int (tf 0), .int (tf 1), .int (tf 2), .int (tf 3), .ref (ta 4), .ref (ta 5), .ref (ta 6), .ref (ta 7), .ref (ta 8), .ref (ta 9), .ref (ta 10), .ref (ta 11)])), ((ta 4), .inl (G.2.1, 12, .inl (tr 4))), ((ta 5), .inl (G.2.1, 144, .inl (tr 5))), ((ta 6), .inl (G.2.1, 144, .inl (tr 6))), ((ta 7), .inl (G.2.1, 144, .inl (tr 7))), ((ta 8), .inl (G.2.1, 864, .inl (tr 8))), ((ta 9), .inl (G.2.1, 6, .inl (tr 9))), ((ta 10), .inl (G.2.1, 12, .inl (tr 10))), ((ta 11), .inl (G.2.1, 12, .inl (tr 11)))] H := hP
  have hD := D_as hP hD rfl
  refine lv_iconst (v := 0) hx hb dX0_gather_5 (by decide) ?_
  refine lv_istore_n (lv' := [(3, .int 0), (0, .ref (ga 9)), (1, .ref (ta 0)), (2, .ref (a 15))]) hx hb dX0_gather_6 rfl hl (by decide) rfl (fun ls hl => ?_)
  have outer : ∀ (k i : Nat) (ch : Nat) (cho pri : Nat → Int32), i ≤ rw → rw < i + k → ch ≤ i * 12 → chP cho (min ch 8) → ∀ (H : Heap) (locs : List Loc) (ls : Array Slot), PP G ([((ga 9), .inr (0, [.ref (ga 0), .ref (ga 1), .ref (ga 2), .ref (ga 3), .int (nI ch), .int (gf 5), .int (gf 6), .int (gf 7), .int (gf 8)])), ((ga 0), .inl (G.2.2.1, 144, .inl (gr 0))), ((ga 1), .inl (G.2.1, 8, .inl cho)), ((ga 2), .inl (G.2.1, 8, .inl pri)), ((ga 3), .inl (G.2.1, 256, .inl (gr 3))), ((a 15), .inr (2, [.int (f 0), .int (f 1), .int (f 2), .int (f 3), .int (f 4), .ref (b 3), .ref (a 6), .ref (a 7), .ref (a 8), .ref (a 9), .ref (a 10), .ref (a 11), .ref (a 12), .ref (a 13), .ref (a 14)])), ((a 6), .inl (G.2.2.1, 12, .inl (r 6))), ((a 7), .inl (G.2.1, 12, .inl (r 7))), ((a 8), .inl (G.2.1, 144, .inl (r 8))), ((a 9), .inl (G.2.1, 144, .inl (r 9))), ((a 10), .inl (G.2.1, 144, .inl (r 10))), ((a 11), .inl (G.2.2.1, 144, .inl (r 11))), ((a 12), .inl (G.2.1, 144, .inl (r 12))), ((a 13), .inl (G.2.1, 144, .inl (r 13))), ((a 14), .inl (G.2.1, 144, .inl (r 14))), ((ta 0), .inr (4, [.int (tf 0), .int (tf 1), .int (tf 2), .int (tf 3), .ref (ta 4), .ref (ta 5), .ref (ta 6), .ref (ta 7), .ref (ta 8), .ref (ta 9), .ref (ta 10), .ref (ta 11)])), ((ta 4), .inl (G.2.1, 12, .inl (tr 4))), ((ta 5), .inl (G.2.1, 144, .inl (tr 5))), ((ta 6), .inl (G.2.1, 144, .inl (tr 6))), ((ta 7), .inl (G.2.1, 144, .inl (tr 7))), ((ta 8), .inl (G.2.1, 864, .inl (tr 8))), ((ta 9), .inl (G.2.1, 6, .inl (tr 9))), ((ta 10), .inl (G.2.1, 12, .inl (tr 10))), ((ta 11), .inl (G.2.1, 12, .inl (tr 11)))]) H → va_S A s.heap H locs → lv_has ls 8 [(0, .ref (ga 9)), (1, .ref (ta 0)), (2, .ref (a 15)), (3, .int (nI i))] → W p l e ({ frames := 1, cells := 0, slots := 0, locals := 21 }) s m ([.ref (ga 9), .ref (ta 0), .ref (a 15)] : List Value).toArray below meth c H locs 0 0 (MQ below (QwV G (fun w => ∃ (ch : Nat) (cho pri : Nat → Int32), ch ≤ 144 ∧ chP cho (min ch 8) ∧ w = [((ga 9), .inr (0, [.ref (ga 0), .ref (ga 1), .ref (ga 2), .ref (ga 3), .int (nI ch), .int (gf 5), .int (gf 6), .int (gf 7), .int (gf 8)])), ((ga 0), .inl (G.2.2.1, 144, .inl (gr 0))), ((ga 1), .inl (G.2.1, 8, .inl cho)), ((ga 2), .inl (G.2.1, 8, .inl pri)), ((ga 3), .inl (G.2.1, 256, .inl (gr 3))), ((a 15), .inr (2, [.int (f 0), .int (f 1), .int (f 2), .int (f 3), .int (f 4), .ref (b 3), .ref (a 6), .ref (a 7), .ref (a 8), .ref (a 9), .ref (a 10), .ref (a 11), .ref (a 12), .ref (a 13), .ref (a 14)])), ((a 6), .inl (G.2.2.1, 12, .inl (r 6))), ((a 7), .inl (G.2.1, 12, .inl (r 7))), ((a 8), .inl (G.2.1, 144, .inl (r 8))), ((a 9), .inl (G.2.1, 144, .inl (r 9))), ((a 10), .inl (G.2.1, 144, .inl (r 10))), ((a 11), .inl (G.2.2.1, 144, .inl (r 11))), ((a 12), .inl (G.2.1, 144, .inl (r 12))), ((a 13), .inl (G.2.1, 144, .inl (r 13))), ((a 14), .inl (G.2.1, 144, .inl (r 14))), ((ta 0), .inr (4, [.int (tf 0), .int (tf 1), .int (tf 2), .int (tf 3), .ref (ta 4), .ref (ta 5), .ref (ta 6), .ref (ta 7), .ref (ta 8), .ref (ta 9), .ref (ta 10), .ref (ta 11)])), ((ta 4), .inl (G.2.1, 12, .inl (tr 4))), ((ta 5), .inl (G.2.1, 144, .inl (tr 5))), ((ta 6), .inl (G.2.1, 144, .inl (tr 6))), ((ta 7), .inl (G.2.1, 144, .inl (tr 7))), ((ta 8), .inl (G.2.1, 864, .inl (tr 8))), ((ta 9), .inl (G.2.1, 6, .inl (tr 9))), ((ta 10), .inl (G.2.1, 12, .inl (tr 10))), ((ta 11), .inl (G.2.1, 12, .inl (tr 11)))]) A) ([.ref (ga 9), .ref (ta 0), .ref (a 15)] : List Value).toArray s 0 0 A) (F0 m 7 ls []) := by
    intro k
    induction k with
    | zero => intro i ch cho pri h1 h2; omega
    | succ k ih =>
      intro i ch cho pri hi_i hk_i hle hcp H locs ls hP hS hl
      have hD := D_as2 hP hD rfl
      refine lv_iload_n hx hb dX0_gather_7 rfl (lv_at hl 3 rfl) ?_
      refine lv_aload_n hx hb dX0_gather_8 rfl (lv_at hl 2 rfl) ?_
      refine va_get (D := G.1) (ci := 2) (v := .int (f 0)) (C := RX2) (T := TX2) (N := 15) hx hb hts inX2 hown hK.1 hP 5 rfl rfl 0 (by decide) (hts _ mf_X0_44) (fun _ h9 => h9) rfl dX0_gather_9 ?_
      refine lv_icmp_ge (tgt := 143) hx hb dX0_gather_12 (by decide) (fun c1 => ?_) (fun c1 => ?_)
      · rw [h0] at c1
        have hge := ge_t (by omega) (by omega) c1
        have heq : i = rw := by omega
        exact wr_vret hx hb hr hlocks hS hP ⟨ch, cho, pri, by omega, hcp, rfl⟩ dX0_gather_143
      · rw [h0] at c1
        have hlt := ge_f (by omega) (by omega) c1
        refine lv_iconst (v := 0) hx hb dX0_gather_15 (by decide) ?_
        refine lv_istore (lv' := [(4, .int 0), (0, .ref (ga 9)), (1, .ref (ta 0)), (2, .ref (a 15)), (3, .int (nI i))]) hx hb dX0_gather_16 hl (by decide) rfl (fun ls hl => ?_)
        have inner : ∀ (k2 j : Nat) (ch : Nat) (cho pri : Nat → Int32), j ≤ cl → cl < j + k2 → ch ≤ i * 12 + j → chP cho (min ch 8) → ∀ (H : Heap) (locs : List Loc) (ls : Array Slot), PP G ([((ga 9), .inr (0, [.ref (ga 0), .ref (ga 1), .ref (ga 2), .ref (ga 3), .int (nI ch), .int (gf 5), .int (gf 6), .int (gf 7), .int (gf 8)])), ((ga 0), .inl (G.2.2.1, 144, .inl (gr 0))), ((ga 1), .inl (G.2.1, 8, .inl cho)), ((ga 2), .inl (G.2.1, 8, .inl pri)), ((ga 3), .inl (G.2.1, 256, .inl (gr 3))), ((a 15), .inr (2, [.int (f 0), .int (f 1), .int (f 2), .int (f 3), .int (f 4), .ref (b 3), .ref (a 6), .ref (a 7), .ref (a 8), .ref (a 9), .ref (a 10), .ref (a 11), .ref (a 12), .ref (a 13), .ref (a 14)])), ((a 6), .inl (G.2.2.1, 12, .inl (r 6))), ((a 7), .inl (G.2.1, 12, .inl (r 7))), ((a 8), .inl (G.2.1, 144, .inl (r 8))), ((a 9), .inl (G.2.1, 144, .inl (r 9))), ((a 10), .inl (G.2.1, 144, .inl (r 10))), ((a 11), .inl (G.2.2.1, 144, .inl (r 11))), ((a 12), .inl (G.2.1, 144, .inl (r 12))), ((a 13), .inl (G.2.1, 144, .inl (r 13))), ((a 14), .inl (G.2.1, 144, .inl (r 14))), ((ta 0), .inr (4, [.int (tf 0), .int (tf 1), .int (tf 2), .int (tf 3), .ref (ta 4), .ref (ta 5), .ref (ta 6), .ref (ta 7), .ref (ta 8), .ref (ta 9), .ref (ta 10), .ref (ta 11)])), ((ta 4), .inl (G.2.1, 12, .inl (tr 4))), ((ta 5), .inl (G.2.1, 144, .inl (tr 5))), ((ta 6), .inl (G.2.1, 144, .inl (tr 6))), ((ta 7), .inl (G.2.1, 144, .inl (tr 7))), ((ta 8), .inl (G.2.1, 864, .inl (tr 8))), ((ta 9), .inl (G.2.1, 6, .inl (tr 9))), ((ta 10), .inl (G.2.1, 12, .inl (tr 10))), ((ta 11), .inl (G.2.1, 12, .inl (tr 11)))]) H → va_S A s.heap H locs → lv_has ls 8 [(0, .ref (ga 9)), (1, .ref (ta 0)), (2, .ref (a 15)), (3, .int (nI i)), (4, .int (nI j))] → W p l e ({ frames := 1, cells := 0, slots := 0, locals := 21 }) s m ([.ref (ga 9), .ref (ta 0), .ref (a 15)] : List Value).toArray below meth c H locs 0 0 (MQ below (QwV G (fun w => ∃ (ch : Nat) (cho pri : Nat → Int32), ch ≤ 144 ∧ chP cho (min ch 8) ∧ w = [((ga 9), .inr (0, [.ref (ga 0), .ref (ga 1), .ref (ga 2), .ref (ga 3), .int (nI ch), .int (gf 5), .int (gf 6), .int (gf 7), .int (gf 8)])), ((ga 0), .inl (G.2.2.1, 144, .inl (gr 0))), ((ga 1), .inl (G.2.1, 8, .inl cho)), ((ga 2), .inl (G.2.1, 8, .inl pri)), ((ga 3), .inl (G.2.1, 256, .inl (gr 3))), ((a 15), .inr (2, [.int (f 0), .int (f 1), .int (f 2), .int (f 3), .int (f 4), .ref (b 3), .ref (a 6), .ref (a 7), .ref (a 8), .ref (a 9), .ref (a 10), .ref (a 11), .ref (a 12), .ref (a 13), .ref (a 14)])), ((a 6), .inl (G.2.2.1, 12, .inl (r 6))), ((a 7), .inl (G.2.1, 12, .inl (r 7))), ((a 8), .inl (G.2.1, 144, .inl (r 8))), ((a 9), .inl (G.2.1, 144, .inl (r 9))), ((a 10), .inl (G.2.1, 144, .inl (r 10))), ((a 11), .inl (G.2.2.1, 144, .inl (r 11))), ((a 12), .inl (G.2.1, 144, .inl (r 12))), ((a 13), .inl (G.2.1, 144, .inl (r 13))), ((a 14), .inl (G.2.1, 144, .inl (r 14))), ((ta 0), .inr (4, [.int (tf 0), .int (tf 1), .int (tf 2), .int (tf 3), .ref (ta 4), .ref (ta 5), .ref (ta 6), .ref (ta 7), .ref (ta 8), .ref (ta 9), .ref (ta 10), .ref (ta 11)])), ((ta 4), .inl (G.2.1, 12, .inl (tr 4))), ((ta 5), .inl (G.2.1, 144, .inl (tr 5))), ((ta 6), .inl (G.2.1, 144, .inl (tr 6))), ((ta 7), .inl (G.2.1, 144, .inl (tr 7))), ((ta 8), .inl (G.2.1, 864, .inl (tr 8))), ((ta 9), .inl (G.2.1, 6, .inl (tr 9))), ((ta 10), .inl (G.2.1, 12, .inl (tr 10))), ((ta 11), .inl (G.2.1, 12, .inl (tr 11)))]) A) ([.ref (ga 9), .ref (ta 0), .ref (a 15)] : List Value).toArray s 0 0 A) (F0 m 18 ls []) := by
          intro k2
          induction k2 with
          | zero => intro j ch cho pri h1 h2; omega
          | succ k2 ih2 =>
            intro j ch cho pri hi_j hk_j hle hcp H locs ls hP hS hl
            have hD := D_as2 hP hD rfl
            refine lv_iload hx hb dX0_gather_18 (lv_at hl 4 rfl) ?_
            refine lv_aload_n hx hb dX0_gather_20 rfl (lv_at hl 2 rfl) ?_
            refine va_get (D := G.1) (ci := 2) (v := .int (f 1)) (C := RX2) (T := TX2) (N := 15) hx hb hts inX2 hown hK.1 hP 5 rfl rfl 1 (by decide) (hts _ mf_X0_49) (fun _ h9 => h9) rfl dX0_gather_21 ?_
            refine lv_icmp_ge (tgt := 137) hx hb dX0_gather_24 (by decide) (fun c2 => ?_) (fun c2 => ?_)
            · rw [h1] at c2
              have hge2 := ge_t (by omega) (by omega) c2
              have heq2 : j = cl := by omega
              obtain ⟨v3, ev3⟩ : ∃ y : Int32, y = (nI i) + Int32.ofInt (1) := ⟨_, rfl⟩
              refine lv_iinc (v := v3) (lv' := [(3, .int v3), (0, .ref (ga 9)), (1, .ref (ta 0)), (2, .ref (a 15)), (4, .int (nI j))]) hx hb dX0_gather_137 hl (k := 3) rfl ev3.symm (by decide) rfl (fun ls hl => ?_)
              refine lv_goto (tgt := 7) hx hb dX0_gather_140 (by decide) ?_
              exact ih (i + 1) ch cho pri (by omega) (by omega) (by omega) hcp _ _ _ hP hS (by have e := nI_inc ev3; rw [e] at hl; exact lv_sub hl [1, 2, 3, 0] rfl)
            · rw [h1] at c2
              have hlt2 := ge_f (by omega) (by omega) c2
              refine lv_iload_n hx hb dX0_gather_27 rfl (lv_at hl 3 rfl) ?_
              refine lv_iload hx hb dX0_gather_28 (lv_at hl 4 rfl) ?_
              refine rdSN (rest := []) ⟨hx, hb, hml, hown, hts⟩ (c_X6_spotOf l G ((nI i)) ((nI j))) mi_yX6_spotOf mst_yX6_spotOf (by decide +kernel) ⟨rfl, rfl, Nat.le_of_ble_eq_true rfl, Nat.le_of_ble_eq_true rfl⟩ hK (fun k q h => by simp at h) rfl hl.1 rfl (Nat.le_of_ble_eq_true rfl) dX0_gather_30 ⟨Nat.zero_le _, Nat.zero_le _⟩ hS hA hP (fun r4 H locs hr4 hP hS => ?_)
              obtain rfl : r4 = nI (i * 12 + j) := spot_eq hr4
              refine lv_istore (lv' := [(5, .int (nI (i * 12 + j))), (0, .ref (ga 9)), (1, .ref (ta 0)), (2, .ref (a 15)), (3, .int (nI i)), (4, .int (nI j))]) hx hb dX0_gather_33 hl (by decide) rfl (fun ls hl => ?_)
              refine lv_aload_n hx hb dX0_gather_35 rfl (lv_at hl 3 rfl) ?_
              refine va_get (D := G.1) (ci := 2) (v := .ref (a 8)) (C := RX2) (T := TX2) (N := 15) hx hb hts inX2 hown hK.1 hP 5 rfl rfl 8 (by decide) (hts _ mf_X0_92) (fun _ h9 => h9) rfl dX0_gather_36 ?_
              refine lv_iload hx hb dX0_gather_39 (lv_at hl 0 rfl) ?_
              refine xiald hx hb hK hP 8 (i * 12 + j) (rfl) (by omega) (by omega) rfl dX0_gather_41 ?_
              refine lv_topi (fun v5 ev5 => ?_)
              refine lv_istore (lv' := [(6, .int v5), (5, .int (nI (i * 12 + j))), (0, .ref (ga 9)), (1, .ref (ta 0)), (2, .ref (a 15)), (3, .int (nI i)), (4, .int (nI j))]) hx hb dX0_gather_42 hl (by decide) rfl (fun ls hl => ?_)
              refine lv_iload hx hb dX0_gather_44 (lv_at hl 0 rfl) ?_
              refine lv_if_eq (tgt := 69) hx hb dX0_gather_46 (by decide) (fun c6 => ?_) (fun c6 => ?_)
              · refine lv_iconst (v := 0) hx hb dX0_gather_69 (by decide) ?_
                refine lv_istore (lv' := [(7, .int 0), (6, .int v5), (5, .int (nI (i * 12 + j))), (0, .ref (ga 9)), (1, .ref (ta 0)), (2, .ref (a 15)), (3, .int (nI i)), (4, .int (nI j))]) hx hb dX0_gather_70 hl (by decide) rfl (fun ls hl => ?_)
                refine lv_iload hx hb dX0_gather_72 (lv_at hl 0 rfl) ?_
                refine lv_if_eq (tgt := 112) hx hb dX0_gather_74 (by decide) (fun _ => ?_) (fun c7 => absurd (by decide) c7)
                refine lv_aload_n hx hb dX0_gather_112 rfl (lv_at hl 3 rfl) ?_
                refine lv_dup hx hb dX0_gather_113 rfl ?_
                refine va_get (D := G.1) (ci := 0) (v := .int (nI ch)) (C := RX0) (T := TX0) (N := 9) hx hb hts inX0 hown hK.1 hP 0 rfl rfl 4 (by decide) (hts _ mf_X0_25) (fun _ h9 => h9) rfl dX0_gather_114 ?_
                refine lv_iload hx hb dX0_gather_117 (lv_at hl 0 rfl) ?_
                refine lv_if_eq (tgt := 126) hx hb dX0_gather_119 (by decide) (fun _ => ?_) (fun c8 => absurd (by decide) c8)
                refine lv_iconst (v := 0) hx hb dX0_gather_126 (by decide) ?_
                refine lv_iadd hx hb dX0_gather_127 ?_
                refine lv_topi (fun v9 ev9 => ?_)
                refine va_put (D := G.1) (ci := 0) (v := .int v9) (C := RX0) (T := TX0) (N := 9) hx hb hts inX0 tyX0 tyX0_ok nmX0 hown hK.1 hP hD hS 0 rfl rfl 4 (by decide) (hts _ mf_X0_25) (fun _ h9 => h9) rfl (tyX0_ok 4 (by decide)) (rfl) (rfl) (Nat.le_of_ble_eq_true rfl) dX0_gather_128 (fun H locs hP hD hS => ?_)
                have hP : PP G [((ga 9), .inr (0, [.ref (ga 0), .ref (ga 1), .ref (ga 2), .ref (ga 3), .int v9, .int (gf 5), .int (gf 6), .int (gf 7), .int (gf 8)])), ((ga 0), .inl (G.2.2.1, 144, .inl (gr 0))), ((ga 1), .inl (G.2.1, 8, .inl cho)), ((ga 2), .inl (G.2.1, 8, .inl pri)), ((ga 3), .inl (G.2.1, 256, .inl (gr 3))), ((a 15), .inr (2, [.int (f 0), .int (f 1), .int (f 2), .int (f 3), .int (f 4), .ref (b 3), .ref (a 6), .ref (a 7), .ref (a 8), .ref (a 9), .ref (a 10), .ref (a 11), .ref (a 12), .ref (a 13), .ref (a 14)])), ((a 6), .inl (G.2.2.1, 12, .inl (r 6))), ((a 7), .inl (G.2.1, 12, .inl (r 7))), ((a 8), .inl (G.2.1, 144, .inl (r 8))), ((a 9), .inl (G.2.1, 144, .inl (r 9))), ((a 10), .inl (G.2.1, 144, .inl (r 10))), ((a 11), .inl (G.2.2.1, 144, .inl (r 11))), ((a 12), .inl (G.2.1, 144, .inl (r 12))), ((a 13), .inl (G.2.1, 144, .inl (r 13))), ((a 14), .inl (G.2.1, 144, .inl (r 14))), ((ta 0), .inr (4, [.int (tf 0), .int (tf 1), .int (tf 2), .int (tf 3), .ref (ta 4), .ref (ta 5), .ref (ta 6), .ref (ta 7), .ref (ta 8), .ref (ta 9), .ref (ta 10), .ref (ta 11)])), ((ta 4), .inl (G.2.1, 12, .inl (tr 4))), ((ta 5), .inl (G.2.1, 144, .inl (tr 5))), ((ta 6), .inl (G.2.1, 144, .inl (tr 6))), ((ta 7), .inl (G.2.1, 144, .inl (tr 7))), ((ta 8), .inl (G.2.1, 864, .inl (tr 8))), ((ta 9), .inl (G.2.1, 6, .inl (tr 9))), ((ta 10), .inl (G.2.1, 12, .inl (tr 10))), ((ta 11), .inl (G.2.1, 12, .inl (tr 11)))] H := hP
                have hD := D_as hP hD rfl
                obtain ⟨v10, ev10⟩ : ∃ y : Int32, y = (nI j) + Int32.ofInt (1) := ⟨_, rfl⟩
                refine lv_iinc (v := v10) (lv' := [(4, .int v10), (7, .int 0), (6, .int v5), (5, .int (nI (i * 12 + j))), (0, .ref (ga 9)), (1, .ref (ta 0)), (2, .ref (a 15)), (3, .int (nI i))]) hx hb dX0_gather_131 hl (k := 7) rfl ev10.symm (by decide) rfl (fun ls hl => ?_)
                refine lv_goto (tgt := 18) hx hb dX0_gather_134 (by decide) ?_
                have ec : v9 = nI (ch + 0) := nI_plus (j := 0) ev9 rfl rfl
                rw [ec] at hP
                exact ih2 (j + 1) (ch + 0) cho pri (by omega) (by omega) (by omega) (chP_m hcp (by omega)) _ _ _ hP hS (by have e := nI_inc ev10; rw [e] at hl; exact lv_sub hl [4, 5, 6, 7, 0] rfl)
              · refine lv_iload hx hb dX0_gather_49 (lv_at hl 0 rfl) ?_
                refine lv_iconst (v := 4) hx hb dX0_gather_51 (by decide) ?_
                refine lv_icmp_eq (tgt := 69) hx hb dX0_gather_52 (by decide) (fun c11 => ?_) (fun c11 => ?_)
                · refine lv_iconst (v := 0) hx hb dX0_gather_69 (by decide) ?_
                  refine lv_istore (lv' := [(7, .int 0), (6, .int v5), (5, .int (nI (i * 12 + j))), (0, .ref (ga 9)), (1, .ref (ta 0)), (2, .ref (a 15)), (3, .int (nI i)), (4, .int (nI j))]) hx hb dX0_gather_70 hl (by decide) rfl (fun ls hl => ?_)
                  refine lv_iload hx hb dX0_gather_72 (lv_at hl 0 rfl) ?_
                  refine lv_if_eq (tgt := 112) hx hb dX0_gather_74 (by decide) (fun _ => ?_) (fun c12 => absurd (by decide) c12)
                  refine lv_aload_n hx hb dX0_gather_112 rfl (lv_at hl 3 rfl) ?_
                  refine lv_dup hx hb dX0_gather_113 rfl ?_
                  refine va_get (D := G.1) (ci := 0) (v := .int (nI ch)) (C := RX0) (T := TX0) (N := 9) hx hb hts inX0 hown hK.1 hP 0 rfl rfl 4 (by decide) (hts _ mf_X0_25) (fun _ h9 => h9) rfl dX0_gather_114 ?_
                  refine lv_iload hx hb dX0_gather_117 (lv_at hl 0 rfl) ?_
                  refine lv_if_eq (tgt := 126) hx hb dX0_gather_119 (by decide) (fun _ => ?_) (fun c13 => absurd (by decide) c13)
                  refine lv_iconst (v := 0) hx hb dX0_gather_126 (by decide) ?_
                  refine lv_iadd hx hb dX0_gather_127 ?_
                  refine lv_topi (fun v14 ev14 => ?_)
                  refine va_put (D := G.1) (ci := 0) (v := .int v14) (C := RX0) (T := TX0) (N := 9) hx hb hts inX0 tyX0 tyX0_ok nmX0 hown hK.1 hP hD hS 0 rfl rfl 4 (by decide) (hts _ mf_X0_25) (fun _ h9 => h9) rfl (tyX0_ok 4 (by decide)) (rfl) (rfl) (Nat.le_of_ble_eq_true rfl) dX0_gather_128 (fun H locs hP hD hS => ?_)
                  have hP : PP G [((ga 9), .inr (0, [.ref (ga 0), .ref (ga 1), .ref (ga 2), .ref (ga 3), .int v14, .int (gf 5), .int (gf 6), .int (gf 7), .int (gf 8)])), ((ga 0), .inl (G.2.2.1, 144, .inl (gr 0))), ((ga 1), .inl (G.2.1, 8, .inl cho)), ((ga 2), .inl (G.2.1, 8, .inl pri)), ((ga 3), .inl (G.2.1, 256, .inl (gr 3))), ((a 15), .inr (2, [.int (f 0), .int (f 1), .int (f 2), .int (f 3), .int (f 4), .ref (b 3), .ref (a 6), .ref (a 7), .ref (a 8), .ref (a 9), .ref (a 10), .ref (a 11), .ref (a 12), .ref (a 13), .ref (a 14)])), ((a 6), .inl (G.2.2.1, 12, .inl (r 6))), ((a 7), .inl (G.2.1, 12, .inl (r 7))), ((a 8), .inl (G.2.1, 144, .inl (r 8))), ((a 9), .inl (G.2.1, 144, .inl (r 9))), ((a 10), .inl (G.2.1, 144, .inl (r 10))), ((a 11), .inl (G.2.2.1, 144, .inl (r 11))), ((a 12), .inl (G.2.1, 144, .inl (r 12))), ((a 13), .inl (G.2.1, 144, .inl (r 13))), ((a 14), .inl (G.2.1, 144, .inl (r 14))), ((ta 0), .inr (4, [.int (tf 0), .int (tf 1), .int (tf 2), .int (tf 3), .ref (ta 4), .ref (ta 5), .ref (ta 6), .ref (ta 7), .ref (ta 8), .ref (ta 9), .ref (ta 10), .ref (ta 11)])), ((ta 4), .inl (G.2.1, 12, .inl (tr 4))), ((ta 5), .inl (G.2.1, 144, .inl (tr 5))), ((ta 6), .inl (G.2.1, 144, .inl (tr 6))), ((ta 7), .inl (G.2.1, 144, .inl (tr 7))), ((ta 8), .inl (G.2.1, 864, .inl (tr 8))), ((ta 9), .inl (G.2.1, 6, .inl (tr 9))), ((ta 10), .inl (G.2.1, 12, .inl (tr 10))), ((ta 11), .inl (G.2.1, 12, .inl (tr 11)))] H := hP
                  have hD := D_as hP hD rfl
                  obtain ⟨v15, ev15⟩ : ∃ y : Int32, y = (nI j) + Int32.ofInt (1) := ⟨_, rfl⟩
                  refine lv_iinc (v := v15) (lv' := [(4, .int v15), (7, .int 0), (6, .int v5), (5, .int (nI (i * 12 + j))), (0, .ref (ga 9)), (1, .ref (ta 0)), (2, .ref (a 15)), (3, .int (nI i))]) hx hb dX0_gather_131 hl (k := 7) rfl ev15.symm (by decide) rfl (fun ls hl => ?_)
                  refine lv_goto (tgt := 18) hx hb dX0_gather_134 (by decide) ?_
                  have ec : v14 = nI (ch + 0) := nI_plus (j := 0) ev14 rfl rfl
                  rw [ec] at hP
                  exact ih2 (j + 1) (ch + 0) cho pri (by omega) (by omega) (by omega) (chP_m hcp (by omega)) _ _ _ hP hS (by have e := nI_inc ev15; rw [e] at hl; exact lv_sub hl [4, 5, 6, 7, 0] rfl)
                · refine lv_aload_n hx hb dX0_gather_55 rfl (lv_at hl 4 rfl) ?_
                  refine va_get (D := G.1) (ci := 2) (v := .ref (a 10)) (C := RX2) (T := TX2) (N := 15) hx hb hts inX2 hown hK.1 hP 5 rfl rfl 10 (by decide) (hts _ mf_X0_52) (fun _ h9 => h9) rfl dX0_gather_56 ?_
                  refine lv_iload hx hb dX0_gather_59 (lv_at hl 1 rfl) ?_
                  refine xiald hx hb hK hP 10 (i * 12 + j) (rfl) (by omega) (by omega) rfl dX0_gather_61 ?_
                  refine lv_topi (fun v16 ev16 => ?_)
                  refine lv_if_ne (tgt := 69) hx hb dX0_gather_62 (by decide) (fun c17 => ?_) (fun c17 => ?_)
                  · refine lv_iconst (v := 0) hx hb dX0_gather_69 (by decide) ?_
                    refine lv_istore (lv' := [(7, .int 0), (6, .int v5), (5, .int (nI (i * 12 + j))), (0, .ref (ga 9)), (1, .ref (ta 0)), (2, .ref (a 15)), (3, .int (nI i)), (4, .int (nI j))]) hx hb dX0_gather_70 hl (by decide) rfl (fun ls hl => ?_)
                    refine lv_iload hx hb dX0_gather_72 (lv_at hl 0 rfl) ?_
                    refine lv_if_eq (tgt := 112) hx hb dX0_gather_74 (by decide) (fun _ => ?_) (fun c18 => absurd (by decide) c18)
                    refine lv_aload_n hx hb dX0_gather_112 rfl (lv_at hl 3 rfl) ?_
                    refine lv_dup hx hb dX0_gather_113 rfl ?_
                    refine va_get (D := G.1) (ci := 0) (v := .int (nI ch)) (C := RX0) (T := TX0) (N := 9) hx hb hts inX0 hown hK.1 hP 0 rfl rfl 4 (by decide) (hts _ mf_X0_25) (fun _ h9 => h9) rfl dX0_gather_114 ?_
                    refine lv_iload hx hb dX0_gather_117 (lv_at hl 0 rfl) ?_
                    refine lv_if_eq (tgt := 126) hx hb dX0_gather_119 (by decide) (fun _ => ?_) (fun c19 => absurd (by decide) c19)
                    refine lv_iconst (v := 0) hx hb dX0_gather_126 (by decide) ?_
                    refine lv_iadd hx hb dX0_gather_127 ?_
                    refine lv_topi (fun v20 ev20 => ?_)
                    refine va_put (D := G.1) (ci := 0) (v := .int v20) (C := RX0) (T := TX0) (N := 9) hx hb hts inX0 tyX0 tyX0_ok nmX0 hown hK.1 hP hD hS 0 rfl rfl 4 (by decide) (hts _ mf_X0_25) (fun _ h9 => h9) rfl (tyX0_ok 4 (by decide)) (rfl) (rfl) (Nat.le_of_ble_eq_true rfl) dX0_gather_128 (fun H locs hP hD hS => ?_)
                    have hP : PP G [((ga 9), .inr (0, [.ref (ga 0), .ref (ga 1), .ref (ga 2), .ref (ga 3), .int v20, .int (gf 5), .int (gf 6), .int (gf 7), .int (gf 8)])), ((ga 0), .inl (G.2.2.1, 144, .inl (gr 0))), ((ga 1), .inl (G.2.1, 8, .inl cho)), ((ga 2), .inl (G.2.1, 8, .inl pri)), ((ga 3), .inl (G.2.1, 256, .inl (gr 3))), ((a 15), .inr (2, [.int (f 0), .int (f 1), .int (f 2), .int (f 3), .int (f 4), .ref (b 3), .ref (a 6), .ref (a 7), .ref (a 8), .ref (a 9), .ref (a 10), .ref (a 11), .ref (a 12), .ref (a 13), .ref (a 14)])), ((a 6), .inl (G.2.2.1, 12, .inl (r 6))), ((a 7), .inl (G.2.1, 12, .inl (r 7))), ((a 8), .inl (G.2.1, 144, .inl (r 8))), ((a 9), .inl (G.2.1, 144, .inl (r 9))), ((a 10), .inl (G.2.1, 144, .inl (r 10))), ((a 11), .inl (G.2.2.1, 144, .inl (r 11))), ((a 12), .inl (G.2.1, 144, .inl (r 12))), ((a 13), .inl (G.2.1, 144, .inl (r 13))), ((a 14), .inl (G.2.1, 144, .inl (r 14))), ((ta 0), .inr (4, [.int (tf 0), .int (tf 1), .int (tf 2), .int (tf 3), .ref (ta 4), .ref (ta 5), .ref (ta 6), .ref (ta 7), .ref (ta 8), .ref (ta 9), .ref (ta 10), .ref (ta 11)])), ((ta 4), .inl (G.2.1, 12, .inl (tr 4))), ((ta 5), .inl (G.2.1, 144, .inl (tr 5))), ((ta 6), .inl (G.2.1, 144, .inl (tr 6))), ((ta 7), .inl (G.2.1, 144, .inl (tr 7))), ((ta 8), .inl (G.2.1, 864, .inl (tr 8))), ((ta 9), .inl (G.2.1, 6, .inl (tr 9))), ((ta 10), .inl (G.2.1, 12, .inl (tr 10))), ((ta 11), .inl (G.2.1, 12, .inl (tr 11)))] H := hP
                    have hD := D_as hP hD rfl
                    obtain ⟨v21, ev21⟩ : ∃ y : Int32, y = (nI j) + Int32.ofInt (1) := ⟨_, rfl⟩
                    refine lv_iinc (v := v21) (lv' := [(4, .int v21), (7, .int 0), (6, .int v5), (5, .int (nI (i * 12 + j))), (0, .ref (ga 9)), (1, .ref (ta 0)), (2, .ref (a 15)), (3, .int (nI i))]) hx hb dX0_gather_131 hl (k := 7) rfl ev21.symm (by decide) rfl (fun ls hl => ?_)
                    refine lv_goto (tgt := 18) hx hb dX0_gather_134 (by decide) ?_
                    have ec : v20 = nI (ch + 0) := nI_plus (j := 0) ev20 rfl rfl
                    rw [ec] at hP
                    exact ih2 (j + 1) (ch + 0) cho pri (by omega) (by omega) (by omega) (chP_m hcp (by omega)) _ _ _ hP hS (by have e := nI_inc ev21; rw [e] at hl; exact lv_sub hl [4, 5, 6, 7, 0] rfl)
                  · refine lv_iconst (v := 1) hx hb dX0_gather_65 (by decide) ?_
                    refine lv_goto (tgt := 70) hx hb dX0_gather_66 (by decide) ?_
                    refine lv_istore (lv' := [(7, .int 1), (6, .int v5), (5, .int (nI (i * 12 + j))), (0, .ref (ga 9)), (1, .ref (ta 0)), (2, .ref (a 15)), (3, .int (nI i)), (4, .int (nI j))]) hx hb dX0_gather_70 hl (by decide) rfl (fun ls hl => ?_)
                    refine lv_iload hx hb dX0_gather_72 (lv_at hl 0 rfl) ?_
                    refine lv_if_eq (tgt := 112) hx hb dX0_gather_74 (by decide) (fun c22 => absurd c22 (by decide)) (fun _ => ?_)
                    refine lv_aload_n hx hb dX0_gather_77 rfl (lv_at hl 3 rfl) ?_
                    refine va_get (D := G.1) (ci := 0) (v := .int (nI ch)) (C := RX0) (T := TX0) (N := 9) hx hb hts inX0 hown hK.1 hP 0 rfl rfl 4 (by decide) (hts _ mf_X0_25) (fun _ h9 => h9) rfl dX0_gather_78 ?_
                    refine lv_bipush (v := 8) hx hb dX0_gather_81 (by decide) ?_
                    refine lv_icmp_ge (tgt := 112) hx hb dX0_gather_83 (by decide) (fun c23 => ?_) (fun c23 => ?_)
                    · have hge8 := ge_t (b := 8) (by omega) (by omega) c23
                      refine lv_aload_n hx hb dX0_gather_112 rfl (lv_at hl 3 rfl) ?_
                      refine lv_dup hx hb dX0_gather_113 rfl ?_
                      refine va_get (D := G.1) (ci := 0) (v := .int (nI ch)) (C := RX0) (T := TX0) (N := 9) hx hb hts inX0 hown hK.1 hP 0 rfl rfl 4 (by decide) (hts _ mf_X0_25) (fun _ h9 => h9) rfl dX0_gather_114 ?_
                      refine lv_iload hx hb dX0_gather_117 (lv_at hl 0 rfl) ?_
                      refine lv_if_eq (tgt := 126) hx hb dX0_gather_119 (by decide) (fun c24 => absurd c24 (by decide)) (fun _ => ?_)
                      refine lv_iconst (v := 1) hx hb dX0_gather_122 (by decide) ?_
                      refine lv_goto (tgt := 127) hx hb dX0_gather_123 (by decide) ?_
                      refine lv_iadd hx hb dX0_gather_127 ?_
                      refine lv_topi (fun v25 ev25 => ?_)
                      refine va_put (D := G.1) (ci := 0) (v := .int v25) (C := RX0) (T := TX0) (N := 9) hx hb hts inX0 tyX0 tyX0_ok nmX0 hown hK.1 hP hD hS 0 rfl rfl 4 (by decide) (hts _ mf_X0_25) (fun _ h9 => h9) rfl (tyX0_ok 4 (by decide)) (rfl) (rfl) (Nat.le_of_ble_eq_true rfl) dX0_gather_128 (fun H locs hP hD hS => ?_)
                      have hP : PP G [((ga 9), .inr (0, [.ref (ga 0), .ref (ga 1), .ref (ga 2), .ref (ga 3), .int v25, .int (gf 5), .int (gf 6), .int (gf 7), .int (gf 8)])), ((ga 0), .inl (G.2.2.1, 144, .inl (gr 0))), ((ga 1), .inl (G.2.1, 8, .inl cho)), ((ga 2), .inl (G.2.1, 8, .inl pri)), ((ga 3), .inl (G.2.1, 256, .inl (gr 3))), ((a 15), .inr (2, [.int (f 0), .int (f 1), .int (f 2), .int (f 3), .int (f 4), .ref (b 3), .ref (a 6), .ref (a 7), .ref (a 8), .ref (a 9), .ref (a 10), .ref (a 11), .ref (a 12), .ref (a 13), .ref (a 14)])), ((a 6), .inl (G.2.2.1, 12, .inl (r 6))), ((a 7), .inl (G.2.1, 12, .inl (r 7))), ((a 8), .inl (G.2.1, 144, .inl (r 8))), ((a 9), .inl (G.2.1, 144, .inl (r 9))), ((a 10), .inl (G.2.1, 144, .inl (r 10))), ((a 11), .inl (G.2.2.1, 144, .inl (r 11))), ((a 12), .inl (G.2.1, 144, .inl (r 12))), ((a 13), .inl (G.2.1, 144, .inl (r 13))), ((a 14), .inl (G.2.1, 144, .inl (r 14))), ((ta 0), .inr (4, [.int (tf 0), .int (tf 1), .int (tf 2), .int (tf 3), .ref (ta 4), .ref (ta 5), .ref (ta 6), .ref (ta 7), .ref (ta 8), .ref (ta 9), .ref (ta 10), .ref (ta 11)])), ((ta 4), .inl (G.2.1, 12, .inl (tr 4))), ((ta 5), .inl (G.2.1, 144, .inl (tr 5))), ((ta 6), .inl (G.2.1, 144, .inl (tr 6))), ((ta 7), .inl (G.2.1, 144, .inl (tr 7))), ((ta 8), .inl (G.2.1, 864, .inl (tr 8))), ((ta 9), .inl (G.2.1, 6, .inl (tr 9))), ((ta 10), .inl (G.2.1, 12, .inl (tr 10))), ((ta 11), .inl (G.2.1, 12, .inl (tr 11)))] H := hP
                      have hD := D_as hP hD rfl
                      obtain ⟨v26, ev26⟩ : ∃ y : Int32, y = (nI j) + Int32.ofInt (1) := ⟨_, rfl⟩
                      refine lv_iinc (v := v26) (lv' := [(4, .int v26), (7, .int 1), (6, .int v5), (5, .int (nI (i * 12 + j))), (0, .ref (ga 9)), (1, .ref (ta 0)), (2, .ref (a 15)), (3, .int (nI i))]) hx hb dX0_gather_131 hl (k := 7) rfl ev26.symm (by decide) rfl (fun ls hl => ?_)
                      refine lv_goto (tgt := 18) hx hb dX0_gather_134 (by decide) ?_
                      have ec : v25 = nI (ch + 1) := nI_plus (j := 1) ev25 rfl rfl
                      rw [ec] at hP
                      exact ih2 (j + 1) (ch + 1) cho pri (by omega) (by omega) (by omega) (chP_m hcp (by omega)) _ _ _ hP hS (by have e := nI_inc ev26; rw [e] at hl; exact lv_sub hl [4, 5, 6, 7, 0] rfl)
                    · have hlt8 := ge_f (b := 8) (by omega) (by omega) c23
                      refine lv_aload_n hx hb dX0_gather_86 rfl (lv_at hl 3 rfl) ?_
                      refine va_get (D := G.1) (ci := 0) (v := .ref (ga 1)) (C := RX0) (T := TX0) (N := 9) hx hb hts inX0 hown hK.1 hP 0 rfl rfl 1 (by decide) (hts _ mf_X0_15) (fun _ h9 => h9) rfl dX0_gather_87 ?_
                      refine lv_aload_n hx hb dX0_gather_90 rfl (lv_at hl 3 rfl) ?_
                      refine va_get (D := G.1) (ci := 0) (v := .int (nI ch)) (C := RX0) (T := TX0) (N := 9) hx hb hts inX0 hown hK.1 hP 0 rfl rfl 4 (by decide) (hts _ mf_X0_25) (fun _ h9 => h9) rfl dX0_gather_91 ?_
                      refine lv_iload hx hb dX0_gather_94 (lv_at hl 2 rfl) ?_
                      refine xiast (x := (nI (i * 12 + j))) hx hb hK hP hD hS 2 (ch) (rfl) (by omega) (by omega) rfl dX0_gather_96 (fun H locs hP hD hS => ?_)
                      have hP : PP G [((ga 9), .inr (0, [.ref (ga 0), .ref (ga 1), .ref (ga 2), .ref (ga 3), .int (nI ch), .int (gf 5), .int (gf 6), .int (gf 7), .int (gf 8)])), ((ga 0), .inl (G.2.2.1, 144, .inl (gr 0))), ((ga 1), .inl (G.2.1, 8, .inl (upd cho (ch) ((nI (i * 12 + j)))))), ((ga 2), .inl (G.2.1, 8, .inl pri)), ((ga 3), .inl (G.2.1, 256, .inl (gr 3))), ((a 15), .inr (2, [.int (f 0), .int (f 1), .int (f 2), .int (f 3), .int (f 4), .ref (b 3), .ref (a 6), .ref (a 7), .ref (a 8), .ref (a 9), .ref (a 10), .ref (a 11), .ref (a 12), .ref (a 13), .ref (a 14)])), ((a 6), .inl (G.2.2.1, 12, .inl (r 6))), ((a 7), .inl (G.2.1, 12, .inl (r 7))), ((a 8), .inl (G.2.1, 144, .inl (r 8))), ((a 9), .inl (G.2.1, 144, .inl (r 9))), ((a 10), .inl (G.2.1, 144, .inl (r 10))), ((a 11), .inl (G.2.2.1, 144, .inl (r 11))), ((a 12), .inl (G.2.1, 144, .inl (r 12))), ((a 13), .inl (G.2.1, 144, .inl (r 13))), ((a 14), .inl (G.2.1, 144, .inl (r 14))), ((ta 0), .inr (4, [.int (tf 0), .int (tf 1), .int (tf 2), .int (tf 3), .ref (ta 4), .ref (ta 5), .ref (ta 6), .ref (ta 7), .ref (ta 8), .ref (ta 9), .ref (ta 10), .ref (ta 11)])), ((ta 4), .inl (G.2.1, 12, .inl (tr 4))), ((ta 5), .inl (G.2.1, 144, .inl (tr 5))), ((ta 6), .inl (G.2.1, 144, .inl (tr 6))), ((ta 7), .inl (G.2.1, 144, .inl (tr 7))), ((ta 8), .inl (G.2.1, 864, .inl (tr 8))), ((ta 9), .inl (G.2.1, 6, .inl (tr 9))), ((ta 10), .inl (G.2.1, 12, .inl (tr 10))), ((ta 11), .inl (G.2.1, 12, .inl (tr 11)))] H := hP
                      have hD := D_as hP hD rfl
                      refine lv_aload_n hx hb dX0_gather_97 rfl (lv_at hl 3 rfl) ?_
                      refine va_get (D := G.1) (ci := 0) (v := .ref (ga 2)) (C := RX0) (T := TX0) (N := 9) hx hb hts inX0 hown hK.1 hP 0 rfl rfl 2 (by decide) (hts _ mf_X0_19) (fun _ h9 => h9) rfl dX0_gather_98 ?_
                      refine lv_aload_n hx hb dX0_gather_101 rfl (lv_at hl 3 rfl) ?_
                      refine va_get (D := G.1) (ci := 0) (v := .int (nI ch)) (C := RX0) (T := TX0) (N := 9) hx hb hts inX0 hown hK.1 hP 0 rfl rfl 4 (by decide) (hts _ mf_X0_25) (fun _ h9 => h9) rfl dX0_gather_102 ?_
                      refine lv_aload_n hx hb dX0_gather_105 rfl (lv_at hl 4 rfl) ?_
                      refine lv_iload hx hb dX0_gather_106 (lv_at hl 2 rfl) ?_
                      refine rdV (rest := [.int (nI ch), .ref (ga 2)]) (q0 := 0) ⟨hx, hb, hml, hown, hts⟩ (c_X4_priceOf l G ta tf tr (i * 12 + j) (by omega)) mi_yX4_priceOf mv_yX4_priceOf ml_X0_98 ⟨rfl, rfl, Nat.le_of_ble_eq_true rfl, Nat.le_of_ble_eq_true rfl⟩ hK (hP.sub (ws' := tW G ta tf tr) [15, 16, 17, 18, 19, 20, 21, 22, 23] rfl) rfl rfl rfl hl.1 rfl (Nat.le_of_ble_eq_true rfl) dX0_gather_108 ⟨Nat.zero_le _, Nat.zero_le _⟩ hS hA hP (fun r27 H locs hr27 hP hS => ?_)
                      refine xiast (x := r27) hx hb hK hP hD hS 3 (ch) (rfl) (by omega) (by omega) rfl dX0_gather_111 (fun H locs hP hD hS => ?_)
                      have hP : PP G [((ga 9), .inr (0, [.ref (ga 0), .ref (ga 1), .ref (ga 2), .ref (ga 3), .int (nI ch), .int (gf 5), .int (gf 6), .int (gf 7), .int (gf 8)])), ((ga 0), .inl (G.2.2.1, 144, .inl (gr 0))), ((ga 1), .inl (G.2.1, 8, .inl (upd cho (ch) ((nI (i * 12 + j)))))), ((ga 2), .inl (G.2.1, 8, .inl (upd pri (ch) (r27)))), ((ga 3), .inl (G.2.1, 256, .inl (gr 3))), ((a 15), .inr (2, [.int (f 0), .int (f 1), .int (f 2), .int (f 3), .int (f 4), .ref (b 3), .ref (a 6), .ref (a 7), .ref (a 8), .ref (a 9), .ref (a 10), .ref (a 11), .ref (a 12), .ref (a 13), .ref (a 14)])), ((a 6), .inl (G.2.2.1, 12, .inl (r 6))), ((a 7), .inl (G.2.1, 12, .inl (r 7))), ((a 8), .inl (G.2.1, 144, .inl (r 8))), ((a 9), .inl (G.2.1, 144, .inl (r 9))), ((a 10), .inl (G.2.1, 144, .inl (r 10))), ((a 11), .inl (G.2.2.1, 144, .inl (r 11))), ((a 12), .inl (G.2.1, 144, .inl (r 12))), ((a 13), .inl (G.2.1, 144, .inl (r 13))), ((a 14), .inl (G.2.1, 144, .inl (r 14))), ((ta 0), .inr (4, [.int (tf 0), .int (tf 1), .int (tf 2), .int (tf 3), .ref (ta 4), .ref (ta 5), .ref (ta 6), .ref (ta 7), .ref (ta 8), .ref (ta 9), .ref (ta 10), .ref (ta 11)])), ((ta 4), .inl (G.2.1, 12, .inl (tr 4))), ((ta 5), .inl (G.2.1, 144, .inl (tr 5))), ((ta 6), .inl (G.2.1, 144, .inl (tr 6))), ((ta 7), .inl (G.2.1, 144, .inl (tr 7))), ((ta 8), .inl (G.2.1, 864, .inl (tr 8))), ((ta 9), .inl (G.2.1, 6, .inl (tr 9))), ((ta 10), .inl (G.2.1, 12, .inl (tr 10))), ((ta 11), .inl (G.2.1, 12, .inl (tr 11)))] H := hP
                      have hD := D_as hP hD rfl
                      refine lv_aload_n hx hb dX0_gather_112 rfl (lv_at hl 3 rfl) ?_
                      refine lv_dup hx hb dX0_gather_113 rfl ?_
                      refine va_get (D := G.1) (ci := 0) (v := .int (nI ch)) (C := RX0) (T := TX0) (N := 9) hx hb hts inX0 hown hK.1 hP 0 rfl rfl 4 (by decide) (hts _ mf_X0_25) (fun _ h9 => h9) rfl dX0_gather_114 ?_
                      refine lv_iload hx hb dX0_gather_117 (lv_at hl 0 rfl) ?_
                      refine lv_if_eq (tgt := 126) hx hb dX0_gather_119 (by decide) (fun c28 => absurd c28 (by decide)) (fun _ => ?_)
                      refine lv_iconst (v := 1) hx hb dX0_gather_122 (by decide) ?_
                      refine lv_goto (tgt := 127) hx hb dX0_gather_123 (by decide) ?_
                      refine lv_iadd hx hb dX0_gather_127 ?_
                      refine lv_topi (fun v29 ev29 => ?_)
                      refine va_put (D := G.1) (ci := 0) (v := .int v29) (C := RX0) (T := TX0) (N := 9) hx hb hts inX0 tyX0 tyX0_ok nmX0 hown hK.1 hP hD hS 0 rfl rfl 4 (by decide) (hts _ mf_X0_25) (fun _ h9 => h9) rfl (tyX0_ok 4 (by decide)) (rfl) (rfl) (Nat.le_of_ble_eq_true rfl) dX0_gather_128 (fun H locs hP hD hS => ?_)
                      have hP : PP G [((ga 9), .inr (0, [.ref (ga 0), .ref (ga 1), .ref (ga 2), .ref (ga 3), .int v29, .int (gf 5), .int (gf 6), .int (gf 7), .int (gf 8)])), ((ga 0), .inl (G.2.2.1, 144, .inl (gr 0))), ((ga 1), .inl (G.2.1, 8, .inl (upd cho (ch) ((nI (i * 12 + j)))))), ((ga 2), .inl (G.2.1, 8, .inl (upd pri (ch) (r27)))), ((ga 3), .inl (G.2.1, 256, .inl (gr 3))), ((a 15), .inr (2, [.int (f 0), .int (f 1), .int (f 2), .int (f 3), .int (f 4), .ref (b 3), .ref (a 6), .ref (a 7), .ref (a 8), .ref (a 9), .ref (a 10), .ref (a 11), .ref (a 12), .ref (a 13), .ref (a 14)])), ((a 6), .inl (G.2.2.1, 12, .inl (r 6))), ((a 7), .inl (G.2.1, 12, .inl (r 7))), ((a 8), .inl (G.2.1, 144, .inl (r 8))), ((a 9), .inl (G.2.1, 144, .inl (r 9))), ((a 10), .inl (G.2.1, 144, .inl (r 10))), ((a 11), .inl (G.2.2.1, 144, .inl (r 11))), ((a 12), .inl (G.2.1, 144, .inl (r 12))), ((a 13), .inl (G.2.1, 144, .inl (r 13))), ((a 14), .inl (G.2.1, 144, .inl (r 14))), ((ta 0), .inr (4, [.int (tf 0), .int (tf 1), .int (tf 2), .int (tf 3), .ref (ta 4), .ref (ta 5), .ref (ta 6), .ref (ta 7), .ref (ta 8), .ref (ta 9), .ref (ta 10), .ref (ta 11)])), ((ta 4), .inl (G.2.1, 12, .inl (tr 4))), ((ta 5), .inl (G.2.1, 144, .inl (tr 5))), ((ta 6), .inl (G.2.1, 144, .inl (tr 6))), ((ta 7), .inl (G.2.1, 144, .inl (tr 7))), ((ta 8), .inl (G.2.1, 864, .inl (tr 8))), ((ta 9), .inl (G.2.1, 6, .inl (tr 9))), ((ta 10), .inl (G.2.1, 12, .inl (tr 10))), ((ta 11), .inl (G.2.1, 12, .inl (tr 11)))] H := hP
                      have hD := D_as hP hD rfl
                      obtain ⟨v30, ev30⟩ : ∃ y : Int32, y = (nI j) + Int32.ofInt (1) := ⟨_, rfl⟩
                      refine lv_iinc (v := v30) (lv' := [(4, .int v30), (7, .int 1), (6, .int v5), (5, .int (nI (i * 12 + j))), (0, .ref (ga 9)), (1, .ref (ta 0)), (2, .ref (a 15)), (3, .int (nI i))]) hx hb dX0_gather_131 hl (k := 7) rfl ev30.symm (by decide) rfl (fun ls hl => ?_)
                      refine lv_goto (tgt := 18) hx hb dX0_gather_134 (by decide) ?_
                      have ec : v29 = nI (ch + 1) := nI_plus (j := 1) ev29 rfl rfl
                      rw [ec] at hP
                      exact ih2 (j + 1) (ch + 1) (upd cho (ch) ((nI (i * 12 + j)))) (upd pri (ch) (r27)) (by omega) (by omega) (by omega) (chP_s hcp hlt8 (by omega)) _ _ _ hP hS (by have e := nI_inc ev30; rw [e] at hl; exact lv_sub hl [4, 5, 6, 7, 0] rfl)
        exact inner (cl + 1) 0 ch cho pri (Nat.zero_le _) (by omega) (by omega) hcp _ _ _ hP hS (lv_sub hl [1, 2, 3, 4, 0] rfl)
  exact outer (rw + 1) 0 0 (gr 1) (gr 2) (Nat.zero_le _) (by omega) (by omega) (fun k hk => absurd hk (by omega)) _ _ _ hP hS (lv_sub hl [1, 2, 3, 0] rfl)
set_option maxHeartbeats 4000000 in
set_option maxRecDepth 100000 in
theorem c_X0_guards (l : Launch) (G : GG) (ga : Nat → Nat) (gf : Nat → Int32) (gr : Nat → Nat → Int32) (a b : Nat → Nat) (f : Nat → Int32) (r : Nat → Nat → Int32) (q : Nat → Nat → Int32) (rc : Int32) (rw cl : Nat) (hrw : rw ≤ 12) (hcl : cl ≤ 12) (h0 : f 0 = nI rw) (h1 : f 1 = nI cl) (ch : Nat) (hch : ch ≤ 8) (h4 : gf 4 = nI ch) (hcp : chP (gr 1) ch) (hbp : bpP (gf 5) (gf 6)) (hRB : RB adjR (q 0)) (st_ : Int32) : WrI l yX0_guards cX0_guards 5 (some .boolean) ({ frames := 5, cells := 0, slots := 0, locals := 134 }) G ([((ga 9), .inr (0, [.ref (ga 0), .ref (ga 1), .ref (ga 2), .ref (ga 3), .int (gf 4), .int (gf 5), .int (gf 6), .int (gf 7), .int (gf 8)])), ((ga 0), .inl (G.2.2.1, 144, .inl (gr 0))), ((ga 1), .inl (G.2.1, 8, .inl (gr 1))), ((ga 2), .inl (G.2.1, 8, .inl (gr 2))), ((ga 3), .inl (G.2.1, 256, .inl (gr 3))), ((a 15), .inr (2, [.int (f 0), .int (f 1), .int (f 2), .int (f 3), .int (f 4), .ref (b 3), .ref (a 6), .ref (a 7), .ref (a 8), .ref (a 9), .ref (a 10), .ref (a 11), .ref (a 12), .ref (a 13), .ref (a 14)])), ((a 6), .inl (G.2.2.1, 12, .inl (r 6))), ((a 7), .inl (G.2.1, 12, .inl (r 7))), ((a 8), .inl (G.2.1, 144, .inl (r 8))), ((a 9), .inl (G.2.1, 144, .inl (r 9))), ((a 10), .inl (G.2.1, 144, .inl (r 10))), ((a 11), .inl (G.2.2.1, 144, .inl (r 11))), ((a 12), .inl (G.2.1, 144, .inl (r 12))), ((a 13), .inl (G.2.1, 144, .inl (r 13))), ((a 14), .inl (G.2.1, 144, .inl (r 14))), ((b 3), .inr (5, [.ref (b 0), .ref (b 1), .ref (b 2), .int rc])), ((b 0), .inl (G.2.1, 25, .inl (q 0))), ((b 1), .inl (G.2.1, 25, .inl (q 1))), ((b 2), .inl (G.2.1, 25, .inl (q 2)))]) [.ref (ga 9), .ref (a 15), .int st_] (fun _ w => ∃ (g5 g6 : Int32) (e4 : Int32) (r2 : Nat → Nat → Int32) (s2 bf qu : Nat → Int32) (rc2 : Int32), bpP g5 g6 ∧ RB adjR s2 ∧ w = [((ga 9), .inr (0, [.ref (ga 0), .ref (ga 1), .ref (ga 2), .ref (ga 3), .int (gf 4), .int g5, .int g6, .int (gf 7), .int (gf 8)])), ((ga 0), .inl (G.2.2.1, 144, .inl (gr 0))), ((ga 1), .inl (G.2.1, 8, .inl (gr 1))), ((ga 2), .inl (G.2.1, 8, .inl (gr 2))), ((ga 3), .inl (G.2.1, 256, .inl (gr 3))), ((a 15), .inr (2, [.int (f 0), .int (f 1), .int (f 2), .int (f 3), .int e4, .ref (b 3), .ref (a 6), .ref (a 7), .ref (a 8), .ref (a 9), .ref (a 10), .ref (a 11), .ref (a 12), .ref (a 13), .ref (a 14)])), ((a 6), .inl (G.2.2.1, 12, .inl (r2 6))), ((a 7), .inl (G.2.1, 12, .inl (r2 7))), ((a 8), .inl (G.2.1, 144, .inl (r2 8))), ((a 9), .inl (G.2.1, 144, .inl (r2 9))), ((a 10), .inl (G.2.1, 144, .inl (r2 10))), ((a 11), .inl (G.2.2.1, 144, .inl (r2 11))), ((a 12), .inl (G.2.1, 144, .inl (r2 12))), ((a 13), .inl (G.2.1, 144, .inl (r2 13))), ((a 14), .inl (G.2.1, 144, .inl (r2 14))), ((b 3), .inr (5, [.ref (b 0), .ref (b 1), .ref (b 2), .int rc2])), ((b 0), .inl (G.2.1, 25, .inl s2)), ((b 1), .inl (G.2.1, 25, .inl bf)), ((b 2), .inl (G.2.1, 25, .inl qu))]) := by
  refine wr_entryI (by decide +kernel) (Nat.le_of_ble_eq_true rfl) ?_
  intro p e s m below meth c A C0 hP hK hD hA ls hl
  have hS : va_S A s.heap s.heap [] := va_S.rf
  obtain ⟨hx, hb, hml, hown, hts, hr, hlocks, hin⟩ := C0
  have hown : s.vm.findClass RX0 = some m.cls := hown
  have hl : lv_has ls 5 [(0, .ref (ga 9)), (1, .ref (a 15)), (2, .int st_)] := hl
  refine lv_aload_n hx hb dX0_guards_0 rfl (lv_at hl 1 rfl) ?_
  refine wrVV (rest := []) (q0 := 0) ⟨hx, hb, hml, hown, hts⟩ (c_X2_keepSecretsAlone l G a b f r rw cl hrw hcl h0 h1) mi_yX2_keepSecretsAlone mv_yX2_keepSecretsAlone ml_X0_126 ⟨rfl, rfl, Nat.le_of_ble_eq_true rfl, Nat.le_of_ble_eq_true rfl⟩ hK hP hD [5, 6, 7, 8, 9, 10, 11, 12, 13, 14] rfl (by decide) rfl rfl rfl hl.1 rfl (Nat.le_of_ble_eq_true rfl) dX0_guards_1 ⟨Nat.zero_le _, Nat.zero_le _⟩ hS hA (fun w2 H locs hw2 hP hS => ?_)
  obtain ⟨rk, rfl⟩ := hw2
  have h9_ := P_rg (s := 5) (hP rfl) rfl (Nat.le_of_ble_eq_true rfl)
  have hP : PP G [((ga 9), .inr (0, [.ref (ga 0), .ref (ga 1), .ref (ga 2), .ref (ga 3), .int (gf 4), .int (gf 5), .int (gf 6), .int (gf 7), .int (gf 8)])), ((ga 0), .inl (G.2.2.1, 144, .inl (gr 0))), ((ga 1), .inl (G.2.1, 8, .inl (gr 1))), ((ga 2), .inl (G.2.1, 8, .inl (gr 2))), ((ga 3), .inl (G.2.1, 256, .inl (gr 3))), ((a 15), .inr (2, [.int (f 0), .int (f 1), .int (f 2), .int (f 3), .int (-2), .ref (b 3), .ref (a 6), .ref (a 7), .ref (a 8), .ref (a 9), .ref (a 10), .ref (a 11), .ref (a 12), .ref (a 13), .ref (a 14)])), ((a 6), .inl (G.2.2.1, 12, .inl (rk 6))), ((a 7), .inl (G.2.1, 12, .inl (rk 7))), ((a 8), .inl (G.2.1, 144, .inl (rk 8))), ((a 9), .inl (G.2.1, 144, .inl (rk 9))), ((a 10), .inl (G.2.1, 144, .inl (rk 10))), ((a 11), .inl (G.2.2.1, 144, .inl (rk 11))), ((a 12), .inl (G.2.1, 144, .inl (rk 12))), ((a 13), .inl (G.2.1, 144, .inl (rk 13))), ((a 14), .inl (G.2.1, 144, .inl (rk 14))), ((b 3), .inr (5, [.ref (b 0), .ref (b 1), .ref (b 2), .int rc])), ((b 0), .inl (G.2.1, 25, .inl (q 0))), ((b 1), .inl (G.2.1, 25, .inl (q 1))), ((b 2), .inl (G.2.1, 25, .inl (q 2)))] H := h9_
  have hD := D_as2 hP hD rfl
  refine lv_iconst (v := 0) hx hb dX0_guards_4 (by decide) ?_
  refine lv_istore_n (lv' := [(3, .int 0), (0, .ref (ga 9)), (1, .ref (a 15)), (2, .int st_)]) hx hb dX0_guards_5 rfl hl (by decide) rfl (fun ls hl => ?_)
  have j65 : ∀ (e4 : Int32) (r2 : Nat → Nat → Int32) (s2 bf qu : Nat → Int32) (rc2 : Int32), RB adjR s2 → ∀ (H : Heap) (locs : List Loc) (ls : Array Slot), PP G ([((ga 9), .inr (0, [.ref (ga 0), .ref (ga 1), .ref (ga 2), .ref (ga 3), .int (gf 4), .int (gf 5), .int (gf 6), .int (gf 7), .int (gf 8)])), ((ga 0), .inl (G.2.2.1, 144, .inl (gr 0))), ((ga 1), .inl (G.2.1, 8, .inl (gr 1))), ((ga 2), .inl (G.2.1, 8, .inl (gr 2))), ((ga 3), .inl (G.2.1, 256, .inl (gr 3))), ((a 15), .inr (2, [.int (f 0), .int (f 1), .int (f 2), .int (f 3), .int e4, .ref (b 3), .ref (a 6), .ref (a 7), .ref (a 8), .ref (a 9), .ref (a 10), .ref (a 11), .ref (a 12), .ref (a 13), .ref (a 14)])), ((a 6), .inl (G.2.2.1, 12, .inl (r2 6))), ((a 7), .inl (G.2.1, 12, .inl (r2 7))), ((a 8), .inl (G.2.1, 144, .inl (r2 8))), ((a 9), .inl (G.2.1, 144, .inl (r2 9))), ((a 10), .inl (G.2.1, 144, .inl (r2 10))), ((a 11), .inl (G.2.2.1, 144, .inl (r2 11))), ((a 12), .inl (G.2.1, 144, .inl (r2 12))), ((a 13), .inl (G.2.1, 144, .inl (r2 13))), ((a 14), .inl (G.2.1, 144, .inl (r2 14))), ((b 3), .inr (5, [.ref (b 0), .ref (b 1), .ref (b 2), .int rc2])), ((b 0), .inl (G.2.1, 25, .inl s2)), ((b 1), .inl (G.2.1, 25, .inl bf)), ((b 2), .inl (G.2.1, 25, .inl qu))]) H → va_S A s.heap H locs → lv_has ls 5 [(0, .ref (ga 9)), (1, .ref (a 15)), (2, .int st_)] → W p l e ({ frames := 5, cells := 0, slots := 0, locals := 134 }) s m ([.ref (ga 9), .ref (a 15), .int st_] : List Value).toArray below meth c H locs 0 0 (MQ below (QwI G (fun _ w => ∃ (g5 g6 : Int32) (e4 : Int32) (r2 : Nat → Nat → Int32) (s2 bf qu : Nat → Int32) (rc2 : Int32), bpP g5 g6 ∧ RB adjR s2 ∧ w = [((ga 9), .inr (0, [.ref (ga 0), .ref (ga 1), .ref (ga 2), .ref (ga 3), .int (gf 4), .int g5, .int g6, .int (gf 7), .int (gf 8)])), ((ga 0), .inl (G.2.2.1, 144, .inl (gr 0))), ((ga 1), .inl (G.2.1, 8, .inl (gr 1))), ((ga 2), .inl (G.2.1, 8, .inl (gr 2))), ((ga 3), .inl (G.2.1, 256, .inl (gr 3))), ((a 15), .inr (2, [.int (f 0), .int (f 1), .int (f 2), .int (f 3), .int e4, .ref (b 3), .ref (a 6), .ref (a 7), .ref (a 8), .ref (a 9), .ref (a 10), .ref (a 11), .ref (a 12), .ref (a 13), .ref (a 14)])), ((a 6), .inl (G.2.2.1, 12, .inl (r2 6))), ((a 7), .inl (G.2.1, 12, .inl (r2 7))), ((a 8), .inl (G.2.1, 144, .inl (r2 8))), ((a 9), .inl (G.2.1, 144, .inl (r2 9))), ((a 10), .inl (G.2.1, 144, .inl (r2 10))), ((a 11), .inl (G.2.2.1, 144, .inl (r2 11))), ((a 12), .inl (G.2.1, 144, .inl (r2 12))), ((a 13), .inl (G.2.1, 144, .inl (r2 13))), ((a 14), .inl (G.2.1, 144, .inl (r2 14))), ((b 3), .inr (5, [.ref (b 0), .ref (b 1), .ref (b 2), .int rc2])), ((b 0), .inl (G.2.1, 25, .inl s2)), ((b 1), .inl (G.2.1, 25, .inl bf)), ((b 2), .inl (G.2.1, 25, .inl qu))]) A) ([.ref (ga 9), .ref (a 15), .int st_] : List Value).toArray s 0 0 A) (F0 m 65 ls []) := by
    intro e4 r2 s2 bf qu rc2 hRB H locs ls hP hS hl
    have hD := D_as2 hP hD rfl
    refine lv_iconst (v := 0) hx hb dX0_guards_65 (by decide) ?_
    refine lv_istore_n (lv' := [(3, .int 0), (0, .ref (ga 9)), (1, .ref (a 15)), (2, .int st_)]) hx hb dX0_guards_66 rfl hl (by decide) rfl (fun ls hl => ?_)
    have outer : ∀ (kA i : Nat) (e4 : Int32) (r2 : Nat → Nat → Int32) (s2 bf qu : Nat → Int32) (rc2 : Int32), i ≤ rw → rw < i + kA → RB adjR s2 → ∀ (H : Heap) (locs : List Loc) (ls : Array Slot), PP G ([((ga 9), .inr (0, [.ref (ga 0), .ref (ga 1), .ref (ga 2), .ref (ga 3), .int (gf 4), .int (gf 5), .int (gf 6), .int (gf 7), .int (gf 8)])), ((ga 0), .inl (G.2.2.1, 144, .inl (gr 0))), ((ga 1), .inl (G.2.1, 8, .inl (gr 1))), ((ga 2), .inl (G.2.1, 8, .inl (gr 2))), ((ga 3), .inl (G.2.1, 256, .inl (gr 3))), ((a 15), .inr (2, [.int (f 0), .int (f 1), .int (f 2), .int (f 3), .int e4, .ref (b 3), .ref (a 6), .ref (a 7), .ref (a 8), .ref (a 9), .ref (a 10), .ref (a 11), .ref (a 12), .ref (a 13), .ref (a 14)])), ((a 6), .inl (G.2.2.1, 12, .inl (r2 6))), ((a 7), .inl (G.2.1, 12, .inl (r2 7))), ((a 8), .inl (G.2.1, 144, .inl (r2 8))), ((a 9), .inl (G.2.1, 144, .inl (r2 9))), ((a 10), .inl (G.2.1, 144, .inl (r2 10))), ((a 11), .inl (G.2.2.1, 144, .inl (r2 11))), ((a 12), .inl (G.2.1, 144, .inl (r2 12))), ((a 13), .inl (G.2.1, 144, .inl (r2 13))), ((a 14), .inl (G.2.1, 144, .inl (r2 14))), ((b 3), .inr (5, [.ref (b 0), .ref (b 1), .ref (b 2), .int rc2])), ((b 0), .inl (G.2.1, 25, .inl s2)), ((b 1), .inl (G.2.1, 25, .inl bf)), ((b 2), .inl (G.2.1, 25, .inl qu))]) H → va_S A s.heap H locs → lv_has ls 5 [(0, .ref (ga 9)), (1, .ref (a 15)), (2, .int st_), (3, .int (nI i))] → W p l e ({ frames := 5, cells := 0, slots := 0, locals := 134 }) s m ([.ref (ga 9), .ref (a 15), .int st_] : List Value).toArray below meth c H locs 0 0 (MQ below (QwI G (fun _ w => ∃ (g5 g6 : Int32) (e4 : Int32) (r2 : Nat → Nat → Int32) (s2 bf qu : Nat → Int32) (rc2 : Int32), bpP g5 g6 ∧ RB adjR s2 ∧ w = [((ga 9), .inr (0, [.ref (ga 0), .ref (ga 1), .ref (ga 2), .ref (ga 3), .int (gf 4), .int g5, .int g6, .int (gf 7), .int (gf 8)])), ((ga 0), .inl (G.2.2.1, 144, .inl (gr 0))), ((ga 1), .inl (G.2.1, 8, .inl (gr 1))), ((ga 2), .inl (G.2.1, 8, .inl (gr 2))), ((ga 3), .inl (G.2.1, 256, .inl (gr 3))), ((a 15), .inr (2, [.int (f 0), .int (f 1), .int (f 2), .int (f 3), .int e4, .ref (b 3), .ref (a 6), .ref (a 7), .ref (a 8), .ref (a 9), .ref (a 10), .ref (a 11), .ref (a 12), .ref (a 13), .ref (a 14)])), ((a 6), .inl (G.2.2.1, 12, .inl (r2 6))), ((a 7), .inl (G.2.1, 12, .inl (r2 7))), ((a 8), .inl (G.2.1, 144, .inl (r2 8))), ((a 9), .inl (G.2.1, 144, .inl (r2 9))), ((a 10), .inl (G.2.1, 144, .inl (r2 10))), ((a 11), .inl (G.2.2.1, 144, .inl (r2 11))), ((a 12), .inl (G.2.1, 144, .inl (r2 12))), ((a 13), .inl (G.2.1, 144, .inl (r2 13))), ((a 14), .inl (G.2.1, 144, .inl (r2 14))), ((b 3), .inr (5, [.ref (b 0), .ref (b 1), .ref (b 2), .int rc2])), ((b 0), .inl (G.2.1, 25, .inl s2)), ((b 1), .inl (G.2.1, 25, .inl bf)), ((b 2), .inl (G.2.1, 25, .inl qu))]) A) ([.ref (ga 9), .ref (a 15), .int st_] : List Value).toArray s 0 0 A) (F0 m 67 ls []) := by
      intro kA
      induction kA with
      | zero => intro i e4 r2 s2 bf qu rc2 h1 h2; omega
      | succ kA ihA =>
        intro i e4 r2 s2 bf qu rc2 hi_i hk_i hRB H locs ls hP hS hl
        have hD := D_as2 hP hD rfl
        refine lv_iload_n hx hb dX0_guards_67 rfl (lv_at hl 3 rfl) ?_
        refine lv_aload_n hx hb dX0_guards_68 rfl (lv_at hl 1 rfl) ?_
        refine va_get (D := G.1) (ci := 2) (v := .int (f 0)) (C := RX2) (T := TX2) (N := 15) hx hb hts inX2 hown hK.1 hP 5 rfl rfl 0 (by decide) (hts _ mf_X0_44) (fun _ h9 => h9) rfl dX0_guards_69 ?_
        refine lv_icmp_ge (tgt := 136) hx hb dX0_guards_72 (by decide) (fun c3 => ?_) (fun c3 => ?_)
        · rw [h0] at c3
          have hge := ge_t (by omega) (by omega) c3
          have heq : i = rw := by omega
          refine lv_iconst (v := 1) hx hb dX0_guards_136 (by decide) ?_
          exact wr_zret hx hb hr hlocks (Or.inr rfl) hS hP ⟨(gf 5), (gf 6), e4, (fun k => match k with | 6 => (r2 6) | 7 => (r2 7) | 8 => (r2 8) | 9 => (r2 9) | 10 => (r2 10) | 11 => (r2 11) | 12 => (r2 12) | 13 => (r2 13) | 14 => (r2 14) | _ => (fun _ => 0)), s2, bf, qu, rc2, hbp, hRB, rfl⟩ dX0_guards_137
        · rw [h0] at c3
          have hlt := ge_f (by omega) (by omega) c3
          refine lv_iconst (v := 0) hx hb dX0_guards_75 (by decide) ?_
          refine lv_istore (lv' := [(4, .int 0), (0, .ref (ga 9)), (1, .ref (a 15)), (2, .int st_), (3, .int (nI i))]) hx hb dX0_guards_76 hl (by decide) rfl (fun ls hl => ?_)
          have inner : ∀ (kB j : Nat) (e4 : Int32) (r2 : Nat → Nat → Int32) (s2 bf qu : Nat → Int32) (rc2 : Int32), j ≤ cl → cl < j + kB → RB adjR s2 → ∀ (H : Heap) (locs : List Loc) (ls : Array Slot), PP G ([((ga 9), .inr (0, [.ref (ga 0), .ref (ga 1), .ref (ga 2), .ref (ga 3), .int (gf 4), .int (gf 5), .int (gf 6), .int (gf 7), .int (gf 8)])), ((ga 0), .inl (G.2.2.1, 144, .inl (gr 0))), ((ga 1), .inl (G.2.1, 8, .inl (gr 1))), ((ga 2), .inl (G.2.1, 8, .inl (gr 2))), ((ga 3), .inl (G.2.1, 256, .inl (gr 3))), ((a 15), .inr (2, [.int (f 0), .int (f 1), .int (f 2), .int (f 3), .int e4, .ref (b 3), .ref (a 6), .ref (a 7), .ref (a 8), .ref (a 9), .ref (a 10), .ref (a 11), .ref (a 12), .ref (a 13), .ref (a 14)])), ((a 6), .inl (G.2.2.1, 12, .inl (r2 6))), ((a 7), .inl (G.2.1, 12, .inl (r2 7))), ((a 8), .inl (G.2.1, 144, .inl (r2 8))), ((a 9), .inl (G.2.1, 144, .inl (r2 9))), ((a 10), .inl (G.2.1, 144, .inl (r2 10))), ((a 11), .inl (G.2.2.1, 144, .inl (r2 11))), ((a 12), .inl (G.2.1, 144, .inl (r2 12))), ((a 13), .inl (G.2.1, 144, .inl (r2 13))), ((a 14), .inl (G.2.1, 144, .inl (r2 14))), ((b 3), .inr (5, [.ref (b 0), .ref (b 1), .ref (b 2), .int rc2])), ((b 0), .inl (G.2.1, 25, .inl s2)), ((b 1), .inl (G.2.1, 25, .inl bf)), ((b 2), .inl (G.2.1, 25, .inl qu))]) H → va_S A s.heap H locs → lv_has ls 5 [(0, .ref (ga 9)), (1, .ref (a 15)), (2, .int st_), (3, .int (nI i)), (4, .int (nI j))] → W p l e ({ frames := 5, cells := 0, slots := 0, locals := 134 }) s m ([.ref (ga 9), .ref (a 15), .int st_] : List Value).toArray below meth c H locs 0 0 (MQ below (QwI G (fun _ w => ∃ (g5 g6 : Int32) (e4 : Int32) (r2 : Nat → Nat → Int32) (s2 bf qu : Nat → Int32) (rc2 : Int32), bpP g5 g6 ∧ RB adjR s2 ∧ w = [((ga 9), .inr (0, [.ref (ga 0), .ref (ga 1), .ref (ga 2), .ref (ga 3), .int (gf 4), .int g5, .int g6, .int (gf 7), .int (gf 8)])), ((ga 0), .inl (G.2.2.1, 144, .inl (gr 0))), ((ga 1), .inl (G.2.1, 8, .inl (gr 1))), ((ga 2), .inl (G.2.1, 8, .inl (gr 2))), ((ga 3), .inl (G.2.1, 256, .inl (gr 3))), ((a 15), .inr (2, [.int (f 0), .int (f 1), .int (f 2), .int (f 3), .int e4, .ref (b 3), .ref (a 6), .ref (a 7), .ref (a 8), .ref (a 9), .ref (a 10), .ref (a 11), .ref (a 12), .ref (a 13), .ref (a 14)])), ((a 6), .inl (G.2.2.1, 12, .inl (r2 6))), ((a 7), .inl (G.2.1, 12, .inl (r2 7))), ((a 8), .inl (G.2.1, 144, .inl (r2 8))), ((a 9), .inl (G.2.1, 144, .inl (r2 9))), ((a 10), .inl (G.2.1, 144, .inl (r2 10))), ((a 11), .inl (G.2.2.1, 144, .inl (r2 11))), ((a 12), .inl (G.2.1, 144, .inl (r2 12))), ((a 13), .inl (G.2.1, 144, .inl (r2 13))), ((a 14), .inl (G.2.1, 144, .inl (r2 14))), ((b 3), .inr (5, [.ref (b 0), .ref (b 1), .ref (b 2), .int rc2])), ((b 0), .inl (G.2.1, 25, .inl s2)), ((b 1), .inl (G.2.1, 25, .inl bf)), ((b 2), .inl (G.2.1, 25, .inl qu))]) A) ([.ref (ga 9), .ref (a 15), .int st_] : List Value).toArray s 0 0 A) (F0 m 78 ls []) := by
            intro kB
            induction kB with
            | zero => intro j e4 r2 s2 bf qu rc2 h1 h2; omega
            | succ kB ihB =>
              intro j e4 r2 s2 bf qu rc2 hi_j hk_j hRB H locs ls hP hS hl
              have hD := D_as2 hP hD rfl
              refine lv_iload hx hb dX0_guards_78 (lv_at hl 4 rfl) ?_
              refine lv_aload_n hx hb dX0_guards_80 rfl (lv_at hl 1 rfl) ?_
              refine va_get (D := G.1) (ci := 2) (v := .int (f 1)) (C := RX2) (T := TX2) (N := 15) hx hb hts inX2 hown hK.1 hP 5 rfl rfl 1 (by decide) (hts _ mf_X0_49) (fun _ h9 => h9) rfl dX0_guards_81 ?_
              refine lv_icmp_ge (tgt := 130) hx hb dX0_guards_84 (by decide) (fun c4 => ?_) (fun c4 => ?_)
              · rw [h1] at c4
                have hge2 := ge_t (by omega) (by omega) c4
                have heq2 : j = cl := by omega
                obtain ⟨v5, ev5⟩ : ∃ y : Int32, y = (nI i) + Int32.ofInt (1) := ⟨_, rfl⟩
                refine lv_iinc (v := v5) (lv' := [(3, .int v5), (0, .ref (ga 9)), (1, .ref (a 15)), (2, .int st_), (4, .int (nI j))]) hx hb dX0_guards_130 hl (k := 3) rfl ev5.symm (by decide) rfl (fun ls hl => ?_)
                refine lv_goto (tgt := 67) hx hb dX0_guards_133 (by decide) ?_
                exact ihA (i + 1) (e4) (fun k => match k with | 6 => (r2 6) | 7 => (r2 7) | 8 => (r2 8) | 9 => (r2 9) | 10 => (r2 10) | 11 => (r2 11) | 12 => (r2 12) | 13 => (r2 13) | 14 => (r2 14) | _ => (fun _ => 0)) s2 bf qu (rc2) (by omega) (by omega) hRB _ _ _ hP hS (by have e := nI_inc ev5; rw [e] at hl; exact lv_sub hl [1, 2, 3, 0] rfl)
              · rw [h1] at c4
                have hlt2 := ge_f (by omega) (by omega) c4
                refine lv_aload_n hx hb dX0_guards_87 rfl (lv_at hl 1 rfl) ?_
                refine va_get (D := G.1) (ci := 2) (v := .ref (a 10)) (C := RX2) (T := TX2) (N := 15) hx hb hts inX2 hown hK.1 hP 5 rfl rfl 10 (by decide) (hts _ mf_X0_52) (fun _ h9 => h9) rfl dX0_guards_88 ?_
                refine lv_iload_n hx hb dX0_guards_91 rfl (lv_at hl 3 rfl) ?_
                refine lv_iload hx hb dX0_guards_92 (lv_at hl 4 rfl) ?_
                refine rdSN (rest := [.ref (a 10)]) ⟨hx, hb, hml, hown, hts⟩ (c_X6_spotOf l G ((nI i)) ((nI j))) mi_yX6_spotOf mst_yX6_spotOf (by decide +kernel) ⟨rfl, rfl, Nat.le_of_ble_eq_true rfl, Nat.le_of_ble_eq_true rfl⟩ hK (fun k q h => by simp at h) rfl hl.1 rfl (Nat.le_of_ble_eq_true rfl) dX0_guards_94 ⟨Nat.zero_le _, Nat.zero_le _⟩ hS hA hP (fun r6 H locs hr6 hP hS => ?_)
                obtain rfl : r6 = nI (i * 12 + j) := spot_eq hr6
                refine xiald hx hb hK hP 10 (i * 12 + j) (rfl) (by omega) (by omega) rfl dX0_guards_97 ?_
                refine lv_topi (fun v7 ev7 => ?_)
                refine lv_if_eq (tgt := 124) hx hb dX0_guards_98 (by decide) (fun c8 => ?_) (fun c8 => ?_)
                · obtain ⟨v9, ev9⟩ : ∃ y : Int32, y = (nI j) + Int32.ofInt (1) := ⟨_, rfl⟩
                  refine lv_iinc (v := v9) (lv' := [(4, .int v9), (0, .ref (ga 9)), (1, .ref (a 15)), (2, .int st_), (3, .int (nI i))]) hx hb dX0_guards_124 hl (k := 4) rfl ev9.symm (by decide) rfl (fun ls hl => ?_)
                  refine lv_goto (tgt := 78) hx hb dX0_guards_127 (by decide) ?_
                  exact ihB (j + 1) (e4) (fun k => match k with | 6 => (r2 6) | 7 => (r2 7) | 8 => (r2 8) | 9 => (r2 9) | 10 => (r2 10) | 11 => (r2 11) | 12 => (r2 12) | 13 => (r2 13) | 14 => (r2 14) | _ => (fun _ => 0)) s2 bf qu (rc2) (by omega) (by omega) hRB _ _ _ hP hS (by have e := nI_inc ev9; rw [e] at hl; exact lv_sub hl [1, 2, 3, 4, 0] rfl)
                · refine lv_aload_n hx hb dX0_guards_101 rfl (lv_at hl 1 rfl) ?_
                  refine lv_iload_n hx hb dX0_guards_102 rfl (lv_at hl 3 rfl) ?_
                  refine lv_iload hx hb dX0_guards_103 (lv_at hl 4 rfl) ?_
                  refine wrVI (rest := []) (q0 := 0) ⟨hx, hb, hml, hown, hts⟩ (c_X2_isSafe l G a b (fun k => match k with | 0 => (f 0) | 1 => (f 1) | 2 => (f 2) | 3 => (f 3) | _ => e4) (fun k => match k with | 6 => (r2 6) | 7 => (r2 7) | 8 => (r2 8) | 9 => (r2 9) | 10 => (r2 10) | 11 => (r2 11) | 12 => (r2 12) | 13 => (r2 13) | 14 => (r2 14) | _ => (fun _ => 0)) (fun k => match k with | 0 => s2 | 1 => bf | 2 => qu | _ => (fun _ => 0)) (rc2) rw cl hrw hcl h0 h1 i j (by omega) (by omega) hRB) mi_yX2_isSafe mv_yX2_isSafe ml_X0_59 ⟨rfl, rfl, Nat.le_of_ble_eq_true rfl, Nat.le_of_ble_eq_true rfl⟩ hK hP hD [5, 6, 7, 8, 9, 10, 11, 12, 13, 14, 15, 16, 17, 18] rfl (by decide) rfl rfl rfl hl.1 rfl (Nat.le_of_ble_eq_true rfl) dX0_guards_105 ⟨Nat.zero_le _, Nat.zero_le _⟩ hS hA (fun r10 w11 H locs hw11 hP hS => ?_)
                  obtain ⟨en12, rr13, ss14, bb15, qq16, cc17, hRB, rfl⟩ := hw11
                  have h9_ := P_rg (s := 5) (hP rfl) rfl (Nat.le_of_ble_eq_true rfl)
                  have hP : PP G [((ga 9), .inr (0, [.ref (ga 0), .ref (ga 1), .ref (ga 2), .ref (ga 3), .int (gf 4), .int (gf 5), .int (gf 6), .int (gf 7), .int (gf 8)])), ((ga 0), .inl (G.2.2.1, 144, .inl (gr 0))), ((ga 1), .inl (G.2.1, 8, .inl (gr 1))), ((ga 2), .inl (G.2.1, 8, .inl (gr 2))), ((ga 3), .inl (G.2.1, 256, .inl (gr 3))), ((a 15), .inr (2, [.int (f 0), .int (f 1), .int (f 2), .int (f 3), .int en12, .ref (b 3), .ref (a 6), .ref (a 7), .ref (a 8), .ref (a 9), .ref (a 10), .ref (a 11), .ref (a 12), .ref (a 13), .ref (a 14)])), ((a 6), .inl (G.2.2.1, 12, .inl (rr13 6))), ((a 7), .inl (G.2.1, 12, .inl (rr13 7))), ((a 8), .inl (G.2.1, 144, .inl (rr13 8))), ((a 9), .inl (G.2.1, 144, .inl (rr13 9))), ((a 10), .inl (G.2.1, 144, .inl (rr13 10))), ((a 11), .inl (G.2.2.1, 144, .inl (rr13 11))), ((a 12), .inl (G.2.1, 144, .inl (rr13 12))), ((a 13), .inl (G.2.1, 144, .inl (rr13 13))), ((a 14), .inl (G.2.1, 144, .inl (rr13 14))), ((b 3), .inr (5, [.ref (b 0), .ref (b 1), .ref (b 2), .int cc17])), ((b 0), .inl (G.2.1, 25, .inl ss14)), ((b 1), .inl (G.2.1, 25, .inl bb15)), ((b 2), .inl (G.2.1, 25, .inl qq16))] H := h9_
                  have hD := D_as2 hP hD rfl
                  refine lv_if_ne (tgt := 124) hx hb dX0_guards_108 (by decide) (fun c18 => ?_) (fun c18 => ?_)
                  · obtain ⟨v19, ev19⟩ : ∃ y : Int32, y = (nI j) + Int32.ofInt (1) := ⟨_, rfl⟩
                    refine lv_iinc (v := v19) (lv' := [(4, .int v19), (0, .ref (ga 9)), (1, .ref (a 15)), (2, .int st_), (3, .int (nI i))]) hx hb dX0_guards_124 hl (k := 4) rfl ev19.symm (by decide) rfl (fun ls hl => ?_)
                    refine lv_goto (tgt := 78) hx hb dX0_guards_127 (by decide) ?_
                    exact ihB (j + 1) (en12) (fun k => match k with | 6 => (rr13 6) | 7 => (rr13 7) | 8 => (rr13 8) | 9 => (rr13 9) | 10 => (rr13 10) | 11 => (rr13 11) | 12 => (rr13 12) | 13 => (rr13 13) | 14 => (rr13 14) | _ => (fun _ => 0)) ss14 bb15 qq16 (cc17) (by omega) (by omega) hRB _ _ _ hP hS (by have e := nI_inc ev19; rw [e] at hl; exact lv_sub hl [1, 2, 3, 4, 0] rfl)
                  · refine lv_aload_n hx hb dX0_guards_111 rfl (lv_at hl 0 rfl) ?_
                    refine lv_iload_n hx hb dX0_guards_112 rfl (lv_at hl 3 rfl) ?_
                    refine va_put (D := G.1) (ci := 0) (v := .int (nI i)) (C := RX0) (T := TX0) (N := 9) hx hb hts inX0 tyX0 tyX0_ok nmX0 hown hK.1 hP hD hS 0 rfl rfl 5 (by decide) (hts _ mf_X0_29) (fun _ h9 => h9) rfl (tyX0_ok 5 (by decide)) (rfl) (rfl) (Nat.le_of_ble_eq_true rfl) dX0_guards_113 (fun H locs hP hD hS => ?_)
                    have hP : PP G [((ga 9), .inr (0, [.ref (ga 0), .ref (ga 1), .ref (ga 2), .ref (ga 3), .int (gf 4), .int (nI i), .int (gf 6), .int (gf 7), .int (gf 8)])), ((ga 0), .inl (G.2.2.1, 144, .inl (gr 0))), ((ga 1), .inl (G.2.1, 8, .inl (gr 1))), ((ga 2), .inl (G.2.1, 8, .inl (gr 2))), ((ga 3), .inl (G.2.1, 256, .inl (gr 3))), ((a 15), .inr (2, [.int (f 0), .int (f 1), .int (f 2), .int (f 3), .int en12, .ref (b 3), .ref (a 6), .ref (a 7), .ref (a 8), .ref (a 9), .ref (a 10), .ref (a 11), .ref (a 12), .ref (a 13), .ref (a 14)])), ((a 6), .inl (G.2.2.1, 12, .inl (rr13 6))), ((a 7), .inl (G.2.1, 12, .inl (rr13 7))), ((a 8), .inl (G.2.1, 144, .inl (rr13 8))), ((a 9), .inl (G.2.1, 144, .inl (rr13 9))), ((a 10), .inl (G.2.1, 144, .inl (rr13 10))), ((a 11), .inl (G.2.2.1, 144, .inl (rr13 11))), ((a 12), .inl (G.2.1, 144, .inl (rr13 12))), ((a 13), .inl (G.2.1, 144, .inl (rr13 13))), ((a 14), .inl (G.2.1, 144, .inl (rr13 14))), ((b 3), .inr (5, [.ref (b 0), .ref (b 1), .ref (b 2), .int cc17])), ((b 0), .inl (G.2.1, 25, .inl ss14)), ((b 1), .inl (G.2.1, 25, .inl bb15)), ((b 2), .inl (G.2.1, 25, .inl qq16))] H := hP
                    have hD := D_as hP hD rfl
                    refine lv_aload_n hx hb dX0_guards_116 rfl (lv_at hl 0 rfl) ?_
                    refine lv_iload hx hb dX0_guards_117 (lv_at hl 4 rfl) ?_
                    refine va_put (D := G.1) (ci := 0) (v := .int (nI j)) (C := RX0) (T := TX0) (N := 9) hx hb hts inX0 tyX0 tyX0_ok nmX0 hown hK.1 hP hD hS 0 rfl rfl 6 (by decide) (hts _ mf_X0_32) (fun _ h9 => h9) rfl (tyX0_ok 6 (by decide)) (rfl) (rfl) (Nat.le_of_ble_eq_true rfl) dX0_guards_119 (fun H locs hP hD hS => ?_)
                    have hP : PP G [((ga 9), .inr (0, [.ref (ga 0), .ref (ga 1), .ref (ga 2), .ref (ga 3), .int (gf 4), .int (nI i), .int (nI j), .int (gf 7), .int (gf 8)])), ((ga 0), .inl (G.2.2.1, 144, .inl (gr 0))), ((ga 1), .inl (G.2.1, 8, .inl (gr 1))), ((ga 2), .inl (G.2.1, 8, .inl (gr 2))), ((ga 3), .inl (G.2.1, 256, .inl (gr 3))), ((a 15), .inr (2, [.int (f 0), .int (f 1), .int (f 2), .int (f 3), .int en12, .ref (b 3), .ref (a 6), .ref (a 7), .ref (a 8), .ref (a 9), .ref (a 10), .ref (a 11), .ref (a 12), .ref (a 13), .ref (a 14)])), ((a 6), .inl (G.2.2.1, 12, .inl (rr13 6))), ((a 7), .inl (G.2.1, 12, .inl (rr13 7))), ((a 8), .inl (G.2.1, 144, .inl (rr13 8))), ((a 9), .inl (G.2.1, 144, .inl (rr13 9))), ((a 10), .inl (G.2.1, 144, .inl (rr13 10))), ((a 11), .inl (G.2.2.1, 144, .inl (rr13 11))), ((a 12), .inl (G.2.1, 144, .inl (rr13 12))), ((a 13), .inl (G.2.1, 144, .inl (rr13 13))), ((a 14), .inl (G.2.1, 144, .inl (rr13 14))), ((b 3), .inr (5, [.ref (b 0), .ref (b 1), .ref (b 2), .int cc17])), ((b 0), .inl (G.2.1, 25, .inl ss14)), ((b 1), .inl (G.2.1, 25, .inl bb15)), ((b 2), .inl (G.2.1, 25, .inl qq16))] H := hP
                    have hD := D_as hP hD rfl
                    refine lv_iconst (v := 0) hx hb dX0_guards_122 (by decide) ?_
                    exact wr_zret hx hb hr hlocks (Or.inl rfl) hS hP ⟨(nI i), (nI j), en12, (fun k => match k with | 6 => (rr13 6) | 7 => (rr13 7) | 8 => (rr13 8) | 9 => (rr13 9) | 10 => (rr13 10) | 11 => (rr13 11) | 12 => (rr13 12) | 13 => (rr13 13) | 14 => (rr13 14) | _ => (fun _ => 0)), ss14, bb15, qq16, cc17, Or.inr ⟨i, j, by omega, by omega, rfl, rfl⟩, hRB, rfl⟩ dX0_guards_123
          exact inner (cl + 1) 0 (e4) (fun k => match k with | 6 => (r2 6) | 7 => (r2 7) | 8 => (r2 8) | 9 => (r2 9) | 10 => (r2 10) | 11 => (r2 11) | 12 => (r2 12) | 13 => (r2 13) | 14 => (r2 14) | _ => (fun _ => 0)) s2 bf qu (rc2) (Nat.zero_le _) (by omega) hRB _ _ _ hP hS (lv_sub hl [1, 2, 3, 4, 0] rfl)
    exact outer (rw + 1) 0 (e4) (fun k => match k with | 6 => (r2 6) | 7 => (r2 7) | 8 => (r2 8) | 9 => (r2 9) | 10 => (r2 10) | 11 => (r2 11) | 12 => (r2 12) | 13 => (r2 13) | 14 => (r2 14) | _ => (fun _ => 0)) s2 bf qu (rc2) (Nat.zero_le _) (by omega) hRB _ _ _ hP hS (lv_sub hl [1, 2, 3, 0] rfl)
  have loop : ∀ (k c_ : Nat) (r2 : Nat → Nat → Int32), c_ ≤ ch → ch < c_ + k → ∀ (H : Heap) (locs : List Loc) (ls : Array Slot), PP G ([((ga 9), .inr (0, [.ref (ga 0), .ref (ga 1), .ref (ga 2), .ref (ga 3), .int (gf 4), .int (gf 5), .int (gf 6), .int (gf 7), .int (gf 8)])), ((ga 0), .inl (G.2.2.1, 144, .inl (gr 0))), ((ga 1), .inl (G.2.1, 8, .inl (gr 1))), ((ga 2), .inl (G.2.1, 8, .inl (gr 2))), ((ga 3), .inl (G.2.1, 256, .inl (gr 3))), ((a 15), .inr (2, [.int (f 0), .int (f 1), .int (f 2), .int (f 3), .int (-2), .ref (b 3), .ref (a 6), .ref (a 7), .ref (a 8), .ref (a 9), .ref (a 10), .ref (a 11), .ref (a 12), .ref (a 13), .ref (a 14)])), ((a 6), .inl (G.2.2.1, 12, .inl (r2 6))), ((a 7), .inl (G.2.1, 12, .inl (r2 7))), ((a 8), .inl (G.2.1, 144, .inl (r2 8))), ((a 9), .inl (G.2.1, 144, .inl (r2 9))), ((a 10), .inl (G.2.1, 144, .inl (r2 10))), ((a 11), .inl (G.2.2.1, 144, .inl (r2 11))), ((a 12), .inl (G.2.1, 144, .inl (r2 12))), ((a 13), .inl (G.2.1, 144, .inl (r2 13))), ((a 14), .inl (G.2.1, 144, .inl (r2 14))), ((b 3), .inr (5, [.ref (b 0), .ref (b 1), .ref (b 2), .int rc])), ((b 0), .inl (G.2.1, 25, .inl (q 0))), ((b 1), .inl (G.2.1, 25, .inl (q 1))), ((b 2), .inl (G.2.1, 25, .inl (q 2)))]) H → va_S A s.heap H locs → lv_has ls 5 [(0, .ref (ga 9)), (1, .ref (a 15)), (2, .int st_), (3, .int (nI c_))] → W p l e ({ frames := 5, cells := 0, slots := 0, locals := 134 }) s m ([.ref (ga 9), .ref (a 15), .int st_] : List Value).toArray below meth c H locs 0 0 (MQ below (QwI G (fun _ w => ∃ (g5 g6 : Int32) (e4 : Int32) (r2 : Nat → Nat → Int32) (s2 bf qu : Nat → Int32) (rc2 : Int32), bpP g5 g6 ∧ RB adjR s2 ∧ w = [((ga 9), .inr (0, [.ref (ga 0), .ref (ga 1), .ref (ga 2), .ref (ga 3), .int (gf 4), .int g5, .int g6, .int (gf 7), .int (gf 8)])), ((ga 0), .inl (G.2.2.1, 144, .inl (gr 0))), ((ga 1), .inl (G.2.1, 8, .inl (gr 1))), ((ga 2), .inl (G.2.1, 8, .inl (gr 2))), ((ga 3), .inl (G.2.1, 256, .inl (gr 3))), ((a 15), .inr (2, [.int (f 0), .int (f 1), .int (f 2), .int (f 3), .int e4, .ref (b 3), .ref (a 6), .ref (a 7), .ref (a 8), .ref (a 9), .ref (a 10), .ref (a 11), .ref (a 12), .ref (a 13), .ref (a 14)])), ((a 6), .inl (G.2.2.1, 12, .inl (r2 6))), ((a 7), .inl (G.2.1, 12, .inl (r2 7))), ((a 8), .inl (G.2.1, 144, .inl (r2 8))), ((a 9), .inl (G.2.1, 144, .inl (r2 9))), ((a 10), .inl (G.2.1, 144, .inl (r2 10))), ((a 11), .inl (G.2.2.1, 144, .inl (r2 11))), ((a 12), .inl (G.2.1, 144, .inl (r2 12))), ((a 13), .inl (G.2.1, 144, .inl (r2 13))), ((a 14), .inl (G.2.1, 144, .inl (r2 14))), ((b 3), .inr (5, [.ref (b 0), .ref (b 1), .ref (b 2), .int rc2])), ((b 0), .inl (G.2.1, 25, .inl s2)), ((b 1), .inl (G.2.1, 25, .inl bf)), ((b 2), .inl (G.2.1, 25, .inl qu))]) A) ([.ref (ga 9), .ref (a 15), .int st_] : List Value).toArray s 0 0 A) (F0 m 6 ls []) := by
    intro k
    induction k with
    | zero => intro c_ r2 h1 h2; omega
    | succ k ih =>
      intro c_ r2 hi_c_ hk_c_  H locs ls hP hS hl
      have hD := D_as2 hP hD rfl
      refine lv_iload_n hx hb dX0_guards_6 rfl (lv_at hl 3 rfl) ?_
      refine lv_aload_n hx hb dX0_guards_7 rfl (lv_at hl 0 rfl) ?_
      refine va_get (D := G.1) (ci := 0) (v := .int (gf 4)) (C := RX0) (T := TX0) (N := 9) hx hb hts inX0 hown hK.1 hP 0 rfl rfl 4 (by decide) (hts _ mf_X0_25) (fun _ h9 => h9) rfl dX0_guards_8 ?_
      refine lv_icmp_ge (tgt := 40) hx hb dX0_guards_11 (by decide) (fun c20 => ?_) (fun c20 => ?_)
      · rw [h4] at c20
        have hge2 := ge_t (by omega) (by omega) c20
        have heq2 : c_ = ch := by omega
        refine lv_aload_n hx hb dX0_guards_40 rfl (lv_at hl 0 rfl) ?_
        refine va_get (D := G.1) (ci := 0) (v := .int (gf 5)) (C := RX0) (T := TX0) (N := 9) hx hb hts inX0 hown hK.1 hP 0 rfl rfl 5 (by decide) (hts _ mf_X0_29) (fun _ h9 => h9) rfl dX0_guards_41 ?_
        refine lv_iconst (v := -1) hx hb dX0_guards_44 (by decide) ?_
        refine lv_icmp_eq (tgt := 65) hx hb dX0_guards_45 (by decide) (fun c21 => ?_) (fun c21 => ?_)
        · exact j65 ((-2)) (fun k => match k with | 6 => (r2 6) | 7 => (r2 7) | 8 => (r2 8) | 9 => (r2 9) | 10 => (r2 10) | 11 => (r2 11) | 12 => (r2 12) | 13 => (r2 13) | 14 => (r2 14) | _ => (fun _ => 0)) (q 0) (q 1) (q 2) (rc) hRB _ _ _ hP hS (lv_sub hl [0, 1, 2] rfl)
        · refine lv_aload_n hx hb dX0_guards_48 rfl (lv_at hl 1 rfl) ?_
          refine lv_aload_n hx hb dX0_guards_49 rfl (lv_at hl 0 rfl) ?_
          refine va_get (D := G.1) (ci := 0) (v := .int (gf 5)) (C := RX0) (T := TX0) (N := 9) hx hb hts inX0 hown hK.1 hP 0 rfl rfl 5 (by decide) (hts _ mf_X0_29) (fun _ h9 => h9) rfl dX0_guards_50 ?_
          refine lv_aload_n hx hb dX0_guards_53 rfl (lv_at hl 0 rfl) ?_
          refine va_get (D := G.1) (ci := 0) (v := .int (gf 6)) (C := RX0) (T := TX0) (N := 9) hx hb hts inX0 hown hK.1 hP 0 rfl rfl 6 (by decide) (hts _ mf_X0_32) (fun _ h9 => h9) rfl dX0_guards_54 ?_
          obtain ⟨br, bc, hbr, hbc, e5, e6⟩ := hbp.resolve_left c21
          rw [e5, e6]
          refine wrVI (rest := []) (q0 := 0) ⟨hx, hb, hml, hown, hts⟩ (c_X2_isSafe l G a b (fun k => match k with | 0 => (f 0) | 1 => (f 1) | 2 => (f 2) | 3 => (f 3) | _ => (-2)) (fun k => match k with | 6 => (r2 6) | 7 => (r2 7) | 8 => (r2 8) | 9 => (r2 9) | 10 => (r2 10) | 11 => (r2 11) | 12 => (r2 12) | 13 => (r2 13) | 14 => (r2 14) | _ => (fun _ => 0)) (fun k => match k with | 0 => (q 0) | 1 => (q 1) | 2 => (q 2) | _ => (fun _ => 0)) (rc) rw cl hrw hcl h0 h1 br bc (by omega) (by omega) hRB) mi_yX2_isSafe mv_yX2_isSafe ml_X0_59 ⟨rfl, rfl, Nat.le_of_ble_eq_true rfl, Nat.le_of_ble_eq_true rfl⟩ hK hP hD [5, 6, 7, 8, 9, 10, 11, 12, 13, 14, 15, 16, 17, 18] rfl (by decide) rfl rfl rfl hl.1 rfl (Nat.le_of_ble_eq_true rfl) dX0_guards_57 ⟨Nat.zero_le _, Nat.zero_le _⟩ hS hA (fun r22 w23 H locs hw23 hP hS => ?_)
          obtain ⟨en24, rr25, ss26, bb27, qq28, cc29, hRB, rfl⟩ := hw23
          have h9_ := P_rg (s := 5) (hP rfl) rfl (Nat.le_of_ble_eq_true rfl)
          have hP : PP G [((ga 9), .inr (0, [.ref (ga 0), .ref (ga 1), .ref (ga 2), .ref (ga 3), .int (gf 4), .int (gf 5), .int (gf 6), .int (gf 7), .int (gf 8)])), ((ga 0), .inl (G.2.2.1, 144, .inl (gr 0))), ((ga 1), .inl (G.2.1, 8, .inl (gr 1))), ((ga 2), .inl (G.2.1, 8, .inl (gr 2))), ((ga 3), .inl (G.2.1, 256, .inl (gr 3))), ((a 15), .inr (2, [.int (f 0), .int (f 1), .int (f 2), .int (f 3), .int en24, .ref (b 3), .ref (a 6), .ref (a 7), .ref (a 8), .ref (a 9), .ref (a 10), .ref (a 11), .ref (a 12), .ref (a 13), .ref (a 14)])), ((a 6), .inl (G.2.2.1, 12, .inl (rr25 6))), ((a 7), .inl (G.2.1, 12, .inl (rr25 7))), ((a 8), .inl (G.2.1, 144, .inl (rr25 8))), ((a 9), .inl (G.2.1, 144, .inl (rr25 9))), ((a 10), .inl (G.2.1, 144, .inl (rr25 10))), ((a 11), .inl (G.2.2.1, 144, .inl (rr25 11))), ((a 12), .inl (G.2.1, 144, .inl (rr25 12))), ((a 13), .inl (G.2.1, 144, .inl (rr25 13))), ((a 14), .inl (G.2.1, 144, .inl (rr25 14))), ((b 3), .inr (5, [.ref (b 0), .ref (b 1), .ref (b 2), .int cc29])), ((b 0), .inl (G.2.1, 25, .inl ss26)), ((b 1), .inl (G.2.1, 25, .inl bb27)), ((b 2), .inl (G.2.1, 25, .inl qq28))] H := h9_
          have hD := D_as2 hP hD rfl
          refine lv_if_ne (tgt := 65) hx hb dX0_guards_60 (by decide) (fun c30 => ?_) (fun c30 => ?_)
          · exact j65 (en24) (fun k => match k with | 6 => (rr25 6) | 7 => (rr25 7) | 8 => (rr25 8) | 9 => (rr25 9) | 10 => (rr25 10) | 11 => (rr25 11) | 12 => (rr25 12) | 13 => (rr25 13) | 14 => (rr25 14) | _ => (fun _ => 0)) ss26 bb27 qq28 (cc29) hRB _ _ _ hP hS (lv_sub hl [0, 1, 2] rfl)
          · refine lv_iconst (v := 0) hx hb dX0_guards_63 (by decide) ?_
            exact wr_zret hx hb hr hlocks (Or.inl rfl) hS hP ⟨(gf 5), (gf 6), en24, (fun k => match k with | 6 => (rr25 6) | 7 => (rr25 7) | 8 => (rr25 8) | 9 => (rr25 9) | 10 => (rr25 10) | 11 => (rr25 11) | 12 => (rr25 12) | 13 => (rr25 13) | 14 => (rr25 14) | _ => (fun _ => 0)), ss26, bb27, qq28, cc29, hbp, hRB, rfl⟩ dX0_guards_64
      · rw [h4] at c20
        have hlt2 := ge_f (by omega) (by omega) c20
        refine lv_iload_n hx hb dX0_guards_14 rfl (lv_at hl 2 rfl) ?_
        refine lv_aload_n hx hb dX0_guards_15 rfl (lv_at hl 0 rfl) ?_
        refine lv_iload_n hx hb dX0_guards_16 rfl (lv_at hl 3 rfl) ?_
        refine rdV (rest := [.int st_]) (q0 := 0) ⟨hx, hb, hml, hown, hts⟩ (c_X0_bitOf l G ga (fun k => match k with | 4 => (gf 4) | 5 => (gf 5) | 6 => (gf 6) | 7 => (gf 7) | _ => (gf 8)) (fun k => match k with | 0 => (gr 0) | 1 => (gr 1) | 2 => (gr 2) | _ => (gr 3)) (nI c_)) mi_yX0_bitOf mv_yX0_bitOf ml_X0_110 ⟨rfl, rfl, Nat.le_of_ble_eq_true rfl, Nat.le_of_ble_eq_true rfl⟩ hK (hP.sub (ws' := [((ga 9), .inr (0, [.ref (ga 0), .ref (ga 1), .ref (ga 2), .ref (ga 3), .int (gf 4), .int (gf 5), .int (gf 6), .int (gf 7), .int (gf 8)])), ((ga 0), .inl (G.2.2.1, 144, .inl (gr 0))), ((ga 1), .inl (G.2.1, 8, .inl (gr 1))), ((ga 2), .inl (G.2.1, 8, .inl (gr 2))), ((ga 3), .inl (G.2.1, 256, .inl (gr 3)))]) [0, 1, 2, 3, 4] rfl) rfl rfl rfl hl.1 rfl (Nat.le_of_ble_eq_true rfl) dX0_guards_17 ⟨Nat.zero_le _, Nat.zero_le _⟩ hS hA hP (fun r31 H locs hr31 hP hS => ?_)
        refine lv_iand hx hb dX0_guards_20 ?_
        refine lv_topi (fun v32 ev32 => ?_)
        refine lv_if_eq (tgt := 34) hx hb dX0_guards_21 (by decide) (fun c33 => ?_) (fun c33 => ?_)
        · obtain ⟨v34, ev34⟩ : ∃ y : Int32, y = (nI c_) + Int32.ofInt (1) := ⟨_, rfl⟩
          refine lv_iinc (v := v34) (lv' := [(3, .int v34), (0, .ref (ga 9)), (1, .ref (a 15)), (2, .int st_)]) hx hb dX0_guards_34 hl (k := 3) rfl ev34.symm (by decide) rfl (fun ls hl => ?_)
          refine lv_goto (tgt := 6) hx hb dX0_guards_37 (by decide) ?_
          exact ih (c_ + 1) (fun k => match k with | 6 => (r2 6) | 7 => (r2 7) | 8 => (r2 8) | 9 => (r2 9) | 10 => (r2 10) | 11 => (r2 11) | 12 => (r2 12) | 13 => (r2 13) | 14 => (r2 14) | _ => (fun _ => 0)) (by omega) (by omega) _ _ _ hP hS (by have e := nI_inc ev34; rw [e] at hl; exact lv_sub hl [1, 2, 3, 0] rfl)
        · refine lv_aload_n hx hb dX0_guards_24 rfl (lv_at hl 1 rfl) ?_
          refine lv_aload_n hx hb dX0_guards_25 rfl (lv_at hl 0 rfl) ?_
          refine va_get (D := G.1) (ci := 0) (v := .ref (ga 1)) (C := RX0) (T := TX0) (N := 9) hx hb hts inX0 hown hK.1 hP 0 rfl rfl 1 (by decide) (hts _ mf_X0_15) (fun _ h9 => h9) rfl dX0_guards_26 ?_
          refine lv_iload_n hx hb dX0_guards_29 rfl (lv_at hl 3 rfl) ?_
          refine xiald hx hb hK hP 2 (c_) (rfl) (by omega) (by omega) rfl dX0_guards_30 ?_
          refine lv_topi (fun v35 ev35 => ?_)
          obtain ⟨sp, hsp, esp⟩ := hcp c_ hlt2
          rw [esp] at ev35
          subst ev35
          refine wrVV (rest := []) (q0 := 0) ⟨hx, hb, hml, hown, hts⟩ (c_X2_alsoKeep l G a b (fun k => match k with | 0 => (f 0) | 1 => (f 1) | 2 => (f 2) | 3 => (f 3) | _ => (-2)) (fun k => match k with | 6 => (r2 6) | 7 => (r2 7) | 8 => (r2 8) | 9 => (r2 9) | 10 => (r2 10) | 11 => (r2 11) | 12 => (r2 12) | 13 => (r2 13) | 14 => (r2 14) | _ => (fun _ => 0)) sp (by omega)) mi_yX2_alsoKeep mv_yX2_alsoKeep ml_X0_106 ⟨rfl, rfl, Nat.le_of_ble_eq_true rfl, Nat.le_of_ble_eq_true rfl⟩ hK hP hD [5, 6, 7, 8, 9, 10, 11, 12, 13, 14] rfl (by decide) rfl rfl rfl hl.1 rfl (Nat.le_of_ble_eq_true rfl) dX0_guards_31 ⟨Nat.zero_le _, Nat.zero_le _⟩ hS hA (fun w37 H locs hw37 hP hS => ?_)
          obtain rfl := hw37
          have h9_ := P_rg (s := 5) (hP rfl) rfl (Nat.le_of_ble_eq_true rfl)
          have hP : PP G [((ga 9), .inr (0, [.ref (ga 0), .ref (ga 1), .ref (ga 2), .ref (ga 3), .int (gf 4), .int (gf 5), .int (gf 6), .int (gf 7), .int (gf 8)])), ((ga 0), .inl (G.2.2.1, 144, .inl (gr 0))), ((ga 1), .inl (G.2.1, 8, .inl (gr 1))), ((ga 2), .inl (G.2.1, 8, .inl (gr 2))), ((ga 3), .inl (G.2.1, 256, .inl (gr 3))), ((a 15), .inr (2, [.int (f 0), .int (f 1), .int (f 2), .int (f 3), .int (-2), .ref (b 3), .ref (a 6), .ref (a 7), .ref (a 8), .ref (a 9), .ref (a 10), .ref (a 11), .ref (a 12), .ref (a 13), .ref (a 14)])), ((a 6), .inl (G.2.2.1, 12, .inl (r2 6))), ((a 7), .inl (G.2.1, 12, .inl (r2 7))), ((a 8), .inl (G.2.1, 144, .inl (r2 8))), ((a 9), .inl (G.2.1, 144, .inl (r2 9))), ((a 10), .inl (G.2.1, 144, .inl (r2 10))), ((a 11), .inl (G.2.2.1, 144, .inl (upd (r2 11) (sp) (1)))), ((a 12), .inl (G.2.1, 144, .inl (r2 12))), ((a 13), .inl (G.2.1, 144, .inl (r2 13))), ((a 14), .inl (G.2.1, 144, .inl (r2 14))), ((b 3), .inr (5, [.ref (b 0), .ref (b 1), .ref (b 2), .int rc])), ((b 0), .inl (G.2.1, 25, .inl (q 0))), ((b 1), .inl (G.2.1, 25, .inl (q 1))), ((b 2), .inl (G.2.1, 25, .inl (q 2)))] H := h9_
          have hD := D_as2 hP hD rfl
          obtain ⟨v38, ev38⟩ : ∃ y : Int32, y = (nI c_) + Int32.ofInt (1) := ⟨_, rfl⟩
          refine lv_iinc (v := v38) (lv' := [(3, .int v38), (0, .ref (ga 9)), (1, .ref (a 15)), (2, .int st_)]) hx hb dX0_guards_34 hl (k := 3) rfl ev38.symm (by decide) rfl (fun ls hl => ?_)
          refine lv_goto (tgt := 6) hx hb dX0_guards_37 (by decide) ?_
          exact ih (c_ + 1) (fun k => match k with | 6 => (r2 6) | 7 => (r2 7) | 8 => (r2 8) | 9 => (r2 9) | 10 => (r2 10) | 11 => (upd (r2 11) (sp) (1)) | 12 => (r2 12) | 13 => (r2 13) | 14 => (r2 14) | _ => (fun _ => 0)) (by omega) (by omega) _ _ _ hP hS (by have e := nI_inc ev38; rw [e] at hl; exact lv_sub hl [1, 2, 3, 0] rfl)
  exact loop (ch + 1) 0 (fun k => match k with | 6 => (rk 6) | 7 => (rk 7) | 8 => (rk 8) | 9 => (rk 9) | 10 => (rk 10) | 11 => (rk 11) | 12 => (rk 12) | 13 => (rk 13) | 14 => (rk 14) | _ => (fun _ => 0)) (Nat.zero_le _) (by omega) _ _ _ hP hS (lv_sub hl [1, 2, 3, 0] rfl)
