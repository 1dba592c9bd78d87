theorem ml_X4_77 : Cond.methodLink RX4 77 yX4_classOf ∈ TB := TB_t2 224 rfl rfl
theorem mcode_yX4_classOf : Cond.code yX4_classOf cX4_classOf 6 (some .int) ∈ TB := TB_t2 227 rfl rfl
theorem mi_yX4_classOf : MI yX4_classOf cX4_classOf 6 (some .int) 1 := ⟨mz_RX4, mcode_yX4_classOf, by decide +kernel, by decide +kernel, by decide +kernel⟩
theorem mim_yX4_classOf : Cond.instanceMethod yX4_classOf ∈ TB := TB_t2 225 rfl rfl
theorem msel_yX4_classOf : Cond.selects yX4_classOf.cls yX4_classOf yX4_classOf ∈ TB := TB_t2 226 rfl rfl
theorem mv_yX4_classOf : Cond.instanceMethod yX4_classOf ∈ TB ∧ Cond.selects yX4_classOf.cls yX4_classOf yX4_classOf ∈ TB := ⟨mim_yX4_classOf, msel_yX4_classOf⟩
theorem ml_X4_80 : Cond.methodLink RX4 80 yX4_isSound ∈ TB := TB_t2 228 rfl rfl
theorem mcode_yX4_isSound : Cond.code yX4_isSound cX4_isSound 4 (some .boolean) ∈ TB := TB_t2 207 rfl rfl
theorem mi_yX4_isSound : MI yX4_isSound cX4_isSound 4 (some .boolean) 1 := ⟨mz_RX4, mcode_yX4_isSound, by decide +kernel, by decide +kernel, by decide +kernel⟩
theorem mim_yX4_isSound : Cond.instanceMethod yX4_isSound ∈ TB := TB_t2 205 rfl rfl
theorem msel_yX4_isSound : Cond.selects yX4_isSound.cls yX4_isSound yX4_isSound ∈ TB := TB_t2 206 rfl rfl
theorem mv_yX4_isSound : Cond.instanceMethod yX4_isSound ∈ TB ∧ Cond.selects yX4_isSound.cls yX4_isSound yX4_isSound ∈ TB := ⟨mim_yX4_isSound, msel_yX4_isSound⟩
theorem ml_X4_94 : Cond.methodLink RX4 94 yX4_priceOf ∈ TB := TB_t4 15 rfl rfl
theorem mcode_yX4_priceOf : Cond.code yX4_priceOf cX4_priceOf 2 (some .int) ∈ TB := TB_t3 189 rfl rfl
theorem mi_yX4_priceOf : MI yX4_priceOf cX4_priceOf 2 (some .int) 1 := ⟨mz_RX4, mcode_yX4_priceOf, by decide +kernel, by decide +kernel, by decide +kernel⟩
theorem mim_yX4_priceOf : Cond.instanceMethod yX4_priceOf ∈ TB := TB_t3 187 rfl rfl
theorem msel_yX4_priceOf : Cond.selects yX4_priceOf.cls yX4_priceOf yX4_priceOf ∈ TB := TB_t3 188 rfl rfl
theorem mv_yX4_priceOf : Cond.instanceMethod yX4_priceOf ∈ TB ∧ Cond.selects yX4_priceOf.cls yX4_priceOf yX4_priceOf ∈ TB := ⟨mim_yX4_priceOf, msel_yX4_priceOf⟩
theorem kcX4_classSum_0 : CHb cX4_classSum 0 [42, 27, 182, 0, 77, 62, 3, 54, 4, 3, 54, 5, 21, 5, 42, 180, 0, 15, 162, 0, 44, 42, 21, 5, 182, 0, 77, 29, 160, 0, 28, 42, 21, 5, 182, 0, 80, 153, 0, 19, 21, 4, 42, 180, 0, 32, 21, 5, 28, 184, 0, 65, 46, 96, 54, 4, 132, 5, 1, 167, 255, 209, 21, 4] := CHb_of (by decide +kernel)
theorem dX4_classSum_0 : decode cX4_classSum 0 = .ok (.aload_n 0, 1) := dw_42 (kcX4_classSum_0 0 42 rfl)
theorem dX4_classSum_1 : decode cX4_classSum 1 = .ok (.iload_n 1, 1) := dw_27 (kcX4_classSum_0 1 27 rfl)
theorem dX4_classSum_2 : decode cX4_classSum 2 = .ok (.invokevirtual 77, 3) := dw_182 (kcX4_classSum_0 2 182 rfl) (kcX4_classSum_0 3 0 rfl) (kcX4_classSum_0 4 77 rfl) rfl
theorem dX4_classSum_5 : decode cX4_classSum 5 = .ok (.istore_n 3, 1) := dw_62 (kcX4_classSum_0 5 62 rfl)
theorem dX4_classSum_6 : decode cX4_classSum 6 = .ok (.iconst 0, 1) := dw_3 (kcX4_classSum_0 6 3 rfl)
theorem dX4_classSum_7 : decode cX4_classSum 7 = .ok (.istore 4, 2) := dw_54 (kcX4_classSum_0 7 54 rfl) (kcX4_classSum_0 8 4 rfl)
theorem dX4_classSum_9 : decode cX4_classSum 9 = .ok (.iconst 0, 1) := dw_3 (kcX4_classSum_0 9 3 rfl)
theorem dX4_classSum_10 : decode cX4_classSum 10 = .ok (.istore 5, 2) := dw_54 (kcX4_classSum_0 10 54 rfl) (kcX4_classSum_0 11 5 rfl)
theorem dX4_classSum_12 : decode cX4_classSum 12 = .ok (.iload 5, 2) := dw_21 (kcX4_classSum_0 12 21 rfl) (kcX4_classSum_0 13 5 rfl)
theorem dX4_classSum_14 : decode cX4_classSum 14 = .ok (.aload_n 0, 1) := dw_42 (kcX4_classSum_0 14 42 rfl)
theorem dX4_classSum_15 : decode cX4_classSum 15 = .ok (.getfield 15, 3) := dw_180 (kcX4_classSum_0 15 180 rfl) (kcX4_classSum_0 16 0 rfl) (kcX4_classSum_0 17 15 rfl) rfl
theorem dX4_classSum_18 : decode cX4_classSum 18 = .ok (.if_icmp .ge 44, 3) := dw_162 (kcX4_classSum_0 18 162 rfl) (kcX4_classSum_0 19 0 rfl) (kcX4_classSum_0 20 44 rfl) rfl
theorem dX4_classSum_62 : decode cX4_classSum 62 = .ok (.iload 4, 2) := dw_21 (kcX4_classSum_0 62 21 rfl) (kcX4_classSum_0 63 4 rfl)
theorem kcX4_classSum_1 : CHb cX4_classSum 64 [172] := CHb_of (by decide +kernel)
theorem dX4_classSum_64 : decode cX4_classSum 64 = .ok (.ireturn, 1) := dw_172 (kcX4_classSum_1 0 172 rfl)
theorem dX4_classSum_21 : decode cX4_classSum 21 = .ok (.aload_n 0, 1) := dw_42 (kcX4_classSum_0 21 42 rfl)
theorem dX4_classSum_22 : decode cX4_classSum 22 = .ok (.iload 5, 2) := dw_21 (kcX4_classSum_0 22 21 rfl) (kcX4_classSum_0 23 5 rfl)
theorem dX4_classSum_24 : decode cX4_classSum 24 = .ok (.invokevirtual 77, 3) := dw_182 (kcX4_classSum_0 24 182 rfl) (kcX4_classSum_0 25 0 rfl) (kcX4_classSum_0 26 77 rfl) rfl
theorem dX4_classSum_27 : decode cX4_classSum 27 = .ok (.iload_n 3, 1) := dw_29 (kcX4_classSum_0 27 29 rfl)
theorem dX4_classSum_28 : decode cX4_classSum 28 = .ok (.if_icmp .ne 28, 3) := dw_160 (kcX4_classSum_0 28 160 rfl) (kcX4_classSum_0 29 0 rfl) (kcX4_classSum_0 30 28 rfl) rfl
theorem dX4_classSum_56 : decode cX4_classSum 56 = .ok (.iinc 5 1, 3) := dw_132 (kcX4_classSum_0 56 132 rfl) (kcX4_classSum_0 57 5 rfl) (kcX4_classSum_0 58 1 rfl) rfl
theorem dX4_classSum_59 : decode cX4_classSum 59 = .ok (.goto (-47), 3) := dw_167 (kcX4_classSum_0 59 167 rfl) (kcX4_classSum_0 60 255 rfl) (kcX4_classSum_0 61 209 rfl) rfl
theorem dX4_classSum_31 : decode cX4_classSum 31 = .ok (.aload_n 0, 1) := dw_42 (kcX4_classSum_0 31 42 rfl)
theorem dX4_classSum_32 : decode cX4_classSum 32 = .ok (.iload 5, 2) := dw_21 (kcX4_classSum_0 32 21 rfl) (kcX4_classSum_0 33 5 rfl)
theorem dX4_classSum_34 : decode cX4_classSum 34 = .ok (.invokevirtual 80, 3) := dw_182 (kcX4_classSum_0 34 182 rfl) (kcX4_classSum_0 35 0 rfl) (kcX4_classSum_0 36 80 rfl) rfl
theorem dX4_classSum_37 : decode cX4_classSum 37 = .ok (.ifCond .eq 19, 3) := dw_153 (kcX4_classSum_0 37 153 rfl) (kcX4_classSum_0 38 0 rfl) (kcX4_classSum_0 39 19 rfl) rfl
theorem dX4_classSum_40 : decode cX4_classSum 40 = .ok (.iload 4, 2) := dw_21 (kcX4_classSum_0 40 21 rfl) (kcX4_classSum_0 41 4 rfl)
theorem dX4_classSum_42 : decode cX4_classSum 42 = .ok (.aload_n 0, 1) := dw_42 (kcX4_classSum_0 42 42 rfl)
theorem dX4_classSum_43 : decode cX4_classSum 43 = .ok (.getfield 32, 3) := dw_180 (kcX4_classSum_0 43 180 rfl) (kcX4_classSum_0 44 0 rfl) (kcX4_classSum_0 45 32 rfl) rfl
theorem dX4_classSum_46 : decode cX4_classSum 46 = .ok (.iload 5, 2) := dw_21 (kcX4_classSum_0 46 21 rfl) (kcX4_classSum_0 47 5 rfl)
theorem dX4_classSum_48 : decode cX4_classSum 48 = .ok (.iload_n 2, 1) := dw_28 (kcX4_classSum_0 48 28 rfl)
theorem dX4_classSum_49 : decode cX4_classSum 49 = .ok (.invokestatic 65, 3) := dw_184 (kcX4_classSum_0 49 184 rfl) (kcX4_classSum_0 50 0 rfl) (kcX4_classSum_0 51 65 rfl) rfl
theorem dX4_classSum_52 : decode cX4_classSum 52 = .ok (.iaload, 1) := dw_46 (kcX4_classSum_0 52 46 rfl)
theorem dX4_classSum_53 : decode cX4_classSum 53 = .ok (.iadd, 1) := dw_96 (kcX4_classSum_0 53 96 rfl)
theorem dX4_classSum_54 : decode cX4_classSum 54 = .ok (.istore 4, 2) := dw_54 (kcX4_classSum_0 54 54 rfl) (kcX4_classSum_0 55 4 rfl)
theorem kcX4_shorten_0 : CHb cX4_shorten 0 [28, 62, 29, 42, 180, 0, 25, 27, 46, 162, 0, 20, 42, 27, 29, 184, 0, 65, 3, 3, 182, 0, 69, 132, 3, 1, 167, 255, 232, 42, 180, 0, 25, 27, 28, 79, 177] := CHb_of (by decide +kernel)
theorem dX4_shorten_0 : decode cX4_shorten 0 = .ok (.iload_n 2, 1) := dw_28 (kcX4_shorten_0 0 28 rfl)
theorem dX4_shorten_1 : decode cX4_shorten 1 = .ok (.istore_n 3, 1) := dw_62 (kcX4_shorten_0 1 62 rfl)
theorem dX4_shorten_2 : decode cX4_shorten 2 = .ok (.iload_n 3, 1) := dw_29 (kcX4_shorten_0 2 29 rfl)
theorem dX4_shorten_3 : decode cX4_shorten 3 = .ok (.aload_n 0, 1) := dw_42 (kcX4_shorten_0 3 42 rfl)
theorem dX4_shorten_4 : decode cX4_shorten 4 = .ok (.getfield 25, 3) := dw_180 (kcX4_shorten_0 4 180 rfl) (kcX4_shorten_0 5 0 rfl) (kcX4_shorten_0 6 25 rfl) rfl
theorem dX4_shorten_7 : decode cX4_shorten 7 = .ok (.iload_n 1, 1) := dw_27 (kcX4_shorten_0 7 27 rfl)
theorem dX4_shorten_8 : decode cX4_shorten 8 = .ok (.iaload, 1) := dw_46 (kcX4_shorten_0 8 46 rfl)
theorem dX4_shorten_9 : decode cX4_shorten 9 = .ok (.if_icmp .ge 20, 3) := dw_162 (kcX4_shorten_0 9 162 rfl) (kcX4_shorten_0 10 0 rfl) (kcX4_shorten_0 11 20 rfl) rfl
theorem dX4_shorten_29 : decode cX4_shorten 29 = .ok (.aload_n 0, 1) := dw_42 (kcX4_shorten_0 29 42 rfl)
theorem dX4_shorten_30 : decode cX4_shorten 30 = .ok (.getfield 25, 3) := dw_180 (kcX4_shorten_0 30 180 rfl) (kcX4_shorten_0 31 0 rfl) (kcX4_shorten_0 32 25 rfl) rfl
theorem dX4_shorten_33 : decode cX4_shorten 33 = .ok (.iload_n 1, 1) := dw_27 (kcX4_shorten_0 33 27 rfl)
theorem dX4_shorten_34 : decode cX4_shorten 34 = .ok (.iload_n 2, 1) := dw_28 (kcX4_shorten_0 34 28 rfl)
theorem dX4_shorten_35 : decode cX4_shorten 35 = .ok (.iastore, 1) := dw_79 (kcX4_shorten_0 35 79 rfl)
theorem dX4_shorten_36 : decode cX4_shorten 36 = .ok (.return_, 1) := dw_177 (kcX4_shorten_0 36 177 rfl)
theorem dX4_shorten_12 : decode cX4_shorten 12 = .ok (.aload_n 0, 1) := dw_42 (kcX4_shorten_0 12 42 rfl)
theorem dX4_shorten_13 : decode cX4_shorten 13 = .ok (.iload_n 1, 1) := dw_27 (kcX4_shorten_0 13 27 rfl)
theorem dX4_shorten_14 : decode cX4_shorten 14 = .ok (.iload_n 3, 1) := dw_29 (kcX4_shorten_0 14 29 rfl)
theorem dX4_shorten_15 : decode cX4_shorten 15 = .ok (.invokestatic 65, 3) := dw_184 (kcX4_shorten_0 15 184 rfl) (kcX4_shorten_0 16 0 rfl) (kcX4_shorten_0 17 65 rfl) rfl
theorem dX4_shorten_18 : decode cX4_shorten 18 = .ok (.iconst 0, 1) := dw_3 (kcX4_shorten_0 18 3 rfl)
theorem dX4_shorten_19 : decode cX4_shorten 19 = .ok (.iconst 0, 1) := dw_3 (kcX4_shorten_0 19 3 rfl)
theorem dX4_shorten_20 : decode cX4_shorten 20 = .ok (.invokevirtual 69, 3) := dw_182 (kcX4_shorten_0 20 182 rfl) (kcX4_shorten_0 21 0 rfl) (kcX4_shorten_0 22 69 rfl) rfl
theorem dX4_shorten_23 : decode cX4_shorten 23 = .ok (.iinc 3 1, 3) := dw_132 (kcX4_shorten_0 23 132 rfl) (kcX4_shorten_0 24 3 rfl) (kcX4_shorten_0 25 1 rfl) rfl
theorem dX4_shorten_26 : decode cX4_shorten 26 = .ok (.goto (-24), 3) := dw_167 (kcX4_shorten_0 26 167 rfl) (kcX4_shorten_0 27 255 rfl) (kcX4_shorten_0 28 232 rfl) rfl
theorem kcX4_priceOfKept_0 : CHb cX4_priceOfKept 0 [3, 60, 3, 61, 28, 42, 180, 0, 15, 162, 0, 73, 42, 28, 182, 0, 80, 62, 3, 54, 4, 21, 4, 42, 180, 0, 19, 162, 0, 49, 29, 153, 0, 45, 28, 21, 4, 184, 0, 65, 54, 5, 42, 21, 5, 5, 182, 0, 84, 153, 0, 21, 42, 21, 5, 182, 0, 91, 154, 0, 12, 27, 42, 21] := CHb_of (by decide +kernel)
theorem dX4_priceOfKept_0 : decode cX4_priceOfKept 0 = .ok (.iconst 0, 1) := dw_3 (kcX4_priceOfKept_0 0 3 rfl)
theorem dX4_priceOfKept_1 : decode cX4_priceOfKept 1 = .ok (.istore_n 1, 1) := dw_60 (kcX4_priceOfKept_0 1 60 rfl)
theorem dX4_priceOfKept_2 : decode cX4_priceOfKept 2 = .ok (.iconst 0, 1) := dw_3 (kcX4_priceOfKept_0 2 3 rfl)
theorem dX4_priceOfKept_3 : decode cX4_priceOfKept 3 = .ok (.istore_n 2, 1) := dw_61 (kcX4_priceOfKept_0 3 61 rfl)
theorem dX4_priceOfKept_4 : decode cX4_priceOfKept 4 = .ok (.iload_n 2, 1) := dw_28 (kcX4_priceOfKept_0 4 28 rfl)
theorem dX4_priceOfKept_5 : decode cX4_priceOfKept 5 = .ok (.aload_n 0, 1) := dw_42 (kcX4_priceOfKept_0 5 42 rfl)
theorem dX4_priceOfKept_6 : decode cX4_priceOfKept 6 = .ok (.getfield 15, 3) := dw_180 (kcX4_priceOfKept_0 6 180 rfl) (kcX4_priceOfKept_0 7 0 rfl) (kcX4_priceOfKept_0 8 15 rfl) rfl
theorem dX4_priceOfKept_9 : decode cX4_priceOfKept 9 = .ok (.if_icmp .ge 73, 3) := dw_162 (kcX4_priceOfKept_0 9 162 rfl) (kcX4_priceOfKept_0 10 0 rfl) (kcX4_priceOfKept_0 11 73 rfl) rfl
theorem kcX4_priceOfKept_1 : CHb cX4_priceOfKept 64 [5, 182, 0, 94, 96, 60, 132, 4, 1, 167, 255, 204, 132, 2, 1, 167, 255, 181, 27, 172] := CHb_of (by decide +kernel)
theorem dX4_priceOfKept_82 : decode cX4_priceOfKept 82 = .ok (.iload_n 1, 1) := dw_27 (kcX4_priceOfKept_1 18 27 rfl)
theorem dX4_priceOfKept_83 : decode cX4_priceOfKept 83 = .ok (.ireturn, 1) := dw_172 (kcX4_priceOfKept_1 19 172 rfl)
theorem dX4_priceOfKept_12 : decode cX4_priceOfKept 12 = .ok (.aload_n 0, 1) := dw_42 (kcX4_priceOfKept_0 12 42 rfl)
theorem dX4_priceOfKept_13 : decode cX4_priceOfKept 13 = .ok (.iload_n 2, 1) := dw_28 (kcX4_priceOfKept_0 13 28 rfl)
theorem dX4_priceOfKept_14 : decode cX4_priceOfKept 14 = .ok (.invokevirtual 80, 3) := dw_182 (kcX4_priceOfKept_0 14 182 rfl) (kcX4_priceOfKept_0 15 0 rfl) (kcX4_priceOfKept_0 16 80 rfl) rfl
theorem dX4_priceOfKept_17 : decode cX4_priceOfKept 17 = .ok (.istore_n 3, 1) := dw_62 (kcX4_priceOfKept_0 17 62 rfl)
theorem dX4_priceOfKept_18 : decode cX4_priceOfKept 18 = .ok (.iconst 0, 1) := dw_3 (kcX4_priceOfKept_0 18 3 rfl)
theorem dX4_priceOfKept_19 : decode cX4_priceOfKept 19 = .ok (.istore 4, 2) := dw_54 (kcX4_priceOfKept_0 19 54 rfl) (kcX4_priceOfKept_0 20 4 rfl)
theorem dX4_priceOfKept_21 : decode cX4_priceOfKept 21 = .ok (.iload 4, 2) := dw_21 (kcX4_priceOfKept_0 21 21 rfl) (kcX4_priceOfKept_0 22 4 rfl)
theorem dX4_priceOfKept_23 : decode cX4_priceOfKept 23 = .ok (.aload_n 0, 1) := dw_42 (kcX4_priceOfKept_0 23 42 rfl)
theorem dX4_priceOfKept_24 : decode cX4_priceOfKept 24 = .ok (.getfield 19, 3) := dw_180 (kcX4_priceOfKept_0 24 180 rfl) (kcX4_priceOfKept_0 25 0 rfl) (kcX4_priceOfKept_0 26 19 rfl) rfl
theorem dX4_priceOfKept_27 : decode cX4_priceOfKept 27 = .ok (.if_icmp .ge 49, 3) := dw_162 (kcX4_priceOfKept_0 27 162 rfl) (kcX4_priceOfKept_0 28 0 rfl) (kcX4_priceOfKept_0 29 49 rfl) rfl
theorem dX4_priceOfKept_76 : decode cX4_priceOfKept 76 = .ok (.iinc 2 1, 3) := dw_132 (kcX4_priceOfKept_1 12 132 rfl) (kcX4_priceOfKept_1 13 2 rfl) (kcX4_priceOfKept_1 14 1 rfl) rfl
theorem dX4_priceOfKept_79 : decode cX4_priceOfKept 79 = .ok (.goto (-75), 3) := dw_167 (kcX4_priceOfKept_1 15 167 rfl) (kcX4_priceOfKept_1 16 255 rfl) (kcX4_priceOfKept_1 17 181 rfl) rfl
theorem dX4_priceOfKept_30 : decode cX4_priceOfKept 30 = .ok (.iload_n 3, 1) := dw_29 (kcX4_priceOfKept_0 30 29 rfl)
theorem dX4_priceOfKept_31 : decode cX4_priceOfKept 31 = .ok (.ifCond .eq 45, 3) := dw_153 (kcX4_priceOfKept_0 31 153 rfl) (kcX4_priceOfKept_0 32 0 rfl) (kcX4_priceOfKept_0 33 45 rfl) rfl
theorem dX4_priceOfKept_34 : decode cX4_priceOfKept 34 = .ok (.iload_n 2, 1) := dw_28 (kcX4_priceOfKept_0 34 28 rfl)
theorem dX4_priceOfKept_35 : decode cX4_priceOfKept 35 = .ok (.iload 4, 2) := dw_21 (kcX4_priceOfKept_0 35 21 rfl) (kcX4_priceOfKept_0 36 4 rfl)
theorem dX4_priceOfKept_37 : decode cX4_priceOfKept 37 = .ok (.invokestatic 65, 3) := dw_184 (kcX4_priceOfKept_0 37 184 rfl) (kcX4_priceOfKept_0 38 0 rfl) (kcX4_priceOfKept_0 39 65 rfl) rfl
theorem dX4_priceOfKept_40 : decode cX4_priceOfKept 40 = .ok (.istore 5, 2) := dw_54 (kcX4_priceOfKept_0 40 54 rfl) (kcX4_priceOfKept_0 41 5 rfl)
theorem dX4_priceOfKept_42 : decode cX4_priceOfKept 42 = .ok (.aload_n 0, 1) := dw_42 (kcX4_priceOfKept_0 42 42 rfl)
theorem dX4_priceOfKept_43 : decode cX4_priceOfKept 43 = .ok (.iload 5, 2) := dw_21 (kcX4_priceOfKept_0 43 21 rfl) (kcX4_priceOfKept_0 44 5 rfl)
theorem dX4_priceOfKept_45 : decode cX4_priceOfKept 45 = .ok (.iconst 2, 1) := dw_5 (kcX4_priceOfKept_0 45 5 rfl)
theorem dX4_priceOfKept_46 : decode cX4_priceOfKept 46 = .ok (.invokevirtual 84, 3) := dw_182 (kcX4_priceOfKept_0 46 182 rfl) (kcX4_priceOfKept_0 47 0 rfl) (kcX4_priceOfKept_0 48 84 rfl) rfl
theorem dX4_priceOfKept_49 : decode cX4_priceOfKept 49 = .ok (.ifCond .eq 21, 3) := dw_153 (kcX4_priceOfKept_0 49 153 rfl) (kcX4_priceOfKept_0 50 0 rfl) (kcX4_priceOfKept_0 51 21 rfl) rfl
theorem dX4_priceOfKept_70 : decode cX4_priceOfKept 70 = .ok (.iinc 4 1, 3) := dw_132 (kcX4_priceOfKept_1 6 132 rfl) (kcX4_priceOfKept_1 7 4 rfl) (kcX4_priceOfKept_1 8 1 rfl) rfl
theorem dX4_priceOfKept_73 : decode cX4_priceOfKept 73 = .ok (.goto (-52), 3) := dw_167 (kcX4_priceOfKept_1 9 167 rfl) (kcX4_priceOfKept_1 10 255 rfl) (kcX4_priceOfKept_1 11 204 rfl) rfl
theorem dX4_priceOfKept_52 : decode cX4_priceOfKept 52 = .ok (.aload_n 0, 1) := dw_42 (kcX4_priceOfKept_0 52 42 rfl)
theorem dX4_priceOfKept_53 : decode cX4_priceOfKept 53 = .ok (.iload 5, 2) := dw_21 (kcX4_priceOfKept_0 53 21 rfl) (kcX4_priceOfKept_0 54 5 rfl)
theorem dX4_priceOfKept_55 : decode cX4_priceOfKept 55 = .ok (.invokevirtual 91, 3) := dw_182 (kcX4_priceOfKept_0 55 182 rfl) (kcX4_priceOfKept_0 56 0 rfl) (kcX4_priceOfKept_0 57 91 rfl) rfl
theorem dX4_priceOfKept_58 : decode cX4_priceOfKept 58 = .ok (.ifCond .ne 12, 3) := dw_154 (kcX4_priceOfKept_0 58 154 rfl) (kcX4_priceOfKept_0 59 0 rfl) (kcX4_priceOfKept_0 60 12 rfl) rfl
theorem dX4_priceOfKept_61 : decode cX4_priceOfKept 61 = .ok (.iload_n 1, 1) := dw_27 (kcX4_priceOfKept_0 61 27 rfl)
theorem dX4_priceOfKept_62 : decode cX4_priceOfKept 62 = .ok (.aload_n 0, 1) := dw_42 (kcX4_priceOfKept_0 62 42 rfl)
theorem dX4_priceOfKept_63 : decode cX4_priceOfKept 63 = .ok (.iload 5, 2) := dw_21 (kcX4_priceOfKept_0 63 21 rfl) (kcX4_priceOfKept_1 0 5 rfl)
theorem dX4_priceOfKept_65 : decode cX4_priceOfKept 65 = .ok (.invokevirtual 94, 3) := dw_182 (kcX4_priceOfKept_1 1 182 rfl) (kcX4_priceOfKept_1 2 0 rfl) (kcX4_priceOfKept_1 3 94 rfl) rfl
theorem dX4_priceOfKept_68 : decode cX4_priceOfKept 68 = .ok (.iadd, 1) := dw_96 (kcX4_priceOfKept_1 4 96 rfl)
theorem dX4_priceOfKept_69 : decode cX4_priceOfKept 69 = .ok (.istore_n 1, 1) := dw_60 (kcX4_priceOfKept_1 5 60 rfl)
set_option maxHeartbeats 4000000 in
set_option maxRecDepth 100000 in
theorem c_X4_classSum (l : Launch) (G : GG) (a : Nat → Nat) (f : Nat → Int32) (r : Nat → Nat → Int32) (i c_ : Nat) (rw cl bk : Nat) (hrw : rw ≤ 12) (hcl : cl ≤ 12) (hbk : bk ≤ 12) (h1 : f 1 = nI rw) (h2 : f 2 = nI cl) (h3 : f 3 = nI bk) (hi : i < 12) (hc_ : c_ < 12) : RdI l yX4_classSum cX4_classSum 6 (some .int) ({ frames := 2, cells := 0, slots := 0, locals := 44 }) G (tW G a f r) [.ref (a 0), .int (nI i), .int (nI c_)] (fun q => q = csF cl (r 4) (r 5) (r 6) (r 10) (r 11) bk (clS (r 10) (r 11) (nI i) bk).1 c_ rw) := by
  refine rd_entry (by decide +kernel) (Nat.le_of_ble_eq_true rfl) ?_
  intro p e s m below meth c C0 hP hK ls hl
  have hS : va_S (fun q => s.heap.size ≤ q) s.heap s.heap [] := va_S.rf
  have hA : ∀ q, s.heap.size ≤ q → (fun q => s.heap.size ≤ q) q := fun _ h => h
  obtain ⟨hx, hb, hml, hown, hts, hr, hlocks, hin⟩ := C0
  have hown : s.vm.findClass RX4 = some m.cls := hown
  have hl : lv_has ls 6 [(0, .ref (a 0)), (1, .int (nI i)), (2, .int (nI c_))] := hl
  refine lv_aload_n hx hb dX4_classSum_0 rfl (lv_at hl 0 rfl) ?_
  refine lv_iload_n hx hb dX4_classSum_1 rfl (lv_at hl 1 rfl) ?_
  refine rdV (rest := []) (q0 := 0) ⟨hx, hb, hml, hown, hts⟩ (c_X4_classOf l G a f r (i) bk hbk h3) mi_yX4_classOf mv_yX4_classOf ml_X4_77 ⟨rfl, rfl, Nat.le_of_ble_eq_true rfl, Nat.le_of_ble_eq_true rfl⟩ hK (hP) rfl rfl rfl hl.1 rfl (Nat.le_of_ble_eq_true rfl) dX4_classSum_2 ⟨Nat.zero_le _, Nat.zero_le _⟩ hS hA hP (fun r1 H locs hr1 hP hS => ?_)
  refine lv_istore_n (lv' := [(3, .int r1), (0, .ref (a 0)), (1, .int (nI i)), (2, .int (nI c_))]) hx hb dX4_classSum_5 rfl hl (by decide) rfl (fun ls hl => ?_)
  refine lv_iconst (v := 0) hx hb dX4_classSum_6 (by decide) ?_
  refine lv_istore (lv' := [(4, .int 0), (3, .int r1), (0, .ref (a 0)), (1, .int (nI i)), (2, .int (nI c_))]) hx hb dX4_classSum_7 hl (by decide) rfl (fun ls hl => ?_)
  refine lv_iconst (v := 0) hx hb dX4_classSum_9 (by decide) ?_
  refine lv_istore (lv' := [(5, .int 0), (4, .int 0), (3, .int r1), (0, .ref (a 0)), (1, .int (nI i)), (2, .int (nI c_))]) hx hb dX4_classSum_10 hl (by decide) rfl (fun ls hl => ?_)
  subst hr1
  have loop : ∀ (k o : Nat), o ≤ rw → rw < o + k → ∀ (H : Heap) (locs : List Loc) (ls : Array Slot), PP G ([((a 0), .inr (4, [.int (f 0), .int (f 1), .int (f 2), .int (f 3), .ref (a 4), .ref (a 5), .ref (a 6), .ref (a 7), .ref (a 8), .ref (a 9), .ref (a 10), .ref (a 11)])), ((a 4), .inl (G.2.1, 12, .inl (r 4))), ((a 5), .inl (G.2.1, 144, .inl (r 5))), ((a 6), .inl (G.2.1, 144, .inl (r 6))), ((a 7), .inl (G.2.1, 144, .inl (r 7))), ((a 8), .inl (G.2.1, 864, .inl (r 8))), ((a 9), .inl (G.2.1, 6, .inl (r 9))), ((a 10), .inl (G.2.1, 12, .inl (r 10))), ((a 11), .inl (G.2.1, 12, .inl (r 11)))]) H → va_S (fun q => s.heap.size ≤ q) s.heap H locs → lv_has ls 6 [(0, .ref (a 0)), (1, .int (nI i)), (2, .int (nI c_)), (3, .int (clS (r 10) (r 11) (nI i) bk).1), (4, .int (csF cl (r 4) (r 5) (r 6) (r 10) (r 11) bk (clS (r 10) (r 11) (nI i) bk).1 c_ o)), (5, .int (nI o))] → W p l e ({ frames := 2, cells := 0, slots := 0, locals := 44 }) s m ([.ref (a 0), .int (nI i), .int (nI c_)] : List Value).toArray below meth c H locs 0 0 (MQ below (QrI (fun q => q = csF cl (r 4) (r 5) (r 6) (r 10) (r 11) bk (clS (r 10) (r 11) (nI i) bk).1 c_ rw) (fun q => s.heap.size ≤ q)) ([.ref (a 0), .int (nI i), .int (nI c_)] : List Value).toArray s 0 0 (fun q => s.heap.size ≤ q)) (F0 m 12 ls []) := by
    intro k
    induction k with
    | zero => intro o  h1 h2; omega
    | succ k ih =>
      intro o  hi_o hk_o  H locs ls hP hS hl
      refine lv_iload hx hb dX4_classSum_12 (lv_at hl 5 rfl) ?_
      refine lv_aload_n hx hb dX4_classSum_14 rfl (lv_at hl 0 rfl) ?_
      refine va_get (D := G.1) (ci := 4) (v := .int (f 1)) (C := RX4) (T := TX4) (N := 12) hx hb hts inX4 hown hK.1 hP 0 rfl rfl 1 (by decide) (hts _ mf_X4_15) (fun _ h9 => h9) rfl dX4_classSum_15 ?_
      refine lv_icmp_ge (tgt := 62) hx hb dX4_classSum_18 (by decide) (fun c2 => ?_) (fun c2 => ?_)
      · rw [h1] at c2
        have hge := ge_t (by omega) (by omega) c2
        obtain rfl : o = rw := by omega
        refine lv_iload hx hb dX4_classSum_62 (lv_at hl 4 rfl) ?_
        exact rd_iret hx hb hr hlocks hS rfl dX4_classSum_64
      · rw [h1] at c2
        have hlt := ge_f (by omega) (by omega) c2
        refine lv_aload_n hx hb dX4_classSum_21 rfl (lv_at hl 0 rfl) ?_
        refine lv_iload hx hb dX4_classSum_22 (lv_at hl 5 rfl) ?_
        refine rdV (rest := []) (q0 := 0) ⟨hx, hb, hml, hown, hts⟩ (c_X4_classOf l G a f r (o) bk hbk h3) mi_yX4_classOf mv_yX4_classOf ml_X4_77 ⟨rfl, rfl, Nat.le_of_ble_eq_true rfl, Nat.le_of_ble_eq_true rfl⟩ hK (hP) rfl rfl rfl hl.1 rfl (Nat.le_of_ble_eq_true rfl) dX4_classSum_24 ⟨Nat.zero_le _, Nat.zero_le _⟩ hS hA hP (fun r3 H locs hr3 hP hS => ?_)
        refine lv_iload_n hx hb dX4_classSum_27 rfl (lv_at hl 3 rfl) ?_
        refine lv_icmp_ne (tgt := 56) hx hb dX4_classSum_28 (by decide) (fun c4 => ?_) (fun c4 => ?_)
        · obtain ⟨v5, ev5⟩ : ∃ y : Int32, y = (nI o) + Int32.ofInt (1) := ⟨_, rfl⟩
          refine lv_iinc (v := v5) (lv' := [(5, .int v5), (0, .ref (a 0)), (1, .int (nI i)), (2, .int (nI c_)), (3, .int (clS (r 10) (r 11) (nI i) bk).1), (4, .int (csF cl (r 4) (r 5) (r 6) (r 10) (r 11) bk (clS (r 10) (r 11) (nI i) bk).1 c_ o))]) hx hb dX4_classSum_56 hl (k := 5) rfl ev5.symm (by decide) rfl (fun ls hl => ?_)
          refine lv_goto (tgt := 12) hx hb dX4_classSum_59 (by decide) ?_
          have e2 : csF cl (r 4) (r 5) (r 6) (r 10) (r 11) bk (clS (r 10) (r 11) (nI i) bk).1 c_ (o + 1) = (csF cl (r 4) (r 5) (r 6) (r 10) (r 11) bk (clS (r 10) (r 11) (nI i) bk).1 c_ o) := by
            show @ite _ _ (Classical.propDecidable _) _ _ = _
            rw [if_neg (fun q => c4 (by rw [hr3]; exact q.1))]
          exact ih (o + 1) (by omega) (by omega) _ _ _ hP hS (by have e := nI_inc ev5; rw [e] at hl; rw [e2]; exact lv_sub hl [1, 2, 3, 4, 5, 0] rfl)
        · refine lv_aload_n hx hb dX4_classSum_31 rfl (lv_at hl 0 rfl) ?_
          refine lv_iload hx hb dX4_classSum_32 (lv_at hl 5 rfl) ?_
          refine rdV (rest := []) (q0 := 0) ⟨hx, hb, hml, hown, hts⟩ (c_X4_isSound l G a f r (o) cl (by omega) hcl h2) mi_yX4_isSound mv_yX4_isSound ml_X4_80 ⟨rfl, rfl, Nat.le_of_ble_eq_true rfl, Nat.le_of_ble_eq_true rfl⟩ hK (hP) rfl rfl rfl hl.1 rfl (Nat.le_of_ble_eq_true rfl) dX4_classSum_34 ⟨Nat.zero_le _, Nat.zero_le _⟩ hS hA hP (fun r6 H locs hr6 hP hS => ?_)
          refine lv_if_eq (tgt := 56) hx hb dX4_classSum_37 (by decide) (fun c7 => ?_) (fun c7 => ?_)
          · obtain ⟨v8, ev8⟩ : ∃ y : Int32, y = (nI o) + Int32.ofInt (1) := ⟨_, rfl⟩
            refine lv_iinc (v := v8) (lv' := [(5, .int v8), (0, .ref (a 0)), (1, .int (nI i)), (2, .int (nI c_)), (3, .int (clS (r 10) (r 11) (nI i) bk).1), (4, .int (csF cl (r 4) (r 5) (r 6) (r 10) (r 11) bk (clS (r 10) (r 11) (nI i) bk).1 c_ o))]) hx hb dX4_classSum_56 hl (k := 5) rfl ev8.symm (by decide) rfl (fun ls hl => ?_)
            refine lv_goto (tgt := 12) hx hb dX4_classSum_59 (by decide) ?_
            have e2 : csF cl (r 4) (r 5) (r 6) (r 10) (r 11) bk (clS (r 10) (r 11) (nI i) bk).1 c_ (o + 1) = (csF cl (r 4) (r 5) (r 6) (r 10) (r 11) bk (clS (r 10) (r 11) (nI i) bk).1 c_ o) := by
              show @ite _ _ (Classical.propDecidable _) _ _ = _
              rw [if_neg (fun q => hr6.elim (fun z => absurd (z.1.symm.trans c7) (by decide)) (fun z => z.2 q.2))]
            exact ih (o + 1) (by omega) (by omega) _ _ _ hP hS (by have e := nI_inc ev8; rw [e] at hl; rw [e2]; exact lv_sub hl [1, 2, 3, 4, 5, 0] rfl)
          · refine lv_iload hx hb dX4_classSum_40 (lv_at hl 4 rfl) ?_
            refine lv_aload_n hx hb dX4_classSum_42 rfl (lv_at hl 0 rfl) ?_
            refine va_get (D := G.1) (ci := 4) (v := .ref (a 6)) (C := RX4) (T := TX4) (N := 12) hx hb hts inX4 hown hK.1 hP 0 rfl rfl 6 (by decide) (hts _ mf_X4_32) (fun _ h9 => h9) rfl dX4_classSum_43 ?_
            refine lv_iload hx hb dX4_classSum_46 (lv_at hl 5 rfl) ?_
            refine lv_iload_n hx hb dX4_classSum_48 rfl (lv_at hl 2 rfl) ?_
            refine rdSN (rest := [.ref (a 6), .int (csF cl (r 4) (r 5) (r 6) (r 10) (r 11) bk (clS (r 10) (r 11) (nI i) bk).1 c_ o)]) ⟨hx, hb, hml, hown, hts⟩ (c_X6_spotOf l G ((nI o)) ((nI c_))) mi_yX6_spotOf mst_yX6_spotOf (by decide +kernel) ⟨rfl, rfl, Nat.le_of_ble_eq_true rfl, Nat.le_of_ble_eq_true rfl⟩ hK (fun k q h => by simp at h) rfl hl.1 rfl (Nat.le_of_ble_eq_true rfl) dX4_classSum_49 ⟨Nat.zero_le _, Nat.zero_le _⟩ hS hA hP (fun r9 H locs hr9 hP hS => ?_)
            refine xiald hx hb hK hP 3 (o * 12 + c_) (spot_eq hr9) (by omega) (by omega) rfl dX4_classSum_52 ?_
            refine lv_topi (fun v10 ev10 => ?_)
            refine lv_iadd hx hb dX4_classSum_53 ?_
            refine lv_topi (fun v11 ev11 => ?_)
            refine lv_istore (lv' := [(4, .int v11), (0, .ref (a 0)), (1, .int (nI i)), (2, .int (nI c_)), (3, .int (clS (r 10) (r 11) (nI i) bk).1), (5, .int (nI o))]) hx hb dX4_classSum_54 hl (by decide) rfl (fun ls hl => ?_)
            obtain ⟨v12, ev12⟩ : ∃ y : Int32, y = (nI o) + Int32.ofInt (1) := ⟨_, rfl⟩
            refine lv_iinc (v := v12) (lv' := [(5, .int v12), (4, .int v11), (0, .ref (a 0)), (1, .int (nI i)), (2, .int (nI c_)), (3, .int (clS (r 10) (r 11) (nI i) bk).1)]) hx hb dX4_classSum_56 hl (k := 5) rfl ev12.symm (by decide) rfl (fun ls hl => ?_)
            refine lv_goto (tgt := 12) hx hb dX4_classSum_59 (by decide) ?_
            have e2 : csF cl (r 4) (r 5) (r 6) (r 10) (r 11) bk (clS (r 10) (r 11) (nI i) bk).1 c_ (o + 1) = v11 := by
              show @ite _ _ (Classical.propDecidable _) _ _ = _
              rw [if_pos ⟨by rw [← hr3]; exact c4, hr6.elim (fun q => q.2) (fun q => absurd q.1 c7)⟩]
              rw [ev11, ev10]
            exact ih (o + 1) (by omega) (by omega) _ _ _ hP hS (by have e := nI_inc ev12; rw [e] at hl; rw [e2]; exact lv_sub hl [2, 3, 4, 5, 1, 0] rfl)
  exact loop (rw + 1) 0 (Nat.zero_le _) (by omega) _ _ _ hP hS (lv_sub hl [3, 4, 5, 2, 1, 0] rfl)
set_option maxHeartbeats 4000000 in
set_option maxRecDepth 100000 in
theorem c_X4_shorten (l : Launch) (G : GG) (a : Nat → Nat) (f : Nat → Int32) (r : Nat → Nat → Int32) (i np p_ : Nat) (hi : i < 12) (hnp : np ≤ p_) (hp : p_ ≤ 12) (h4 : r 4 i = nI p_) : WrV l yX4_shorten cX4_shorten 4 ({ frames := 1, cells := 0, slots := 0, locals := 24 }) G (tW G a f r) [.ref (a 0), .int (nI i), .int (nI np)] (fun w => w = [((a 0), .inr (4, [.int (f 0), .int (f 1), .int (f 2), .int (f 3), .ref (a 4), .ref (a 5), .ref (a 6), .ref (a 7), .ref (a 8), .ref (a 9), .ref (a 10), .ref (a 11)])), ((a 4), .inl (G.2.1, 12, .inl (upd (r 4) (i) (nI np)))), ((a 5), .inl (G.2.1, 144, .inl (rgF (r 5) 0 (i * 12 + np) (p_ - np)))), ((a 6), .inl (G.2.1, 144, .inl (rgF (r 6) 0 (i * 12 + np) (p_ - np)))), ((a 7), .inl (G.2.1, 144, .inl (rgF (r 7) 0 (i * 12 + np) (p_ - np)))), ((a 8), .inl (G.2.1, 864, .inl (rgF (r 8) 0 ((i * 12 + np) * 6) ((p_ - np) * 6)))), ((a 9), .inl (G.2.1, 6, .inl (r 9))), ((a 10), .inl (G.2.1, 12, .inl (r 10))), ((a 11), .inl (G.2.1, 12, .inl (r 11)))]) := by
  refine wr_entryV (by decide +kernel) (Nat.le_of_ble_eq_true rfl) ?_
  intro p e s m below meth c A C0 hP hK hD hA ls hl
  have hS : va_S A s.heap s.heap [] := va_S.rf
  obtain ⟨hx, hb, hml, hown, hts, hr, hlocks, hin⟩ := C0
  have hown : s.vm.findClass RX4 = some m.cls := hown
  have hl : lv_has ls 4 [(0, .ref (a 0)), (1, .int (nI i)), (2, .int (nI np))] := hl
  refine lv_iload_n hx hb dX4_shorten_0 rfl (lv_at hl 2 rfl) ?_
  refine lv_istore_n (lv' := [(3, .int (nI np)), (0, .ref (a 0)), (1, .int (nI i)), (2, .int (nI np))]) hx hb dX4_shorten_1 rfl hl (by decide) rfl (fun ls hl => ?_)
  have loop : ∀ (k t : Nat), t ≤ (p_ - np) → (p_ - np) < t + k → ∀ (H : Heap) (locs : List Loc) (ls : Array Slot), PP G ([((a 0), .inr (4, [.int (f 0), .int (f 1), .int (f 2), .int (f 3), .ref (a 4), .ref (a 5), .ref (a 6), .ref (a 7), .ref (a 8), .ref (a 9), .ref (a 10), .ref (a 11)])), ((a 4), .inl (G.2.1, 12, .inl (r 4))), ((a 5), .inl (G.2.1, 144, .inl (rgF (r 5) 0 (i * 12 + np) t))), ((a 6), .inl (G.2.1, 144, .inl (rgF (r 6) 0 (i * 12 + np) t))), ((a 7), .inl (G.2.1, 144, .inl (rgF (r 7) 0 (i * 12 + np) t))), ((a 8), .inl (G.2.1, 864, .inl (rgF (r 8) 0 ((i * 12 + np) * 6) (t * 6)))), ((a 9), .inl (G.2.1, 6, .inl (r 9))), ((a 10), .inl (G.2.1, 12, .inl (r 10))), ((a 11), .inl (G.2.1, 12, .inl (r 11)))]) H → va_S A s.heap H locs → lv_has ls 4 [(0, .ref (a 0)), (1, .int (nI i)), (2, .int (nI np)), (3, .int (nI (np + t)))] → W p l e ({ frames := 1, cells := 0, slots := 0, locals := 24 }) s m ([.ref (a 0), .int (nI i), .int (nI np)] : List Value).toArray below meth c H locs 0 0 (MQ below (QwV G (fun w => w = [((a 0), .inr (4, [.int (f 0), .int (f 1), .int (f 2), .int (f 3), .ref (a 4), .ref (a 5), .ref (a 6), .ref (a 7), .ref (a 8), .ref (a 9), .ref (a 10), .ref (a 11)])), ((a 4), .inl (G.2.1, 12, .inl (upd (r 4) (i) (nI np)))), ((a 5), .inl (G.2.1, 144, .inl (rgF (r 5) 0 (i * 12 + np) (p_ - np)))), ((a 6), .inl (G.2.1, 144, .inl (rgF (r 6) 0 (i * 12 + np) (p_ - np)))), ((a 7), .inl (G.2.1, 144, .inl (rgF (r 7) 0 (i * 12 + np) (p_ - np)))), ((a 8), .inl (G.2.1, 864, .inl (rgF (r 8) 0 ((i * 12 + np) * 6) ((p_ - np) * 6)))), ((a 9), .inl (G.2.1, 6, .inl (r 9))), ((a 10), .inl (G.2.1, 12, .inl (r 10))), ((a 11), .inl (G.2.1, 12, .inl (r 11)))]) A) ([.ref (a 0), .int (nI i), .int (nI np)] : List Value).toArray s 0 0 A) (F0 m 2 ls []) := by
    intro k
    induction k with
    | zero => intro t  h1 h2; omega
    | succ k ih =>
      intro t  hi_t hk_t  H locs ls hP hS hl
      have hD := D_as2 hP hD rfl
      refine lv_iload_n hx hb dX4_shorten_2 rfl (lv_at hl 3 rfl) ?_
      refine lv_aload_n hx hb dX4_shorten_3 rfl (lv_at hl 0 rfl) ?_
      refine va_get (D := G.1) (ci := 4) (v := .ref (a 4)) (C := RX4) (T := TX4) (N := 12) hx hb hts inX4 hown hK.1 hP 0 rfl rfl 4 (by decide) (hts _ mf_X4_25) (fun _ h9 => h9) rfl dX4_shorten_4 ?_
      refine lv_iload_n hx hb dX4_shorten_7 rfl (lv_at hl 1 rfl) ?_
      refine xiald hx hb hK hP 1 (i) (rfl) (hi) (by omega) rfl dX4_shorten_8 ?_
      refine lv_topi (fun v1 ev1 => ?_)
      refine lv_icmp_ge (tgt := 29) hx hb dX4_shorten_9 (by decide) (fun c2 => ?_) (fun c2 => ?_)
      · rw [ev1, h4] at c2
        have hge := ge_t (by omega) (by omega) c2
        have heq : t = p_ - np := by omega
        refine lv_aload_n hx hb dX4_shorten_29 rfl (lv_at hl 0 rfl) ?_
        refine va_get (D := G.1) (ci := 4) (v := .ref (a 4)) (C := RX4) (T := TX4) (N := 12) hx hb hts inX4 hown hK.1 hP 0 rfl rfl 4 (by decide) (hts _ mf_X4_25) (fun _ h9 => h9) rfl dX4_shorten_30 ?_
        refine lv_iload_n hx hb dX4_shorten_33 rfl (lv_at hl 1 rfl) ?_
        refine lv_iload_n hx hb dX4_shorten_34 rfl (lv_at hl 2 rfl) ?_
        refine xiast (x := (nI np)) hx hb hK hP hD hS 1 (i) (rfl) (hi) (by omega) rfl dX4_shorten_35 (fun H locs hP hD hS => ?_)
        have hP : PP G [((a 0), .inr (4, [.int (f 0), .int (f 1), .int (f 2), .int (f 3), .ref (a 4), .ref (a 5), .ref (a 6), .ref (a 7), .ref (a 8), .ref (a 9), .ref (a 10), .ref (a 11)])), ((a 4), .inl (G.2.1, 12, .inl (upd (r 4) (i) ((nI np))))), ((a 5), .inl (G.2.1, 144, .inl (rgF (r 5) 0 (i * 12 + np) t))), ((a 6), .inl (G.2.1, 144, .inl (rgF (r 6) 0 (i * 12 + np) t))), ((a 7), .inl (G.2.1, 144, .inl (rgF (r 7) 0 (i * 12 + np) t))), ((a 8), .inl (G.2.1, 864, .inl (rgF (r 8) 0 ((i * 12 + np) * 6) (t * 6)))), ((a 9), .inl (G.2.1, 6, .inl (r 9))), ((a 10), .inl (G.2.1, 12, .inl (r 10))), ((a 11), .inl (G.2.1, 12, .inl (r 11)))] H := hP
        have hD := D_as hP hD rfl
        subst heq
        exact wr_vret hx hb hr hlocks hS hP rfl dX4_shorten_36
      · rw [ev1, h4] at c2
        have hlt := ge_f (by omega) (by omega) c2
        refine lv_aload_n hx hb dX4_shorten_12 rfl (lv_at hl 0 rfl) ?_
        refine lv_iload_n hx hb dX4_shorten_13 rfl (lv_at hl 1 rfl) ?_
        refine lv_iload_n hx hb dX4_shorten_14 rfl (lv_at hl 3 rfl) ?_
        refine rdSN (rest := [.ref (a 0)]) ⟨hx, hb, hml, hown, hts⟩ (c_X6_spotOf l G ((nI i)) ((nI (np + t)))) mi_yX6_spotOf mst_yX6_spotOf (by decide +kernel) ⟨rfl, rfl, Nat.le_of_ble_eq_true rfl, Nat.le_of_ble_eq_true rfl⟩ hK (fun k q h => by simp at h) rfl hl.1 rfl (Nat.le_of_ble_eq_true rfl) dX4_shorten_15 ⟨Nat.zero_le _, Nat.zero_le _⟩ hS hA hP (fun r3 H locs hr3 hP hS => ?_)
        refine lv_iconst (v := 0) hx hb dX4_shorten_18 (by decide) ?_
        refine lv_iconst (v := 0) hx hb dX4_shorten_19 (by decide) ?_
        have e_sp : r3 = nI (i * 12 + np + t) := (spot_eq hr3).trans (by rw [Nat.add_assoc])
        subst e_sp
        refine wrVV (rest := []) (q0 := 0) ⟨hx, hb, hml, hown, hts⟩ (c_X4_put l G a f (fun k => match k with | 5 => rgF (r 5) 0 (i * 12 + np) t | 6 => rgF (r 6) 0 (i * 12 + np) t | 7 => rgF (r 7) 0 (i * 12 + np) t | _ => rgF (r 8) 0 ((i * 12 + np) * 6) (t * 6)) (i * 12 + np + t) 0 0 (by omega)) mi_yX4_put mv_yX4_put ml_X4_69 ⟨rfl, rfl, Nat.le_of_ble_eq_true rfl, Nat.le_of_ble_eq_true rfl⟩ hK hP hD [0, 2, 3, 4, 5] rfl (by decide) rfl rfl rfl hl.1 rfl (Nat.le_of_ble_eq_true rfl) dX4_shorten_20 ⟨Nat.zero_le _, Nat.zero_le _⟩ hS hA (fun w5 H locs hw5 hP hS => ?_)
        obtain rfl := hw5
        have hP : PP G [((a 0), .inr (4, [.int (f 0), .int (f 1), .int (f 2), .int (f 3), .ref (a 4), .ref (a 5), .ref (a 6), .ref (a 7), .ref (a 8), .ref (a 9), .ref (a 10), .ref (a 11)])), ((a 4), .inl (G.2.1, 12, .inl (r 4))), ((a 5), .inl (G.2.1, 144, .inl (rgF (r 5) 0 (i * 12 + np) (t + 1)))), ((a 6), .inl (G.2.1, 144, .inl (rgF (r 6) 0 (i * 12 + np) (t + 1)))), ((a 7), .inl (G.2.1, 144, .inl (rgF (r 7) 0 (i * 12 + np) (t + 1)))), ((a 8), .inl (G.2.1, 864, .inl (rgF (r 8) 0 ((i * 12 + np) * 6) ((t + 1) * 6)))), ((a 9), .inl (G.2.1, 6, .inl (r 9))), ((a 10), .inl (G.2.1, 12, .inl (r 10))), ((a 11), .inl (G.2.1, 12, .inl (r 11)))] H := by
          have h := hP rfl
          have e4 := rgF_app (r 8) 0 ((i * 12 + np) * 6) (t * 6) 6
          rw [← rgF_s, ← rgF_s, ← rgF_s, show (t + 1) * 6 = t * 6 + 6 by omega, ← e4, show (i * 12 + np) * 6 + t * 6 = (i * 12 + np + t) * 6 by omega]
          exact h
        have hD := D_as2 hP hD rfl
        obtain ⟨v6, ev6⟩ : ∃ y : Int32, y = (nI (np + t)) + Int32.ofInt (1) := ⟨_, rfl⟩
        refine lv_iinc (v := v6) (lv' := [(3, .int v6), (0, .ref (a 0)), (1, .int (nI i)), (2, .int (nI np))]) hx hb dX4_shorten_23 hl (k := 3) rfl ev6.symm (by decide) rfl (fun ls hl => ?_)
        refine lv_goto (tgt := 2) hx hb dX4_shorten_26 (by decide) ?_
        exact ih (t + 1) (by omega) (by omega) _ _ _ hP hS (by have e := nI_inc ev6; rw [e, Nat.add_assoc] at hl; exact lv_sub hl [1, 2, 3, 0] rfl)
  exact loop (p_ - np + 1) 0 (Nat.zero_le _) (by omega) _ _ _ (by rw [rgF_0, rgF_0, rgF_0, Nat.zero_mul, rgF_0]; exact hP) hS (lv_sub hl [1, 2, 3, 0] rfl)
set_option maxHeartbeats 4000000 in
set_option maxRecDepth 100000 in
theorem c_X4_priceOfKept (l : Launch) (G : GG) (a : Nat → Nat) (f : Nat → Int32) (r : Nat → Nat → Int32) (rw cl bk : Nat) (hrw : rw ≤ 12) (hcl : cl ≤ 12) (hbk : bk ≤ 12) (h1 : f 1 = nI rw) (h2 : f 2 = nI cl) (h3 : f 3 = nI bk) : RdI l yX4_priceOfKept cX4_priceOfKept 6 (some .int) ({ frames := 2, cells := 0, slots := 0, locals := 48 }) G (tW G a f r) [.ref (a 0)] (fun _ => True) := by
  refine rd_entry (by decide +kernel) (Nat.le_of_ble_eq_true rfl) ?_
  intro p e s m below meth c C0 hP hK ls hl
  have hS : va_S (fun q => s.heap.size ≤ q) s.heap s.heap [] := va_S.rf
  have hA : ∀ q, s.heap.size ≤ q → (fun q => s.heap.size ≤ q) q := fun _ h => h
  obtain ⟨hx, hb, hml, hown, hts, hr, hlocks, hin⟩ := C0
  have hown : s.vm.findClass RX4 = some m.cls := hown
  have hl : lv_has ls 6 [(0, .ref (a 0))] := hl
  refine lv_iconst (v := 0) hx hb dX4_priceOfKept_0 (by decide) ?_
  refine lv_istore_n (lv' := [(1, .int 0), (0, .ref (a 0))]) hx hb dX4_priceOfKept_1 rfl hl (by decide) rfl (fun ls hl => ?_)
  refine lv_iconst (v := 0) hx hb dX4_priceOfKept_2 (by decide) ?_
  refine lv_istore_n (lv' := [(2, .int 0), (1, .int 0), (0, .ref (a 0))]) hx hb dX4_priceOfKept_3 rfl hl (by decide) rfl (fun ls hl => ?_)
  have outer : ∀ (k i : Nat) (s_ : Int32), i ≤ rw → rw < i + k → ∀ (H : Heap) (locs : List Loc) (ls : Array Slot), PP G ([((a 0), .inr (4, [.int (f 0), .int (f 1), .int (f 2), .int (f 3), .ref (a 4), .ref (a 5), .ref (a 6), .ref (a 7), .ref (a 8), .ref (a 9), .ref (a 10), .ref (a 11)])), ((a 4), .inl (G.2.1, 12, .inl (r 4))), ((a 5), .inl (G.2.1, 144, .inl (r 5))), ((a 6), .inl (G.2.1, 144, .inl (r 6))), ((a 7), .inl (G.2.1, 144, .inl (r 7))), ((a 8), .inl (G.2.1, 864, .inl (r 8))), ((a 9), .inl (G.2.1, 6, .inl (r 9))), ((a 10), .inl (G.2.1, 12, .inl (r 10))), ((a 11), .inl (G.2.1, 12, .inl (r 11)))]) H → va_S (fun q => s.heap.size ≤ q) s.heap H locs → lv_has ls 6 [(0, .ref (a 0)), (1, .int s_), (2, .int (nI i))] → W p l e ({ frames := 2, cells := 0, slots := 0, locals := 48 }) s m ([.ref (a 0)] : List Value).toArray below meth c H locs 0 0 (MQ below (QrI (fun _ => True) (fun q => s.heap.size ≤ q)) ([.ref (a 0)] : List Value).toArray s 0 0 (fun q => s.heap.size ≤ q)) (F0 m 4 ls []) := by
    intro k
    induction k with
    | zero => intro i s_ h1 h2; omega
    | succ k ih =>
      intro i s_ hi_i hk_i  H locs ls hP hS hl
      refine lv_iload_n hx hb dX4_priceOfKept_4 rfl (lv_at hl 2 rfl) ?_
      refine lv_aload_n hx hb dX4_priceOfKept_5 rfl (lv_at hl 0 rfl) ?_
      refine va_get (D := G.1) (ci := 4) (v := .int (f 1)) (C := RX4) (T := TX4) (N := 12) hx hb hts inX4 hown hK.1 hP 0 rfl rfl 1 (by decide) (hts _ mf_X4_15) (fun _ h9 => h9) rfl dX4_priceOfKept_6 ?_
      refine lv_icmp_ge (tgt := 82) hx hb dX4_priceOfKept_9 (by decide) (fun c1 => ?_) (fun c1 => ?_)
      · rw [h1] at c1
        have hge := ge_t (by omega) (by omega) c1
        obtain rfl : i = rw := by omega
        refine lv_iload_n hx hb dX4_priceOfKept_82 rfl (lv_at hl 1 rfl) ?_
        exact rd_iret hx hb hr hlocks hS trivial dX4_priceOfKept_83
      · rw [h1] at c1
        have hlt := ge_f (by omega) (by omega) c1
        refine lv_aload_n hx hb dX4_priceOfKept_12 rfl (lv_at hl 0 rfl) ?_
        refine lv_iload_n hx hb dX4_priceOfKept_13 rfl (lv_at hl 2 rfl) ?_
        refine rdV (rest := []) (q0 := 0) ⟨hx, hb, hml, hown, hts⟩ (c_X4_isSound l G a f r (i) cl (by omega) hcl h2) mi_yX4_isSound mv_yX4_isSound ml_X4_80 ⟨rfl, rfl, Nat.le_of_ble_eq_true rfl, Nat.le_of_ble_eq_true rfl⟩ hK (hP) rfl rfl rfl hl.1 rfl (Nat.le_of_ble_eq_true rfl) dX4_priceOfKept_14 ⟨Nat.zero_le _, Nat.zero_le _⟩ hS hA hP (fun r2 H locs hr2 hP hS => ?_)
        refine lv_istore_n (lv' := [(3, .int r2), (0, .ref (a 0)), (1, .int s_), (2, .int (nI i))]) hx hb dX4_priceOfKept_17 rfl hl (by decide) rfl (fun ls hl => ?_)
        refine lv_iconst (v := 0) hx hb dX4_priceOfKept_18 (by decide) ?_
        refine lv_istore (lv' := [(4, .int 0), (3, .int r2), (0, .ref (a 0)), (1, .int s_), (2, .int (nI i))]) hx hb dX4_priceOfKept_19 hl (by decide) rfl (fun ls hl => ?_)
        have inner : ∀ (k2 j : Nat) (t_ : Int32), j ≤ cl → cl < j + k2 → ∀ (H : Heap) (locs : List Loc) (ls : Array Slot), PP G ([((a 0), .inr (4, [.int (f 0), .int (f 1), .int (f 2), .int (f 3), .ref (a 4), .ref (a 5), .ref (a 6), .ref (a 7), .ref (a 8), .ref (a 9), .ref (a 10), .ref (a 11)])), ((a 4), .inl (G.2.1, 12, .inl (r 4))), ((a 5), .inl (G.2.1, 144, .inl (r 5))), ((a 6), .inl (G.2.1, 144, .inl (r 6))), ((a 7), .inl (G.2.1, 144, .inl (r 7))), ((a 8), .inl (G.2.1, 864, .inl (r 8))), ((a 9), .inl (G.2.1, 6, .inl (r 9))), ((a 10), .inl (G.2.1, 12, .inl (r 10))), ((a 11), .inl (G.2.1, 12, .inl (r 11)))]) H → va_S (fun q => s.heap.size ≤ q) s.heap H locs → lv_has ls 6 [(0, .ref (a 0)), (1, .int t_), (2, .int (nI i)), (3, .int r2), (4, .int (nI j))] → W p l e ({ frames := 2, cells := 0, slots := 0, locals := 48 }) s m ([.ref (a 0)] : List Value).toArray below meth c H locs 0 0 (MQ below (QrI (fun _ => True) (fun q => s.heap.size ≤ q)) ([.ref (a 0)] : List Value).toArray s 0 0 (fun q => s.heap.size ≤ q)) (F0 m 21 ls []) := by
          intro k2
          induction k2 with
          | zero => intro j t_ h1 h2; omega
          | succ k2 ih2 =>
            intro j t_ hi_j hk_j  H locs ls hP hS hl
            refine lv_iload hx hb dX4_priceOfKept_21 (lv_at hl 4 rfl) ?_
            refine lv_aload_n hx hb dX4_priceOfKept_23 rfl (lv_at hl 0 rfl) ?_
            refine va_get (D := G.1) (ci := 4) (v := .int (f 2)) (C := RX4) (T := TX4) (N := 12) hx hb hts inX4 hown hK.1 hP 0 rfl rfl 2 (by decide) (hts _ mf_X4_19) (fun _ h9 => h9) rfl dX4_priceOfKept_24 ?_
            refine lv_icmp_ge (tgt := 76) hx hb dX4_priceOfKept_27 (by decide) (fun c3 => ?_) (fun c3 => ?_)
            · rw [h2] at c3
              have hge2 := ge_t (by omega) (by omega) c3
              have heq2 : j = cl := by omega
              obtain ⟨v4, ev4⟩ : ∃ y : Int32, y = (nI i) + Int32.ofInt (1) := ⟨_, rfl⟩
              refine lv_iinc (v := v4) (lv' := [(2, .int v4), (0, .ref (a 0)), (1, .int t_), (3, .int r2), (4, .int (nI j))]) hx hb dX4_priceOfKept_76 hl (k := 2) rfl ev4.symm (by decide) rfl (fun ls hl => ?_)
              refine lv_goto (tgt := 4) hx hb dX4_priceOfKept_79 (by decide) ?_
              exact ih (i + 1) t_ (by omega) (by omega) _ _ _ hP hS (by have e := nI_inc ev4; rw [e] at hl; exact lv_sub hl [1, 2, 0] rfl)
            · rw [h2] at c3
              have hlt2 := ge_f (by omega) (by omega) c3
              refine lv_iload_n hx hb dX4_priceOfKept_30 rfl (lv_at hl 3 rfl) ?_
              refine lv_if_eq (tgt := 76) hx hb dX4_priceOfKept_31 (by decide) (fun c5 => ?_) (fun c5 => ?_)
              · obtain ⟨v6, ev6⟩ : ∃ y : Int32, y = (nI i) + Int32.ofInt (1) := ⟨_, rfl⟩
                refine lv_iinc (v := v6) (lv' := [(2, .int v6), (0, .ref (a 0)), (1, .int t_), (3, .int r2), (4, .int (nI j))]) hx hb dX4_priceOfKept_76 hl (k := 2) rfl ev6.symm (by decide) rfl (fun ls hl => ?_)
                refine lv_goto (tgt := 4) hx hb dX4_priceOfKept_79 (by decide) ?_
                exact ih (i + 1) t_ (by omega) (by omega) _ _ _ hP hS (by have e := nI_inc ev6; rw [e] at hl; exact lv_sub hl [1, 2, 0] rfl)
              · refine lv_iload_n hx hb dX4_priceOfKept_34 rfl (lv_at hl 2 rfl) ?_
                refine lv_iload hx hb dX4_priceOfKept_35 (lv_at hl 4 rfl) ?_
                refine rdSN (rest := []) ⟨hx, hb, hml, hown, hts⟩ (c_X6_spotOf l G ((nI i)) ((nI j))) mi_yX6_spotOf mst_yX6_spotOf (by decide +kernel) ⟨rfl, rfl, Nat.le_of_ble_eq_true rfl, Nat.le_of_ble_eq_true rfl⟩ hK (fun k q h => by simp at h) rfl hl.1 rfl (Nat.le_of_ble_eq_true rfl) dX4_priceOfKept_37 ⟨Nat.zero_le _, Nat.zero_le _⟩ hS hA hP (fun r7 H locs hr7 hP hS => ?_)
                obtain rfl : r7 = nI (i * 12 + j) := spot_eq hr7
                refine lv_istore (lv' := [(5, .int (nI (i * 12 + j))), (0, .ref (a 0)), (1, .int t_), (2, .int (nI i)), (3, .int r2), (4, .int (nI j))]) hx hb dX4_priceOfKept_40 hl (by decide) rfl (fun ls hl => ?_)
                refine lv_aload_n hx hb dX4_priceOfKept_42 rfl (lv_at hl 1 rfl) ?_
                refine lv_iload hx hb dX4_priceOfKept_43 (lv_at hl 0 rfl) ?_
                refine lv_iconst (v := 2) hx hb dX4_priceOfKept_45 (by decide) ?_
                refine rdV (rest := []) (q0 := 0) ⟨hx, hb, hml, hown, hts⟩ (c_X4_wasTold l G a f r (i * 12 + j) 2 (by omega)) mi_yX4_wasTold mv_yX4_wasTold ml_X4_84 ⟨rfl, rfl, Nat.le_of_ble_eq_true rfl, Nat.le_of_ble_eq_true rfl⟩ hK (hP) rfl rfl rfl hl.1 rfl (Nat.le_of_ble_eq_true rfl) dX4_priceOfKept_46 ⟨Nat.zero_le _, Nat.zero_le _⟩ hS hA hP (fun r8 H locs hr8 hP hS => ?_)
                refine lv_if_eq (tgt := 70) hx hb dX4_priceOfKept_49 (by decide) (fun c9 => ?_) (fun c9 => ?_)
                · obtain ⟨v10, ev10⟩ : ∃ y : Int32, y = (nI j) + Int32.ofInt (1) := ⟨_, rfl⟩
                  refine lv_iinc (v := v10) (lv' := [(4, .int v10), (5, .int (nI (i * 12 + j))), (0, .ref (a 0)), (1, .int t_), (2, .int (nI i)), (3, .int r2)]) hx hb dX4_priceOfKept_70 hl (k := 5) rfl ev10.symm (by decide) rfl (fun ls hl => ?_)
                  refine lv_goto (tgt := 21) hx hb dX4_priceOfKept_73 (by decide) ?_
                  exact ih2 (j + 1) t_ (by omega) (by omega) _ _ _ hP hS (by have e := nI_inc ev10; rw [e] at hl; exact lv_sub hl [2, 3, 4, 5, 0] rfl)
                · refine lv_aload_n hx hb dX4_priceOfKept_52 rfl (lv_at hl 1 rfl) ?_
                  refine lv_iload hx hb dX4_priceOfKept_53 (lv_at hl 0 rfl) ?_
                  refine rdV (rest := []) (q0 := 0) ⟨hx, hb, hml, hown, hts⟩ (c_X4_reasons l G a f r (i * 12 + j) (by omega)) mi_yX4_reasons mv_yX4_reasons ml_X4_91 ⟨rfl, rfl, Nat.le_of_ble_eq_true rfl, Nat.le_of_ble_eq_true rfl⟩ hK (hP) rfl rfl rfl hl.1 rfl (Nat.le_of_ble_eq_true rfl) dX4_priceOfKept_55 ⟨Nat.zero_le _, Nat.zero_le _⟩ hS hA hP (fun r11 H locs hr11 hP hS => ?_)
                  refine lv_if_ne (tgt := 70) hx hb dX4_priceOfKept_58 (by decide) (fun c12 => ?_) (fun c12 => ?_)
                  · obtain ⟨v13, ev13⟩ : ∃ y : Int32, y = (nI j) + Int32.ofInt (1) := ⟨_, rfl⟩
                    refine lv_iinc (v := v13) (lv' := [(4, .int v13), (5, .int (nI (i * 12 + j))), (0, .ref (a 0)), (1, .int t_), (2, .int (nI i)), (3, .int r2)]) hx hb dX4_priceOfKept_70 hl (k := 5) rfl ev13.symm (by decide) rfl (fun ls hl => ?_)
                    refine lv_goto (tgt := 21) hx hb dX4_priceOfKept_73 (by decide) ?_
                    exact ih2 (j + 1) t_ (by omega) (by omega) _ _ _ hP hS (by have e := nI_inc ev13; rw [e] at hl; exact lv_sub hl [2, 3, 4, 5, 0] rfl)
                  · refine lv_iload_n hx hb dX4_priceOfKept_61 rfl (lv_at hl 2 rfl) ?_
                    refine lv_aload_n hx hb dX4_priceOfKept_62 rfl (lv_at hl 1 rfl) ?_
                    refine lv_iload hx hb dX4_priceOfKept_63 (lv_at hl 0 rfl) ?_
                    refine rdV (rest := [.int t_]) (q0 := 0) ⟨hx, hb, hml, hown, hts⟩ (c_X4_priceOf l G a f r (i * 12 + j) (by omega)) mi_yX4_priceOf mv_yX4_priceOf ml_X4_94 ⟨rfl, rfl, Nat.le_of_ble_eq_true rfl, Nat.le_of_ble_eq_true rfl⟩ hK (hP) rfl rfl rfl hl.1 rfl (Nat.le_of_ble_eq_true rfl) dX4_priceOfKept_65 ⟨Nat.zero_le _, Nat.zero_le _⟩ hS hA hP (fun r14 H locs hr14 hP hS => ?_)
                    refine lv_iadd hx hb dX4_priceOfKept_68 ?_
                    refine lv_topi (fun v15 ev15 => ?_)
                    refine lv_istore_n (lv' := [(1, .int v15), (5, .int (nI (i * 12 + j))), (0, .ref (a 0)), (2, .int (nI i)), (3, .int r2), (4, .int (nI j))]) hx hb dX4_priceOfKept_69 rfl hl (by decide) rfl (fun ls hl => ?_)
                    obtain ⟨v16, ev16⟩ : ∃ y : Int32, y = (nI j) + Int32.ofInt (1) := ⟨_, rfl⟩
                    refine lv_iinc (v := v16) (lv' := [(4, .int v16), (1, .int v15), (5, .int (nI (i * 12 + j))), (0, .ref (a 0)), (2, .int (nI i)), (3, .int r2)]) hx hb dX4_priceOfKept_70 hl (k := 5) rfl ev16.symm (by decide) rfl (fun ls hl => ?_)
                    refine lv_goto (tgt := 21) hx hb dX4_priceOfKept_73 (by decide) ?_
                    exact ih2 (j + 1) v15 (by omega) (by omega) _ _ _ hP hS (by have e := nI_inc ev16; rw [e] at hl; exact lv_sub hl [3, 1, 4, 5, 0] rfl)
        exact inner (cl + 1) 0 s_ (Nat.zero_le _) (by omega) _ _ _ hP hS (lv_sub hl [2, 3, 4, 1, 0] rfl)
  exact outer (rw + 1) 0 0 (Nat.zero_le _) (by omega) _ _ _ hP hS (lv_sub hl [2, 1, 0] rfl)
