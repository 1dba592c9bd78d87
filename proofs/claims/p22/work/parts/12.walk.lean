theorem ml_X5_25 : Cond.methodLink RX5 25 yJ7_fill_53178 ∈ TB := TB_t3 72 rfl rfl
theorem ml_X5_31 : Cond.methodLink RX5 31 yX5_leads ∈ TB := TB_t3 149 rfl rfl
theorem mcode_yX5_leads : Cond.code yX5_leads cX5_leads 10 (some .boolean) ∈ TB := TB_t3 89 rfl rfl
theorem mi_yX5_leads : MI yX5_leads cX5_leads 10 (some .boolean) 2 := ⟨mz_RX5, mcode_yX5_leads, by decide +kernel, by decide +kernel, by decide +kernel⟩
theorem mim_yX5_leads : Cond.instanceMethod yX5_leads ∈ TB := TB_t3 87 rfl rfl
theorem msel_yX5_leads : Cond.selects yX5_leads.cls yX5_leads yX5_leads ∈ TB := TB_t3 88 rfl rfl
theorem mv_yX5_leads : Cond.instanceMethod yX5_leads ∈ TB ∧ Cond.selects yX5_leads.cls yX5_leads yX5_leads ∈ TB := ⟨mim_yX5_leads, msel_yX5_leads⟩
theorem kcX5_wipe_0 : CHb cX5_wipe 0 [42, 180, 0, 9, 3, 184, 0, 25, 177] := CHb_of (by decide +kernel)
theorem dX5_wipe_0 : decode cX5_wipe 0 = .ok (.aload_n 0, 1) := dw_42 (kcX5_wipe_0 0 42 rfl)
theorem dX5_wipe_1 : decode cX5_wipe 1 = .ok (.getfield 9, 3) := dw_180 (kcX5_wipe_0 1 180 rfl) (kcX5_wipe_0 2 0 rfl) (kcX5_wipe_0 3 9 rfl) rfl
theorem dX5_wipe_4 : decode cX5_wipe 4 = .ok (.iconst 0, 1) := dw_3 (kcX5_wipe_0 4 3 rfl)
theorem dX5_wipe_5 : decode cX5_wipe 5 = .ok (.invokestatic 25, 3) := dw_184 (kcX5_wipe_0 5 184 rfl) (kcX5_wipe_0 6 0 rfl) (kcX5_wipe_0 7 25 rfl) rfl
theorem dX5_wipe_8 : decode cX5_wipe 8 = .ok (.return_, 1) := dw_177 (kcX5_wipe_0 8 177 rfl)
theorem kcX5_join_0 : CHb cX5_join 0 [4, 27, 120, 54, 5, 4, 28, 120, 54, 6, 42, 180, 0, 9, 27, 29, 153, 0, 15, 42, 180, 0, 9, 27, 46, 21, 6, 128, 167, 0, 14, 42, 180, 0, 9, 27, 46, 21, 6, 2, 130, 126, 79, 42, 180, 0, 9, 28, 21, 4, 153, 0, 15, 42, 180, 0, 9, 28, 46, 21, 5, 128, 167, 0] := CHb_of (by decide +kernel)
theorem dX5_join_0 : decode cX5_join 0 = .ok (.iconst 1, 1) := dw_4 (kcX5_join_0 0 4 rfl)
theorem dX5_join_1 : decode cX5_join 1 = .ok (.iload_n 1, 1) := dw_27 (kcX5_join_0 1 27 rfl)
theorem dX5_join_2 : decode cX5_join 2 = .ok (.ishl, 1) := dw_120 (kcX5_join_0 2 120 rfl)
theorem dX5_join_3 : decode cX5_join 3 = .ok (.istore 5, 2) := dw_54 (kcX5_join_0 3 54 rfl) (kcX5_join_0 4 5 rfl)
theorem dX5_join_5 : decode cX5_join 5 = .ok (.iconst 1, 1) := dw_4 (kcX5_join_0 5 4 rfl)
theorem dX5_join_6 : decode cX5_join 6 = .ok (.iload_n 2, 1) := dw_28 (kcX5_join_0 6 28 rfl)
theorem dX5_join_7 : decode cX5_join 7 = .ok (.ishl, 1) := dw_120 (kcX5_join_0 7 120 rfl)
theorem dX5_join_8 : decode cX5_join 8 = .ok (.istore 6, 2) := dw_54 (kcX5_join_0 8 54 rfl) (kcX5_join_0 9 6 rfl)
theorem dX5_join_10 : decode cX5_join 10 = .ok (.aload_n 0, 1) := dw_42 (kcX5_join_0 10 42 rfl)
theorem dX5_join_11 : decode cX5_join 11 = .ok (.getfield 9, 3) := dw_180 (kcX5_join_0 11 180 rfl) (kcX5_join_0 12 0 rfl) (kcX5_join_0 13 9 rfl) rfl
theorem dX5_join_14 : decode cX5_join 14 = .ok (.iload_n 1, 1) := dw_27 (kcX5_join_0 14 27 rfl)
theorem dX5_join_15 : decode cX5_join 15 = .ok (.iload_n 3, 1) := dw_29 (kcX5_join_0 15 29 rfl)
theorem dX5_join_16 : decode cX5_join 16 = .ok (.ifCond .eq 15, 3) := dw_153 (kcX5_join_0 16 153 rfl) (kcX5_join_0 17 0 rfl) (kcX5_join_0 18 15 rfl) rfl
theorem dX5_join_31 : decode cX5_join 31 = .ok (.aload_n 0, 1) := dw_42 (kcX5_join_0 31 42 rfl)
theorem dX5_join_32 : decode cX5_join 32 = .ok (.getfield 9, 3) := dw_180 (kcX5_join_0 32 180 rfl) (kcX5_join_0 33 0 rfl) (kcX5_join_0 34 9 rfl) rfl
theorem dX5_join_35 : decode cX5_join 35 = .ok (.iload_n 1, 1) := dw_27 (kcX5_join_0 35 27 rfl)
theorem dX5_join_36 : decode cX5_join 36 = .ok (.iaload, 1) := dw_46 (kcX5_join_0 36 46 rfl)
theorem dX5_join_37 : decode cX5_join 37 = .ok (.iload 6, 2) := dw_21 (kcX5_join_0 37 21 rfl) (kcX5_join_0 38 6 rfl)
theorem dX5_join_39 : decode cX5_join 39 = .ok (.iconst (-1), 1) := dw_2 (kcX5_join_0 39 2 rfl)
theorem dX5_join_40 : decode cX5_join 40 = .ok (.ixor, 1) := dw_130 (kcX5_join_0 40 130 rfl)
theorem dX5_join_41 : decode cX5_join 41 = .ok (.iand, 1) := dw_126 (kcX5_join_0 41 126 rfl)
theorem dX5_join_42 : decode cX5_join 42 = .ok (.iastore, 1) := dw_79 (kcX5_join_0 42 79 rfl)
theorem dX5_join_43 : decode cX5_join 43 = .ok (.aload_n 0, 1) := dw_42 (kcX5_join_0 43 42 rfl)
theorem dX5_join_44 : decode cX5_join 44 = .ok (.getfield 9, 3) := dw_180 (kcX5_join_0 44 180 rfl) (kcX5_join_0 45 0 rfl) (kcX5_join_0 46 9 rfl) rfl
theorem dX5_join_47 : decode cX5_join 47 = .ok (.iload_n 2, 1) := dw_28 (kcX5_join_0 47 28 rfl)
theorem dX5_join_48 : decode cX5_join 48 = .ok (.iload 4, 2) := dw_21 (kcX5_join_0 48 21 rfl) (kcX5_join_0 49 4 rfl)
theorem dX5_join_50 : decode cX5_join 50 = .ok (.ifCond .eq 15, 3) := dw_153 (kcX5_join_0 50 153 rfl) (kcX5_join_0 51 0 rfl) (kcX5_join_0 52 15 rfl) rfl
theorem kcX5_join_1 : CHb cX5_join 64 [14, 42, 180, 0, 9, 28, 46, 21, 5, 2, 130, 126, 79, 177] := CHb_of (by decide +kernel)
theorem dX5_join_65 : decode cX5_join 65 = .ok (.aload_n 0, 1) := dw_42 (kcX5_join_1 1 42 rfl)
theorem dX5_join_66 : decode cX5_join 66 = .ok (.getfield 9, 3) := dw_180 (kcX5_join_1 2 180 rfl) (kcX5_join_1 3 0 rfl) (kcX5_join_1 4 9 rfl) rfl
theorem dX5_join_69 : decode cX5_join 69 = .ok (.iload_n 2, 1) := dw_28 (kcX5_join_1 5 28 rfl)
theorem dX5_join_70 : decode cX5_join 70 = .ok (.iaload, 1) := dw_46 (kcX5_join_1 6 46 rfl)
theorem dX5_join_71 : decode cX5_join 71 = .ok (.iload 5, 2) := dw_21 (kcX5_join_1 7 21 rfl) (kcX5_join_1 8 5 rfl)
theorem dX5_join_73 : decode cX5_join 73 = .ok (.iconst (-1), 1) := dw_2 (kcX5_join_1 9 2 rfl)
theorem dX5_join_74 : decode cX5_join 74 = .ok (.ixor, 1) := dw_130 (kcX5_join_1 10 130 rfl)
theorem dX5_join_75 : decode cX5_join 75 = .ok (.iand, 1) := dw_126 (kcX5_join_1 11 126 rfl)
theorem dX5_join_76 : decode cX5_join 76 = .ok (.iastore, 1) := dw_79 (kcX5_join_1 12 79 rfl)
theorem dX5_join_77 : decode cX5_join 77 = .ok (.return_, 1) := dw_177 (kcX5_join_1 13 177 rfl)
theorem dX5_join_53 : decode cX5_join 53 = .ok (.aload_n 0, 1) := dw_42 (kcX5_join_0 53 42 rfl)
theorem dX5_join_54 : decode cX5_join 54 = .ok (.getfield 9, 3) := dw_180 (kcX5_join_0 54 180 rfl) (kcX5_join_0 55 0 rfl) (kcX5_join_0 56 9 rfl) rfl
theorem dX5_join_57 : decode cX5_join 57 = .ok (.iload_n 2, 1) := dw_28 (kcX5_join_0 57 28 rfl)
theorem dX5_join_58 : decode cX5_join 58 = .ok (.iaload, 1) := dw_46 (kcX5_join_0 58 46 rfl)
theorem dX5_join_59 : decode cX5_join 59 = .ok (.iload 5, 2) := dw_21 (kcX5_join_0 59 21 rfl) (kcX5_join_0 60 5 rfl)
theorem dX5_join_61 : decode cX5_join 61 = .ok (.ior, 1) := dw_128 (kcX5_join_0 61 128 rfl)
theorem dX5_join_62 : decode cX5_join 62 = .ok (.goto 14, 3) := dw_167 (kcX5_join_0 62 167 rfl) (kcX5_join_0 63 0 rfl) (kcX5_join_1 0 14 rfl) rfl
theorem dX5_join_19 : decode cX5_join 19 = .ok (.aload_n 0, 1) := dw_42 (kcX5_join_0 19 42 rfl)
theorem dX5_join_20 : decode cX5_join 20 = .ok (.getfield 9, 3) := dw_180 (kcX5_join_0 20 180 rfl) (kcX5_join_0 21 0 rfl) (kcX5_join_0 22 9 rfl) rfl
theorem dX5_join_23 : decode cX5_join 23 = .ok (.iload_n 1, 1) := dw_27 (kcX5_join_0 23 27 rfl)
theorem dX5_join_24 : decode cX5_join 24 = .ok (.iaload, 1) := dw_46 (kcX5_join_0 24 46 rfl)
theorem dX5_join_25 : decode cX5_join 25 = .ok (.iload 6, 2) := dw_21 (kcX5_join_0 25 21 rfl) (kcX5_join_0 26 6 rfl)
theorem dX5_join_27 : decode cX5_join 27 = .ok (.ior, 1) := dw_128 (kcX5_join_0 27 128 rfl)
theorem dX5_join_28 : decode cX5_join 28 = .ok (.goto 14, 3) := dw_167 (kcX5_join_0 28 167 rfl) (kcX5_join_0 29 0 rfl) (kcX5_join_0 30 14 rfl) rfl
theorem kcX5_leads_0 : CHb cX5_leads 0 [4, 28, 120, 62, 42, 4, 27, 120, 181, 0, 21, 42, 180, 0, 18, 3, 27, 79, 4, 54, 4, 3, 54, 5, 21, 5, 21, 4, 162, 0, 149, 21, 5, 16, 25, 162, 0, 142, 42, 180, 0, 18, 21, 5, 46, 54, 6, 42, 180, 0, 9, 21, 6, 46, 42, 180, 0, 21, 2, 130, 126, 54, 7, 21] := CHb_of (by decide +kernel)
theorem dX5_leads_0 : decode cX5_leads 0 = .ok (.iconst 1, 1) := dw_4 (kcX5_leads_0 0 4 rfl)
theorem dX5_leads_1 : decode cX5_leads 1 = .ok (.iload_n 2, 1) := dw_28 (kcX5_leads_0 1 28 rfl)
theorem dX5_leads_2 : decode cX5_leads 2 = .ok (.ishl, 1) := dw_120 (kcX5_leads_0 2 120 rfl)
theorem dX5_leads_3 : decode cX5_leads 3 = .ok (.istore_n 3, 1) := dw_62 (kcX5_leads_0 3 62 rfl)
theorem dX5_leads_4 : decode cX5_leads 4 = .ok (.aload_n 0, 1) := dw_42 (kcX5_leads_0 4 42 rfl)
theorem dX5_leads_5 : decode cX5_leads 5 = .ok (.iconst 1, 1) := dw_4 (kcX5_leads_0 5 4 rfl)
theorem dX5_leads_6 : decode cX5_leads 6 = .ok (.iload_n 1, 1) := dw_27 (kcX5_leads_0 6 27 rfl)
theorem dX5_leads_7 : decode cX5_leads 7 = .ok (.ishl, 1) := dw_120 (kcX5_leads_0 7 120 rfl)
theorem dX5_leads_8 : decode cX5_leads 8 = .ok (.putfield 21, 3) := dw_181 (kcX5_leads_0 8 181 rfl) (kcX5_leads_0 9 0 rfl) (kcX5_leads_0 10 21 rfl) rfl
theorem dX5_leads_11 : decode cX5_leads 11 = .ok (.aload_n 0, 1) := dw_42 (kcX5_leads_0 11 42 rfl)
theorem dX5_leads_12 : decode cX5_leads 12 = .ok (.getfield 18, 3) := dw_180 (kcX5_leads_0 12 180 rfl) (kcX5_leads_0 13 0 rfl) (kcX5_leads_0 14 18 rfl) rfl
theorem dX5_leads_15 : decode cX5_leads 15 = .ok (.iconst 0, 1) := dw_3 (kcX5_leads_0 15 3 rfl)
theorem dX5_leads_16 : decode cX5_leads 16 = .ok (.iload_n 1, 1) := dw_27 (kcX5_leads_0 16 27 rfl)
theorem dX5_leads_17 : decode cX5_leads 17 = .ok (.iastore, 1) := dw_79 (kcX5_leads_0 17 79 rfl)
theorem dX5_leads_18 : decode cX5_leads 18 = .ok (.iconst 1, 1) := dw_4 (kcX5_leads_0 18 4 rfl)
theorem dX5_leads_19 : decode cX5_leads 19 = .ok (.istore 4, 2) := dw_54 (kcX5_leads_0 19 54 rfl) (kcX5_leads_0 20 4 rfl)
theorem dX5_leads_21 : decode cX5_leads 21 = .ok (.iconst 0, 1) := dw_3 (kcX5_leads_0 21 3 rfl)
theorem dX5_leads_22 : decode cX5_leads 22 = .ok (.istore 5, 2) := dw_54 (kcX5_leads_0 22 54 rfl) (kcX5_leads_0 23 5 rfl)
theorem dX5_leads_24 : decode cX5_leads 24 = .ok (.iload 5, 2) := dw_21 (kcX5_leads_0 24 21 rfl) (kcX5_leads_0 25 5 rfl)
theorem dX5_leads_26 : decode cX5_leads 26 = .ok (.iload 4, 2) := dw_21 (kcX5_leads_0 26 21 rfl) (kcX5_leads_0 27 4 rfl)
theorem dX5_leads_28 : decode cX5_leads 28 = .ok (.if_icmp .ge 149, 3) := dw_162 (kcX5_leads_0 28 162 rfl) (kcX5_leads_0 29 0 rfl) (kcX5_leads_0 30 149 rfl) rfl
theorem kcX5_leads_2 : CHb cX5_leads 128 [7, 21, 9, 122, 4, 126, 153, 0, 31, 21, 4, 16, 25, 162, 0, 24, 42, 180, 0, 15, 21, 9, 21, 6, 79, 42, 180, 0, 18, 21, 4, 21, 9, 79, 132, 4, 1, 132, 9, 1, 167, 255, 200, 132, 5, 1, 167, 255, 106, 3, 172] := CHb_of (by decide +kernel)
theorem dX5_leads_177 : decode cX5_leads 177 = .ok (.iconst 0, 1) := dw_3 (kcX5_leads_2 49 3 rfl)
theorem dX5_leads_178 : decode cX5_leads 178 = .ok (.ireturn, 1) := dw_172 (kcX5_leads_2 50 172 rfl)
theorem dX5_leads_31 : decode cX5_leads 31 = .ok (.iload 5, 2) := dw_21 (kcX5_leads_0 31 21 rfl) (kcX5_leads_0 32 5 rfl)
theorem dX5_leads_33 : decode cX5_leads 33 = .ok (.bipush 25, 2) := dw_16 (kcX5_leads_0 33 16 rfl) (kcX5_leads_0 34 25 rfl) rfl
theorem dX5_leads_35 : decode cX5_leads 35 = .ok (.if_icmp .ge 142, 3) := dw_162 (kcX5_leads_0 35 162 rfl) (kcX5_leads_0 36 0 rfl) (kcX5_leads_0 37 142 rfl) rfl
theorem dX5_leads_38 : decode cX5_leads 38 = .ok (.aload_n 0, 1) := dw_42 (kcX5_leads_0 38 42 rfl)
theorem dX5_leads_39 : decode cX5_leads 39 = .ok (.getfield 18, 3) := dw_180 (kcX5_leads_0 39 180 rfl) (kcX5_leads_0 40 0 rfl) (kcX5_leads_0 41 18 rfl) rfl
theorem dX5_leads_42 : decode cX5_leads 42 = .ok (.iload 5, 2) := dw_21 (kcX5_leads_0 42 21 rfl) (kcX5_leads_0 43 5 rfl)
theorem dX5_leads_44 : decode cX5_leads 44 = .ok (.iaload, 1) := dw_46 (kcX5_leads_0 44 46 rfl)
theorem dX5_leads_45 : decode cX5_leads 45 = .ok (.istore 6, 2) := dw_54 (kcX5_leads_0 45 54 rfl) (kcX5_leads_0 46 6 rfl)
theorem dX5_leads_47 : decode cX5_leads 47 = .ok (.aload_n 0, 1) := dw_42 (kcX5_leads_0 47 42 rfl)
theorem dX5_leads_48 : decode cX5_leads 48 = .ok (.getfield 9, 3) := dw_180 (kcX5_leads_0 48 180 rfl) (kcX5_leads_0 49 0 rfl) (kcX5_leads_0 50 9 rfl) rfl
theorem dX5_leads_51 : decode cX5_leads 51 = .ok (.iload 6, 2) := dw_21 (kcX5_leads_0 51 21 rfl) (kcX5_leads_0 52 6 rfl)
theorem dX5_leads_53 : decode cX5_leads 53 = .ok (.iaload, 1) := dw_46 (kcX5_leads_0 53 46 rfl)
theorem dX5_leads_54 : decode cX5_leads 54 = .ok (.aload_n 0, 1) := dw_42 (kcX5_leads_0 54 42 rfl)
theorem dX5_leads_55 : decode cX5_leads 55 = .ok (.getfield 21, 3) := dw_180 (kcX5_leads_0 55 180 rfl) (kcX5_leads_0 56 0 rfl) (kcX5_leads_0 57 21 rfl) rfl
theorem dX5_leads_58 : decode cX5_leads 58 = .ok (.iconst (-1), 1) := dw_2 (kcX5_leads_0 58 2 rfl)
theorem dX5_leads_59 : decode cX5_leads 59 = .ok (.ixor, 1) := dw_130 (kcX5_leads_0 59 130 rfl)
theorem dX5_leads_60 : decode cX5_leads 60 = .ok (.iand, 1) := dw_126 (kcX5_leads_0 60 126 rfl)
theorem dX5_leads_61 : decode cX5_leads 61 = .ok (.istore 7, 2) := dw_54 (kcX5_leads_0 61 54 rfl) (kcX5_leads_0 62 7 rfl)
theorem kcX5_leads_1 : CHb cX5_leads 64 [7, 29, 126, 153, 0, 13, 42, 180, 0, 15, 28, 21, 6, 79, 4, 172, 42, 89, 180, 0, 21, 21, 7, 128, 181, 0, 21, 21, 7, 17, 15, 255, 126, 154, 0, 8, 16, 12, 167, 0, 4, 3, 54, 8, 21, 8, 54, 9, 21, 9, 16, 25, 162, 0, 55, 21, 7, 21, 9, 122, 153, 0, 47, 21] := CHb_of (by decide +kernel)
theorem dX5_leads_63 : decode cX5_leads 63 = .ok (.iload 7, 2) := dw_21 (kcX5_leads_0 63 21 rfl) (kcX5_leads_1 0 7 rfl)
theorem dX5_leads_65 : decode cX5_leads 65 = .ok (.iload_n 3, 1) := dw_29 (kcX5_leads_1 1 29 rfl)
theorem dX5_leads_66 : decode cX5_leads 66 = .ok (.iand, 1) := dw_126 (kcX5_leads_1 2 126 rfl)
theorem dX5_leads_67 : decode cX5_leads 67 = .ok (.ifCond .eq 13, 3) := dw_153 (kcX5_leads_1 3 153 rfl) (kcX5_leads_1 4 0 rfl) (kcX5_leads_1 5 13 rfl) rfl
theorem dX5_leads_80 : decode cX5_leads 80 = .ok (.aload_n 0, 1) := dw_42 (kcX5_leads_1 16 42 rfl)
theorem dX5_leads_81 : decode cX5_leads 81 = .ok (.dup, 1) := dw_89 (kcX5_leads_1 17 89 rfl)
theorem dX5_leads_82 : decode cX5_leads 82 = .ok (.getfield 21, 3) := dw_180 (kcX5_leads_1 18 180 rfl) (kcX5_leads_1 19 0 rfl) (kcX5_leads_1 20 21 rfl) rfl
theorem dX5_leads_85 : decode cX5_leads 85 = .ok (.iload 7, 2) := dw_21 (kcX5_leads_1 21 21 rfl) (kcX5_leads_1 22 7 rfl)
theorem dX5_leads_87 : decode cX5_leads 87 = .ok (.ior, 1) := dw_128 (kcX5_leads_1 23 128 rfl)
theorem dX5_leads_88 : decode cX5_leads 88 = .ok (.putfield 21, 3) := dw_181 (kcX5_leads_1 24 181 rfl) (kcX5_leads_1 25 0 rfl) (kcX5_leads_1 26 21 rfl) rfl
theorem dX5_leads_91 : decode cX5_leads 91 = .ok (.iload 7, 2) := dw_21 (kcX5_leads_1 27 21 rfl) (kcX5_leads_1 28 7 rfl)
theorem dX5_leads_93 : decode cX5_leads 93 = .ok (.sipush 4095, 3) := dw_17 (kcX5_leads_1 29 17 rfl) (kcX5_leads_1 30 15 rfl) (kcX5_leads_1 31 255 rfl) rfl
theorem dX5_leads_96 : decode cX5_leads 96 = .ok (.iand, 1) := dw_126 (kcX5_leads_1 32 126 rfl)
theorem dX5_leads_97 : decode cX5_leads 97 = .ok (.ifCond .ne 8, 3) := dw_154 (kcX5_leads_1 33 154 rfl) (kcX5_leads_1 34 0 rfl) (kcX5_leads_1 35 8 rfl) rfl
theorem dX5_leads_105 : decode cX5_leads 105 = .ok (.iconst 0, 1) := dw_3 (kcX5_leads_1 41 3 rfl)
theorem dX5_leads_106 : decode cX5_leads 106 = .ok (.istore 8, 2) := dw_54 (kcX5_leads_1 42 54 rfl) (kcX5_leads_1 43 8 rfl)
theorem dX5_leads_108 : decode cX5_leads 108 = .ok (.iload 8, 2) := dw_21 (kcX5_leads_1 44 21 rfl) (kcX5_leads_1 45 8 rfl)
theorem dX5_leads_110 : decode cX5_leads 110 = .ok (.istore 9, 2) := dw_54 (kcX5_leads_1 46 54 rfl) (kcX5_leads_1 47 9 rfl)
theorem dX5_leads_112 : decode cX5_leads 112 = .ok (.iload 9, 2) := dw_21 (kcX5_leads_1 48 21 rfl) (kcX5_leads_1 49 9 rfl)
theorem dX5_leads_114 : decode cX5_leads 114 = .ok (.bipush 25, 2) := dw_16 (kcX5_leads_1 50 16 rfl) (kcX5_leads_1 51 25 rfl) rfl
theorem dX5_leads_116 : decode cX5_leads 116 = .ok (.if_icmp .ge 55, 3) := dw_162 (kcX5_leads_1 52 162 rfl) (kcX5_leads_1 53 0 rfl) (kcX5_leads_1 54 55 rfl) rfl
theorem dX5_leads_171 : decode cX5_leads 171 = .ok (.iinc 5 1, 3) := dw_132 (kcX5_leads_2 43 132 rfl) (kcX5_leads_2 44 5 rfl) (kcX5_leads_2 45 1 rfl) rfl
theorem dX5_leads_174 : decode cX5_leads 174 = .ok (.goto (-150), 3) := dw_167 (kcX5_leads_2 46 167 rfl) (kcX5_leads_2 47 255 rfl) (kcX5_leads_2 48 106 rfl) rfl
theorem dX5_leads_119 : decode cX5_leads 119 = .ok (.iload 7, 2) := dw_21 (kcX5_leads_1 55 21 rfl) (kcX5_leads_1 56 7 rfl)
theorem dX5_leads_121 : decode cX5_leads 121 = .ok (.iload 9, 2) := dw_21 (kcX5_leads_1 57 21 rfl) (kcX5_leads_1 58 9 rfl)
theorem dX5_leads_123 : decode cX5_leads 123 = .ok (.ishr, 1) := dw_122 (kcX5_leads_1 59 122 rfl)
theorem dX5_leads_124 : decode cX5_leads 124 = .ok (.ifCond .eq 47, 3) := dw_153 (kcX5_leads_1 60 153 rfl) (kcX5_leads_1 61 0 rfl) (kcX5_leads_1 62 47 rfl) rfl
theorem dX5_leads_127 : decode cX5_leads 127 = .ok (.iload 7, 2) := dw_21 (kcX5_leads_1 63 21 rfl) (kcX5_leads_2 0 7 rfl)
theorem dX5_leads_129 : decode cX5_leads 129 = .ok (.iload 9, 2) := dw_21 (kcX5_leads_2 1 21 rfl) (kcX5_leads_2 2 9 rfl)
theorem dX5_leads_131 : decode cX5_leads 131 = .ok (.ishr, 1) := dw_122 (kcX5_leads_2 3 122 rfl)
theorem dX5_leads_132 : decode cX5_leads 132 = .ok (.iconst 1, 1) := dw_4 (kcX5_leads_2 4 4 rfl)
theorem dX5_leads_133 : decode cX5_leads 133 = .ok (.iand, 1) := dw_126 (kcX5_leads_2 5 126 rfl)
theorem dX5_leads_134 : decode cX5_leads 134 = .ok (.ifCond .eq 31, 3) := dw_153 (kcX5_leads_2 6 153 rfl) (kcX5_leads_2 7 0 rfl) (kcX5_leads_2 8 31 rfl) rfl
theorem dX5_leads_165 : decode cX5_leads 165 = .ok (.iinc 9 1, 3) := dw_132 (kcX5_leads_2 37 132 rfl) (kcX5_leads_2 38 9 rfl) (kcX5_leads_2 39 1 rfl) rfl
theorem dX5_leads_168 : decode cX5_leads 168 = .ok (.goto (-56), 3) := dw_167 (kcX5_leads_2 40 167 rfl) (kcX5_leads_2 41 255 rfl) (kcX5_leads_2 42 200 rfl) rfl
theorem dX5_leads_137 : decode cX5_leads 137 = .ok (.iload 4, 2) := dw_21 (kcX5_leads_2 9 21 rfl) (kcX5_leads_2 10 4 rfl)
theorem dX5_leads_139 : decode cX5_leads 139 = .ok (.bipush 25, 2) := dw_16 (kcX5_leads_2 11 16 rfl) (kcX5_leads_2 12 25 rfl) rfl
theorem dX5_leads_141 : decode cX5_leads 141 = .ok (.if_icmp .ge 24, 3) := dw_162 (kcX5_leads_2 13 162 rfl) (kcX5_leads_2 14 0 rfl) (kcX5_leads_2 15 24 rfl) rfl
theorem dX5_leads_144 : decode cX5_leads 144 = .ok (.aload_n 0, 1) := dw_42 (kcX5_leads_2 16 42 rfl)
theorem dX5_leads_145 : decode cX5_leads 145 = .ok (.getfield 15, 3) := dw_180 (kcX5_leads_2 17 180 rfl) (kcX5_leads_2 18 0 rfl) (kcX5_leads_2 19 15 rfl) rfl
theorem dX5_leads_148 : decode cX5_leads 148 = .ok (.iload 9, 2) := dw_21 (kcX5_leads_2 20 21 rfl) (kcX5_leads_2 21 9 rfl)
theorem dX5_leads_150 : decode cX5_leads 150 = .ok (.iload 6, 2) := dw_21 (kcX5_leads_2 22 21 rfl) (kcX5_leads_2 23 6 rfl)
theorem dX5_leads_152 : decode cX5_leads 152 = .ok (.iastore, 1) := dw_79 (kcX5_leads_2 24 79 rfl)
theorem dX5_leads_153 : decode cX5_leads 153 = .ok (.aload_n 0, 1) := dw_42 (kcX5_leads_2 25 42 rfl)
theorem dX5_leads_154 : decode cX5_leads 154 = .ok (.getfield 18, 3) := dw_180 (kcX5_leads_2 26 180 rfl) (kcX5_leads_2 27 0 rfl) (kcX5_leads_2 28 18 rfl) rfl
theorem dX5_leads_157 : decode cX5_leads 157 = .ok (.iload 4, 2) := dw_21 (kcX5_leads_2 29 21 rfl) (kcX5_leads_2 30 4 rfl)
theorem dX5_leads_159 : decode cX5_leads 159 = .ok (.iload 9, 2) := dw_21 (kcX5_leads_2 31 21 rfl) (kcX5_leads_2 32 9 rfl)
theorem dX5_leads_161 : decode cX5_leads 161 = .ok (.iastore, 1) := dw_79 (kcX5_leads_2 33 79 rfl)
theorem dX5_leads_162 : decode cX5_leads 162 = .ok (.iinc 4 1, 3) := dw_132 (kcX5_leads_2 34 132 rfl) (kcX5_leads_2 35 4 rfl) (kcX5_leads_2 36 1 rfl) rfl
theorem dX5_leads_100 : decode cX5_leads 100 = .ok (.bipush 12, 2) := dw_16 (kcX5_leads_1 36 16 rfl) (kcX5_leads_1 37 12 rfl) rfl
theorem dX5_leads_102 : decode cX5_leads 102 = .ok (.goto 4, 3) := dw_167 (kcX5_leads_1 38 167 rfl) (kcX5_leads_1 39 0 rfl) (kcX5_leads_1 40 4 rfl) rfl
theorem dX5_leads_70 : decode cX5_leads 70 = .ok (.aload_n 0, 1) := dw_42 (kcX5_leads_1 6 42 rfl)
theorem dX5_leads_71 : decode cX5_leads 71 = .ok (.getfield 15, 3) := dw_180 (kcX5_leads_1 7 180 rfl) (kcX5_leads_1 8 0 rfl) (kcX5_leads_1 9 15 rfl) rfl
theorem dX5_leads_74 : decode cX5_leads 74 = .ok (.iload_n 2, 1) := dw_28 (kcX5_leads_1 10 28 rfl)
theorem dX5_leads_75 : decode cX5_leads 75 = .ok (.iload 6, 2) := dw_21 (kcX5_leads_1 11 21 rfl) (kcX5_leads_1 12 6 rfl)
theorem dX5_leads_77 : decode cX5_leads 77 = .ok (.iastore, 1) := dw_79 (kcX5_leads_1 13 79 rfl)
theorem dX5_leads_78 : decode cX5_leads 78 = .ok (.iconst 1, 1) := dw_4 (kcX5_leads_1 14 4 rfl)
theorem dX5_leads_79 : decode cX5_leads 79 = .ok (.ireturn, 1) := dw_172 (kcX5_leads_1 15 172 rfl)
theorem kcX5_allFrom_0 : CHb cX5_allFrom 0 [42, 27, 27, 182, 0, 31, 87, 42, 180, 0, 21, 172] := CHb_of (by decide +kernel)
theorem dX5_allFrom_0 : decode cX5_allFrom 0 = .ok (.aload_n 0, 1) := dw_42 (kcX5_allFrom_0 0 42 rfl)
theorem dX5_allFrom_1 : decode cX5_allFrom 1 = .ok (.iload_n 1, 1) := dw_27 (kcX5_allFrom_0 1 27 rfl)
theorem dX5_allFrom_2 : decode cX5_allFrom 2 = .ok (.iload_n 1, 1) := dw_27 (kcX5_allFrom_0 2 27 rfl)
theorem dX5_allFrom_3 : decode cX5_allFrom 3 = .ok (.invokevirtual 31, 3) := dw_182 (kcX5_allFrom_0 3 182 rfl) (kcX5_allFrom_0 4 0 rfl) (kcX5_allFrom_0 5 31 rfl) rfl
theorem dX5_allFrom_6 : decode cX5_allFrom 6 = .ok (.pop, 1) := dw_87 (kcX5_allFrom_0 6 87 rfl)
theorem dX5_allFrom_7 : decode cX5_allFrom 7 = .ok (.aload_n 0, 1) := dw_42 (kcX5_allFrom_0 7 42 rfl)
theorem dX5_allFrom_8 : decode cX5_allFrom 8 = .ok (.getfield 21, 3) := dw_180 (kcX5_allFrom_0 8 180 rfl) (kcX5_allFrom_0 9 0 rfl) (kcX5_allFrom_0 10 21 rfl) rfl
theorem dX5_allFrom_11 : decode cX5_allFrom 11 = .ok (.ireturn, 1) := dw_172 (kcX5_allFrom_0 11 172 rfl)
def bt (x : Int32) (i : Nat) : Bool := x.toBitVec.getLsbD i
theorem b_ext {x y : Int32} (h : ∀ i, i < 32 → bt x i = bt y i) : x = y := Int32.toBitVec_inj.mp (BitVec.eq_of_getLsbD_eq (fun i hi => h i hi))
theorem b_or (x y : Int32) (i : Nat) : bt (x ||| y) i = (bt x i || bt y i) := by unfold bt; rw [Int32.toBitVec_or, BitVec.getLsbD_or]
theorem b_and (x y : Int32) (i : Nat) : bt (x &&& y) i = (bt x i && bt y i) := by unfold bt; rw [Int32.toBitVec_and, BitVec.getLsbD_and]
theorem b_0 (i : Nat) : bt 0 i = false := BitVec.getLsbD_zero
theorem s_l : ∀ n, n < 32 → ((nI n &&& 31).toBitVec.smod 32).toNat = n := by decide +kernel
theorem b_shl (n : Nat) (hn : n < 32) (x : Int32) {i : Nat} (hi : i < 32) : bt (x <<< (nI n &&& 31)) i = (decide (n ≤ i) && bt x (i - n)) := by
  unfold bt
  rw [Int32.toBitVec_shiftLeft]
  show (x.toBitVec <<< ((nI n &&& 31).toBitVec.smod 32).toNat).getLsbD i = _
  rw [s_l n hn, BitVec.getLsbD_shiftLeft]
  rcases Nat.lt_or_ge i n with h | h
  · simp [h, Nat.not_le.mpr h]
  · simp [hi, h, Nat.not_lt.mpr h]
theorem b_sshr (n : Nat) (hn : n < 32) (x : Int32) {i : Nat} (hi : i < 32) : bt (x >>> (nI n &&& 31)) i = if n + i < 32 then bt x (n + i) else bt x 31 := by
  unfold bt
  rw [Int32.toBitVec_shiftRight]
  show (x.toBitVec.sshiftRight ((nI n &&& 31).toBitVec.smod 32).toNat).getLsbD i = _
  rw [s_l n hn, BitVec.getLsbD_sshiftRight, BitVec.msb_eq_getLsbD_last]
  simp [hi]
theorem b_1 : ∀ k, k < 32 → bt 1 k = decide (k = 0) := by decide +kernel
theorem b_sh1 {n i : Nat} (hn : n < 32) (hi : i < 32) : bt ((1 : Int32) <<< (nI n &&& 31)) i = decide (i = n) := by
  rw [b_shl n hn 1 hi, b_1 _ (by omega)]
  by_cases h : i = n
  · subst h; simp
  · rw [decide_eq_false h]
    by_cases h2 : n ≤ i
    · rw [decide_eq_true h2, decide_eq_false (by omega)]; rfl
    · rw [decide_eq_false h2]; rfl
theorem bit_of {x : Int32} {o : Nat} (ho : o < 32) (h : ¬ (x >>> (nI o &&& 31)) &&& 1 = 0) : bt x o = true := by
  cases hb : bt x o with
  | true => rfl
  | false =>
    refine absurd (b_ext (fun i hi => ?_)) h
    rw [b_and, b_0, b_1 i hi]
    by_cases h0 : i = 0
    · subst h0; rw [b_sshr o ho x (by omega), if_pos (by omega), Nat.add_zero, hb]; rfl
    · rw [decide_eq_false h0, Bool.and_false]
theorem andbit_of {x : Int32} {v : Nat} (hv : v < 32) (h : ¬ x &&& ((1 : Int32) <<< (nI v &&& 31)) = 0) : bt x v = true := by
  cases hb : bt x v with
  | true => rfl
  | false =>
    refine absurd (b_ext (fun i hi => ?_)) h
    rw [b_and, b_0, b_sh1 hv hi]
    by_cases h0 : i = v
    · subst h0; rw [hb]; rfl
    · rw [decide_eq_false h0, Bool.and_false]
def jb (x : Int32) (v : Nat) (fo : Int32) : Int32 := if fo = 0 then x &&& (((1 : Int32) <<< (nI v &&& 31)) ^^^ (-1)) else x ||| ((1 : Int32) <<< (nI v &&& 31))
def jnF (s : Nat → Int32) (u v : Nat) (fo ba : Int32) : Nat → Int32 := upd (upd s u (jb (s u) v fo)) v (jb (upd s u (jb (s u) v fo) v) u ba)
/-- every step is one that may be -/
def RB (adj : Nat → Nat → Prop) (s : Nat → Int32) : Prop := ∀ u v, u < 25 → v < 25 → bt (s u) v = true → adj u v
theorem jb_bit {x fo : Int32} {v i : Nat} (hv : v < 25) (hi : i < 25) (h : bt (jb x v fo) i = true) : i = v ∨ bt x i = true := by
  unfold jb at h
  split at h
  · rw [b_and] at h; exact Or.inr ((Bool.and_eq_true _ _).mp h).1
  · rw [b_or, b_sh1 (by omega) (by omega)] at h
    rcases (Bool.or_eq_true _ _).mp h with h | h
    · exact Or.inr h
    · exact Or.inl (of_decide_eq_true h)
theorem RB_join {adj : Nat → Nat → Prop} {s : Nat → Int32} {u v : Nat} (fo ba : Int32) (h : RB adj s) (h1 : adj u v) (h2 : adj v u) (hu : u < 25) (hv : v < 25) : RB adj (jnF s u v fo ba) := by
  have k1 : RB adj (upd s u (jb (s u) v fo)) := by
    intro p q hp hq hb
    unfold upd at hb
    split at hb
    · rename_i e; subst e
      rcases jb_bit hv hq hb with e | e
      · subst e; exact h1
      · exact h _ _ hp hq e
    · exact h _ _ hp hq hb
  intro p q hp hq hb
  unfold jnF at hb
  generalize upd s u (jb (s u) v fo) = s1 at hb k1
  unfold upd at hb
  split at hb
  · rename_i e; subst e
    rcases jb_bit hu hq hb with e | e
    · subst e; exact h2
    · exact k1 _ _ hp hq e
  · exact k1 _ _ hp hq hb
theorem RB_0 {adj : Nat → Nat → Prop} (s : Nat → Int32) : RB adj (flF s 0 25) := by
  intro u v hu hv h
  unfold flF at h
  rw [if_pos hu, b_0] at h
  cases h
/-- what the queue and the row of befores hold while a way is sought -/
def wQd (qq : Nat → Int32) (fl n : Nat) : Prop := ∃ k, k < fl ∧ qq k = nI n
def wInv (adj : Nat → Nat → Prop) (u0 : Nat) (bb qq : Nat → Int32) (fl : Nat) : Prop := (∀ k, k < fl → ∃ n, n < 25 ∧ qq k = nI n) ∧ ∀ n, n < 25 → wQd qq fl n → n ≠ u0 → ∃ u, u < 25 ∧ bb n = nI u ∧ wQd qq fl u ∧ adj u n
/-- the way back from t0 to u0 -/
def wCh (adj : Nat → Nat → Prop) (u0 t0 : Nat) (bb : Nat → Int32) : Prop := ∃ Qd : Nat → Prop, ∀ v, v < 25 → (v = t0 ∨ Qd v) → v ≠ u0 → ∃ u, u < 25 ∧ bb v = nI u ∧ Qd u ∧ adj u v
theorem wInv_0 {adj : Nat → Nat → Prop} {u0 : Nat} (hu : u0 < 25) (bb qq : Nat → Int32) : wInv adj u0 bb (upd qq 0 (nI u0)) 1 := by
  refine ⟨fun k hk => ⟨u0, hu, ?_⟩, fun n hn hq hne => ?_⟩
  · obtain rfl : k = 0 := by omega
    exact pk_us
  · obtain ⟨k, hk, e⟩ := hq
    obtain rfl : k = 0 := by omega
    rw [pk_us] at e
    exact absurd ((nI_eq (by omega) (by omega)).mp e).symm hne
theorem wInv_s {adj : Nat → Nat → Prop} {u0 nd o fl : Nat} {bb qq : Nat → Int32} (h : wInv adj u0 bb qq fl) (hd : nd < 25) (hq : wQd qq fl nd) (ho : o < 25) (ha : adj nd o) : wInv adj u0 (upd bb o (nI nd)) (upd qq fl (nI o)) (fl + 1) := by
  have old : ∀ n, wQd qq fl n → wQd (upd qq fl (nI o)) (fl + 1) n := fun n ⟨k, hk, e⟩ => ⟨k, by omega, by rw [pk_un (by omega)]; exact e⟩
  refine ⟨fun k hk => ?_, fun n hn hq2 hne => ?_⟩
  · by_cases e : k = fl
    · subst e; exact ⟨o, ho, pk_us⟩
    · rw [pk_un e]; exact h.1 k (by omega)
  · by_cases e : n = o
    · subst e; exact ⟨nd, hd, pk_us, old _ hq, ha⟩
    · obtain ⟨k, hk, ek⟩ := hq2
      by_cases e2 : k = fl
      · subst e2; rw [pk_us] at ek; exact absurd ((nI_eq (by omega) (by omega)).mp ek).symm e
      · rw [pk_un e2] at ek
        obtain ⟨u, q1, q2, q3, q4⟩ := h.2 n hn ⟨k, by omega, ek⟩ hne
        exact ⟨u, q1, by rw [pk_un e]; exact q2, old _ q3, q4⟩
theorem wCh_of {adj : Nat → Nat → Prop} {u0 t0 nd fl : Nat} {bb qq : Nat → Int32} (h : wInv adj u0 bb qq fl) (hd : nd < 25) (hq : wQd qq fl nd) (ha : adj nd t0) : wCh adj u0 t0 (upd bb t0 (nI nd)) := by
  refine ⟨fun n => n < 25 ∧ wQd qq fl n, fun v hv hq2 hne => ?_⟩
  by_cases e : v = t0
  · subst e; exact ⟨nd, hd, pk_us, ⟨hd, hq⟩, ha⟩
  · obtain ⟨u, q1, q2, q3, q4⟩ := h.2 v hv ((hq2.resolve_left e).2) hne
    exact ⟨u, q1, by rw [pk_un e]; exact q2, ⟨q1, q3⟩, q4⟩
set_option maxHeartbeats 4000000 in
set_option maxRecDepth 100000 in
theorem c_X5_wipe (l : Launch) (G : GG) (a : Nat → Nat) (q : Nat → Nat → Int32) (rc : Int32) : WrV l yX5_wipe cX5_wipe 1 ({ frames := 1, cells := 0, slots := 0, locals := 23 }) G ([((a 3), .inr (5, [.ref (a 0), .ref (a 1), .ref (a 2), .int rc])), ((a 0), .inl (G.2.1, 25, .inl (q 0))), ((a 1), .inl (G.2.1, 25, .inl (q 1))), ((a 2), .inl (G.2.1, 25, .inl (q 2)))]) [.ref (a 3)] (fun w => w = [((a 3), .inr (5, [.ref (a 0), .ref (a 1), .ref (a 2), .int rc])), ((a 0), .inl (G.2.1, 25, .inl (flF (q 0) 0 25))), ((a 1), .inl (G.2.1, 25, .inl (q 1))), ((a 2), .inl (G.2.1, 25, .inl (q 2)))]) := by
  refine wr_entryV (by decide +kernel) (Nat.le_of_ble_eq_true rfl) ?_
  intro p e s m below meth c A C0 hP hK hD hA ls hl
  have hS : va_S A s.heap s.heap [] := va_S.rf
  obtain ⟨hx, hb, hml, hown, hts, hr, hlocks, hin⟩ := C0
  have hown : s.vm.findClass RX5 = some m.cls := hown
  have hl : lv_has ls 1 [(0, .ref (a 3))] := hl
  refine lv_aload_n hx hb dX5_wipe_0 rfl (lv_at hl 0 rfl) ?_
  refine va_get (D := G.1) (ci := 5) (v := .ref (a 0)) (C := RX5) (T := TX5) (N := 4) hx hb hts inX5 hown hK.1 hP 0 rfl rfl 0 (by decide) (hts _ mf_X5_9) (fun _ h9 => h9) rfl dX5_wipe_1 ?_
  refine lv_iconst (v := 0) hx hb dX5_wipe_4 (by decide) ?_
  refine wrSV (rest := []) ⟨hx, hb, hml, hown, hts⟩ (c_J7_fill_53178 l G (a 0) 25 (q 0) 0 (by decide)) mi_yJ7_fill_53178 mst_yJ7_fill_53178 ml_X5_25 ⟨rfl, rfl, Nat.le_of_ble_eq_true rfl, Nat.le_of_ble_eq_true rfl⟩ hK hP hD [1] rfl (by decide) rfl hl.1 rfl (Nat.le_of_ble_eq_true rfl) dX5_wipe_5 ⟨Nat.zero_le _, Nat.zero_le _⟩ hS hA (fun w2 H locs hw2 hP hS => ?_)
  obtain rfl := hw2
  have hP : PP G [((a 3), .inr (5, [.ref (a 0), .ref (a 1), .ref (a 2), .int rc])), ((a 0), .inl (G.2.1, 25, .inl (flF (q 0) 0 25))), ((a 1), .inl (G.2.1, 25, .inl (q 1))), ((a 2), .inl (G.2.1, 25, .inl (q 2)))] H := hP rfl
  have hD := D_as2 hP hD rfl
  exact wr_vret hx hb hr hlocks hS hP rfl dX5_wipe_8
set_option maxHeartbeats 4000000 in
set_option maxRecDepth 100000 in
theorem c_X5_join (l : Launch) (G : GG) (a : Nat → Nat) (q : Nat → Nat → Int32) (rc : Int32) (u v : Nat) (fo ba : Int32) (hu : u < 25) (hv : v < 25) : WrV l yX5_join cX5_join 7 ({ frames := 0, cells := 0, slots := 0, locals := 0 }) G ([((a 3), .inr (5, [.ref (a 0), .ref (a 1), .ref (a 2), .int rc])), ((a 0), .inl (G.2.1, 25, .inl (q 0))), ((a 1), .inl (G.2.1, 25, .inl (q 1))), ((a 2), .inl (G.2.1, 25, .inl (q 2)))]) [.ref (a 3), .int (nI u), .int (nI v), .int fo, .int ba] (fun w => w = [((a 3), .inr (5, [.ref (a 0), .ref (a 1), .ref (a 2), .int rc])), ((a 0), .inl (G.2.1, 25, .inl (jnF (q 0) u v fo ba))), ((a 1), .inl (G.2.1, 25, .inl (q 1))), ((a 2), .inl (G.2.1, 25, .inl (q 2)))]) := by
  refine wr_entryV (by decide +kernel) (Nat.le_of_ble_eq_true rfl) ?_
  intro p e s m below meth c A C0 hP hK hD hA ls hl
  have hS : va_S A s.heap s.heap [] := va_S.rf
  obtain ⟨hx, hb, hml, hown, hts, hr, hlocks, hin⟩ := C0
  have hown : s.vm.findClass RX5 = some m.cls := hown
  have hl : lv_has ls 7 [(0, .ref (a 3)), (1, .int (nI u)), (2, .int (nI v)), (3, .int fo), (4, .int ba)] := hl
  refine lv_iconst (v := 1) hx hb dX5_join_0 (by decide) ?_
  refine lv_iload_n hx hb dX5_join_1 rfl (lv_at hl 1 rfl) ?_
  refine lv_ishl hx hb dX5_join_2 ?_
  refine lv_topi (fun v1 ev1 => ?_)
  refine lv_istore (lv' := [(5, .int v1), (0, .ref (a 3)), (1, .int (nI u)), (2, .int (nI v)), (3, .int fo), (4, .int ba)]) hx hb dX5_join_3 hl (by decide) rfl (fun ls hl => ?_)
  refine lv_iconst (v := 1) hx hb dX5_join_5 (by decide) ?_
  refine lv_iload_n hx hb dX5_join_6 rfl (lv_at hl 3 rfl) ?_
  refine lv_ishl hx hb dX5_join_7 ?_
  refine lv_topi (fun v2 ev2 => ?_)
  refine lv_istore (lv' := [(6, .int v2), (5, .int v1), (0, .ref (a 3)), (1, .int (nI u)), (2, .int (nI v)), (3, .int fo), (4, .int ba)]) hx hb dX5_join_8 hl (by decide) rfl (fun ls hl => ?_)
  refine lv_aload_n hx hb dX5_join_10 rfl (lv_at hl 2 rfl) ?_
  refine va_get (D := G.1) (ci := 5) (v := .ref (a 0)) (C := RX5) (T := TX5) (N := 4) hx hb hts inX5 hown hK.1 hP 0 rfl rfl 0 (by decide) (hts _ mf_X5_9) (fun _ h9 => h9) rfl dX5_join_11 ?_
  refine lv_iload_n hx hb dX5_join_14 rfl (lv_at hl 3 rfl) ?_
  refine lv_iload_n hx hb dX5_join_15 rfl (lv_at hl 5 rfl) ?_
  refine lv_if_eq (tgt := 31) hx hb dX5_join_16 (by decide) (fun c3 => ?_) (fun c3 => ?_)
  · refine lv_aload_n hx hb dX5_join_31 rfl (lv_at hl 2 rfl) ?_
    refine va_get (D := G.1) (ci := 5) (v := .ref (a 0)) (C := RX5) (T := TX5) (N := 4) hx hb hts inX5 hown hK.1 hP 0 rfl rfl 0 (by decide) (hts _ mf_X5_9) (fun _ h9 => h9) rfl dX5_join_32 ?_
    refine lv_iload_n hx hb dX5_join_35 rfl (lv_at hl 3 rfl) ?_
    refine xiald hx hb hK hP 1 (u) (rfl) (hu) (by omega) rfl dX5_join_36 ?_
    refine lv_topi (fun v4 ev4 => ?_)
    refine lv_iload hx hb dX5_join_37 (lv_at hl 0 rfl) ?_
    refine lv_iconst (v := -1) hx hb dX5_join_39 (by decide) ?_
    refine lv_ixor hx hb dX5_join_40 ?_
    refine lv_topi (fun v5 ev5 => ?_)
    refine lv_iand hx hb dX5_join_41 ?_
    refine lv_topi (fun v6 ev6 => ?_)
    refine xiast (x := v6) hx hb hK hP hD hS 1 (u) (rfl) (hu) (by omega) rfl dX5_join_42 (fun H locs hP hD hS => ?_)
    have hP : PP G [((a 3), .inr (5, [.ref (a 0), .ref (a 1), .ref (a 2), .int rc])), ((a 0), .inl (G.2.1, 25, .inl (upd (q 0) (u) (v6)))), ((a 1), .inl (G.2.1, 25, .inl (q 1))), ((a 2), .inl (G.2.1, 25, .inl (q 2)))] H := hP
    have hD := D_as hP hD rfl
    refine lv_aload_n hx hb dX5_join_43 rfl (lv_at hl 2 rfl) ?_
    refine va_get (D := G.1) (ci := 5) (v := .ref (a 0)) (C := RX5) (T := TX5) (N := 4) hx hb hts inX5 hown hK.1 hP 0 rfl rfl 0 (by decide) (hts _ mf_X5_9) (fun _ h9 => h9) rfl dX5_join_44 ?_
    refine lv_iload_n hx hb dX5_join_47 rfl (lv_at hl 4 rfl) ?_
    refine lv_iload hx hb dX5_join_48 (lv_at hl 6 rfl) ?_
    refine lv_if_eq (tgt := 65) hx hb dX5_join_50 (by decide) (fun c7 => ?_) (fun c7 => ?_)
    · refine lv_aload_n hx hb dX5_join_65 rfl (lv_at hl 2 rfl) ?_
      refine va_get (D := G.1) (ci := 5) (v := .ref (a 0)) (C := RX5) (T := TX5) (N := 4) hx hb hts inX5 hown hK.1 hP 0 rfl rfl 0 (by decide) (hts _ mf_X5_9) (fun _ h9 => h9) rfl dX5_join_66 ?_
      refine lv_iload_n hx hb dX5_join_69 rfl (lv_at hl 4 rfl) ?_
      refine xiald hx hb hK hP 1 (v) (rfl) (hv) (by omega) rfl dX5_join_70 ?_
      refine lv_topi (fun v8 ev8 => ?_)
      refine lv_iload hx hb dX5_join_71 (lv_at hl 1 rfl) ?_
      refine lv_iconst (v := -1) hx hb dX5_join_73 (by decide) ?_
      refine lv_ixor hx hb dX5_join_74 ?_
      refine lv_topi (fun v9 ev9 => ?_)
      refine lv_iand hx hb dX5_join_75 ?_
      refine lv_topi (fun v10 ev10 => ?_)
      refine xiast (x := v10) hx hb hK hP hD hS 1 (v) (rfl) (hv) (by omega) rfl dX5_join_76 (fun H locs hP hD hS => ?_)
      have hP : PP G [((a 3), .inr (5, [.ref (a 0), .ref (a 1), .ref (a 2), .int rc])), ((a 0), .inl (G.2.1, 25, .inl (upd (upd (q 0) (u) (v6)) (v) (v10)))), ((a 1), .inl (G.2.1, 25, .inl (q 1))), ((a 2), .inl (G.2.1, 25, .inl (q 2)))] H := hP
      have hD := D_as hP hD rfl
      exact wr_vret hx hb hr hlocks hS hP (by unfold jnF jb; rw [if_pos c3, if_pos c7]; simp only [*]) dX5_join_77
    · refine lv_aload_n hx hb dX5_join_53 rfl (lv_at hl 2 rfl) ?_
      refine va_get (D := G.1) (ci := 5) (v := .ref (a 0)) (C := RX5) (T := TX5) (N := 4) hx hb hts inX5 hown hK.1 hP 0 rfl rfl 0 (by decide) (hts _ mf_X5_9) (fun _ h9 => h9) rfl dX5_join_54 ?_
      refine lv_iload_n hx hb dX5_join_57 rfl (lv_at hl 4 rfl) ?_
      refine xiald hx hb hK hP 1 (v) (rfl) (hv) (by omega) rfl dX5_join_58 ?_
      refine lv_topi (fun v11 ev11 => ?_)
      refine lv_iload hx hb dX5_join_59 (lv_at hl 1 rfl) ?_
      refine lv_ior hx hb dX5_join_61 ?_
      refine lv_topi (fun v12 ev12 => ?_)
      refine lv_goto (tgt := 76) hx hb dX5_join_62 (by decide) ?_
      refine xiast (x := v12) hx hb hK hP hD hS 1 (v) (rfl) (hv) (by omega) rfl dX5_join_76 (fun H locs hP hD hS => ?_)
      have hP : PP G [((a 3), .inr (5, [.ref (a 0), .ref (a 1), .ref (a 2), .int rc])), ((a 0), .inl (G.2.1, 25, .inl (upd (upd (q 0) (u) (v6)) (v) (v12)))), ((a 1), .inl (G.2.1, 25, .inl (q 1))), ((a 2), .inl (G.2.1, 25, .inl (q 2)))] H := hP
      have hD := D_as hP hD rfl
      exact wr_vret hx hb hr hlocks hS hP (by unfold jnF jb; rw [if_pos c3, if_neg c7]; simp only [*]) dX5_join_77
  · refine lv_aload_n hx hb dX5_join_19 rfl (lv_at hl 2 rfl) ?_
    refine va_get (D := G.1) (ci := 5) (v := .ref (a 0)) (C := RX5) (T := TX5) (N := 4) hx hb hts inX5 hown hK.1 hP 0 rfl rfl 0 (by decide) (hts _ mf_X5_9) (fun _ h9 => h9) rfl dX5_join_20 ?_
    refine lv_iload_n hx hb dX5_join_23 rfl (lv_at hl 3 rfl) ?_
    refine xiald hx hb hK hP 1 (u) (rfl) (hu) (by omega) rfl dX5_join_24 ?_
    refine lv_topi (fun v13 ev13 => ?_)
    refine lv_iload hx hb dX5_join_25 (lv_at hl 0 rfl) ?_
    refine lv_ior hx hb dX5_join_27 ?_
    refine lv_topi (fun v14 ev14 => ?_)
    refine lv_goto (tgt := 42) hx hb dX5_join_28 (by decide) ?_
    refine xiast (x := v14) hx hb hK hP hD hS 1 (u) (rfl) (hu) (by omega) rfl dX5_join_42 (fun H locs hP hD hS => ?_)
    have hP : PP G [((a 3), .inr (5, [.ref (a 0), .ref (a 1), .ref (a 2), .int rc])), ((a 0), .inl (G.2.1, 25, .inl (upd (q 0) (u) (v14)))), ((a 1), .inl (G.2.1, 25, .inl (q 1))), ((a 2), .inl (G.2.1, 25, .inl (q 2)))] H := hP
    have hD := D_as hP hD rfl
    refine lv_aload_n hx hb dX5_join_43 rfl (lv_at hl 2 rfl) ?_
    refine va_get (D := G.1) (ci := 5) (v := .ref (a 0)) (C := RX5) (T := TX5) (N := 4) hx hb hts inX5 hown hK.1 hP 0 rfl rfl 0 (by decide) (hts _ mf_X5_9) (fun _ h9 => h9) rfl dX5_join_44 ?_
    refine lv_iload_n hx hb dX5_join_47 rfl (lv_at hl 4 rfl) ?_
    refine lv_iload hx hb dX5_join_48 (lv_at hl 6 rfl) ?_
    refine lv_if_eq (tgt := 65) hx hb dX5_join_50 (by decide) (fun c15 => ?_) (fun c15 => ?_)
    · refine lv_aload_n hx hb dX5_join_65 rfl (lv_at hl 2 rfl) ?_
      refine va_get (D := G.1) (ci := 5) (v := .ref (a 0)) (C := RX5) (T := TX5) (N := 4) hx hb hts inX5 hown hK.1 hP 0 rfl rfl 0 (by decide) (hts _ mf_X5_9) (fun _ h9 => h9) rfl dX5_join_66 ?_
      refine lv_iload_n hx hb dX5_join_69 rfl (lv_at hl 4 rfl) ?_
      refine xiald hx hb hK hP 1 (v) (rfl) (hv) (by omega) rfl dX5_join_70 ?_
      refine lv_topi (fun v16 ev16 => ?_)
      refine lv_iload hx hb dX5_join_71 (lv_at hl 1 rfl) ?_
      refine lv_iconst (v := -1) hx hb dX5_join_73 (by decide) ?_
      refine lv_ixor hx hb dX5_join_74 ?_
      refine lv_topi (fun v17 ev17 => ?_)
      refine lv_iand hx hb dX5_join_75 ?_
      refine lv_topi (fun v18 ev18 => ?_)
      refine xiast (x := v18) hx hb hK hP hD hS 1 (v) (rfl) (hv) (by omega) rfl dX5_join_76 (fun H locs hP hD hS => ?_)
      have hP : PP G [((a 3), .inr (5, [.ref (a 0), .ref (a 1), .ref (a 2), .int rc])), ((a 0), .inl (G.2.1, 25, .inl (upd (upd (q 0) (u) (v14)) (v) (v18)))), ((a 1), .inl (G.2.1, 25, .inl (q 1))), ((a 2), .inl (G.2.1, 25, .inl (q 2)))] H := hP
      have hD := D_as hP hD rfl
      exact wr_vret hx hb hr hlocks hS hP (by unfold jnF jb; rw [if_neg c3, if_pos c15]; simp only [*]) dX5_join_77
    · refine lv_aload_n hx hb dX5_join_53 rfl (lv_at hl 2 rfl) ?_
      refine va_get (D := G.1) (ci := 5) (v := .ref (a 0)) (C := RX5) (T := TX5) (N := 4) hx hb hts inX5 hown hK.1 hP 0 rfl rfl 0 (by decide) (hts _ mf_X5_9) (fun _ h9 => h9) rfl dX5_join_54 ?_
      refine lv_iload_n hx hb dX5_join_57 rfl (lv_at hl 4 rfl) ?_
      refine xiald hx hb hK hP 1 (v) (rfl) (hv) (by omega) rfl dX5_join_58 ?_
      refine lv_topi (fun v19 ev19 => ?_)
      refine lv_iload hx hb dX5_join_59 (lv_at hl 1 rfl) ?_
      refine lv_ior hx hb dX5_join_61 ?_
      refine lv_topi (fun v20 ev20 => ?_)
      refine lv_goto (tgt := 76) hx hb dX5_join_62 (by decide) ?_
      refine xiast (x := v20) hx hb hK hP hD hS 1 (v) (rfl) (hv) (by omega) rfl dX5_join_76 (fun H locs hP hD hS => ?_)
      have hP : PP G [((a 3), .inr (5, [.ref (a 0), .ref (a 1), .ref (a 2), .int rc])), ((a 0), .inl (G.2.1, 25, .inl (upd (upd (q 0) (u) (v14)) (v) (v20)))), ((a 1), .inl (G.2.1, 25, .inl (q 1))), ((a 2), .inl (G.2.1, 25, .inl (q 2)))] H := hP
      have hD := D_as hP hD rfl
      exact wr_vret hx hb hr hlocks hS hP (by unfold jnF jb; rw [if_neg c3, if_neg c15]; simp only [*]) dX5_join_77
set_option maxHeartbeats 4000000 in
set_option maxRecDepth 100000 in
theorem c_X5_leads (l : Launch) (G : GG) (a : Nat → Nat) (q : Nat → Nat → Int32) (rc : Int32) (adj : Nat → Nat → Prop) (u0 t0 : Nat) (hu : u0 < 25) (ht : t0 < 25) (hRB : RB adj (q 0)) : WrI l yX5_leads cX5_leads 10 (some .boolean) ({ frames := 0, cells := 0, slots := 0, locals := 0 }) G ([((a 3), .inr (5, [.ref (a 0), .ref (a 1), .ref (a 2), .int rc])), ((a 0), .inl (G.2.1, 25, .inl (q 0))), ((a 1), .inl (G.2.1, 25, .inl (q 1))), ((a 2), .inl (G.2.1, 25, .inl (q 2)))]) [.ref (a 3), .int (nI u0), .int (nI t0)] (fun z w => ∃ (bb qq : Nat → Int32) (r2 : Int32), w = [((a 3), .inr (5, [.ref (a 0), .ref (a 1), .ref (a 2), .int r2])), ((a 0), .inl (G.2.1, 25, .inl (q 0))), ((a 1), .inl (G.2.1, 25, .inl bb)), ((a 2), .inl (G.2.1, 25, .inl qq))] ∧ (z = 0 ∨ (z = 1 ∧ wCh adj u0 t0 bb))) := by
  refine wr_entryI (by decide +kernel) (Nat.le_of_ble_eq_true rfl) ?_
  intro p e s m below meth c A C0 hP hK hD hA ls hl
  have hS : va_S A s.heap s.heap [] := va_S.rf
  obtain ⟨hx, hb, hml, hown, hts, hr, hlocks, hin⟩ := C0
  have hown : s.vm.findClass RX5 = some m.cls := hown
  have hl : lv_has ls 10 [(0, .ref (a 3)), (1, .int (nI u0)), (2, .int (nI t0))] := hl
  refine lv_iconst (v := 1) hx hb dX5_leads_0 (by decide) ?_
  refine lv_iload_n hx hb dX5_leads_1 rfl (lv_at hl 2 rfl) ?_
  refine lv_ishl hx hb dX5_leads_2 ?_
  refine lv_topi (fun v1 ev1 => ?_)
  refine lv_istore_n (lv' := [(3, .int v1), (0, .ref (a 3)), (1, .int (nI u0)), (2, .int (nI t0))]) hx hb dX5_leads_3 rfl hl (by decide) rfl (fun ls hl => ?_)
  refine lv_aload_n hx hb dX5_leads_4 rfl (lv_at hl 1 rfl) ?_
  refine lv_iconst (v := 1) hx hb dX5_leads_5 (by decide) ?_
  refine lv_iload_n hx hb dX5_leads_6 rfl (lv_at hl 2 rfl) ?_
  refine lv_ishl hx hb dX5_leads_7 ?_
  refine lv_topi (fun v2 ev2 => ?_)
  refine va_put (D := G.1) (ci := 5) (v := .int v2) (C := RX5) (T := TX5) (N := 4) hx hb hts inX5 tyX5 tyX5_ok nmX5 hown hK.1 hP hD hS 0 rfl rfl 3 (by decide) (hts _ mf_X5_21) (fun _ h9 => h9) rfl (tyX5_ok 3 (by decide)) (rfl) (rfl) (Nat.le_of_ble_eq_true rfl) dX5_leads_8 (fun H locs hP hD hS => ?_)
  have hP : PP G [((a 3), .inr (5, [.ref (a 0), .ref (a 1), .ref (a 2), .int v2])), ((a 0), .inl (G.2.1, 25, .inl (q 0))), ((a 1), .inl (G.2.1, 25, .inl (q 1))), ((a 2), .inl (G.2.1, 25, .inl (q 2)))] H := hP
  have hD := D_as hP hD rfl
  refine lv_aload_n hx hb dX5_leads_11 rfl (lv_at hl 1 rfl) ?_
  refine va_get (D := G.1) (ci := 5) (v := .ref (a 2)) (C := RX5) (T := TX5) (N := 4) hx hb hts inX5 hown hK.1 hP 0 rfl rfl 2 (by decide) (hts _ mf_X5_18) (fun _ h9 => h9) rfl dX5_leads_12 ?_
  refine lv_iconst (v := 0) hx hb dX5_leads_15 (by decide) ?_
  refine lv_iload_n hx hb dX5_leads_16 rfl (lv_at hl 2 rfl) ?_
  refine xiast (x := (nI u0)) hx hb hK hP hD hS 3 (0) (rfl) (by decide) (by omega) rfl dX5_leads_17 (fun H locs hP hD hS => ?_)
  have hP : PP G [((a 3), .inr (5, [.ref (a 0), .ref (a 1), .ref (a 2), .int v2])), ((a 0), .inl (G.2.1, 25, .inl (q 0))), ((a 1), .inl (G.2.1, 25, .inl (q 1))), ((a 2), .inl (G.2.1, 25, .inl (upd (q 2) (0) ((nI u0)))))] H := hP
  have hD := D_as hP hD rfl
  refine lv_iconst (v := 1) hx hb dX5_leads_18 (by decide) ?_
  refine lv_istore (lv' := [(4, .int 1), (3, .int v1), (0, .ref (a 3)), (1, .int (nI u0)), (2, .int (nI t0))]) hx hb dX5_leads_19 hl (by decide) rfl (fun ls hl => ?_)
  refine lv_iconst (v := 0) hx hb dX5_leads_21 (by decide) ?_
  refine lv_istore (lv' := [(5, .int 0), (4, .int 1), (3, .int v1), (0, .ref (a 3)), (1, .int (nI u0)), (2, .int (nI t0))]) hx hb dX5_leads_22 hl (by decide) rfl (fun ls hl => ?_)
  have outer : ∀ (k n : Nat) (fl : Nat) (bb qq : Nat → Int32) (r_ : Int32), n ≤ 25 → 25 < n + k → fl ≤ 25 → wInv adj u0 bb qq fl → ∀ (H : Heap) (locs : List Loc) (ls : Array Slot), PP G ([((a 3), .inr (5, [.ref (a 0), .ref (a 1), .ref (a 2), .int r_])), ((a 0), .inl (G.2.1, 25, .inl (q 0))), ((a 1), .inl (G.2.1, 25, .inl bb)), ((a 2), .inl (G.2.1, 25, .inl qq))]) H → va_S A s.heap H locs → lv_has ls 10 [(0, .ref (a 3)), (1, .int (nI u0)), (2, .int (nI t0)), (3, .int v1), (4, .int (nI fl)), (5, .int (nI n))] → W p l e ({ frames := 0, cells := 0, slots := 0, locals := 0 }) s m ([.ref (a 3), .int (nI u0), .int (nI t0)] : List Value).toArray below meth c H locs 0 0 (MQ below (QwI G (fun z w => ∃ (bb qq : Nat → Int32) (r2 : Int32), w = [((a 3), .inr (5, [.ref (a 0), .ref (a 1), .ref (a 2), .int r2])), ((a 0), .inl (G.2.1, 25, .inl (q 0))), ((a 1), .inl (G.2.1, 25, .inl bb)), ((a 2), .inl (G.2.1, 25, .inl qq))] ∧ (z = 0 ∨ (z = 1 ∧ wCh adj u0 t0 bb))) A) ([.ref (a 3), .int (nI u0), .int (nI t0)] : List Value).toArray s 0 0 A) (F0 m 24 ls []) := by
    intro k
    induction k with
    | zero => intro n fl bb qq r_ h1 h2; omega
    | succ k ih =>
      intro n fl bb qq r_ hi_n hk_n hfl hI H locs ls hP hS hl
      have hD := D_as2 hP hD rfl
      refine lv_iload hx hb dX5_leads_24 (lv_at hl 5 rfl) ?_
      refine lv_iload hx hb dX5_leads_26 (lv_at hl 4 rfl) ?_
      refine lv_icmp_ge (tgt := 177) hx hb dX5_leads_28 (by decide) (fun c3 => ?_) (fun c3 => ?_)
      · refine lv_iconst (v := 0) hx hb dX5_leads_177 (by decide) ?_
        exact wr_zret hx hb hr hlocks (Or.inl rfl) hS hP ⟨_, _, _, rfl, Or.inl rfl⟩ dX5_leads_178
      · have hlt := ge_f (by omega) (by omega) c3
        refine lv_iload hx hb dX5_leads_31 (lv_at hl 5 rfl) ?_
        refine lv_bipush (v := 25) hx hb dX5_leads_33 (by decide) ?_
        refine lv_icmp_ge (tgt := 177) hx hb dX5_leads_35 (by decide) (fun c4 => ?_) (fun c4 => ?_)
        · refine lv_iconst (v := 0) hx hb dX5_leads_177 (by decide) ?_
          exact wr_zret hx hb hr hlocks (Or.inl rfl) hS hP ⟨_, _, _, rfl, Or.inl rfl⟩ dX5_leads_178
        · have hlt25 := ge_f (b := 25) (by omega) (by omega) c4
          refine lv_aload_n hx hb dX5_leads_38 rfl (lv_at hl 0 rfl) ?_
          refine va_get (D := G.1) (ci := 5) (v := .ref (a 2)) (C := RX5) (T := TX5) (N := 4) hx hb hts inX5 hown hK.1 hP 0 rfl rfl 2 (by decide) (hts _ mf_X5_18) (fun _ h9 => h9) rfl dX5_leads_39 ?_
          refine lv_iload hx hb dX5_leads_42 (lv_at hl 5 rfl) ?_
          refine xiald hx hb hK hP 3 (n) (rfl) (hlt25) (by omega) rfl dX5_leads_44 ?_
          refine lv_topi (fun v5 ev5 => ?_)
          obtain ⟨nd, hnd, end_⟩ := hI.1 n hlt
          rw [end_] at ev5
          subst ev5
          refine lv_istore (lv' := [(6, .int (nI nd)), (0, .ref (a 3)), (1, .int (nI u0)), (2, .int (nI t0)), (3, .int v1), (4, .int (nI fl)), (5, .int (nI n))]) hx hb dX5_leads_45 hl (by decide) rfl (fun ls hl => ?_)
          refine lv_aload_n hx hb dX5_leads_47 rfl (lv_at hl 1 rfl) ?_
          refine va_get (D := G.1) (ci := 5) (v := .ref (a 0)) (C := RX5) (T := TX5) (N := 4) hx hb hts inX5 hown hK.1 hP 0 rfl rfl 0 (by decide) (hts _ mf_X5_9) (fun _ h9 => h9) rfl dX5_leads_48 ?_
          refine lv_iload hx hb dX5_leads_51 (lv_at hl 0 rfl) ?_
          refine xiald hx hb hK hP 1 (nd) (rfl) (hnd) (by omega) rfl dX5_leads_53 ?_
          refine lv_topi (fun v6 ev6 => ?_)
          refine lv_aload_n hx hb dX5_leads_54 rfl (lv_at hl 1 rfl) ?_
          refine va_get (D := G.1) (ci := 5) (v := .int r_) (C := RX5) (T := TX5) (N := 4) hx hb hts inX5 hown hK.1 hP 0 rfl rfl 3 (by decide) (hts _ mf_X5_21) (fun _ h9 => h9) rfl dX5_leads_55 ?_
          refine lv_iconst (v := -1) hx hb dX5_leads_58 (by decide) ?_
          refine lv_ixor hx hb dX5_leads_59 ?_
          refine lv_topi (fun v7 ev7 => ?_)
          refine lv_iand hx hb dX5_leads_60 ?_
          refine lv_topi (fun v8 ev8 => ?_)
          have hadj : ∀ v, v < 25 → bt v8 v = true → adj nd v := fun v hv hb_ => hRB nd v hnd hv (by rw [ev8, b_and] at hb_; have h9 := ((Bool.and_eq_true _ _).mp hb_).1; rw [ev6] at h9; exact h9)
          refine lv_istore (lv' := [(7, .int v8), (6, .int (nI nd)), (0, .ref (a 3)), (1, .int (nI u0)), (2, .int (nI t0)), (3, .int v1), (4, .int (nI fl)), (5, .int (nI n))]) hx hb dX5_leads_61 hl (by decide) rfl (fun ls hl => ?_)
          refine lv_iload hx hb dX5_leads_63 (lv_at hl 0 rfl) ?_
          refine lv_iload_n hx hb dX5_leads_65 rfl (lv_at hl 5 rfl) ?_
          refine lv_iand hx hb dX5_leads_66 ?_
          refine lv_topi (fun v9 ev9 => ?_)
          refine lv_if_eq (tgt := 80) hx hb dX5_leads_67 (by decide) (fun c10 => ?_) (fun c10 => ?_)
          · refine lv_aload_n hx hb dX5_leads_80 rfl (lv_at hl 2 rfl) ?_
            refine lv_dup hx hb dX5_leads_81 rfl ?_
            refine va_get (D := G.1) (ci := 5) (v := .int r_) (C := RX5) (T := TX5) (N := 4) hx hb hts inX5 hown hK.1 hP 0 rfl rfl 3 (by decide) (hts _ mf_X5_21) (fun _ h9 => h9) rfl dX5_leads_82 ?_
            refine lv_iload hx hb dX5_leads_85 (lv_at hl 0 rfl) ?_
            refine lv_ior hx hb dX5_leads_87 ?_
            refine lv_topi (fun v11 ev11 => ?_)
            refine va_put (D := G.1) (ci := 5) (v := .int v11) (C := RX5) (T := TX5) (N := 4) hx hb hts inX5 tyX5 tyX5_ok nmX5 hown hK.1 hP hD hS 0 rfl rfl 3 (by decide) (hts _ mf_X5_21) (fun _ h9 => h9) rfl (tyX5_ok 3 (by decide)) (rfl) (rfl) (Nat.le_of_ble_eq_true rfl) dX5_leads_88 (fun H locs hP hD hS => ?_)
            have hP : PP G [((a 3), .inr (5, [.ref (a 0), .ref (a 1), .ref (a 2), .int v11])), ((a 0), .inl (G.2.1, 25, .inl (q 0))), ((a 1), .inl (G.2.1, 25, .inl bb)), ((a 2), .inl (G.2.1, 25, .inl qq))] H := hP
            have hD := D_as hP hD rfl
            refine lv_iload hx hb dX5_leads_91 (lv_at hl 0 rfl) ?_
            refine lv_sipush (v := 4095) hx hb dX5_leads_93 (by decide) ?_
            refine lv_iand hx hb dX5_leads_96 ?_
            refine lv_topi (fun v12 ev12 => ?_)
            refine lv_if_ne (tgt := 105) hx hb dX5_leads_97 (by decide) (fun c13 => ?_) (fun c13 => ?_)
            · refine lv_iconst (v := 0) hx hb dX5_leads_105 (by decide) ?_
              refine lv_istore (lv' := [(8, .int 0), (7, .int v8), (6, .int (nI nd)), (0, .ref (a 3)), (1, .int (nI u0)), (2, .int (nI t0)), (3, .int v1), (4, .int (nI fl)), (5, .int (nI n))]) hx hb dX5_leads_106 hl (by decide) rfl (fun ls hl => ?_)
              refine lv_iload hx hb dX5_leads_108 (lv_at hl 0 rfl) ?_
              refine lv_istore (lv' := [(9, .int 0), (8, .int 0), (7, .int v8), (6, .int (nI nd)), (0, .ref (a 3)), (1, .int (nI u0)), (2, .int (nI t0)), (3, .int v1), (4, .int (nI fl)), (5, .int (nI n))]) hx hb dX5_leads_110 hl (by decide) rfl (fun ls hl => ?_)
              have inner : ∀ (k2 o : Nat) (fl : Nat) (bb qq : Nat → Int32), o ≤ 25 → 25 < o + k2 → fl ≤ 25 → wInv adj u0 bb qq fl → wQd qq fl nd → ∀ (H : Heap) (locs : List Loc) (ls : Array Slot), PP G ([((a 3), .inr (5, [.ref (a 0), .ref (a 1), .ref (a 2), .int v11])), ((a 0), .inl (G.2.1, 25, .inl (q 0))), ((a 1), .inl (G.2.1, 25, .inl bb)), ((a 2), .inl (G.2.1, 25, .inl qq))]) H → va_S A s.heap H locs → lv_has ls 10 [(0, .ref (a 3)), (1, .int (nI u0)), (2, .int (nI t0)), (3, .int v1), (4, .int (nI fl)), (5, .int (nI n)), (6, .int (nI nd)), (7, .int v8), (9, .int (nI o))] → W p l e ({ frames := 0, cells := 0, slots := 0, locals := 0 }) s m ([.ref (a 3), .int (nI u0), .int (nI t0)] : List Value).toArray below meth c H locs 0 0 (MQ below (QwI G (fun z w => ∃ (bb qq : Nat → Int32) (r2 : Int32), w = [((a 3), .inr (5, [.ref (a 0), .ref (a 1), .ref (a 2), .int r2])), ((a 0), .inl (G.2.1, 25, .inl (q 0))), ((a 1), .inl (G.2.1, 25, .inl bb)), ((a 2), .inl (G.2.1, 25, .inl qq))] ∧ (z = 0 ∨ (z = 1 ∧ wCh adj u0 t0 bb))) A) ([.ref (a 3), .int (nI u0), .int (nI t0)] : List Value).toArray s 0 0 A) (F0 m 112 ls []) := by
                intro k2
                induction k2 with
                | zero => intro o fl bb qq h1 h2; omega
                | succ k2 ih2 =>
                  intro o fl bb qq hi_o hk_o hfl hI hqd H locs ls hP hS hl
                  have hD := D_as2 hP hD rfl
                  refine lv_iload hx hb dX5_leads_112 (lv_at hl 8 rfl) ?_
                  refine lv_bipush (v := 25) hx hb dX5_leads_114 (by decide) ?_
                  refine lv_icmp_ge (tgt := 171) hx hb dX5_leads_116 (by decide) (fun c14 => ?_) (fun c14 => ?_)
                  · obtain ⟨v15, ev15⟩ : ∃ y : Int32, y = (nI n) + Int32.ofInt (1) := ⟨_, rfl⟩
                    refine lv_iinc (v := v15) (lv' := [(5, .int v15), (0, .ref (a 3)), (1, .int (nI u0)), (2, .int (nI t0)), (3, .int v1), (4, .int (nI fl)), (6, .int (nI nd)), (7, .int v8), (9, .int (nI o))]) hx hb dX5_leads_171 hl (k := 5) rfl ev15.symm (by decide) rfl (fun ls hl => ?_)
                    refine lv_goto (tgt := 24) hx hb dX5_leads_174 (by decide) ?_
                    exact ih (n + 1) fl bb qq _ (by omega) (by omega) hfl hI _ _ _ hP hS (by have e := nI_inc ev15; rw [e] at hl; exact lv_sub hl [1, 2, 3, 4, 5, 0] rfl)
                  · have hlto := ge_f (b := 25) (by omega) (by omega) c14
                    refine lv_iload hx hb dX5_leads_119 (lv_at hl 7 rfl) ?_
                    refine lv_iload hx hb dX5_leads_121 (lv_at hl 8 rfl) ?_
                    refine lv_ishr hx hb dX5_leads_123 ?_
                    refine lv_topi (fun v16 ev16 => ?_)
                    refine lv_if_eq (tgt := 171) hx hb dX5_leads_124 (by decide) (fun c17 => ?_) (fun c17 => ?_)
                    · obtain ⟨v18, ev18⟩ : ∃ y : Int32, y = (nI n) + Int32.ofInt (1) := ⟨_, rfl⟩
                      refine lv_iinc (v := v18) (lv' := [(5, .int v18), (0, .ref (a 3)), (1, .int (nI u0)), (2, .int (nI t0)), (3, .int v1), (4, .int (nI fl)), (6, .int (nI nd)), (7, .int v8), (9, .int (nI o))]) hx hb dX5_leads_171 hl (k := 5) rfl ev18.symm (by decide) rfl (fun ls hl => ?_)
                      refine lv_goto (tgt := 24) hx hb dX5_leads_174 (by decide) ?_
                      exact ih (n + 1) fl bb qq _ (by omega) (by omega) hfl hI _ _ _ hP hS (by have e := nI_inc ev18; rw [e] at hl; exact lv_sub hl [1, 2, 3, 4, 5, 0] rfl)
                    · refine lv_iload hx hb dX5_leads_127 (lv_at hl 7 rfl) ?_
                      refine lv_iload hx hb dX5_leads_129 (lv_at hl 8 rfl) ?_
                      refine lv_ishr hx hb dX5_leads_131 ?_
                      refine lv_topi (fun v19 ev19 => ?_)
                      refine lv_iconst (v := 1) hx hb dX5_leads_132 (by decide) ?_
                      refine lv_iand hx hb dX5_leads_133 ?_
                      refine lv_topi (fun v20 ev20 => ?_)
                      refine lv_if_eq (tgt := 165) hx hb dX5_leads_134 (by decide) (fun c21 => ?_) (fun c21 => ?_)
                      · obtain ⟨v22, ev22⟩ : ∃ y : Int32, y = (nI o) + Int32.ofInt (1) := ⟨_, rfl⟩
                        refine lv_iinc (v := v22) (lv' := [(9, .int v22), (0, .ref (a 3)), (1, .int (nI u0)), (2, .int (nI t0)), (3, .int v1), (4, .int (nI fl)), (5, .int (nI n)), (6, .int (nI nd)), (7, .int v8)]) hx hb dX5_leads_165 hl (k := 8) rfl ev22.symm (by decide) rfl (fun ls hl => ?_)
                        refine lv_goto (tgt := 112) hx hb dX5_leads_168 (by decide) ?_
                        exact ih2 (o + 1) fl bb qq (by omega) (by omega) hfl hI hqd _ _ _ hP hS (by have e := nI_inc ev22; rw [e] at hl; exact lv_sub hl [1, 2, 3, 4, 5, 6, 7, 8, 0] rfl)
                      · refine lv_iload hx hb dX5_leads_137 (lv_at hl 4 rfl) ?_
                        refine lv_bipush (v := 25) hx hb dX5_leads_139 (by decide) ?_
                        refine lv_icmp_ge (tgt := 165) hx hb dX5_leads_141 (by decide) (fun c23 => ?_) (fun c23 => ?_)
                        · obtain ⟨v24, ev24⟩ : ∃ y : Int32, y = (nI o) + Int32.ofInt (1) := ⟨_, rfl⟩
                          refine lv_iinc (v := v24) (lv' := [(9, .int v24), (0, .ref (a 3)), (1, .int (nI u0)), (2, .int (nI t0)), (3, .int v1), (4, .int (nI fl)), (5, .int (nI n)), (6, .int (nI nd)), (7, .int v8)]) hx hb dX5_leads_165 hl (k := 8) rfl ev24.symm (by decide) rfl (fun ls hl => ?_)
                          refine lv_goto (tgt := 112) hx hb dX5_leads_168 (by decide) ?_
                          exact ih2 (o + 1) fl bb qq (by omega) (by omega) hfl hI hqd _ _ _ hP hS (by have e := nI_inc ev24; rw [e] at hl; exact lv_sub hl [1, 2, 3, 4, 5, 6, 7, 8, 0] rfl)
                        · have hltf := ge_f (b := 25) (by omega) (by omega) c23
                          refine lv_aload_n hx hb dX5_leads_144 rfl (lv_at hl 0 rfl) ?_
                          refine va_get (D := G.1) (ci := 5) (v := .ref (a 1)) (C := RX5) (T := TX5) (N := 4) hx hb hts inX5 hown hK.1 hP 0 rfl rfl 1 (by decide) (hts _ mf_X5_15) (fun _ h9 => h9) rfl dX5_leads_145 ?_
                          refine lv_iload hx hb dX5_leads_148 (lv_at hl 8 rfl) ?_
                          refine lv_iload hx hb dX5_leads_150 (lv_at hl 6 rfl) ?_
                          refine xiast (x := (nI nd)) hx hb hK hP hD hS 2 (o) (rfl) (hlto) (by omega) rfl dX5_leads_152 (fun H locs hP hD hS => ?_)
                          have hP : PP G [((a 3), .inr (5, [.ref (a 0), .ref (a 1), .ref (a 2), .int v11])), ((a 0), .inl (G.2.1, 25, .inl (q 0))), ((a 1), .inl (G.2.1, 25, .inl (upd bb (o) ((nI nd))))), ((a 2), .inl (G.2.1, 25, .inl qq))] H := hP
                          have hD := D_as hP hD rfl
                          refine lv_aload_n hx hb dX5_leads_153 rfl (lv_at hl 0 rfl) ?_
                          refine va_get (D := G.1) (ci := 5) (v := .ref (a 2)) (C := RX5) (T := TX5) (N := 4) hx hb hts inX5 hown hK.1 hP 0 rfl rfl 2 (by decide) (hts _ mf_X5_18) (fun _ h9 => h9) rfl dX5_leads_154 ?_
                          refine lv_iload hx hb dX5_leads_157 (lv_at hl 4 rfl) ?_
                          refine lv_iload hx hb dX5_leads_159 (lv_at hl 8 rfl) ?_
                          refine xiast (x := (nI o)) hx hb hK hP hD hS 3 (fl) (rfl) (hltf) (by omega) rfl dX5_leads_161 (fun H locs hP hD hS => ?_)
                          have hP : PP G [((a 3), .inr (5, [.ref (a 0), .ref (a 1), .ref (a 2), .int v11])), ((a 0), .inl (G.2.1, 25, .inl (q 0))), ((a 1), .inl (G.2.1, 25, .inl (upd bb (o) ((nI nd))))), ((a 2), .inl (G.2.1, 25, .inl (upd qq (fl) ((nI o)))))] H := hP
                          have hD := D_as hP hD rfl
                          obtain ⟨v25, ev25⟩ : ∃ y : Int32, y = (nI fl) + Int32.ofInt (1) := ⟨_, rfl⟩
                          refine lv_iinc (v := v25) (lv' := [(4, .int v25), (0, .ref (a 3)), (1, .int (nI u0)), (2, .int (nI t0)), (3, .int v1), (5, .int (nI n)), (6, .int (nI nd)), (7, .int v8), (9, .int (nI o))]) hx hb dX5_leads_162 hl (k := 4) rfl ev25.symm (by decide) rfl (fun ls hl => ?_)
                          obtain ⟨v26, ev26⟩ : ∃ y : Int32, y = (nI o) + Int32.ofInt (1) := ⟨_, rfl⟩
                          refine lv_iinc (v := v26) (lv' := [(9, .int v26), (4, .int v25), (0, .ref (a 3)), (1, .int (nI u0)), (2, .int (nI t0)), (3, .int v1), (5, .int (nI n)), (6, .int (nI nd)), (7, .int v8)]) hx hb dX5_leads_165 hl (k := 8) rfl ev26.symm (by decide) rfl (fun ls hl => ?_)
                          refine lv_goto (tgt := 112) hx hb dX5_leads_168 (by decide) ?_
                          have hbo : bt v8 o = true := bit_of (by omega) (by simp only [*] at * <;> exact c21)
                          exact ih2 (o + 1) (fl + 1) _ _ (by omega) (by omega) (by omega) (wInv_s hI hnd hqd hlto (hadj o hlto hbo)) (by obtain ⟨k9, h9, g9⟩ := hqd; exact ⟨k9, by omega, by rw [pk_un (by omega)]; exact g9⟩) _ _ _ hP hS (by have e := nI_inc ev26; have e9 := nI_inc ev25; rw [e, e9] at hl; exact lv_sub hl [2, 3, 4, 5, 1, 6, 7, 8, 0] rfl)
              exact inner 26 0 fl bb qq (by omega) (by omega) hfl hI ⟨n, hlt, end_⟩ _ _ _ hP hS (lv_sub hl [4, 5, 6, 7, 8, 9, 3, 2, 0] rfl)
            · refine lv_bipush (v := 12) hx hb dX5_leads_100 (by decide) ?_
              refine lv_goto (tgt := 106) hx hb dX5_leads_102 (by decide) ?_
              refine lv_istore (lv' := [(8, .int 12), (7, .int v8), (6, .int (nI nd)), (0, .ref (a 3)), (1, .int (nI u0)), (2, .int (nI t0)), (3, .int v1), (4, .int (nI fl)), (5, .int (nI n))]) hx hb dX5_leads_106 hl (by decide) rfl (fun ls hl => ?_)
              refine lv_iload hx hb dX5_leads_108 (lv_at hl 0 rfl) ?_
              refine lv_istore (lv' := [(9, .int 12), (8, .int 12), (7, .int v8), (6, .int (nI nd)), (0, .ref (a 3)), (1, .int (nI u0)), (2, .int (nI t0)), (3, .int v1), (4, .int (nI fl)), (5, .int (nI n))]) hx hb dX5_leads_110 hl (by decide) rfl (fun ls hl => ?_)
              have inner : ∀ (k2 o : Nat) (fl : Nat) (bb qq : Nat → Int32), o ≤ 25 → 25 < o + k2 → fl ≤ 25 → wInv adj u0 bb qq fl → wQd qq fl nd → ∀ (H : Heap) (locs : List Loc) (ls : Array Slot), PP G ([((a 3), .inr (5, [.ref (a 0), .ref (a 1), .ref (a 2), .int v11])), ((a 0), .inl (G.2.1, 25, .inl (q 0))), ((a 1), .inl (G.2.1, 25, .inl bb)), ((a 2), .inl (G.2.1, 25, .inl qq))]) H → va_S A s.heap H locs → lv_has ls 10 [(0, .ref (a 3)), (1, .int (nI u0)), (2, .int (nI t0)), (3, .int v1), (4, .int (nI fl)), (5, .int (nI n)), (6, .int (nI nd)), (7, .int v8), (9, .int (nI o))] → W p l e ({ frames := 0, cells := 0, slots := 0, locals := 0 }) s m ([.ref (a 3), .int (nI u0), .int (nI t0)] : List Value).toArray below meth c H locs 0 0 (MQ below (QwI G (fun z w => ∃ (bb qq : Nat → Int32) (r2 : Int32), w = [((a 3), .inr (5, [.ref (a 0), .ref (a 1), .ref (a 2), .int r2])), ((a 0), .inl (G.2.1, 25, .inl (q 0))), ((a 1), .inl (G.2.1, 25, .inl bb)), ((a 2), .inl (G.2.1, 25, .inl qq))] ∧ (z = 0 ∨ (z = 1 ∧ wCh adj u0 t0 bb))) A) ([.ref (a 3), .int (nI u0), .int (nI t0)] : List Value).toArray s 0 0 A) (F0 m 112 ls []) := by
                intro k2
                induction k2 with
                | zero => intro o fl bb qq h1 h2; omega
                | succ k2 ih2 =>
                  intro o fl bb qq hi_o hk_o hfl hI hqd H locs ls hP hS hl
                  have hD := D_as2 hP hD rfl
                  refine lv_iload hx hb dX5_leads_112 (lv_at hl 8 rfl) ?_
                  refine lv_bipush (v := 25) hx hb dX5_leads_114 (by decide) ?_
                  refine lv_icmp_ge (tgt := 171) hx hb dX5_leads_116 (by decide) (fun c27 => ?_) (fun c27 => ?_)
                  · obtain ⟨v28, ev28⟩ : ∃ y : Int32, y = (nI n) + Int32.ofInt (1) := ⟨_, rfl⟩
                    refine lv_iinc (v := v28) (lv' := [(5, .int v28), (0, .ref (a 3)), (1, .int (nI u0)), (2, .int (nI t0)), (3, .int v1), (4, .int (nI fl)), (6, .int (nI nd)), (7, .int v8), (9, .int (nI o))]) hx hb dX5_leads_171 hl (k := 5) rfl ev28.symm (by decide) rfl (fun ls hl => ?_)
                    refine lv_goto (tgt := 24) hx hb dX5_leads_174 (by decide) ?_
                    exact ih (n + 1) fl bb qq _ (by omega) (by omega) hfl hI _ _ _ hP hS (by have e := nI_inc ev28; rw [e] at hl; exact lv_sub hl [1, 2, 3, 4, 5, 0] rfl)
                  · have hlto := ge_f (b := 25) (by omega) (by omega) c27
                    refine lv_iload hx hb dX5_leads_119 (lv_at hl 7 rfl) ?_
                    refine lv_iload hx hb dX5_leads_121 (lv_at hl 8 rfl) ?_
                    refine lv_ishr hx hb dX5_leads_123 ?_
                    refine lv_topi (fun v29 ev29 => ?_)
                    refine lv_if_eq (tgt := 171) hx hb dX5_leads_124 (by decide) (fun c30 => ?_) (fun c30 => ?_)
                    · obtain ⟨v31, ev31⟩ : ∃ y : Int32, y = (nI n) + Int32.ofInt (1) := ⟨_, rfl⟩
                      refine lv_iinc (v := v31) (lv' := [(5, .int v31), (0, .ref (a 3)), (1, .int (nI u0)), (2, .int (nI t0)), (3, .int v1), (4, .int (nI fl)), (6, .int (nI nd)), (7, .int v8), (9, .int (nI o))]) hx hb dX5_leads_171 hl (k := 5) rfl ev31.symm (by decide) rfl (fun ls hl => ?_)
                      refine lv_goto (tgt := 24) hx hb dX5_leads_174 (by decide) ?_
                      exact ih (n + 1) fl bb qq _ (by omega) (by omega) hfl hI _ _ _ hP hS (by have e := nI_inc ev31; rw [e] at hl; exact lv_sub hl [1, 2, 3, 4, 5, 0] rfl)
                    · refine lv_iload hx hb dX5_leads_127 (lv_at hl 7 rfl) ?_
                      refine lv_iload hx hb dX5_leads_129 (lv_at hl 8 rfl) ?_
                      refine lv_ishr hx hb dX5_leads_131 ?_
                      refine lv_topi (fun v32 ev32 => ?_)
                      refine lv_iconst (v := 1) hx hb dX5_leads_132 (by decide) ?_
                      refine lv_iand hx hb dX5_leads_133 ?_
                      refine lv_topi (fun v33 ev33 => ?_)
                      refine lv_if_eq (tgt := 165) hx hb dX5_leads_134 (by decide) (fun c34 => ?_) (fun c34 => ?_)
                      · obtain ⟨v35, ev35⟩ : ∃ y : Int32, y = (nI o) + Int32.ofInt (1) := ⟨_, rfl⟩
                        refine lv_iinc (v := v35) (lv' := [(9, .int v35), (0, .ref (a 3)), (1, .int (nI u0)), (2, .int (nI t0)), (3, .int v1), (4, .int (nI fl)), (5, .int (nI n)), (6, .int (nI nd)), (7, .int v8)]) hx hb dX5_leads_165 hl (k := 8) rfl ev35.symm (by decide) rfl (fun ls hl => ?_)
                        refine lv_goto (tgt := 112) hx hb dX5_leads_168 (by decide) ?_
                        exact ih2 (o + 1) fl bb qq (by omega) (by omega) hfl hI hqd _ _ _ hP hS (by have e := nI_inc ev35; rw [e] at hl; exact lv_sub hl [1, 2, 3, 4, 5, 6, 7, 8, 0] rfl)
                      · refine lv_iload hx hb dX5_leads_137 (lv_at hl 4 rfl) ?_
                        refine lv_bipush (v := 25) hx hb dX5_leads_139 (by decide) ?_
                        refine lv_icmp_ge (tgt := 165) hx hb dX5_leads_141 (by decide) (fun c36 => ?_) (fun c36 => ?_)
                        · obtain ⟨v37, ev37⟩ : ∃ y : Int32, y = (nI o) + Int32.ofInt (1) := ⟨_, rfl⟩
                          refine lv_iinc (v := v37) (lv' := [(9, .int v37), (0, .ref (a 3)), (1, .int (nI u0)), (2, .int (nI t0)), (3, .int v1), (4, .int (nI fl)), (5, .int (nI n)), (6, .int (nI nd)), (7, .int v8)]) hx hb dX5_leads_165 hl (k := 8) rfl ev37.symm (by decide) rfl (fun ls hl => ?_)
                          refine lv_goto (tgt := 112) hx hb dX5_leads_168 (by decide) ?_
                          exact ih2 (o + 1) fl bb qq (by omega) (by omega) hfl hI hqd _ _ _ hP hS (by have e := nI_inc ev37; rw [e] at hl; exact lv_sub hl [1, 2, 3, 4, 5, 6, 7, 8, 0] rfl)
                        · have hltf := ge_f (b := 25) (by omega) (by omega) c36
                          refine lv_aload_n hx hb dX5_leads_144 rfl (lv_at hl 0 rfl) ?_
                          refine va_get (D := G.1) (ci := 5) (v := .ref (a 1)) (C := RX5) (T := TX5) (N := 4) hx hb hts inX5 hown hK.1 hP 0 rfl rfl 1 (by decide) (hts _ mf_X5_15) (fun _ h9 => h9) rfl dX5_leads_145 ?_
                          refine lv_iload hx hb dX5_leads_148 (lv_at hl 8 rfl) ?_
                          refine lv_iload hx hb dX5_leads_150 (lv_at hl 6 rfl) ?_
                          refine xiast (x := (nI nd)) hx hb hK hP hD hS 2 (o) (rfl) (hlto) (by omega) rfl dX5_leads_152 (fun H locs hP hD hS => ?_)
                          have hP : PP G [((a 3), .inr (5, [.ref (a 0), .ref (a 1), .ref (a 2), .int v11])), ((a 0), .inl (G.2.1, 25, .inl (q 0))), ((a 1), .inl (G.2.1, 25, .inl (upd bb (o) ((nI nd))))), ((a 2), .inl (G.2.1, 25, .inl qq))] H := hP
                          have hD := D_as hP hD rfl
                          refine lv_aload_n hx hb dX5_leads_153 rfl (lv_at hl 0 rfl) ?_
                          refine va_get (D := G.1) (ci := 5) (v := .ref (a 2)) (C := RX5) (T := TX5) (N := 4) hx hb hts inX5 hown hK.1 hP 0 rfl rfl 2 (by decide) (hts _ mf_X5_18) (fun _ h9 => h9) rfl dX5_leads_154 ?_
                          refine lv_iload hx hb dX5_leads_157 (lv_at hl 4 rfl) ?_
                          refine lv_iload hx hb dX5_leads_159 (lv_at hl 8 rfl) ?_
                          refine xiast (x := (nI o)) hx hb hK hP hD hS 3 (fl) (rfl) (hltf) (by omega) rfl dX5_leads_161 (fun H locs hP hD hS => ?_)
                          have hP : PP G [((a 3), .inr (5, [.ref (a 0), .ref (a 1), .ref (a 2), .int v11])), ((a 0), .inl (G.2.1, 25, .inl (q 0))), ((a 1), .inl (G.2.1, 25, .inl (upd bb (o) ((nI nd))))), ((a 2), .inl (G.2.1, 25, .inl (upd qq (fl) ((nI o)))))] H := hP
                          have hD := D_as hP hD rfl
                          obtain ⟨v38, ev38⟩ : ∃ y : Int32, y = (nI fl) + Int32.ofInt (1) := ⟨_, rfl⟩
                          refine lv_iinc (v := v38) (lv' := [(4, .int v38), (0, .ref (a 3)), (1, .int (nI u0)), (2, .int (nI t0)), (3, .int v1), (5, .int (nI n)), (6, .int (nI nd)), (7, .int v8), (9, .int (nI o))]) hx hb dX5_leads_162 hl (k := 4) rfl ev38.symm (by decide) rfl (fun ls hl => ?_)
                          obtain ⟨v39, ev39⟩ : ∃ y : Int32, y = (nI o) + Int32.ofInt (1) := ⟨_, rfl⟩
                          refine lv_iinc (v := v39) (lv' := [(9, .int v39), (4, .int v38), (0, .ref (a 3)), (1, .int (nI u0)), (2, .int (nI t0)), (3, .int v1), (5, .int (nI n)), (6, .int (nI nd)), (7, .int v8)]) hx hb dX5_leads_165 hl (k := 8) rfl ev39.symm (by decide) rfl (fun ls hl => ?_)
                          refine lv_goto (tgt := 112) hx hb dX5_leads_168 (by decide) ?_
                          have hbo : bt v8 o = true := bit_of (by omega) (by simp only [*] at * <;> exact c34)
                          exact ih2 (o + 1) (fl + 1) _ _ (by omega) (by omega) (by omega) (wInv_s hI hnd hqd hlto (hadj o hlto hbo)) (by obtain ⟨k9, h9, g9⟩ := hqd; exact ⟨k9, by omega, by rw [pk_un (by omega)]; exact g9⟩) _ _ _ hP hS (by have e := nI_inc ev39; have e9 := nI_inc ev38; rw [e, e9] at hl; exact lv_sub hl [2, 3, 4, 5, 1, 6, 7, 8, 0] rfl)
              exact inner 26 12 fl bb qq (by omega) (by omega) hfl hI ⟨n, hlt, end_⟩ _ _ _ hP hS (lv_sub hl [4, 5, 6, 7, 8, 9, 3, 2, 0] rfl)
          · refine lv_aload_n hx hb dX5_leads_70 rfl (lv_at hl 2 rfl) ?_
            refine va_get (D := G.1) (ci := 5) (v := .ref (a 1)) (C := RX5) (T := TX5) (N := 4) hx hb hts inX5 hown hK.1 hP 0 rfl rfl 1 (by decide) (hts _ mf_X5_15) (fun _ h9 => h9) rfl dX5_leads_71 ?_
            refine lv_iload_n hx hb dX5_leads_74 rfl (lv_at hl 4 rfl) ?_
            refine lv_iload hx hb dX5_leads_75 (lv_at hl 1 rfl) ?_
            refine xiast (x := (nI nd)) hx hb hK hP hD hS 2 (t0) (rfl) (ht) (by omega) rfl dX5_leads_77 (fun H locs hP hD hS => ?_)
            have hP : PP G [((a 3), .inr (5, [.ref (a 0), .ref (a 1), .ref (a 2), .int r_])), ((a 0), .inl (G.2.1, 25, .inl (q 0))), ((a 1), .inl (G.2.1, 25, .inl (upd bb (t0) ((nI nd))))), ((a 2), .inl (G.2.1, 25, .inl qq))] H := hP
            have hD := D_as hP hD rfl
            refine lv_iconst (v := 1) hx hb dX5_leads_78 (by decide) ?_
            have hbt : bt v8 t0 = true := andbit_of (by omega) (by simp only [*] at * <;> exact c10)
            exact wr_zret hx hb hr hlocks (Or.inr rfl) hS hP ⟨_, _, _, rfl, Or.inr ⟨rfl, wCh_of hI hnd ⟨n, hlt, end_⟩ (hadj t0 ht hbt)⟩⟩ dX5_leads_79
  exact outer 26 0 1 _ _ _ (by omega) (by omega) (by omega) (wInv_0 hu (q 1) (q 2)) _ _ _ hP hS (lv_sub hl [3, 4, 5, 2, 1, 0] rfl)
set_option maxHeartbeats 4000000 in
set_option maxRecDepth 100000 in
theorem c_X5_allFrom (l : Launch) (G : GG) (a : Nat → Nat) (q : Nat → Nat → Int32) (rc : Int32) (adj : Nat → Nat → Prop) (u0 : Nat) (hu : u0 < 25) (hRB : RB adj (q 0)) : WrI l yX5_allFrom cX5_allFrom 2 (some .int) ({ frames := 1, cells := 0, slots := 0, locals := 29 }) G ([((a 3), .inr (5, [.ref (a 0), .ref (a 1), .ref (a 2), .int rc])), ((a 0), .inl (G.2.1, 25, .inl (q 0))), ((a 1), .inl (G.2.1, 25, .inl (q 1))), ((a 2), .inl (G.2.1, 25, .inl (q 2)))]) [.ref (a 3), .int (nI u0)] (fun _ w => ∃ (bb qq : Nat → Int32) (r2 : Int32), w = [((a 3), .inr (5, [.ref (a 0), .ref (a 1), .ref (a 2), .int r2])), ((a 0), .inl (G.2.1, 25, .inl (q 0))), ((a 1), .inl (G.2.1, 25, .inl bb)), ((a 2), .inl (G.2.1, 25, .inl qq))]) := by
  refine wr_entryI (by decide +kernel) (Nat.le_of_ble_eq_true rfl) ?_
  intro p e s m below meth c A C0 hP hK hD hA ls hl
  have hS : va_S A s.heap s.heap [] := va_S.rf
  obtain ⟨hx, hb, hml, hown, hts, hr, hlocks, hin⟩ := C0
  have hown : s.vm.findClass RX5 = some m.cls := hown
  have hl : lv_has ls 2 [(0, .ref (a 3)), (1, .int (nI u0))] := hl
  refine lv_aload_n hx hb dX5_allFrom_0 rfl (lv_at hl 0 rfl) ?_
  refine lv_iload_n hx hb dX5_allFrom_1 rfl (lv_at hl 1 rfl) ?_
  refine lv_iload_n hx hb dX5_allFrom_2 rfl (lv_at hl 1 rfl) ?_
  refine wrVI (rest := []) (q0 := 0) ⟨hx, hb, hml, hown, hts⟩ (c_X5_leads l G a q rc adj u0 u0 hu hu hRB) mi_yX5_leads mv_yX5_leads ml_X5_31 ⟨rfl, rfl, Nat.le_of_ble_eq_true rfl, Nat.le_of_ble_eq_true rfl⟩ hK hP hD [0, 1, 2, 3] rfl (by decide) rfl rfl rfl hl.1 rfl (Nat.le_of_ble_eq_true rfl) dX5_allFrom_3 ⟨Nat.zero_le _, Nat.zero_le _⟩ hS hA (fun r1 w2 H locs hw2 hP hS => ?_)
  obtain ⟨bb, qq, r2, rfl, -⟩ := hw2
  have hP : PP G [((a 3), .inr (5, [.ref (a 0), .ref (a 1), .ref (a 2), .int r2])), ((a 0), .inl (G.2.1, 25, .inl (q 0))), ((a 1), .inl (G.2.1, 25, .inl bb)), ((a 2), .inl (G.2.1, 25, .inl qq))] H := hP rfl
  have hD := D_as2 hP hD rfl
  refine lv_pop hx hb dX5_allFrom_6 rfl ?_
  refine lv_aload_n hx hb dX5_allFrom_7 rfl (lv_at hl 0 rfl) ?_
  refine va_get (D := G.1) (ci := 5) (v := .int r2) (C := RX5) (T := TX5) (N := 4) hx hb hts inX5 hown hK.1 hP 0 rfl rfl 3 (by decide) (hts _ mf_X5_21) (fun _ h9 => h9) rfl dX5_allFrom_8 ?_
  exact wr_iret hx hb hr hlocks hS hP ⟨_, _, _, rfl⟩ dX5_allFrom_11
