theorem mf_X2_143 : Cond.fieldLink RX2 143 "CellKeeper$Walk" "before" "[I" ∈ TB := TB_t1 37 rfl rfl
theorem ml_X2_136 : Cond.methodLink RX2 136 yJ9_min_7cf53 ∈ TB := TB_t3 97 rfl rfl
theorem mk_X2_124 : Cond.constant RX2 124 (1000000) ∈ TB := TB_t3 85 rfl rfl
theorem ml_X2_125 : Cond.methodLink RX2 125 yX5_leads ∈ TB := TB_t3 86 rfl rfl
theorem ml_X2_128 : Cond.methodLink RX2 128 yJ9_abs_0f7a4 ∈ TB := TB_t3 90 rfl rfl
theorem mst_yJ9_abs_0f7a4 : Cond.static yJ9_abs_0f7a4 ∈ TB := TB_t3 91 rfl rfl
theorem mcode_yJ9_abs_0f7a4 : Cond.code yJ9_abs_0f7a4 cJ9_abs_0f7a4 1 (some .int) ∈ TB := TB_t3 92 rfl rfl
theorem ml_X2_133 : Cond.methodLink RX2 133 yX2_room ∈ TB := TB_t3 93 rfl rfl
theorem mcode_yX2_room : Cond.code yX2_room cX2_room 8 (some .int) ∈ TB := TB_t3 96 rfl rfl
theorem mi_yX2_room : MI yX2_room cX2_room 8 (some .int) 2 := ⟨mz_RX2, mcode_yX2_room, by decide +kernel, by decide +kernel, by decide +kernel⟩
theorem mim_yX2_room : Cond.instanceMethod yX2_room ∈ TB := TB_t3 95 rfl rfl
theorem msel_yX2_room : Cond.selects yX2_room.cls yX2_room yX2_room ∈ TB := TB_s (n := 15) 18 (by decide +kernel)
theorem mv_yX2_room : Cond.instanceMethod yX2_room ∈ TB ∧ Cond.selects yX2_room.cls yX2_room yX2_room ∈ TB := ⟨mim_yX2_room, msel_yX2_room⟩
theorem ml_X2_139 : Cond.methodLink RX2 139 yX2_shift ∈ TB := TB_t3 100 rfl rfl
theorem mcode_yX2_shift : Cond.code yX2_shift cX2_shift 7 none ∈ TB := TB_t3 103 rfl rfl
theorem mi_yX2_shift : MI yX2_shift cX2_shift 7 none 3 := ⟨mz_RX2, mcode_yX2_shift, by decide +kernel, by decide +kernel, by decide +kernel⟩
theorem mim_yX2_shift : Cond.instanceMethod yX2_shift ∈ TB := TB_t3 102 rfl rfl
theorem msel_yX2_shift : Cond.selects yX2_shift.cls yX2_shift yX2_shift ∈ TB := TB_s (n := 15) 19 (by decide +kernel)
theorem mv_yX2_shift : Cond.instanceMethod yX2_shift ∈ TB ∧ Cond.selects yX2_shift.cls yX2_shift yX2_shift ∈ TB := ⟨mim_yX2_shift, msel_yX2_shift⟩
theorem kcX2_room_0 : CHb cX2_room 0 [18, 106, 62, 28, 54, 4, 3, 54, 5, 21, 5, 16, 25, 162, 0, 105, 21, 4, 27, 159, 0, 99, 42, 180, 0, 30, 180, 0, 143, 21, 4, 46, 54, 6, 21, 6, 16, 12, 162, 0, 38, 21, 6, 21, 4, 16, 12, 100, 184, 0, 89, 54, 7, 29, 42, 180, 0, 60, 21, 7, 46, 42, 180, 0] := CHb_of (by decide +kernel)
theorem dX2_room_0 : decode cX2_room 0 = .ok (.ldc 106, 2) := dw_18 (kcX2_room_0 0 18 rfl) (kcX2_room_0 1 106 rfl)
theorem dX2_room_2 : decode cX2_room 2 = .ok (.istore_n 3, 1) := dw_62 (kcX2_room_0 2 62 rfl)
theorem dX2_room_3 : decode cX2_room 3 = .ok (.iload_n 2, 1) := dw_28 (kcX2_room_0 3 28 rfl)
theorem dX2_room_4 : decode cX2_room 4 = .ok (.istore 4, 2) := dw_54 (kcX2_room_0 4 54 rfl) (kcX2_room_0 5 4 rfl)
theorem dX2_room_6 : decode cX2_room 6 = .ok (.iconst 0, 1) := dw_3 (kcX2_room_0 6 3 rfl)
theorem dX2_room_7 : decode cX2_room 7 = .ok (.istore 5, 2) := dw_54 (kcX2_room_0 7 54 rfl) (kcX2_room_0 8 5 rfl)
theorem dX2_room_9 : decode cX2_room 9 = .ok (.iload 5, 2) := dw_21 (kcX2_room_0 9 21 rfl) (kcX2_room_0 10 5 rfl)
theorem dX2_room_11 : decode cX2_room 11 = .ok (.bipush 25, 2) := dw_16 (kcX2_room_0 11 16 rfl) (kcX2_room_0 12 25 rfl) rfl
theorem dX2_room_13 : decode cX2_room 13 = .ok (.if_icmp .ge 105, 3) := dw_162 (kcX2_room_0 13 162 rfl) (kcX2_room_0 14 0 rfl) (kcX2_room_0 15 105 rfl) rfl
theorem kcX2_room_1 : CHb cX2_room 64 [54, 21, 7, 46, 100, 184, 0, 136, 62, 167, 0, 35, 21, 4, 21, 6, 16, 12, 100, 184, 0, 89, 54, 7, 29, 42, 180, 0, 54, 21, 7, 46, 42, 180, 0, 57, 21, 7, 46, 100, 184, 0, 136, 62, 21, 6, 54, 4, 132, 5, 1, 167, 255, 150, 29, 172] := CHb_of (by decide +kernel)
theorem dX2_room_118 : decode cX2_room 118 = .ok (.iload_n 3, 1) := dw_29 (kcX2_room_1 54 29 rfl)
theorem dX2_room_119 : decode cX2_room 119 = .ok (.ireturn, 1) := dw_172 (kcX2_room_1 55 172 rfl)
theorem dX2_room_16 : decode cX2_room 16 = .ok (.iload 4, 2) := dw_21 (kcX2_room_0 16 21 rfl) (kcX2_room_0 17 4 rfl)
theorem dX2_room_18 : decode cX2_room 18 = .ok (.iload_n 1, 1) := dw_27 (kcX2_room_0 18 27 rfl)
theorem dX2_room_19 : decode cX2_room 19 = .ok (.if_icmp .eq 99, 3) := dw_159 (kcX2_room_0 19 159 rfl) (kcX2_room_0 20 0 rfl) (kcX2_room_0 21 99 rfl) rfl
theorem dX2_room_22 : decode cX2_room 22 = .ok (.aload_n 0, 1) := dw_42 (kcX2_room_0 22 42 rfl)
theorem dX2_room_23 : decode cX2_room 23 = .ok (.getfield 30, 3) := dw_180 (kcX2_room_0 23 180 rfl) (kcX2_room_0 24 0 rfl) (kcX2_room_0 25 30 rfl) rfl
theorem dX2_room_26 : decode cX2_room 26 = .ok (.getfield 143, 3) := dw_180 (kcX2_room_0 26 180 rfl) (kcX2_room_0 27 0 rfl) (kcX2_room_0 28 143 rfl) rfl
theorem dX2_room_29 : decode cX2_room 29 = .ok (.iload 4, 2) := dw_21 (kcX2_room_0 29 21 rfl) (kcX2_room_0 30 4 rfl)
theorem dX2_room_31 : decode cX2_room 31 = .ok (.iaload, 1) := dw_46 (kcX2_room_0 31 46 rfl)
theorem dX2_room_32 : decode cX2_room 32 = .ok (.istore 6, 2) := dw_54 (kcX2_room_0 32 54 rfl) (kcX2_room_0 33 6 rfl)
theorem dX2_room_34 : decode cX2_room 34 = .ok (.iload 6, 2) := dw_21 (kcX2_room_0 34 21 rfl) (kcX2_room_0 35 6 rfl)
theorem dX2_room_36 : decode cX2_room 36 = .ok (.bipush 12, 2) := dw_16 (kcX2_room_0 36 16 rfl) (kcX2_room_0 37 12 rfl) rfl
theorem dX2_room_38 : decode cX2_room 38 = .ok (.if_icmp .ge 38, 3) := dw_162 (kcX2_room_0 38 162 rfl) (kcX2_room_0 39 0 rfl) (kcX2_room_0 40 38 rfl) rfl
theorem dX2_room_76 : decode cX2_room 76 = .ok (.iload 4, 2) := dw_21 (kcX2_room_1 12 21 rfl) (kcX2_room_1 13 4 rfl)
theorem dX2_room_78 : decode cX2_room 78 = .ok (.iload 6, 2) := dw_21 (kcX2_room_1 14 21 rfl) (kcX2_room_1 15 6 rfl)
theorem dX2_room_80 : decode cX2_room 80 = .ok (.bipush 12, 2) := dw_16 (kcX2_room_1 16 16 rfl) (kcX2_room_1 17 12 rfl) rfl
theorem dX2_room_82 : decode cX2_room 82 = .ok (.isub, 1) := dw_100 (kcX2_room_1 18 100 rfl)
theorem dX2_room_83 : decode cX2_room 83 = .ok (.invokestatic 89, 3) := dw_184 (kcX2_room_1 19 184 rfl) (kcX2_room_1 20 0 rfl) (kcX2_room_1 21 89 rfl) rfl
theorem dX2_room_86 : decode cX2_room 86 = .ok (.istore 7, 2) := dw_54 (kcX2_room_1 22 54 rfl) (kcX2_room_1 23 7 rfl)
theorem dX2_room_88 : decode cX2_room 88 = .ok (.iload_n 3, 1) := dw_29 (kcX2_room_1 24 29 rfl)
theorem dX2_room_89 : decode cX2_room 89 = .ok (.aload_n 0, 1) := dw_42 (kcX2_room_1 25 42 rfl)
theorem dX2_room_90 : decode cX2_room 90 = .ok (.getfield 54, 3) := dw_180 (kcX2_room_1 26 180 rfl) (kcX2_room_1 27 0 rfl) (kcX2_room_1 28 54 rfl) rfl
theorem dX2_room_93 : decode cX2_room 93 = .ok (.iload 7, 2) := dw_21 (kcX2_room_1 29 21 rfl) (kcX2_room_1 30 7 rfl)
theorem dX2_room_95 : decode cX2_room 95 = .ok (.iaload, 1) := dw_46 (kcX2_room_1 31 46 rfl)
theorem dX2_room_96 : decode cX2_room 96 = .ok (.aload_n 0, 1) := dw_42 (kcX2_room_1 32 42 rfl)
theorem dX2_room_97 : decode cX2_room 97 = .ok (.getfield 57, 3) := dw_180 (kcX2_room_1 33 180 rfl) (kcX2_room_1 34 0 rfl) (kcX2_room_1 35 57 rfl) rfl
theorem dX2_room_100 : decode cX2_room 100 = .ok (.iload 7, 2) := dw_21 (kcX2_room_1 36 21 rfl) (kcX2_room_1 37 7 rfl)
theorem dX2_room_102 : decode cX2_room 102 = .ok (.iaload, 1) := dw_46 (kcX2_room_1 38 46 rfl)
theorem dX2_room_103 : decode cX2_room 103 = .ok (.isub, 1) := dw_100 (kcX2_room_1 39 100 rfl)
theorem dX2_room_104 : decode cX2_room 104 = .ok (.invokestatic 136, 3) := dw_184 (kcX2_room_1 40 184 rfl) (kcX2_room_1 41 0 rfl) (kcX2_room_1 42 136 rfl) rfl
theorem dX2_room_107 : decode cX2_room 107 = .ok (.istore_n 3, 1) := dw_62 (kcX2_room_1 43 62 rfl)
theorem dX2_room_108 : decode cX2_room 108 = .ok (.iload 6, 2) := dw_21 (kcX2_room_1 44 21 rfl) (kcX2_room_1 45 6 rfl)
theorem dX2_room_110 : decode cX2_room 110 = .ok (.istore 4, 2) := dw_54 (kcX2_room_1 46 54 rfl) (kcX2_room_1 47 4 rfl)
theorem dX2_room_112 : decode cX2_room 112 = .ok (.iinc 5 1, 3) := dw_132 (kcX2_room_1 48 132 rfl) (kcX2_room_1 49 5 rfl) (kcX2_room_1 50 1 rfl) rfl
theorem dX2_room_115 : decode cX2_room 115 = .ok (.goto (-106), 3) := dw_167 (kcX2_room_1 51 167 rfl) (kcX2_room_1 52 255 rfl) (kcX2_room_1 53 150 rfl) rfl
theorem dX2_room_41 : decode cX2_room 41 = .ok (.iload 6, 2) := dw_21 (kcX2_room_0 41 21 rfl) (kcX2_room_0 42 6 rfl)
theorem dX2_room_43 : decode cX2_room 43 = .ok (.iload 4, 2) := dw_21 (kcX2_room_0 43 21 rfl) (kcX2_room_0 44 4 rfl)
theorem dX2_room_45 : decode cX2_room 45 = .ok (.bipush 12, 2) := dw_16 (kcX2_room_0 45 16 rfl) (kcX2_room_0 46 12 rfl) rfl
theorem dX2_room_47 : decode cX2_room 47 = .ok (.isub, 1) := dw_100 (kcX2_room_0 47 100 rfl)
theorem dX2_room_48 : decode cX2_room 48 = .ok (.invokestatic 89, 3) := dw_184 (kcX2_room_0 48 184 rfl) (kcX2_room_0 49 0 rfl) (kcX2_room_0 50 89 rfl) rfl
theorem dX2_room_51 : decode cX2_room 51 = .ok (.istore 7, 2) := dw_54 (kcX2_room_0 51 54 rfl) (kcX2_room_0 52 7 rfl)
theorem dX2_room_53 : decode cX2_room 53 = .ok (.iload_n 3, 1) := dw_29 (kcX2_room_0 53 29 rfl)
theorem dX2_room_54 : decode cX2_room 54 = .ok (.aload_n 0, 1) := dw_42 (kcX2_room_0 54 42 rfl)
theorem dX2_room_55 : decode cX2_room 55 = .ok (.getfield 60, 3) := dw_180 (kcX2_room_0 55 180 rfl) (kcX2_room_0 56 0 rfl) (kcX2_room_0 57 60 rfl) rfl
theorem dX2_room_58 : decode cX2_room 58 = .ok (.iload 7, 2) := dw_21 (kcX2_room_0 58 21 rfl) (kcX2_room_0 59 7 rfl)
theorem dX2_room_60 : decode cX2_room 60 = .ok (.iaload, 1) := dw_46 (kcX2_room_0 60 46 rfl)
theorem dX2_room_61 : decode cX2_room 61 = .ok (.aload_n 0, 1) := dw_42 (kcX2_room_0 61 42 rfl)
theorem dX2_room_62 : decode cX2_room 62 = .ok (.getfield 54, 3) := dw_180 (kcX2_room_0 62 180 rfl) (kcX2_room_0 63 0 rfl) (kcX2_room_1 0 54 rfl) rfl
theorem dX2_room_65 : decode cX2_room 65 = .ok (.iload 7, 2) := dw_21 (kcX2_room_1 1 21 rfl) (kcX2_room_1 2 7 rfl)
theorem dX2_room_67 : decode cX2_room 67 = .ok (.iaload, 1) := dw_46 (kcX2_room_1 3 46 rfl)
theorem dX2_room_68 : decode cX2_room 68 = .ok (.isub, 1) := dw_100 (kcX2_room_1 4 100 rfl)
theorem dX2_room_69 : decode cX2_room 69 = .ok (.invokestatic 136, 3) := dw_184 (kcX2_room_1 5 184 rfl) (kcX2_room_1 6 0 rfl) (kcX2_room_1 7 136 rfl) rfl
theorem dX2_room_72 : decode cX2_room 72 = .ok (.istore_n 3, 1) := dw_62 (kcX2_room_1 8 62 rfl)
theorem dX2_room_73 : decode cX2_room 73 = .ok (.goto 35, 3) := dw_167 (kcX2_room_1 9 167 rfl) (kcX2_room_1 10 0 rfl) (kcX2_room_1 11 35 rfl) rfl
theorem kcX2_shift_0 : CHb cX2_shift 0 [28, 54, 4, 3, 54, 5, 21, 5, 16, 25, 162, 0, 101, 21, 4, 27, 159, 0, 95, 42, 180, 0, 30, 180, 0, 143, 21, 4, 46, 54, 6, 21, 6, 16, 12, 162, 0, 36, 42, 180, 0, 54, 21, 6, 21, 4, 16, 12, 100, 184, 0, 89, 92, 46, 29, 96, 79, 42, 21, 6, 21, 4, 16, 12] := CHb_of (by decide +kernel)
theorem dX2_shift_0 : decode cX2_shift 0 = .ok (.iload_n 2, 1) := dw_28 (kcX2_shift_0 0 28 rfl)
theorem dX2_shift_1 : decode cX2_shift 1 = .ok (.istore 4, 2) := dw_54 (kcX2_shift_0 1 54 rfl) (kcX2_shift_0 2 4 rfl)
theorem dX2_shift_3 : decode cX2_shift 3 = .ok (.iconst 0, 1) := dw_3 (kcX2_shift_0 3 3 rfl)
theorem dX2_shift_4 : decode cX2_shift 4 = .ok (.istore 5, 2) := dw_54 (kcX2_shift_0 4 54 rfl) (kcX2_shift_0 5 5 rfl)
theorem dX2_shift_6 : decode cX2_shift 6 = .ok (.iload 5, 2) := dw_21 (kcX2_shift_0 6 21 rfl) (kcX2_shift_0 7 5 rfl)
theorem dX2_shift_8 : decode cX2_shift 8 = .ok (.bipush 25, 2) := dw_16 (kcX2_shift_0 8 16 rfl) (kcX2_shift_0 9 25 rfl) rfl
theorem dX2_shift_10 : decode cX2_shift 10 = .ok (.if_icmp .ge 101, 3) := dw_162 (kcX2_shift_0 10 162 rfl) (kcX2_shift_0 11 0 rfl) (kcX2_shift_0 12 101 rfl) rfl
theorem kcX2_shift_1 : CHb cX2_shift 64 [100, 182, 0, 117, 167, 0, 33, 42, 180, 0, 54, 21, 4, 21, 6, 16, 12, 100, 184, 0, 89, 92, 46, 29, 100, 79, 42, 21, 4, 21, 6, 16, 12, 100, 182, 0, 117, 21, 6, 54, 4, 132, 5, 1, 167, 255, 154, 177] := CHb_of (by decide +kernel)
theorem dX2_shift_111 : decode cX2_shift 111 = .ok (.return_, 1) := dw_177 (kcX2_shift_1 47 177 rfl)
theorem dX2_shift_13 : decode cX2_shift 13 = .ok (.iload 4, 2) := dw_21 (kcX2_shift_0 13 21 rfl) (kcX2_shift_0 14 4 rfl)
theorem dX2_shift_15 : decode cX2_shift 15 = .ok (.iload_n 1, 1) := dw_27 (kcX2_shift_0 15 27 rfl)
theorem dX2_shift_16 : decode cX2_shift 16 = .ok (.if_icmp .eq 95, 3) := dw_159 (kcX2_shift_0 16 159 rfl) (kcX2_shift_0 17 0 rfl) (kcX2_shift_0 18 95 rfl) rfl
theorem dX2_shift_19 : decode cX2_shift 19 = .ok (.aload_n 0, 1) := dw_42 (kcX2_shift_0 19 42 rfl)
theorem dX2_shift_20 : decode cX2_shift 20 = .ok (.getfield 30, 3) := dw_180 (kcX2_shift_0 20 180 rfl) (kcX2_shift_0 21 0 rfl) (kcX2_shift_0 22 30 rfl) rfl
theorem dX2_shift_23 : decode cX2_shift 23 = .ok (.getfield 143, 3) := dw_180 (kcX2_shift_0 23 180 rfl) (kcX2_shift_0 24 0 rfl) (kcX2_shift_0 25 143 rfl) rfl
theorem dX2_shift_26 : decode cX2_shift 26 = .ok (.iload 4, 2) := dw_21 (kcX2_shift_0 26 21 rfl) (kcX2_shift_0 27 4 rfl)
theorem dX2_shift_28 : decode cX2_shift 28 = .ok (.iaload, 1) := dw_46 (kcX2_shift_0 28 46 rfl)
theorem dX2_shift_29 : decode cX2_shift 29 = .ok (.istore 6, 2) := dw_54 (kcX2_shift_0 29 54 rfl) (kcX2_shift_0 30 6 rfl)
theorem dX2_shift_31 : decode cX2_shift 31 = .ok (.iload 6, 2) := dw_21 (kcX2_shift_0 31 21 rfl) (kcX2_shift_0 32 6 rfl)
theorem dX2_shift_33 : decode cX2_shift 33 = .ok (.bipush 12, 2) := dw_16 (kcX2_shift_0 33 16 rfl) (kcX2_shift_0 34 12 rfl) rfl
theorem dX2_shift_35 : decode cX2_shift 35 = .ok (.if_icmp .ge 36, 3) := dw_162 (kcX2_shift_0 35 162 rfl) (kcX2_shift_0 36 0 rfl) (kcX2_shift_0 37 36 rfl) rfl
theorem dX2_shift_71 : decode cX2_shift 71 = .ok (.aload_n 0, 1) := dw_42 (kcX2_shift_1 7 42 rfl)
theorem dX2_shift_72 : decode cX2_shift 72 = .ok (.getfield 54, 3) := dw_180 (kcX2_shift_1 8 180 rfl) (kcX2_shift_1 9 0 rfl) (kcX2_shift_1 10 54 rfl) rfl
theorem dX2_shift_75 : decode cX2_shift 75 = .ok (.iload 4, 2) := dw_21 (kcX2_shift_1 11 21 rfl) (kcX2_shift_1 12 4 rfl)
theorem dX2_shift_77 : decode cX2_shift 77 = .ok (.iload 6, 2) := dw_21 (kcX2_shift_1 13 21 rfl) (kcX2_shift_1 14 6 rfl)
theorem dX2_shift_79 : decode cX2_shift 79 = .ok (.bipush 12, 2) := dw_16 (kcX2_shift_1 15 16 rfl) (kcX2_shift_1 16 12 rfl) rfl
theorem dX2_shift_81 : decode cX2_shift 81 = .ok (.isub, 1) := dw_100 (kcX2_shift_1 17 100 rfl)
theorem dX2_shift_82 : decode cX2_shift 82 = .ok (.invokestatic 89, 3) := dw_184 (kcX2_shift_1 18 184 rfl) (kcX2_shift_1 19 0 rfl) (kcX2_shift_1 20 89 rfl) rfl
theorem dX2_shift_85 : decode cX2_shift 85 = .ok (.dup2, 1) := dw_92 (kcX2_shift_1 21 92 rfl)
theorem dX2_shift_86 : decode cX2_shift 86 = .ok (.iaload, 1) := dw_46 (kcX2_shift_1 22 46 rfl)
theorem dX2_shift_87 : decode cX2_shift 87 = .ok (.iload_n 3, 1) := dw_29 (kcX2_shift_1 23 29 rfl)
theorem dX2_shift_88 : decode cX2_shift 88 = .ok (.isub, 1) := dw_100 (kcX2_shift_1 24 100 rfl)
theorem dX2_shift_89 : decode cX2_shift 89 = .ok (.iastore, 1) := dw_79 (kcX2_shift_1 25 79 rfl)
theorem dX2_shift_90 : decode cX2_shift 90 = .ok (.aload_n 0, 1) := dw_42 (kcX2_shift_1 26 42 rfl)
theorem dX2_shift_91 : decode cX2_shift 91 = .ok (.iload 4, 2) := dw_21 (kcX2_shift_1 27 21 rfl) (kcX2_shift_1 28 4 rfl)
theorem dX2_shift_93 : decode cX2_shift 93 = .ok (.iload 6, 2) := dw_21 (kcX2_shift_1 29 21 rfl) (kcX2_shift_1 30 6 rfl)
theorem dX2_shift_95 : decode cX2_shift 95 = .ok (.bipush 12, 2) := dw_16 (kcX2_shift_1 31 16 rfl) (kcX2_shift_1 32 12 rfl) rfl
theorem dX2_shift_97 : decode cX2_shift 97 = .ok (.isub, 1) := dw_100 (kcX2_shift_1 33 100 rfl)
theorem dX2_shift_98 : decode cX2_shift 98 = .ok (.invokevirtual 117, 3) := dw_182 (kcX2_shift_1 34 182 rfl) (kcX2_shift_1 35 0 rfl) (kcX2_shift_1 36 117 rfl) rfl
theorem dX2_shift_101 : decode cX2_shift 101 = .ok (.iload 6, 2) := dw_21 (kcX2_shift_1 37 21 rfl) (kcX2_shift_1 38 6 rfl)
theorem dX2_shift_103 : decode cX2_shift 103 = .ok (.istore 4, 2) := dw_54 (kcX2_shift_1 39 54 rfl) (kcX2_shift_1 40 4 rfl)
theorem dX2_shift_105 : decode cX2_shift 105 = .ok (.iinc 5 1, 3) := dw_132 (kcX2_shift_1 41 132 rfl) (kcX2_shift_1 42 5 rfl) (kcX2_shift_1 43 1 rfl) rfl
theorem dX2_shift_108 : decode cX2_shift 108 = .ok (.goto (-102), 3) := dw_167 (kcX2_shift_1 44 167 rfl) (kcX2_shift_1 45 255 rfl) (kcX2_shift_1 46 154 rfl) rfl
theorem dX2_shift_38 : decode cX2_shift 38 = .ok (.aload_n 0, 1) := dw_42 (kcX2_shift_0 38 42 rfl)
theorem dX2_shift_39 : decode cX2_shift 39 = .ok (.getfield 54, 3) := dw_180 (kcX2_shift_0 39 180 rfl) (kcX2_shift_0 40 0 rfl) (kcX2_shift_0 41 54 rfl) rfl
theorem dX2_shift_42 : decode cX2_shift 42 = .ok (.iload 6, 2) := dw_21 (kcX2_shift_0 42 21 rfl) (kcX2_shift_0 43 6 rfl)
theorem dX2_shift_44 : decode cX2_shift 44 = .ok (.iload 4, 2) := dw_21 (kcX2_shift_0 44 21 rfl) (kcX2_shift_0 45 4 rfl)
theorem dX2_shift_46 : decode cX2_shift 46 = .ok (.bipush 12, 2) := dw_16 (kcX2_shift_0 46 16 rfl) (kcX2_shift_0 47 12 rfl) rfl
theorem dX2_shift_48 : decode cX2_shift 48 = .ok (.isub, 1) := dw_100 (kcX2_shift_0 48 100 rfl)
theorem dX2_shift_49 : decode cX2_shift 49 = .ok (.invokestatic 89, 3) := dw_184 (kcX2_shift_0 49 184 rfl) (kcX2_shift_0 50 0 rfl) (kcX2_shift_0 51 89 rfl) rfl
theorem dX2_shift_52 : decode cX2_shift 52 = .ok (.dup2, 1) := dw_92 (kcX2_shift_0 52 92 rfl)
theorem dX2_shift_53 : decode cX2_shift 53 = .ok (.iaload, 1) := dw_46 (kcX2_shift_0 53 46 rfl)
theorem dX2_shift_54 : decode cX2_shift 54 = .ok (.iload_n 3, 1) := dw_29 (kcX2_shift_0 54 29 rfl)
theorem dX2_shift_55 : decode cX2_shift 55 = .ok (.iadd, 1) := dw_96 (kcX2_shift_0 55 96 rfl)
theorem dX2_shift_56 : decode cX2_shift 56 = .ok (.iastore, 1) := dw_79 (kcX2_shift_0 56 79 rfl)
theorem dX2_shift_57 : decode cX2_shift 57 = .ok (.aload_n 0, 1) := dw_42 (kcX2_shift_0 57 42 rfl)
theorem dX2_shift_58 : decode cX2_shift 58 = .ok (.iload 6, 2) := dw_21 (kcX2_shift_0 58 21 rfl) (kcX2_shift_0 59 6 rfl)
theorem dX2_shift_60 : decode cX2_shift 60 = .ok (.iload 4, 2) := dw_21 (kcX2_shift_0 60 21 rfl) (kcX2_shift_0 61 4 rfl)
theorem dX2_shift_62 : decode cX2_shift 62 = .ok (.bipush 12, 2) := dw_16 (kcX2_shift_0 62 16 rfl) (kcX2_shift_0 63 12 rfl) rfl
theorem dX2_shift_64 : decode cX2_shift 64 = .ok (.isub, 1) := dw_100 (kcX2_shift_1 0 100 rfl)
theorem dX2_shift_65 : decode cX2_shift 65 = .ok (.invokevirtual 117, 3) := dw_182 (kcX2_shift_1 1 182 rfl) (kcX2_shift_1 2 0 rfl) (kcX2_shift_1 3 117 rfl) rfl
theorem dX2_shift_68 : decode cX2_shift 68 = .ok (.goto 33, 3) := dw_167 (kcX2_shift_1 4 167 rfl) (kcX2_shift_1 5 0 rfl) (kcX2_shift_1 6 33 rfl) rfl
theorem kcX2_draw_0 : CHb cX2_draw 0 [27, 28, 184, 0, 89, 54, 4, 16, 12, 28, 96, 54, 5, 42, 180, 0, 30, 27, 21, 5, 3, 3, 182, 0, 120, 29, 42, 180, 0, 54, 21, 4, 46, 162, 0, 7, 4, 167, 0, 4, 3, 54, 6, 21, 6, 153, 0, 7, 27, 167, 0, 5, 21, 5, 54, 7, 21, 6, 153, 0, 8, 21, 5, 167] := CHb_of (by decide +kernel)
theorem dX2_draw_0 : decode cX2_draw 0 = .ok (.iload_n 1, 1) := dw_27 (kcX2_draw_0 0 27 rfl)
theorem dX2_draw_1 : decode cX2_draw 1 = .ok (.iload_n 2, 1) := dw_28 (kcX2_draw_0 1 28 rfl)
theorem dX2_draw_2 : decode cX2_draw 2 = .ok (.invokestatic 89, 3) := dw_184 (kcX2_draw_0 2 184 rfl) (kcX2_draw_0 3 0 rfl) (kcX2_draw_0 4 89 rfl) rfl
theorem dX2_draw_5 : decode cX2_draw 5 = .ok (.istore 4, 2) := dw_54 (kcX2_draw_0 5 54 rfl) (kcX2_draw_0 6 4 rfl)
theorem dX2_draw_7 : decode cX2_draw 7 = .ok (.bipush 12, 2) := dw_16 (kcX2_draw_0 7 16 rfl) (kcX2_draw_0 8 12 rfl) rfl
theorem dX2_draw_9 : decode cX2_draw 9 = .ok (.iload_n 2, 1) := dw_28 (kcX2_draw_0 9 28 rfl)
theorem dX2_draw_10 : decode cX2_draw 10 = .ok (.iadd, 1) := dw_96 (kcX2_draw_0 10 96 rfl)
theorem dX2_draw_11 : decode cX2_draw 11 = .ok (.istore 5, 2) := dw_54 (kcX2_draw_0 11 54 rfl) (kcX2_draw_0 12 5 rfl)
theorem dX2_draw_13 : decode cX2_draw 13 = .ok (.aload_n 0, 1) := dw_42 (kcX2_draw_0 13 42 rfl)
theorem dX2_draw_14 : decode cX2_draw 14 = .ok (.getfield 30, 3) := dw_180 (kcX2_draw_0 14 180 rfl) (kcX2_draw_0 15 0 rfl) (kcX2_draw_0 16 30 rfl) rfl
theorem dX2_draw_17 : decode cX2_draw 17 = .ok (.iload_n 1, 1) := dw_27 (kcX2_draw_0 17 27 rfl)
theorem dX2_draw_18 : decode cX2_draw 18 = .ok (.iload 5, 2) := dw_21 (kcX2_draw_0 18 21 rfl) (kcX2_draw_0 19 5 rfl)
theorem dX2_draw_20 : decode cX2_draw 20 = .ok (.iconst 0, 1) := dw_3 (kcX2_draw_0 20 3 rfl)
theorem dX2_draw_21 : decode cX2_draw 21 = .ok (.iconst 0, 1) := dw_3 (kcX2_draw_0 21 3 rfl)
theorem dX2_draw_22 : decode cX2_draw 22 = .ok (.invokevirtual 120, 3) := dw_182 (kcX2_draw_0 22 182 rfl) (kcX2_draw_0 23 0 rfl) (kcX2_draw_0 24 120 rfl) rfl
theorem dX2_draw_25 : decode cX2_draw 25 = .ok (.iload_n 3, 1) := dw_29 (kcX2_draw_0 25 29 rfl)
theorem kcX2_draw_1 : CHb cX2_draw 64 [0, 4, 27, 54, 8, 3, 54, 9, 21, 9, 18, 124, 162, 0, 93, 42, 180, 0, 54, 21, 4, 46, 29, 159, 0, 82, 42, 180, 0, 30, 21, 7, 21, 8, 182, 0, 125, 154, 0, 4, 177, 29, 42, 180, 0, 54, 21, 4, 46, 100, 184, 0, 128, 42, 21, 7, 21, 8, 182, 0, 133, 184, 0, 136] := CHb_of (by decide +kernel)
theorem dX2_draw_72 : decode cX2_draw 72 = .ok (.iload 9, 2) := dw_21 (kcX2_draw_1 8 21 rfl) (kcX2_draw_1 9 9 rfl)
theorem dX2_draw_74 : decode cX2_draw 74 = .ok (.ldc 124, 2) := dw_18 (kcX2_draw_1 10 18 rfl) (kcX2_draw_1 11 124 rfl)
theorem dX2_draw_76 : decode cX2_draw 76 = .ok (.if_icmp .ge 93, 3) := dw_162 (kcX2_draw_1 12 162 rfl) (kcX2_draw_1 13 0 rfl) (kcX2_draw_1 14 93 rfl) rfl
theorem kcX2_draw_2 : CHb cX2_draw 128 [54, 10, 42, 21, 7, 21, 8, 21, 10, 182, 0, 139, 42, 180, 0, 54, 21, 4, 92, 46, 21, 6, 153, 0, 9, 21, 10, 116, 167, 0, 5, 21, 10, 96, 79, 132, 9, 1, 167, 255, 162, 177] := CHb_of (by decide +kernel)
theorem dX2_draw_169 : decode cX2_draw 169 = .ok (.return_, 1) := dw_177 (kcX2_draw_2 41 177 rfl)
theorem dX2_draw_79 : decode cX2_draw 79 = .ok (.aload_n 0, 1) := dw_42 (kcX2_draw_1 15 42 rfl)
theorem dX2_draw_80 : decode cX2_draw 80 = .ok (.getfield 54, 3) := dw_180 (kcX2_draw_1 16 180 rfl) (kcX2_draw_1 17 0 rfl) (kcX2_draw_1 18 54 rfl) rfl
theorem dX2_draw_83 : decode cX2_draw 83 = .ok (.iload 4, 2) := dw_21 (kcX2_draw_1 19 21 rfl) (kcX2_draw_1 20 4 rfl)
theorem dX2_draw_85 : decode cX2_draw 85 = .ok (.iaload, 1) := dw_46 (kcX2_draw_1 21 46 rfl)
theorem dX2_draw_86 : decode cX2_draw 86 = .ok (.iload_n 3, 1) := dw_29 (kcX2_draw_1 22 29 rfl)
theorem dX2_draw_87 : decode cX2_draw 87 = .ok (.if_icmp .eq 82, 3) := dw_159 (kcX2_draw_1 23 159 rfl) (kcX2_draw_1 24 0 rfl) (kcX2_draw_1 25 82 rfl) rfl
theorem dX2_draw_90 : decode cX2_draw 90 = .ok (.aload_n 0, 1) := dw_42 (kcX2_draw_1 26 42 rfl)
theorem dX2_draw_91 : decode cX2_draw 91 = .ok (.getfield 30, 3) := dw_180 (kcX2_draw_1 27 180 rfl) (kcX2_draw_1 28 0 rfl) (kcX2_draw_1 29 30 rfl) rfl
theorem dX2_draw_94 : decode cX2_draw 94 = .ok (.iload 7, 2) := dw_21 (kcX2_draw_1 30 21 rfl) (kcX2_draw_1 31 7 rfl)
theorem dX2_draw_96 : decode cX2_draw 96 = .ok (.iload 8, 2) := dw_21 (kcX2_draw_1 32 21 rfl) (kcX2_draw_1 33 8 rfl)
theorem dX2_draw_98 : decode cX2_draw 98 = .ok (.invokevirtual 125, 3) := dw_182 (kcX2_draw_1 34 182 rfl) (kcX2_draw_1 35 0 rfl) (kcX2_draw_1 36 125 rfl) rfl
theorem dX2_draw_101 : decode cX2_draw 101 = .ok (.ifCond .ne 4, 3) := dw_154 (kcX2_draw_1 37 154 rfl) (kcX2_draw_1 38 0 rfl) (kcX2_draw_1 39 4 rfl) rfl
theorem dX2_draw_105 : decode cX2_draw 105 = .ok (.iload_n 3, 1) := dw_29 (kcX2_draw_1 41 29 rfl)
theorem dX2_draw_106 : decode cX2_draw 106 = .ok (.aload_n 0, 1) := dw_42 (kcX2_draw_1 42 42 rfl)
theorem dX2_draw_107 : decode cX2_draw 107 = .ok (.getfield 54, 3) := dw_180 (kcX2_draw_1 43 180 rfl) (kcX2_draw_1 44 0 rfl) (kcX2_draw_1 45 54 rfl) rfl
theorem dX2_draw_110 : decode cX2_draw 110 = .ok (.iload 4, 2) := dw_21 (kcX2_draw_1 46 21 rfl) (kcX2_draw_1 47 4 rfl)
theorem dX2_draw_112 : decode cX2_draw 112 = .ok (.iaload, 1) := dw_46 (kcX2_draw_1 48 46 rfl)
theorem dX2_draw_113 : decode cX2_draw 113 = .ok (.isub, 1) := dw_100 (kcX2_draw_1 49 100 rfl)
theorem dX2_draw_114 : decode cX2_draw 114 = .ok (.invokestatic 128, 3) := dw_184 (kcX2_draw_1 50 184 rfl) (kcX2_draw_1 51 0 rfl) (kcX2_draw_1 52 128 rfl) rfl
theorem dX2_draw_117 : decode cX2_draw 117 = .ok (.aload_n 0, 1) := dw_42 (kcX2_draw_1 53 42 rfl)
theorem dX2_draw_118 : decode cX2_draw 118 = .ok (.iload 7, 2) := dw_21 (kcX2_draw_1 54 21 rfl) (kcX2_draw_1 55 7 rfl)
theorem dX2_draw_120 : decode cX2_draw 120 = .ok (.iload 8, 2) := dw_21 (kcX2_draw_1 56 21 rfl) (kcX2_draw_1 57 8 rfl)
theorem dX2_draw_122 : decode cX2_draw 122 = .ok (.invokevirtual 133, 3) := dw_182 (kcX2_draw_1 58 182 rfl) (kcX2_draw_1 59 0 rfl) (kcX2_draw_1 60 133 rfl) rfl
theorem dX2_draw_125 : decode cX2_draw 125 = .ok (.invokestatic 136, 3) := dw_184 (kcX2_draw_1 61 184 rfl) (kcX2_draw_1 62 0 rfl) (kcX2_draw_1 63 136 rfl) rfl
theorem dX2_draw_128 : decode cX2_draw 128 = .ok (.istore 10, 2) := dw_54 (kcX2_draw_2 0 54 rfl) (kcX2_draw_2 1 10 rfl)
theorem dX2_draw_130 : decode cX2_draw 130 = .ok (.aload_n 0, 1) := dw_42 (kcX2_draw_2 2 42 rfl)
theorem dX2_draw_131 : decode cX2_draw 131 = .ok (.iload 7, 2) := dw_21 (kcX2_draw_2 3 21 rfl) (kcX2_draw_2 4 7 rfl)
theorem dX2_draw_133 : decode cX2_draw 133 = .ok (.iload 8, 2) := dw_21 (kcX2_draw_2 5 21 rfl) (kcX2_draw_2 6 8 rfl)
theorem dX2_draw_135 : decode cX2_draw 135 = .ok (.iload 10, 2) := dw_21 (kcX2_draw_2 7 21 rfl) (kcX2_draw_2 8 10 rfl)
theorem dX2_draw_137 : decode cX2_draw 137 = .ok (.invokevirtual 139, 3) := dw_182 (kcX2_draw_2 9 182 rfl) (kcX2_draw_2 10 0 rfl) (kcX2_draw_2 11 139 rfl) rfl
theorem dX2_draw_140 : decode cX2_draw 140 = .ok (.aload_n 0, 1) := dw_42 (kcX2_draw_2 12 42 rfl)
theorem dX2_draw_141 : decode cX2_draw 141 = .ok (.getfield 54, 3) := dw_180 (kcX2_draw_2 13 180 rfl) (kcX2_draw_2 14 0 rfl) (kcX2_draw_2 15 54 rfl) rfl
theorem dX2_draw_144 : decode cX2_draw 144 = .ok (.iload 4, 2) := dw_21 (kcX2_draw_2 16 21 rfl) (kcX2_draw_2 17 4 rfl)
theorem dX2_draw_146 : decode cX2_draw 146 = .ok (.dup2, 1) := dw_92 (kcX2_draw_2 18 92 rfl)
theorem dX2_draw_147 : decode cX2_draw 147 = .ok (.iaload, 1) := dw_46 (kcX2_draw_2 19 46 rfl)
theorem dX2_draw_148 : decode cX2_draw 148 = .ok (.iload 6, 2) := dw_21 (kcX2_draw_2 20 21 rfl) (kcX2_draw_2 21 6 rfl)
theorem dX2_draw_150 : decode cX2_draw 150 = .ok (.ifCond .eq 9, 3) := dw_153 (kcX2_draw_2 22 153 rfl) (kcX2_draw_2 23 0 rfl) (kcX2_draw_2 24 9 rfl) rfl
theorem dX2_draw_159 : decode cX2_draw 159 = .ok (.iload 10, 2) := dw_21 (kcX2_draw_2 31 21 rfl) (kcX2_draw_2 32 10 rfl)
theorem dX2_draw_161 : decode cX2_draw 161 = .ok (.iadd, 1) := dw_96 (kcX2_draw_2 33 96 rfl)
theorem dX2_draw_162 : decode cX2_draw 162 = .ok (.iastore, 1) := dw_79 (kcX2_draw_2 34 79 rfl)
theorem dX2_draw_163 : decode cX2_draw 163 = .ok (.iinc 9 1, 3) := dw_132 (kcX2_draw_2 35 132 rfl) (kcX2_draw_2 36 9 rfl) (kcX2_draw_2 37 1 rfl) rfl
theorem dX2_draw_166 : decode cX2_draw 166 = .ok (.goto (-94), 3) := dw_167 (kcX2_draw_2 38 167 rfl) (kcX2_draw_2 39 255 rfl) (kcX2_draw_2 40 162 rfl) rfl
theorem dX2_draw_153 : decode cX2_draw 153 = .ok (.iload 10, 2) := dw_21 (kcX2_draw_2 25 21 rfl) (kcX2_draw_2 26 10 rfl)
theorem dX2_draw_155 : decode cX2_draw 155 = .ok (.ineg, 1) := dw_116 (kcX2_draw_2 27 116 rfl)
theorem dX2_draw_156 : decode cX2_draw 156 = .ok (.goto 5, 3) := dw_167 (kcX2_draw_2 28 167 rfl) (kcX2_draw_2 29 0 rfl) (kcX2_draw_2 30 5 rfl) rfl
theorem dX2_draw_104 : decode cX2_draw 104 = .ok (.return_, 1) := dw_177 (kcX2_draw_1 40 177 rfl)
theorem dX2_draw_26 : decode cX2_draw 26 = .ok (.aload_n 0, 1) := dw_42 (kcX2_draw_0 26 42 rfl)
theorem dX2_draw_27 : decode cX2_draw 27 = .ok (.getfield 54, 3) := dw_180 (kcX2_draw_0 27 180 rfl) (kcX2_draw_0 28 0 rfl) (kcX2_draw_0 29 54 rfl) rfl
theorem dX2_draw_30 : decode cX2_draw 30 = .ok (.iload 4, 2) := dw_21 (kcX2_draw_0 30 21 rfl) (kcX2_draw_0 31 4 rfl)
theorem dX2_draw_32 : decode cX2_draw 32 = .ok (.iaload, 1) := dw_46 (kcX2_draw_0 32 46 rfl)
theorem dX2_draw_33 : decode cX2_draw 33 = .ok (.if_icmp .ge 7, 3) := dw_162 (kcX2_draw_0 33 162 rfl) (kcX2_draw_0 34 0 rfl) (kcX2_draw_0 35 7 rfl) rfl
theorem dX2_draw_40 : decode cX2_draw 40 = .ok (.iconst 0, 1) := dw_3 (kcX2_draw_0 40 3 rfl)
theorem dX2_draw_41 : decode cX2_draw 41 = .ok (.istore 6, 2) := dw_54 (kcX2_draw_0 41 54 rfl) (kcX2_draw_0 42 6 rfl)
theorem dX2_draw_43 : decode cX2_draw 43 = .ok (.iload 6, 2) := dw_21 (kcX2_draw_0 43 21 rfl) (kcX2_draw_0 44 6 rfl)
theorem dX2_draw_45 : decode cX2_draw 45 = .ok (.ifCond .eq 7, 3) := dw_153 (kcX2_draw_0 45 153 rfl) (kcX2_draw_0 46 0 rfl) (kcX2_draw_0 47 7 rfl) rfl
theorem dX2_draw_52 : decode cX2_draw 52 = .ok (.iload 5, 2) := dw_21 (kcX2_draw_0 52 21 rfl) (kcX2_draw_0 53 5 rfl)
theorem dX2_draw_54 : decode cX2_draw 54 = .ok (.istore 7, 2) := dw_54 (kcX2_draw_0 54 54 rfl) (kcX2_draw_0 55 7 rfl)
theorem dX2_draw_56 : decode cX2_draw 56 = .ok (.iload 6, 2) := dw_21 (kcX2_draw_0 56 21 rfl) (kcX2_draw_0 57 6 rfl)
theorem dX2_draw_58 : decode cX2_draw 58 = .ok (.ifCond .eq 8, 3) := dw_153 (kcX2_draw_0 58 153 rfl) (kcX2_draw_0 59 0 rfl) (kcX2_draw_0 60 8 rfl) rfl
theorem dX2_draw_66 : decode cX2_draw 66 = .ok (.iload_n 1, 1) := dw_27 (kcX2_draw_1 2 27 rfl)
theorem dX2_draw_67 : decode cX2_draw 67 = .ok (.istore 8, 2) := dw_54 (kcX2_draw_1 3 54 rfl) (kcX2_draw_1 4 8 rfl)
theorem dX2_draw_69 : decode cX2_draw 69 = .ok (.iconst 0, 1) := dw_3 (kcX2_draw_1 5 3 rfl)
theorem dX2_draw_70 : decode cX2_draw 70 = .ok (.istore 9, 2) := dw_54 (kcX2_draw_1 6 54 rfl) (kcX2_draw_1 7 9 rfl)
theorem dX2_draw_36 : decode cX2_draw 36 = .ok (.iconst 1, 1) := dw_4 (kcX2_draw_0 36 4 rfl)
theorem dX2_draw_37 : decode cX2_draw 37 = .ok (.goto 4, 3) := dw_167 (kcX2_draw_0 37 167 rfl) (kcX2_draw_0 38 0 rfl) (kcX2_draw_0 39 4 rfl) rfl
theorem dX2_draw_48 : decode cX2_draw 48 = .ok (.iload_n 1, 1) := dw_27 (kcX2_draw_0 48 27 rfl)
theorem dX2_draw_49 : decode cX2_draw 49 = .ok (.goto 5, 3) := dw_167 (kcX2_draw_0 49 167 rfl) (kcX2_draw_0 50 0 rfl) (kcX2_draw_0 51 5 rfl) rfl
theorem dX2_draw_61 : decode cX2_draw 61 = .ok (.iload 5, 2) := dw_21 (kcX2_draw_0 61 21 rfl) (kcX2_draw_0 62 5 rfl)
theorem dX2_draw_63 : decode cX2_draw 63 = .ok (.goto 4, 3) := dw_167 (kcX2_draw_0 63 167 rfl) (kcX2_draw_1 0 0 rfl) (kcX2_draw_1 1 4 rfl) rfl
set_option maxHeartbeats 4000000 in
set_option maxRecDepth 100000 in
theorem c_X2_room (l : Launch) (G : GG) (a b : Nat → Nat) (f : Nat → Int32) (r : Nat → Nat → Int32) (q : Nat → Nat → Int32) (rc : Int32) (u0 t0 : Nat) (hu0 : u0 < 25) (ht0 : t0 < 25) (hch : wCh adjR u0 t0 (q 1)) : RdI l yX2_room cX2_room 8 (some .int) ({ frames := 1, cells := 0, slots := 0, locals := 21 }) G ([((a 15), .inr (2, [.int (f 0), .int (f 1), .int (f 2), .int (f 3), .int (f 4), .ref (b 3), .ref (a 6), .ref (a 7), .ref (a 8), .ref (a 9), .ref (a 10), .ref (a 11), .ref (a 12), .ref (a 13), .ref (a 14)])), ((a 6), .inl (G.2.2.1, 12, .inl (r 6))), ((a 7), .inl (G.2.1, 12, .inl (r 7))), ((a 8), .inl (G.2.1, 144, .inl (r 8))), ((a 9), .inl (G.2.1, 144, .inl (r 9))), ((a 10), .inl (G.2.1, 144, .inl (r 10))), ((a 11), .inl (G.2.2.1, 144, .inl (r 11))), ((a 12), .inl (G.2.1, 144, .inl (r 12))), ((a 13), .inl (G.2.1, 144, .inl (r 13))), ((a 14), .inl (G.2.1, 144, .inl (r 14))), ((b 3), .inr (5, [.ref (b 0), .ref (b 1), .ref (b 2), .int rc])), ((b 0), .inl (G.2.1, 25, .inl (q 0))), ((b 1), .inl (G.2.1, 25, .inl (q 1))), ((b 2), .inl (G.2.1, 25, .inl (q 2)))]) [.ref (a 15), .int (nI u0), .int (nI t0)] (fun _ => True) := by
  refine rd_entry (by decide +kernel) (Nat.le_of_ble_eq_true rfl) ?_
  intro p e s m below meth c C0 hP hK ls hl
  have hS : va_S (fun q => s.heap.size ≤ q) s.heap s.heap [] := va_S.rf
  have hA : ∀ q, s.heap.size ≤ q → (fun q => s.heap.size ≤ q) q := fun _ h => h
  obtain ⟨hx, hb, hml, hown, hts, hr, hlocks, hin⟩ := C0
  have hown : s.vm.findClass RX2 = some m.cls := hown
  have hl : lv_has ls 8 [(0, .ref (a 15)), (1, .int (nI u0)), (2, .int (nI t0))] := hl
  obtain ⟨Qd, hCh⟩ := hch
  refine lv_ldc hx hb hown (hts _ mk_X2_106) dX2_room_0 ?_
  refine lv_istore_n (lv' := [(3, .int 1073741824), (0, .ref (a 15)), (1, .int (nI u0)), (2, .int (nI t0))]) hx hb dX2_room_2 rfl hl (by decide) rfl (fun ls hl => ?_)
  refine lv_iload_n hx hb dX2_room_3 rfl (lv_at hl 3 rfl) ?_
  refine lv_istore (lv' := [(4, .int (nI t0)), (3, .int 1073741824), (0, .ref (a 15)), (1, .int (nI u0)), (2, .int (nI t0))]) hx hb dX2_room_4 hl (by decide) rfl (fun ls hl => ?_)
  refine lv_iconst (v := 0) hx hb dX2_room_6 (by decide) ?_
  refine lv_istore (lv' := [(5, .int 0), (4, .int (nI t0)), (3, .int 1073741824), (0, .ref (a 15)), (1, .int (nI u0)), (2, .int (nI t0))]) hx hb dX2_room_7 hl (by decide) rfl (fun ls hl => ?_)
  have loop : ∀ (k n : Nat) (fo : Int32) (nd : Nat), n ≤ 25 → 25 < n + k → nd < 25 → (nd = t0 ∨ Qd nd) → ∀ (H : Heap) (locs : List Loc) (ls : Array Slot), PP G ([((a 15), .inr (2, [.int (f 0), .int (f 1), .int (f 2), .int (f 3), .int (f 4), .ref (b 3), .ref (a 6), .ref (a 7), .ref (a 8), .ref (a 9), .ref (a 10), .ref (a 11), .ref (a 12), .ref (a 13), .ref (a 14)])), ((a 6), .inl (G.2.2.1, 12, .inl (r 6))), ((a 7), .inl (G.2.1, 12, .inl (r 7))), ((a 8), .inl (G.2.1, 144, .inl (r 8))), ((a 9), .inl (G.2.1, 144, .inl (r 9))), ((a 10), .inl (G.2.1, 144, .inl (r 10))), ((a 11), .inl (G.2.2.1, 144, .inl (r 11))), ((a 12), .inl (G.2.1, 144, .inl (r 12))), ((a 13), .inl (G.2.1, 144, .inl (r 13))), ((a 14), .inl (G.2.1, 144, .inl (r 14))), ((b 3), .inr (5, [.ref (b 0), .ref (b 1), .ref (b 2), .int rc])), ((b 0), .inl (G.2.1, 25, .inl (q 0))), ((b 1), .inl (G.2.1, 25, .inl (q 1))), ((b 2), .inl (G.2.1, 25, .inl (q 2)))]) H → va_S (fun q => s.heap.size ≤ q) s.heap H locs → lv_has ls 8 [(0, .ref (a 15)), (1, .int (nI u0)), (3, .int fo), (4, .int (nI nd)), (5, .int (nI n))] → W p l e ({ frames := 1, cells := 0, slots := 0, locals := 21 }) s m ([.ref (a 15), .int (nI u0), .int (nI t0)] : List Value).toArray below meth c H locs 0 0 (MQ below (QrI (fun _ => True) (fun q => s.heap.size ≤ q)) ([.ref (a 15), .int (nI u0), .int (nI t0)] : List Value).toArray s 0 0 (fun q => s.heap.size ≤ q)) (F0 m 9 ls []) := by
    intro k
    induction k with
    | zero => intro n fo nd h1 h2; omega
    | succ k ih =>
      intro n fo nd hi_n hk_n hnd hqd H locs ls hP hS hl
      refine lv_iload hx hb dX2_room_9 (lv_at hl 4 rfl) ?_
      refine lv_bipush (v := 25) hx hb dX2_room_11 (by decide) ?_
      refine lv_icmp_ge (tgt := 118) hx hb dX2_room_13 (by decide) (fun c1 => ?_) (fun c1 => ?_)
      · refine lv_iload_n hx hb dX2_room_118 rfl (lv_at hl 2 rfl) ?_
        exact rd_iret hx hb hr hlocks hS trivial dX2_room_119
      · have hltn := ge_f (b := 25) (by omega) (by omega) c1
        refine lv_iload hx hb dX2_room_16 (lv_at hl 3 rfl) ?_
        refine lv_iload_n hx hb dX2_room_18 rfl (lv_at hl 1 rfl) ?_
        refine lv_icmp_eq (tgt := 118) hx hb dX2_room_19 (by decide) (fun c2 => ?_) (fun c2 => ?_)
        · refine lv_iload_n hx hb dX2_room_118 rfl (lv_at hl 2 rfl) ?_
          exact rd_iret hx hb hr hlocks hS trivial dX2_room_119
        · have hne : nd ≠ u0 := fun h => c2 (by rw [h])
          obtain ⟨u, hu9, eu, hq9, ha⟩ := hCh nd hnd hqd hne
          refine lv_aload_n hx hb dX2_room_22 rfl (lv_at hl 0 rfl) ?_
          refine va_get (D := G.1) (ci := 2) (v := .ref (b 3)) (C := RX2) (T := TX2) (N := 15) hx hb hts inX2 hown hK.1 hP 0 rfl rfl 5 (by decide) (hts _ mf_X2_30) (fun _ h9 => h9) rfl dX2_room_23 ?_
          refine va_get (D := G.1) (ci := 5) (v := .ref (b 1)) (C := RX5) (T := TX5) (N := 4) hx hb hts inX5 hown hK.1 hP 10 rfl rfl 1 (by decide) (hts _ mf_X2_143) (fun _ h9 => h9) rfl dX2_room_26 ?_
          refine lv_iload hx hb dX2_room_29 (lv_at hl 3 rfl) ?_
          refine xiald hx hb hK hP 12 (nd) (rfl) (by omega) (by omega) rfl dX2_room_31 ?_
          refine lv_topi (fun v3 ev3 => ?_)
          rw [eu] at ev3
          subst ev3
          refine lv_istore (lv' := [(6, .int (nI u)), (0, .ref (a 15)), (1, .int (nI u0)), (3, .int fo), (4, .int (nI nd)), (5, .int (nI n))]) hx hb dX2_room_32 hl (by decide) rfl (fun ls hl => ?_)
          refine lv_iload hx hb dX2_room_34 (lv_at hl 0 rfl) ?_
          refine lv_bipush (v := 12) hx hb dX2_room_36 (by decide) ?_
          refine lv_icmp_ge (tgt := 76) hx hb dX2_room_38 (by decide) (fun c4 => ?_) (fun c4 => ?_)
          · have hb2 : 12 ≤ u := ge_t (b := 12) (by omega) (by omega) c4
            have hb3 : u < 24 ∧ nd < 12 := by rcases ha with ⟨h1, h2, h3⟩ | ⟨h1, h2, h3⟩ <;> omega
            refine lv_iload hx hb dX2_room_76 (lv_at hl 4 rfl) ?_
            refine lv_iload hx hb dX2_room_78 (lv_at hl 0 rfl) ?_
            refine lv_bipush (v := 12) hx hb dX2_room_80 (by decide) ?_
            refine lv_isub hx hb dX2_room_82 ?_
            refine lv_topi (fun v5 ev5 => ?_)
            obtain rfl : v5 = nI (u - 12) := nI_sub12 ev5 (by omega)
            refine rdSN (rest := []) ⟨hx, hb, hml, hown, hts⟩ (c_X6_spotOf l G ((nI nd)) ((nI (u - 12)))) mi_yX6_spotOf mst_yX6_spotOf (by decide +kernel) ⟨rfl, rfl, Nat.le_of_ble_eq_true rfl, Nat.le_of_ble_eq_true rfl⟩ hK (fun k q h => by simp at h) rfl hl.1 rfl (Nat.le_of_ble_eq_true rfl) dX2_room_83 ⟨Nat.zero_le _, Nat.zero_le _⟩ hS hA hP (fun r6 H locs hr6 hP hS => ?_)
            obtain rfl : r6 = nI (nd * 12 + (u - 12)) := spot_eq hr6
            refine lv_istore (lv' := [(7, .int (nI (nd * 12 + (u - 12)))), (6, .int (nI u)), (0, .ref (a 15)), (1, .int (nI u0)), (3, .int fo), (4, .int (nI nd)), (5, .int (nI n))]) hx hb dX2_room_86 hl (by decide) rfl (fun ls hl => ?_)
            refine lv_iload_n hx hb dX2_room_88 rfl (lv_at hl 4 rfl) ?_
            refine lv_aload_n hx hb dX2_room_89 rfl (lv_at hl 2 rfl) ?_
            refine va_get (D := G.1) (ci := 2) (v := .ref (a 12)) (C := RX2) (T := TX2) (N := 15) hx hb hts inX2 hown hK.1 hP 0 rfl rfl 12 (by decide) (hts _ mf_X2_54) (fun _ h9 => h9) rfl dX2_room_90 ?_
            refine lv_iload hx hb dX2_room_93 (lv_at hl 0 rfl) ?_
            refine xiald hx hb hK hP 7 (nd * 12 + (u - 12)) (rfl) (by omega) (by omega) rfl dX2_room_95 ?_
            refine lv_topi (fun v7 ev7 => ?_)
            refine lv_aload_n hx hb dX2_room_96 rfl (lv_at hl 2 rfl) ?_
            refine va_get (D := G.1) (ci := 2) (v := .ref (a 13)) (C := RX2) (T := TX2) (N := 15) hx hb hts inX2 hown hK.1 hP 0 rfl rfl 13 (by decide) (hts _ mf_X2_57) (fun _ h9 => h9) rfl dX2_room_97 ?_
            refine lv_iload hx hb dX2_room_100 (lv_at hl 0 rfl) ?_
            refine xiald hx hb hK hP 8 (nd * 12 + (u - 12)) (rfl) (by omega) (by omega) rfl dX2_room_102 ?_
            refine lv_topi (fun v8 ev8 => ?_)
            refine lv_isub hx hb dX2_room_103 ?_
            refine lv_topi (fun v9 ev9 => ?_)
            refine va_mmin hx hb (hml.trans hl.1.symm) hown (hts _ ml_X2_136) (hts _ mst_yJ9_min_7cf53) (hts _ mz_RJ9) (hts _ mcode_yJ9_min_7cf53) (Nat.le_of_ble_eq_true rfl) (Nat.le_of_ble_eq_true rfl) (Nat.zero_le _) (Nat.zero_le _) dX2_room_104 ?_
            refine lv_topi (fun v10 ev10 => ?_)
            refine lv_istore_n (lv' := [(3, .int v10), (7, .int (nI (nd * 12 + (u - 12)))), (6, .int (nI u)), (0, .ref (a 15)), (1, .int (nI u0)), (4, .int (nI nd)), (5, .int (nI n))]) hx hb dX2_room_107 rfl hl (by decide) rfl (fun ls hl => ?_)
            refine lv_iload hx hb dX2_room_108 (lv_at hl 2 rfl) ?_
            refine lv_istore (lv' := [(4, .int (nI u)), (3, .int v10), (7, .int (nI (nd * 12 + (u - 12)))), (6, .int (nI u)), (0, .ref (a 15)), (1, .int (nI u0)), (5, .int (nI n))]) hx hb dX2_room_110 hl (by decide) rfl (fun ls hl => ?_)
            obtain ⟨v11, ev11⟩ : ∃ y : Int32, y = (nI n) + Int32.ofInt (1) := ⟨_, rfl⟩
            refine lv_iinc (v := v11) (lv' := [(5, .int v11), (4, .int (nI u)), (3, .int v10), (7, .int (nI (nd * 12 + (u - 12)))), (6, .int (nI u)), (0, .ref (a 15)), (1, .int (nI u0))]) hx hb dX2_room_112 hl (k := 6) rfl ev11.symm (by decide) rfl (fun ls hl => ?_)
            refine lv_goto (tgt := 9) hx hb dX2_room_115 (by decide) ?_
            exact ih (n + 1) v10 u (by omega) (by omega) hu9 (Or.inr hq9) _ _ _ hP hS (by have e := nI_inc ev11; rw [e] at hl; exact lv_sub hl [5, 6, 2, 1, 0] rfl)
          · have hb2 : u < 12 := ge_f (b := 12) (by omega) (by omega) c4
            have hb3 : 12 ≤ nd ∧ nd < 24 := by rcases ha with ⟨h1, h2, h3⟩ | ⟨h1, h2, h3⟩ <;> omega
            refine lv_iload hx hb dX2_room_41 (lv_at hl 0 rfl) ?_
            refine lv_iload hx hb dX2_room_43 (lv_at hl 4 rfl) ?_
            refine lv_bipush (v := 12) hx hb dX2_room_45 (by decide) ?_
            refine lv_isub hx hb dX2_room_47 ?_
            refine lv_topi (fun v12 ev12 => ?_)
            obtain rfl : v12 = nI (nd - 12) := nI_sub12 ev12 (by omega)
            refine rdSN (rest := []) ⟨hx, hb, hml, hown, hts⟩ (c_X6_spotOf l G ((nI u)) ((nI (nd - 12)))) mi_yX6_spotOf mst_yX6_spotOf (by decide +kernel) ⟨rfl, rfl, Nat.le_of_ble_eq_true rfl, Nat.le_of_ble_eq_true rfl⟩ hK (fun k q h => by simp at h) rfl hl.1 rfl (Nat.le_of_ble_eq_true rfl) dX2_room_48 ⟨Nat.zero_le _, Nat.zero_le _⟩ hS hA hP (fun r13 H locs hr13 hP hS => ?_)
            obtain rfl : r13 = nI (u * 12 + (nd - 12)) := spot_eq hr13
            refine lv_istore (lv' := [(7, .int (nI (u * 12 + (nd - 12)))), (6, .int (nI u)), (0, .ref (a 15)), (1, .int (nI u0)), (3, .int fo), (4, .int (nI nd)), (5, .int (nI n))]) hx hb dX2_room_51 hl (by decide) rfl (fun ls hl => ?_)
            refine lv_iload_n hx hb dX2_room_53 rfl (lv_at hl 4 rfl) ?_
            refine lv_aload_n hx hb dX2_room_54 rfl (lv_at hl 2 rfl) ?_
            refine va_get (D := G.1) (ci := 2) (v := .ref (a 14)) (C := RX2) (T := TX2) (N := 15) hx hb hts inX2 hown hK.1 hP 0 rfl rfl 14 (by decide) (hts _ mf_X2_60) (fun _ h9 => h9) rfl dX2_room_55 ?_
            refine lv_iload hx hb dX2_room_58 (lv_at hl 0 rfl) ?_
            refine xiald hx hb hK hP 9 (u * 12 + (nd - 12)) (rfl) (by omega) (by omega) rfl dX2_room_60 ?_
            refine lv_topi (fun v14 ev14 => ?_)
            refine lv_aload_n hx hb dX2_room_61 rfl (lv_at hl 2 rfl) ?_
            refine va_get (D := G.1) (ci := 2) (v := .ref (a 12)) (C := RX2) (T := TX2) (N := 15) hx hb hts inX2 hown hK.1 hP 0 rfl rfl 12 (by decide) (hts _ mf_X2_54) (fun _ h9 => h9) rfl dX2_room_62 ?_
            refine lv_iload hx hb dX2_room_65 (lv_at hl 0 rfl) ?_
            refine xiald hx hb hK hP 7 (u * 12 + (nd - 12)) (rfl) (by omega) (by omega) rfl dX2_room_67 ?_
            refine lv_topi (fun v15 ev15 => ?_)
            refine lv_isub hx hb dX2_room_68 ?_
            refine lv_topi (fun v16 ev16 => ?_)
            refine va_mmin hx hb (hml.trans hl.1.symm) hown (hts _ ml_X2_136) (hts _ mst_yJ9_min_7cf53) (hts _ mz_RJ9) (hts _ mcode_yJ9_min_7cf53) (Nat.le_of_ble_eq_true rfl) (Nat.le_of_ble_eq_true rfl) (Nat.zero_le _) (Nat.zero_le _) dX2_room_69 ?_
            refine lv_topi (fun v17 ev17 => ?_)
            refine lv_istore_n (lv' := [(3, .int v17), (7, .int (nI (u * 12 + (nd - 12)))), (6, .int (nI u)), (0, .ref (a 15)), (1, .int (nI u0)), (4, .int (nI nd)), (5, .int (nI n))]) hx hb dX2_room_72 rfl hl (by decide) rfl (fun ls hl => ?_)
            refine lv_goto (tgt := 108) hx hb dX2_room_73 (by decide) ?_
            refine lv_iload hx hb dX2_room_108 (lv_at hl 2 rfl) ?_
            refine lv_istore (lv' := [(4, .int (nI u)), (3, .int v17), (7, .int (nI (u * 12 + (nd - 12)))), (6, .int (nI u)), (0, .ref (a 15)), (1, .int (nI u0)), (5, .int (nI n))]) hx hb dX2_room_110 hl (by decide) rfl (fun ls hl => ?_)
            obtain ⟨v18, ev18⟩ : ∃ y : Int32, y = (nI n) + Int32.ofInt (1) := ⟨_, rfl⟩
            refine lv_iinc (v := v18) (lv' := [(5, .int v18), (4, .int (nI u)), (3, .int v17), (7, .int (nI (u * 12 + (nd - 12)))), (6, .int (nI u)), (0, .ref (a 15)), (1, .int (nI u0))]) hx hb dX2_room_112 hl (k := 6) rfl ev18.symm (by decide) rfl (fun ls hl => ?_)
            refine lv_goto (tgt := 9) hx hb dX2_room_115 (by decide) ?_
            exact ih (n + 1) v17 u (by omega) (by omega) hu9 (Or.inr hq9) _ _ _ hP hS (by have e := nI_inc ev18; rw [e] at hl; exact lv_sub hl [5, 6, 2, 1, 0] rfl)
  exact loop 26 0 1073741824 t0 (Nat.zero_le _) (by omega) ht0 (Or.inl rfl) _ _ _ hP hS (lv_sub hl [3, 4, 2, 1, 0] rfl)
set_option maxHeartbeats 4000000 in
set_option maxRecDepth 100000 in
theorem c_X2_shift (l : Launch) (G : GG) (a b : Nat → Nat) (f : Nat → Int32) (r : Nat → Nat → Int32) (q : Nat → Nat → Int32) (rc : Int32) (u0 t0 : Nat) (hu0 : u0 < 25) (ht0 : t0 < 25) (am : Int32) (hch : wCh adjR u0 t0 (q 1)) (hRB : RB adjR (q 0)) : WrV l yX2_shift cX2_shift 7 ({ frames := 2, cells := 0, slots := 0, locals := 51 }) G ([((a 15), .inr (2, [.int (f 0), .int (f 1), .int (f 2), .int (f 3), .int (f 4), .ref (b 3), .ref (a 6), .ref (a 7), .ref (a 8), .ref (a 9), .ref (a 10), .ref (a 11), .ref (a 12), .ref (a 13), .ref (a 14)])), ((a 6), .inl (G.2.2.1, 12, .inl (r 6))), ((a 7), .inl (G.2.1, 12, .inl (r 7))), ((a 8), .inl (G.2.1, 144, .inl (r 8))), ((a 9), .inl (G.2.1, 144, .inl (r 9))), ((a 10), .inl (G.2.1, 144, .inl (r 10))), ((a 11), .inl (G.2.2.1, 144, .inl (r 11))), ((a 12), .inl (G.2.1, 144, .inl (r 12))), ((a 13), .inl (G.2.1, 144, .inl (r 13))), ((a 14), .inl (G.2.1, 144, .inl (r 14))), ((b 3), .inr (5, [.ref (b 0), .ref (b 1), .ref (b 2), .int rc])), ((b 0), .inl (G.2.1, 25, .inl (q 0))), ((b 1), .inl (G.2.1, 25, .inl (q 1))), ((b 2), .inl (G.2.1, 25, .inl (q 2)))]) [.ref (a 15), .int (nI u0), .int (nI t0), .int am] (fun w => ∃ (r2 : Nat → Nat → Int32) (s2 : Nat → Int32), RB adjR s2 ∧ w = [((a 15), .inr (2, [.int (f 0), .int (f 1), .int (f 2), .int (f 3), .int (f 4), .ref (b 3), .ref (a 6), .ref (a 7), .ref (a 8), .ref (a 9), .ref (a 10), .ref (a 11), .ref (a 12), .ref (a 13), .ref (a 14)])), ((a 6), .inl (G.2.2.1, 12, .inl (r2 6))), ((a 7), .inl (G.2.1, 12, .inl (r2 7))), ((a 8), .inl (G.2.1, 144, .inl (r2 8))), ((a 9), .inl (G.2.1, 144, .inl (r2 9))), ((a 10), .inl (G.2.1, 144, .inl (r2 10))), ((a 11), .inl (G.2.2.1, 144, .inl (r2 11))), ((a 12), .inl (G.2.1, 144, .inl (r2 12))), ((a 13), .inl (G.2.1, 144, .inl (r2 13))), ((a 14), .inl (G.2.1, 144, .inl (r2 14))), ((b 3), .inr (5, [.ref (b 0), .ref (b 1), .ref (b 2), .int rc])), ((b 0), .inl (G.2.1, 25, .inl s2)), ((b 1), .inl (G.2.1, 25, .inl (q 1))), ((b 2), .inl (G.2.1, 25, .inl (q 2)))]) := by
  refine wr_entryV (by decide +kernel) (Nat.le_of_ble_eq_true rfl) ?_
  intro p e s m below meth c A C0 hP hK hD hA ls hl
  have hS : va_S A s.heap s.heap [] := va_S.rf
  obtain ⟨hx, hb, hml, hown, hts, hr, hlocks, hin⟩ := C0
  have hown : s.vm.findClass RX2 = some m.cls := hown
  have hl : lv_has ls 7 [(0, .ref (a 15)), (1, .int (nI u0)), (2, .int (nI t0)), (3, .int am)] := hl
  obtain ⟨Qd, hCh⟩ := hch
  refine lv_iload_n hx hb dX2_shift_0 rfl (lv_at hl 2 rfl) ?_
  refine lv_istore (lv' := [(4, .int (nI t0)), (0, .ref (a 15)), (1, .int (nI u0)), (2, .int (nI t0)), (3, .int am)]) hx hb dX2_shift_1 hl (by decide) rfl (fun ls hl => ?_)
  refine lv_iconst (v := 0) hx hb dX2_shift_3 (by decide) ?_
  refine lv_istore (lv' := [(5, .int 0), (4, .int (nI t0)), (0, .ref (a 15)), (1, .int (nI u0)), (2, .int (nI t0)), (3, .int am)]) hx hb dX2_shift_4 hl (by decide) rfl (fun ls hl => ?_)
  have loop : ∀ (k n : Nat) (nd : Nat) (r2 : Nat → Nat → Int32) (s2 : Nat → Int32), n ≤ 25 → 25 < n + k → nd < 25 → (nd = t0 ∨ Qd nd) → RB adjR s2 → ∀ (H : Heap) (locs : List Loc) (ls : Array Slot), PP G ([((a 15), .inr (2, [.int (f 0), .int (f 1), .int (f 2), .int (f 3), .int (f 4), .ref (b 3), .ref (a 6), .ref (a 7), .ref (a 8), .ref (a 9), .ref (a 10), .ref (a 11), .ref (a 12), .ref (a 13), .ref (a 14)])), ((a 6), .inl (G.2.2.1, 12, .inl (r2 6))), ((a 7), .inl (G.2.1, 12, .inl (r2 7))), ((a 8), .inl (G.2.1, 144, .inl (r2 8))), ((a 9), .inl (G.2.1, 144, .inl (r2 9))), ((a 10), .inl (G.2.1, 144, .inl (r2 10))), ((a 11), .inl (G.2.2.1, 144, .inl (r2 11))), ((a 12), .inl (G.2.1, 144, .inl (r2 12))), ((a 13), .inl (G.2.1, 144, .inl (r2 13))), ((a 14), .inl (G.2.1, 144, .inl (r2 14))), ((b 3), .inr (5, [.ref (b 0), .ref (b 1), .ref (b 2), .int rc])), ((b 0), .inl (G.2.1, 25, .inl s2)), ((b 1), .inl (G.2.1, 25, .inl (q 1))), ((b 2), .inl (G.2.1, 25, .inl (q 2)))]) H → va_S A s.heap H locs → lv_has ls 7 [(0, .ref (a 15)), (1, .int (nI u0)), (3, .int am), (4, .int (nI nd)), (5, .int (nI n))] → W p l e ({ frames := 2, cells := 0, slots := 0, locals := 51 }) s m ([.ref (a 15), .int (nI u0), .int (nI t0), .int am] : List Value).toArray below meth c H locs 0 0 (MQ below (QwV G (fun w => ∃ (r2 : Nat → Nat → Int32) (s2 : Nat → Int32), RB adjR s2 ∧ w = [((a 15), .inr (2, [.int (f 0), .int (f 1), .int (f 2), .int (f 3), .int (f 4), .ref (b 3), .ref (a 6), .ref (a 7), .ref (a 8), .ref (a 9), .ref (a 10), .ref (a 11), .ref (a 12), .ref (a 13), .ref (a 14)])), ((a 6), .inl (G.2.2.1, 12, .inl (r2 6))), ((a 7), .inl (G.2.1, 12, .inl (r2 7))), ((a 8), .inl (G.2.1, 144, .inl (r2 8))), ((a 9), .inl (G.2.1, 144, .inl (r2 9))), ((a 10), .inl (G.2.1, 144, .inl (r2 10))), ((a 11), .inl (G.2.2.1, 144, .inl (r2 11))), ((a 12), .inl (G.2.1, 144, .inl (r2 12))), ((a 13), .inl (G.2.1, 144, .inl (r2 13))), ((a 14), .inl (G.2.1, 144, .inl (r2 14))), ((b 3), .inr (5, [.ref (b 0), .ref (b 1), .ref (b 2), .int rc])), ((b 0), .inl (G.2.1, 25, .inl s2)), ((b 1), .inl (G.2.1, 25, .inl (q 1))), ((b 2), .inl (G.2.1, 25, .inl (q 2)))]) A) ([.ref (a 15), .int (nI u0), .int (nI t0), .int am] : List Value).toArray s 0 0 A) (F0 m 6 ls []) := by
    intro k
    induction k with
    | zero => intro n nd r2 s2 h1 h2; omega
    | succ k ih =>
      intro n nd r2 s2 hi_n hk_n hnd hqd hRB H locs ls hP hS hl
      have hD := D_as2 hP hD rfl
      refine lv_iload hx hb dX2_shift_6 (lv_at hl 4 rfl) ?_
      refine lv_bipush (v := 25) hx hb dX2_shift_8 (by decide) ?_
      refine lv_icmp_ge (tgt := 111) hx hb dX2_shift_10 (by decide) (fun c1 => ?_) (fun c1 => ?_)
      · exact wr_vret hx hb hr hlocks hS hP ⟨r2, s2, hRB, rfl⟩ dX2_shift_111
      · have hltn := ge_f (b := 25) (by omega) (by omega) c1
        refine lv_iload hx hb dX2_shift_13 (lv_at hl 3 rfl) ?_
        refine lv_iload_n hx hb dX2_shift_15 rfl (lv_at hl 1 rfl) ?_
        refine lv_icmp_eq (tgt := 111) hx hb dX2_shift_16 (by decide) (fun c2 => ?_) (fun c2 => ?_)
        · exact wr_vret hx hb hr hlocks hS hP ⟨r2, s2, hRB, rfl⟩ dX2_shift_111
        · have hne : nd ≠ u0 := fun h => c2 (by rw [h])
          obtain ⟨u, hu9, eu, hq9, ha⟩ := hCh nd hnd hqd hne
          refine lv_aload_n hx hb dX2_shift_19 rfl (lv_at hl 0 rfl) ?_
          refine va_get (D := G.1) (ci := 2) (v := .ref (b 3)) (C := RX2) (T := TX2) (N := 15) hx hb hts inX2 hown hK.1 hP 0 rfl rfl 5 (by decide) (hts _ mf_X2_30) (fun _ h9 => h9) rfl dX2_shift_20 ?_
          refine va_get (D := G.1) (ci := 5) (v := .ref (b 1)) (C := RX5) (T := TX5) (N := 4) hx hb hts inX5 hown hK.1 hP 10 rfl rfl 1 (by decide) (hts _ mf_X2_143) (fun _ h9 => h9) rfl dX2_shift_23 ?_
          refine lv_iload hx hb dX2_shift_26 (lv_at hl 3 rfl) ?_
          refine xiald hx hb hK hP 12 (nd) (rfl) (by omega) (by omega) rfl dX2_shift_28 ?_
          refine lv_topi (fun v3 ev3 => ?_)
          rw [eu] at ev3
          subst ev3
          refine lv_istore (lv' := [(6, .int (nI u)), (0, .ref (a 15)), (1, .int (nI u0)), (3, .int am), (4, .int (nI nd)), (5, .int (nI n))]) hx hb dX2_shift_29 hl (by decide) rfl (fun ls hl => ?_)
          refine lv_iload hx hb dX2_shift_31 (lv_at hl 0 rfl) ?_
          refine lv_bipush (v := 12) hx hb dX2_shift_33 (by decide) ?_
          refine lv_icmp_ge (tgt := 71) hx hb dX2_shift_35 (by decide) (fun c4 => ?_) (fun c4 => ?_)
          · have hb2 : 12 ≤ u := ge_t (b := 12) (by omega) (by omega) c4
            have hb3 : u < 24 ∧ nd < 12 := by rcases ha with ⟨h1, h2, h3⟩ | ⟨h1, h2, h3⟩ <;> omega
            refine lv_aload_n hx hb dX2_shift_71 rfl (lv_at hl 1 rfl) ?_
            refine va_get (D := G.1) (ci := 2) (v := .ref (a 12)) (C := RX2) (T := TX2) (N := 15) hx hb hts inX2 hown hK.1 hP 0 rfl rfl 12 (by decide) (hts _ mf_X2_54) (fun _ h9 => h9) rfl dX2_shift_72 ?_
            refine lv_iload hx hb dX2_shift_75 (lv_at hl 4 rfl) ?_
            refine lv_iload hx hb dX2_shift_77 (lv_at hl 0 rfl) ?_
            refine lv_bipush (v := 12) hx hb dX2_shift_79 (by decide) ?_
            refine lv_isub hx hb dX2_shift_81 ?_
            refine lv_topi (fun v5 ev5 => ?_)
            obtain rfl : v5 = nI (u - 12) := nI_sub12 ev5 (by omega)
            refine rdSN (rest := [.ref (a 12)]) ⟨hx, hb, hml, hown, hts⟩ (c_X6_spotOf l G ((nI nd)) ((nI (u - 12)))) mi_yX6_spotOf mst_yX6_spotOf (by decide +kernel) ⟨rfl, rfl, Nat.le_of_ble_eq_true rfl, Nat.le_of_ble_eq_true rfl⟩ hK (fun k q h => by simp at h) rfl hl.1 rfl (Nat.le_of_ble_eq_true rfl) dX2_shift_82 ⟨Nat.zero_le _, Nat.zero_le _⟩ hS hA hP (fun r6 H locs hr6 hP hS => ?_)
            obtain rfl : r6 = nI (nd * 12 + (u - 12)) := spot_eq hr6
            refine lv_dup2_11 hx hb dX2_shift_85 rfl rfl ?_
            refine xiald hx hb hK hP 7 (nd * 12 + (u - 12)) (rfl) (by omega) (by omega) rfl dX2_shift_86 ?_
            refine lv_topi (fun v7 ev7 => ?_)
            refine lv_iload_n hx hb dX2_shift_87 rfl (lv_at hl 3 rfl) ?_
            refine lv_isub hx hb dX2_shift_88 ?_
            refine lv_topi (fun v8 ev8 => ?_)
            refine xiast (x := v8) hx hb hK hP hD hS 7 (nd * 12 + (u - 12)) (rfl) (by omega) (by omega) rfl dX2_shift_89 (fun H locs hP hD hS => ?_)
            have hP : PP G [((a 15), .inr (2, [.int (f 0), .int (f 1), .int (f 2), .int (f 3), .int (f 4), .ref (b 3), .ref (a 6), .ref (a 7), .ref (a 8), .ref (a 9), .ref (a 10), .ref (a 11), .ref (a 12), .ref (a 13), .ref (a 14)])), ((a 6), .inl (G.2.2.1, 12, .inl (r2 6))), ((a 7), .inl (G.2.1, 12, .inl (r2 7))), ((a 8), .inl (G.2.1, 144, .inl (r2 8))), ((a 9), .inl (G.2.1, 144, .inl (r2 9))), ((a 10), .inl (G.2.1, 144, .inl (r2 10))), ((a 11), .inl (G.2.2.1, 144, .inl (r2 11))), ((a 12), .inl (G.2.1, 144, .inl (upd (r2 12) (nd * 12 + (u - 12)) (v8)))), ((a 13), .inl (G.2.1, 144, .inl (r2 13))), ((a 14), .inl (G.2.1, 144, .inl (r2 14))), ((b 3), .inr (5, [.ref (b 0), .ref (b 1), .ref (b 2), .int rc])), ((b 0), .inl (G.2.1, 25, .inl s2)), ((b 1), .inl (G.2.1, 25, .inl (q 1))), ((b 2), .inl (G.2.1, 25, .inl (q 2)))] H := hP
            have hD := D_as hP hD rfl
            refine lv_aload_n hx hb dX2_shift_90 rfl (lv_at hl 1 rfl) ?_
            refine lv_iload hx hb dX2_shift_91 (lv_at hl 4 rfl) ?_
            refine lv_iload hx hb dX2_shift_93 (lv_at hl 0 rfl) ?_
            refine lv_bipush (v := 12) hx hb dX2_shift_95 (by decide) ?_
            refine lv_isub hx hb dX2_shift_97 ?_
            refine lv_topi (fun v9 ev9 => ?_)
            obtain rfl : v9 = nI (u - 12) := nI_sub12 ev9 (by omega)
            refine wrVV (rest := []) (q0 := 0) ⟨hx, hb, hml, hown, hts⟩ (c_X2_refresh l G a b (fun k => match k with | 0 => (f 0) | 1 => (f 1) | 2 => (f 2) | 3 => (f 3) | _ => (f 4)) (fun k => match k with | 6 => (r2 6) | 7 => (r2 7) | 8 => (r2 8) | 9 => (r2 9) | 10 => (r2 10) | 11 => (r2 11) | 12 => (upd (r2 12) (nd * 12 + (u - 12)) (v8)) | 13 => (r2 13) | 14 => (r2 14) | _ => (fun _ => 0)) (fun k => match k with | 0 => s2 | 1 => (q 1) | 2 => (q 2) | _ => (fun _ => 0)) (rc) (nd) ((u - 12)) (by omega) (by omega)) mi_yX2_refresh mv_yX2_refresh ml_X2_117 ⟨rfl, rfl, Nat.le_of_ble_eq_true rfl, Nat.le_of_ble_eq_true rfl⟩ hK hP hD [0, 1, 2, 3, 4, 5, 6, 7, 8, 9, 10, 11, 12, 13] rfl (by decide) rfl rfl rfl hl.1 rfl (Nat.le_of_ble_eq_true rfl) dX2_shift_98 ⟨Nat.zero_le _, Nat.zero_le _⟩ hS hA (fun w11 H locs hw11 hP hS => ?_)
            obtain ⟨z12, z13, rfl⟩ := hw11
            have hRB := RB_join z12 z13 hRB (adjR1 (i := nd) (j := (u - 12)) (by omega) (by omega)) (adjR2 (by omega) (by omega)) (by omega) (by omega)
            have h9_ := P_rg (s := 0) (hP rfl) rfl (Nat.le_of_ble_eq_true rfl)
            have hP : PP G [((a 15), .inr (2, [.int (f 0), .int (f 1), .int (f 2), .int (f 3), .int (f 4), .ref (b 3), .ref (a 6), .ref (a 7), .ref (a 8), .ref (a 9), .ref (a 10), .ref (a 11), .ref (a 12), .ref (a 13), .ref (a 14)])), ((a 6), .inl (G.2.2.1, 12, .inl (r2 6))), ((a 7), .inl (G.2.1, 12, .inl (r2 7))), ((a 8), .inl (G.2.1, 144, .inl (r2 8))), ((a 9), .inl (G.2.1, 144, .inl (r2 9))), ((a 10), .inl (G.2.1, 144, .inl (r2 10))), ((a 11), .inl (G.2.2.1, 144, .inl (r2 11))), ((a 12), .inl (G.2.1, 144, .inl (upd (r2 12) (nd * 12 + (u - 12)) (v8)))), ((a 13), .inl (G.2.1, 144, .inl (r2 13))), ((a 14), .inl (G.2.1, 144, .inl (r2 14))), ((b 3), .inr (5, [.ref (b 0), .ref (b 1), .ref (b 2), .int rc])), ((b 0), .inl (G.2.1, 25, .inl (jnF s2 (nd) (12 + ((u - 12))) z12 z13))), ((b 1), .inl (G.2.1, 25, .inl (q 1))), ((b 2), .inl (G.2.1, 25, .inl (q 2)))] H := h9_
            have hD := D_as2 hP hD rfl
            refine lv_iload hx hb dX2_shift_101 (lv_at hl 0 rfl) ?_
            refine lv_istore (lv' := [(4, .int (nI u)), (6, .int (nI u)), (0, .ref (a 15)), (1, .int (nI u0)), (3, .int am), (5, .int (nI n))]) hx hb dX2_shift_103 hl (by decide) rfl (fun ls hl => ?_)
            obtain ⟨v14, ev14⟩ : ∃ y : Int32, y = (nI n) + Int32.ofInt (1) := ⟨_, rfl⟩
            refine lv_iinc (v := v14) (lv' := [(5, .int v14), (4, .int (nI u)), (6, .int (nI u)), (0, .ref (a 15)), (1, .int (nI u0)), (3, .int am)]) hx hb dX2_shift_105 hl (k := 5) rfl ev14.symm (by decide) rfl (fun ls hl => ?_)
            refine lv_goto (tgt := 6) hx hb dX2_shift_108 (by decide) ?_
            exact ih (n + 1) u (fun k => match k with | 6 => (r2 6) | 7 => (r2 7) | 8 => (r2 8) | 9 => (r2 9) | 10 => (r2 10) | 11 => (r2 11) | 12 => (upd (r2 12) (nd * 12 + (u - 12)) (v8)) | 13 => (r2 13) | 14 => (r2 14) | _ => (fun _ => 0)) _ (by omega) (by omega) hu9 (Or.inr hq9) hRB _ _ _ hP hS (by have e := nI_inc ev14; rw [e] at hl; exact lv_sub hl [3, 4, 5, 1, 0] rfl)
          · have hb2 : u < 12 := ge_f (b := 12) (by omega) (by omega) c4
            have hb3 : 12 ≤ nd ∧ nd < 24 := by rcases ha with ⟨h1, h2, h3⟩ | ⟨h1, h2, h3⟩ <;> omega
            refine lv_aload_n hx hb dX2_shift_38 rfl (lv_at hl 1 rfl) ?_
            refine va_get (D := G.1) (ci := 2) (v := .ref (a 12)) (C := RX2) (T := TX2) (N := 15) hx hb hts inX2 hown hK.1 hP 0 rfl rfl 12 (by decide) (hts _ mf_X2_54) (fun _ h9 => h9) rfl dX2_shift_39 ?_
            refine lv_iload hx hb dX2_shift_42 (lv_at hl 0 rfl) ?_
            refine lv_iload hx hb dX2_shift_44 (lv_at hl 4 rfl) ?_
            refine lv_bipush (v := 12) hx hb dX2_shift_46 (by decide) ?_
            refine lv_isub hx hb dX2_shift_48 ?_
            refine lv_topi (fun v15 ev15 => ?_)
            obtain rfl : v15 = nI (nd - 12) := nI_sub12 ev15 (by omega)
            refine rdSN (rest := [.ref (a 12)]) ⟨hx, hb, hml, hown, hts⟩ (c_X6_spotOf l G ((nI u)) ((nI (nd - 12)))) mi_yX6_spotOf mst_yX6_spotOf (by decide +kernel) ⟨rfl, rfl, Nat.le_of_ble_eq_true rfl, Nat.le_of_ble_eq_true rfl⟩ hK (fun k q h => by simp at h) rfl hl.1 rfl (Nat.le_of_ble_eq_true rfl) dX2_shift_49 ⟨Nat.zero_le _, Nat.zero_le _⟩ hS hA hP (fun r16 H locs hr16 hP hS => ?_)
            obtain rfl : r16 = nI (u * 12 + (nd - 12)) := spot_eq hr16
            refine lv_dup2_11 hx hb dX2_shift_52 rfl rfl ?_
            refine xiald hx hb hK hP 7 (u * 12 + (nd - 12)) (rfl) (by omega) (by omega) rfl dX2_shift_53 ?_
            refine lv_topi (fun v17 ev17 => ?_)
            refine lv_iload_n hx hb dX2_shift_54 rfl (lv_at hl 3 rfl) ?_
            refine lv_iadd hx hb dX2_shift_55 ?_
            refine lv_topi (fun v18 ev18 => ?_)
            refine xiast (x := v18) hx hb hK hP hD hS 7 (u * 12 + (nd - 12)) (rfl) (by omega) (by omega) rfl dX2_shift_56 (fun H locs hP hD hS => ?_)
            have hP : PP G [((a 15), .inr (2, [.int (f 0), .int (f 1), .int (f 2), .int (f 3), .int (f 4), .ref (b 3), .ref (a 6), .ref (a 7), .ref (a 8), .ref (a 9), .ref (a 10), .ref (a 11), .ref (a 12), .ref (a 13), .ref (a 14)])), ((a 6), .inl (G.2.2.1, 12, .inl (r2 6))), ((a 7), .inl (G.2.1, 12, .inl (r2 7))), ((a 8), .inl (G.2.1, 144, .inl (r2 8))), ((a 9), .inl (G.2.1, 144, .inl (r2 9))), ((a 10), .inl (G.2.1, 144, .inl (r2 10))), ((a 11), .inl (G.2.2.1, 144, .inl (r2 11))), ((a 12), .inl (G.2.1, 144, .inl (upd (r2 12) (u * 12 + (nd - 12)) (v18)))), ((a 13), .inl (G.2.1, 144, .inl (r2 13))), ((a 14), .inl (G.2.1, 144, .inl (r2 14))), ((b 3), .inr (5, [.ref (b 0), .ref (b 1), .ref (b 2), .int rc])), ((b 0), .inl (G.2.1, 25, .inl s2)), ((b 1), .inl (G.2.1, 25, .inl (q 1))), ((b 2), .inl (G.2.1, 25, .inl (q 2)))] H := hP
            have hD := D_as hP hD rfl
            refine lv_aload_n hx hb dX2_shift_57 rfl (lv_at hl 1 rfl) ?_
            refine lv_iload hx hb dX2_shift_58 (lv_at hl 0 rfl) ?_
            refine lv_iload hx hb dX2_shift_60 (lv_at hl 4 rfl) ?_
            refine lv_bipush (v := 12) hx hb dX2_shift_62 (by decide) ?_
            refine lv_isub hx hb dX2_shift_64 ?_
            refine lv_topi (fun v19 ev19 => ?_)
            obtain rfl : v19 = nI (nd - 12) := nI_sub12 ev19 (by omega)
            refine wrVV (rest := []) (q0 := 0) ⟨hx, hb, hml, hown, hts⟩ (c_X2_refresh l G a b (fun k => match k with | 0 => (f 0) | 1 => (f 1) | 2 => (f 2) | 3 => (f 3) | _ => (f 4)) (fun k => match k with | 6 => (r2 6) | 7 => (r2 7) | 8 => (r2 8) | 9 => (r2 9) | 10 => (r2 10) | 11 => (r2 11) | 12 => (upd (r2 12) (u * 12 + (nd - 12)) (v18)) | 13 => (r2 13) | 14 => (r2 14) | _ => (fun _ => 0)) (fun k => match k with | 0 => s2 | 1 => (q 1) | 2 => (q 2) | _ => (fun _ => 0)) (rc) (u) ((nd - 12)) (by omega) (by omega)) mi_yX2_refresh mv_yX2_refresh ml_X2_117 ⟨rfl, rfl, Nat.le_of_ble_eq_true rfl, Nat.le_of_ble_eq_true rfl⟩ hK hP hD [0, 1, 2, 3, 4, 5, 6, 7, 8, 9, 10, 11, 12, 13] rfl (by decide) rfl rfl rfl hl.1 rfl (Nat.le_of_ble_eq_true rfl) dX2_shift_65 ⟨Nat.zero_le _, Nat.zero_le _⟩ hS hA (fun w21 H locs hw21 hP hS => ?_)
            obtain ⟨z22, z23, rfl⟩ := hw21
            have hRB := RB_join z22 z23 hRB (adjR1 (i := u) (j := (nd - 12)) (by omega) (by omega)) (adjR2 (by omega) (by omega)) (by omega) (by omega)
            have h9_ := P_rg (s := 0) (hP rfl) rfl (Nat.le_of_ble_eq_true rfl)
            have hP : PP G [((a 15), .inr (2, [.int (f 0), .int (f 1), .int (f 2), .int (f 3), .int (f 4), .ref (b 3), .ref (a 6), .ref (a 7), .ref (a 8), .ref (a 9), .ref (a 10), .ref (a 11), .ref (a 12), .ref (a 13), .ref (a 14)])), ((a 6), .inl (G.2.2.1, 12, .inl (r2 6))), ((a 7), .inl (G.2.1, 12, .inl (r2 7))), ((a 8), .inl (G.2.1, 144, .inl (r2 8))), ((a 9), .inl (G.2.1, 144, .inl (r2 9))), ((a 10), .inl (G.2.1, 144, .inl (r2 10))), ((a 11), .inl (G.2.2.1, 144, .inl (r2 11))), ((a 12), .inl (G.2.1, 144, .inl (upd (r2 12) (u * 12 + (nd - 12)) (v18)))), ((a 13), .inl (G.2.1, 144, .inl (r2 13))), ((a 14), .inl (G.2.1, 144, .inl (r2 14))), ((b 3), .inr (5, [.ref (b 0), .ref (b 1), .ref (b 2), .int rc])), ((b 0), .inl (G.2.1, 25, .inl (jnF s2 (u) (12 + ((nd - 12))) z22 z23))), ((b 1), .inl (G.2.1, 25, .inl (q 1))), ((b 2), .inl (G.2.1, 25, .inl (q 2)))] H := h9_
            have hD := D_as2 hP hD rfl
            refine lv_goto (tgt := 101) hx hb dX2_shift_68 (by decide) ?_
            refine lv_iload hx hb dX2_shift_101 (lv_at hl 0 rfl) ?_
            refine lv_istore (lv' := [(4, .int (nI u)), (6, .int (nI u)), (0, .ref (a 15)), (1, .int (nI u0)), (3, .int am), (5, .int (nI n))]) hx hb dX2_shift_103 hl (by decide) rfl (fun ls hl => ?_)
            obtain ⟨v24, ev24⟩ : ∃ y : Int32, y = (nI n) + Int32.ofInt (1) := ⟨_, rfl⟩
            refine lv_iinc (v := v24) (lv' := [(5, .int v24), (4, .int (nI u)), (6, .int (nI u)), (0, .ref (a 15)), (1, .int (nI u0)), (3, .int am)]) hx hb dX2_shift_105 hl (k := 5) rfl ev24.symm (by decide) rfl (fun ls hl => ?_)
            refine lv_goto (tgt := 6) hx hb dX2_shift_108 (by decide) ?_
            exact ih (n + 1) u (fun k => match k with | 6 => (r2 6) | 7 => (r2 7) | 8 => (r2 8) | 9 => (r2 9) | 10 => (r2 10) | 11 => (r2 11) | 12 => (upd (r2 12) (u * 12 + (nd - 12)) (v18)) | 13 => (r2 13) | 14 => (r2 14) | _ => (fun _ => 0)) _ (by omega) (by omega) hu9 (Or.inr hq9) hRB _ _ _ hP hS (by have e := nI_inc ev24; rw [e] at hl; exact lv_sub hl [3, 4, 5, 1, 0] rfl)
  exact loop 26 0 t0 r (q 0) (Nat.zero_le _) (by omega) ht0 (Or.inl rfl) hRB _ _ _ hP hS (lv_sub hl [2, 3, 5, 1, 0] rfl)
set_option maxHeartbeats 4000000 in
set_option maxRecDepth 100000 in
theorem c_X2_draw (l : Launch) (G : GG) (a b : Nat → Nat) (f : Nat → Int32) (r : Nat → Nat → Int32) (q : Nat → Nat → Int32) (rc : Int32) (i j : Nat) (wt : Int32) (hi : i < 12) (hj : j < 12) (hRB : RB adjR (q 0)) : WrV l yX2_draw cX2_draw 11 ({ frames := 3, cells := 0, slots := 0, locals := 77 }) G ([((a 15), .inr (2, [.int (f 0), .int (f 1), .int (f 2), .int (f 3), .int (f 4), .ref (b 3), .ref (a 6), .ref (a 7), .ref (a 8), .ref (a 9), .ref (a 10), .ref (a 11), .ref (a 12), .ref (a 13), .ref (a 14)])), ((a 6), .inl (G.2.2.1, 12, .inl (r 6))), ((a 7), .inl (G.2.1, 12, .inl (r 7))), ((a 8), .inl (G.2.1, 144, .inl (r 8))), ((a 9), .inl (G.2.1, 144, .inl (r 9))), ((a 10), .inl (G.2.1, 144, .inl (r 10))), ((a 11), .inl (G.2.2.1, 144, .inl (r 11))), ((a 12), .inl (G.2.1, 144, .inl (r 12))), ((a 13), .inl (G.2.1, 144, .inl (r 13))), ((a 14), .inl (G.2.1, 144, .inl (r 14))), ((b 3), .inr (5, [.ref (b 0), .ref (b 1), .ref (b 2), .int rc])), ((b 0), .inl (G.2.1, 25, .inl (q 0))), ((b 1), .inl (G.2.1, 25, .inl (q 1))), ((b 2), .inl (G.2.1, 25, .inl (q 2)))]) [.ref (a 15), .int (nI i), .int (nI j), .int wt] (fun w => ∃ (r2 : Nat → Nat → Int32) (s2 bf qu : Nat → Int32) (rc2 : Int32), RB adjR s2 ∧ w = [((a 15), .inr (2, [.int (f 0), .int (f 1), .int (f 2), .int (f 3), .int (f 4), .ref (b 3), .ref (a 6), .ref (a 7), .ref (a 8), .ref (a 9), .ref (a 10), .ref (a 11), .ref (a 12), .ref (a 13), .ref (a 14)])), ((a 6), .inl (G.2.2.1, 12, .inl (r2 6))), ((a 7), .inl (G.2.1, 12, .inl (r2 7))), ((a 8), .inl (G.2.1, 144, .inl (r2 8))), ((a 9), .inl (G.2.1, 144, .inl (r2 9))), ((a 10), .inl (G.2.1, 144, .inl (r2 10))), ((a 11), .inl (G.2.2.1, 144, .inl (r2 11))), ((a 12), .inl (G.2.1, 144, .inl (r2 12))), ((a 13), .inl (G.2.1, 144, .inl (r2 13))), ((a 14), .inl (G.2.1, 144, .inl (r2 14))), ((b 3), .inr (5, [.ref (b 0), .ref (b 1), .ref (b 2), .int rc2])), ((b 0), .inl (G.2.1, 25, .inl s2)), ((b 1), .inl (G.2.1, 25, .inl bf)), ((b 2), .inl (G.2.1, 25, .inl qu))]) := by
  refine wr_entryV (by decide +kernel) (Nat.le_of_ble_eq_true rfl) ?_
  intro p e s m below meth c A C0 hP hK hD hA ls hl
  have hS : va_S A s.heap s.heap [] := va_S.rf
  obtain ⟨hx, hb, hml, hown, hts, hr, hlocks, hin⟩ := C0
  have hown : s.vm.findClass RX2 = some m.cls := hown
  have hl : lv_has ls 11 [(0, .ref (a 15)), (1, .int (nI i)), (2, .int (nI j)), (3, .int wt)] := hl
  refine lv_iload_n hx hb dX2_draw_0 rfl (lv_at hl 1 rfl) ?_
  refine lv_iload_n hx hb dX2_draw_1 rfl (lv_at hl 2 rfl) ?_
  refine rdSN (rest := []) ⟨hx, hb, hml, hown, hts⟩ (c_X6_spotOf l G ((nI i)) ((nI j))) mi_yX6_spotOf mst_yX6_spotOf (by decide +kernel) ⟨rfl, rfl, Nat.le_of_ble_eq_true rfl, Nat.le_of_ble_eq_true rfl⟩ hK (fun k q h => by simp at h) rfl hl.1 rfl (Nat.le_of_ble_eq_true rfl) dX2_draw_2 ⟨Nat.zero_le _, Nat.zero_le _⟩ hS hA hP (fun r1 H locs hr1 hP hS => ?_)
  obtain rfl : r1 = nI (i * 12 + j) := spot_eq hr1
  refine lv_istore (lv' := [(4, .int (nI (i * 12 + j))), (0, .ref (a 15)), (1, .int (nI i)), (2, .int (nI j)), (3, .int wt)]) hx hb dX2_draw_5 hl (by decide) rfl (fun ls hl => ?_)
  refine lv_bipush (v := 12) hx hb dX2_draw_7 (by decide) ?_
  refine lv_iload_n hx hb dX2_draw_9 rfl (lv_at hl 3 rfl) ?_
  refine lv_iadd hx hb dX2_draw_10 ?_
  refine lv_topi (fun v2 ev2 => ?_)
  obtain rfl : v2 = nI (12 + j) := nI_plus (i := 12) ev2 rfl rfl
  refine lv_istore (lv' := [(5, .int (nI (12 + j))), (4, .int (nI (i * 12 + j))), (0, .ref (a 15)), (1, .int (nI i)), (2, .int (nI j)), (3, .int wt)]) hx hb dX2_draw_11 hl (by decide) rfl (fun ls hl => ?_)
  refine lv_aload_n hx hb dX2_draw_13 rfl (lv_at hl 2 rfl) ?_
  refine va_get (D := G.1) (ci := 2) (v := .ref (b 3)) (C := RX2) (T := TX2) (N := 15) hx hb hts inX2 hown hK.1 hP 0 rfl rfl 5 (by decide) (hts _ mf_X2_30) (fun _ h9 => h9) rfl dX2_draw_14 ?_
  refine lv_iload_n hx hb dX2_draw_17 rfl (lv_at hl 3 rfl) ?_
  refine lv_iload hx hb dX2_draw_18 (lv_at hl 0 rfl) ?_
  refine lv_iconst (v := 0) hx hb dX2_draw_20 (by decide) ?_
  refine lv_iconst (v := 0) hx hb dX2_draw_21 (by decide) ?_
  refine wrVV (rest := []) (q0 := 0) ⟨hx, hb, hml, hown, hts⟩ (c_X5_join l G b (fun k => match k with | 0 => (q 0) | 1 => (q 1) | 2 => (q 2) | _ => (fun _ => 0)) (rc) i (12 + j) 0 0 (by omega) (by omega)) mi_yX5_join mv_yX5_join ml_X2_120 ⟨rfl, rfl, Nat.le_of_ble_eq_true rfl, Nat.le_of_ble_eq_true rfl⟩ hK hP hD [10, 11, 12, 13] rfl (by decide) rfl rfl rfl hl.1 rfl (Nat.le_of_ble_eq_true rfl) dX2_draw_22 ⟨Nat.zero_le _, Nat.zero_le _⟩ hS hA (fun w4 H locs hw4 hP hS => ?_)
  obtain rfl := hw4
  have hRB := RB_join 0 0 hRB (adjR1 (i := i) (j := j) (by omega) (by omega)) (adjR2 (by omega) (by omega)) (by omega) (by omega)
  have hP : PP G [((a 15), .inr (2, [.int (f 0), .int (f 1), .int (f 2), .int (f 3), .int (f 4), .ref (b 3), .ref (a 6), .ref (a 7), .ref (a 8), .ref (a 9), .ref (a 10), .ref (a 11), .ref (a 12), .ref (a 13), .ref (a 14)])), ((a 6), .inl (G.2.2.1, 12, .inl (r 6))), ((a 7), .inl (G.2.1, 12, .inl (r 7))), ((a 8), .inl (G.2.1, 144, .inl (r 8))), ((a 9), .inl (G.2.1, 144, .inl (r 9))), ((a 10), .inl (G.2.1, 144, .inl (r 10))), ((a 11), .inl (G.2.2.1, 144, .inl (r 11))), ((a 12), .inl (G.2.1, 144, .inl (r 12))), ((a 13), .inl (G.2.1, 144, .inl (r 13))), ((a 14), .inl (G.2.1, 144, .inl (r 14))), ((b 3), .inr (5, [.ref (b 0), .ref (b 1), .ref (b 2), .int rc])), ((b 0), .inl (G.2.1, 25, .inl (jnF (q 0) i (12 + j) 0 0))), ((b 1), .inl (G.2.1, 25, .inl (q 1))), ((b 2), .inl (G.2.1, 25, .inl (q 2)))] H := hP rfl
  have hD := D_as2 hP hD rfl
  have j72 : ∀ (u0 t0 : Nat) (fl : Int32), u0 < 25 → t0 < 25 → ∀ (H : Heap) (locs : List Loc) (ls : Array Slot), PP G ([((a 15), .inr (2, [.int (f 0), .int (f 1), .int (f 2), .int (f 3), .int (f 4), .ref (b 3), .ref (a 6), .ref (a 7), .ref (a 8), .ref (a 9), .ref (a 10), .ref (a 11), .ref (a 12), .ref (a 13), .ref (a 14)])), ((a 6), .inl (G.2.2.1, 12, .inl (r 6))), ((a 7), .inl (G.2.1, 12, .inl (r 7))), ((a 8), .inl (G.2.1, 144, .inl (r 8))), ((a 9), .inl (G.2.1, 144, .inl (r 9))), ((a 10), .inl (G.2.1, 144, .inl (r 10))), ((a 11), .inl (G.2.2.1, 144, .inl (r 11))), ((a 12), .inl (G.2.1, 144, .inl (r 12))), ((a 13), .inl (G.2.1, 144, .inl (r 13))), ((a 14), .inl (G.2.1, 144, .inl (r 14))), ((b 3), .inr (5, [.ref (b 0), .ref (b 1), .ref (b 2), .int rc])), ((b 0), .inl (G.2.1, 25, .inl (jnF (q 0) i (12 + j) 0 0))), ((b 1), .inl (G.2.1, 25, .inl (q 1))), ((b 2), .inl (G.2.1, 25, .inl (q 2)))]) H → va_S A s.heap H locs → lv_has ls 11 [(0, .ref (a 15)), (1, .int (nI i)), (2, .int (nI j)), (3, .int wt), (4, .int (nI (i * 12 + j))), (5, .int (nI (12 + j))), (6, .int fl), (7, .int (nI u0)), (8, .int (nI t0)), (9, .int 0)] → W p l e ({ frames := 3, cells := 0, slots := 0, locals := 77 }) s m ([.ref (a 15), .int (nI i), .int (nI j), .int wt] : List Value).toArray below meth c H locs 0 0 (MQ below (QwV G (fun w => ∃ (r2 : Nat → Nat → Int32) (s2 bf qu : Nat → Int32) (rc2 : Int32), RB adjR s2 ∧ w = [((a 15), .inr (2, [.int (f 0), .int (f 1), .int (f 2), .int (f 3), .int (f 4), .ref (b 3), .ref (a 6), .ref (a 7), .ref (a 8), .ref (a 9), .ref (a 10), .ref (a 11), .ref (a 12), .ref (a 13), .ref (a 14)])), ((a 6), .inl (G.2.2.1, 12, .inl (r2 6))), ((a 7), .inl (G.2.1, 12, .inl (r2 7))), ((a 8), .inl (G.2.1, 144, .inl (r2 8))), ((a 9), .inl (G.2.1, 144, .inl (r2 9))), ((a 10), .inl (G.2.1, 144, .inl (r2 10))), ((a 11), .inl (G.2.2.1, 144, .inl (r2 11))), ((a 12), .inl (G.2.1, 144, .inl (r2 12))), ((a 13), .inl (G.2.1, 144, .inl (r2 13))), ((a 14), .inl (G.2.1, 144, .inl (r2 14))), ((b 3), .inr (5, [.ref (b 0), .ref (b 1), .ref (b 2), .int rc2])), ((b 0), .inl (G.2.1, 25, .inl s2)), ((b 1), .inl (G.2.1, 25, .inl bf)), ((b 2), .inl (G.2.1, 25, .inl qu))]) A) ([.ref (a 15), .int (nI i), .int (nI j), .int wt] : List Value).toArray s 0 0 A) (F0 m 72 ls []) := by
    intro u0 t0 fl hu0 ht0 H locs ls hP hS hl
    have hD := D_as2 hP hD rfl
    have loop : ∀ (k n : Nat) (r2 : Nat → Nat → Int32) (s2 bf qu : Nat → Int32) (rc2 : Int32), n ≤ 1000000 → 1000000 < n + k → RB adjR s2 → ∀ (H : Heap) (locs : List Loc) (ls : Array Slot), PP G ([((a 15), .inr (2, [.int (f 0), .int (f 1), .int (f 2), .int (f 3), .int (f 4), .ref (b 3), .ref (a 6), .ref (a 7), .ref (a 8), .ref (a 9), .ref (a 10), .ref (a 11), .ref (a 12), .ref (a 13), .ref (a 14)])), ((a 6), .inl (G.2.2.1, 12, .inl (r2 6))), ((a 7), .inl (G.2.1, 12, .inl (r2 7))), ((a 8), .inl (G.2.1, 144, .inl (r2 8))), ((a 9), .inl (G.2.1, 144, .inl (r2 9))), ((a 10), .inl (G.2.1, 144, .inl (r2 10))), ((a 11), .inl (G.2.2.1, 144, .inl (r2 11))), ((a 12), .inl (G.2.1, 144, .inl (r2 12))), ((a 13), .inl (G.2.1, 144, .inl (r2 13))), ((a 14), .inl (G.2.1, 144, .inl (r2 14))), ((b 3), .inr (5, [.ref (b 0), .ref (b 1), .ref (b 2), .int rc2])), ((b 0), .inl (G.2.1, 25, .inl s2)), ((b 1), .inl (G.2.1, 25, .inl bf)), ((b 2), .inl (G.2.1, 25, .inl qu))]) H → va_S A s.heap H locs → lv_has ls 11 [(0, .ref (a 15)), (1, .int (nI i)), (2, .int (nI j)), (3, .int wt), (4, .int (nI (i * 12 + j))), (5, .int (nI (12 + j))), (6, .int fl), (7, .int (nI u0)), (8, .int (nI t0)), (9, .int (nI n))] → W p l e ({ frames := 3, cells := 0, slots := 0, locals := 77 }) s m ([.ref (a 15), .int (nI i), .int (nI j), .int wt] : List Value).toArray below meth c H locs 0 0 (MQ below (QwV G (fun w => ∃ (r2 : Nat → Nat → Int32) (s2 bf qu : Nat → Int32) (rc2 : Int32), RB adjR s2 ∧ w = [((a 15), .inr (2, [.int (f 0), .int (f 1), .int (f 2), .int (f 3), .int (f 4), .ref (b 3), .ref (a 6), .ref (a 7), .ref (a 8), .ref (a 9), .ref (a 10), .ref (a 11), .ref (a 12), .ref (a 13), .ref (a 14)])), ((a 6), .inl (G.2.2.1, 12, .inl (r2 6))), ((a 7), .inl (G.2.1, 12, .inl (r2 7))), ((a 8), .inl (G.2.1, 144, .inl (r2 8))), ((a 9), .inl (G.2.1, 144, .inl (r2 9))), ((a 10), .inl (G.2.1, 144, .inl (r2 10))), ((a 11), .inl (G.2.2.1, 144, .inl (r2 11))), ((a 12), .inl (G.2.1, 144, .inl (r2 12))), ((a 13), .inl (G.2.1, 144, .inl (r2 13))), ((a 14), .inl (G.2.1, 144, .inl (r2 14))), ((b 3), .inr (5, [.ref (b 0), .ref (b 1), .ref (b 2), .int rc2])), ((b 0), .inl (G.2.1, 25, .inl s2)), ((b 1), .inl (G.2.1, 25, .inl bf)), ((b 2), .inl (G.2.1, 25, .inl qu))]) A) ([.ref (a 15), .int (nI i), .int (nI j), .int wt] : List Value).toArray s 0 0 A) (F0 m 72 ls []) := by
      intro k
      induction k with
      | zero => intro n r2 s2 bf qu rc2 h1 h2; omega
      | succ k ih =>
        intro n r2 s2 bf qu rc2 hi_n hk_n hRB H locs ls hP hS hl
        have hD := D_as2 hP hD rfl
        refine lv_iload hx hb dX2_draw_72 (lv_at hl 9 rfl) ?_
        refine lv_ldc hx hb hown (hts _ mk_X2_124) dX2_draw_74 ?_
        refine lv_icmp_ge (tgt := 169) hx hb dX2_draw_76 (by decide) (fun c5 => ?_) (fun c5 => ?_)
        · exact wr_vret hx hb hr hlocks hS hP ⟨(fun k => match k with | 6 => (r2 6) | 7 => (r2 7) | 8 => (r2 8) | 9 => (r2 9) | 10 => (r2 10) | 11 => (r2 11) | 12 => (r2 12) | 13 => (r2 13) | 14 => (r2 14) | _ => (fun _ => 0)), _, _, _, _, hRB, rfl⟩ dX2_draw_169
        · have hltn := ge_f (b := 1000000) (by omega) (by omega) c5
          refine lv_aload_n hx hb dX2_draw_79 rfl (lv_at hl 0 rfl) ?_
          refine va_get (D := G.1) (ci := 2) (v := .ref (a 12)) (C := RX2) (T := TX2) (N := 15) hx hb hts inX2 hown hK.1 hP 0 rfl rfl 12 (by decide) (hts _ mf_X2_54) (fun _ h9 => h9) rfl dX2_draw_80 ?_
          refine lv_iload hx hb dX2_draw_83 (lv_at hl 4 rfl) ?_
          refine xiald hx hb hK hP 7 (i * 12 + j) (rfl) (by omega) (by omega) rfl dX2_draw_85 ?_
          refine lv_topi (fun v6 ev6 => ?_)
          refine lv_iload_n hx hb dX2_draw_86 rfl (lv_at hl 3 rfl) ?_
          refine lv_icmp_eq (tgt := 169) hx hb dX2_draw_87 (by decide) (fun c7 => ?_) (fun c7 => ?_)
          · exact wr_vret hx hb hr hlocks hS hP ⟨(fun k => match k with | 6 => (r2 6) | 7 => (r2 7) | 8 => (r2 8) | 9 => (r2 9) | 10 => (r2 10) | 11 => (r2 11) | 12 => (r2 12) | 13 => (r2 13) | 14 => (r2 14) | _ => (fun _ => 0)), _, _, _, _, hRB, rfl⟩ dX2_draw_169
          · refine lv_aload_n hx hb dX2_draw_90 rfl (lv_at hl 0 rfl) ?_
            refine va_get (D := G.1) (ci := 2) (v := .ref (b 3)) (C := RX2) (T := TX2) (N := 15) hx hb hts inX2 hown hK.1 hP 0 rfl rfl 5 (by decide) (hts _ mf_X2_30) (fun _ h9 => h9) rfl dX2_draw_91 ?_
            refine lv_iload hx hb dX2_draw_94 (lv_at hl 7 rfl) ?_
            refine lv_iload hx hb dX2_draw_96 (lv_at hl 8 rfl) ?_
            refine wrVI (rest := []) (q0 := 0) ⟨hx, hb, hml, hown, hts⟩ (c_X5_leads l G b (fun k => match k with | 0 => s2 | 1 => bf | _ => qu) rc2 adjR u0 t0 hu0 ht0 hRB) mi_yX5_leads mv_yX5_leads ml_X2_125 ⟨rfl, rfl, Nat.le_of_ble_eq_true rfl, Nat.le_of_ble_eq_true rfl⟩ hK hP hD [10, 11, 12, 13] rfl (by decide) rfl rfl rfl hl.1 rfl (Nat.le_of_ble_eq_true rfl) dX2_draw_98 ⟨Nat.zero_le _, Nat.zero_le _⟩ hS hA (fun r8 w9 H locs hw9 hP hS => ?_)
            obtain ⟨bb, qq, rc3, rfl, hz⟩ := hw9
            have hP : PP G [((a 15), .inr (2, [.int (f 0), .int (f 1), .int (f 2), .int (f 3), .int (f 4), .ref (b 3), .ref (a 6), .ref (a 7), .ref (a 8), .ref (a 9), .ref (a 10), .ref (a 11), .ref (a 12), .ref (a 13), .ref (a 14)])), ((a 6), .inl (G.2.2.1, 12, .inl (r2 6))), ((a 7), .inl (G.2.1, 12, .inl (r2 7))), ((a 8), .inl (G.2.1, 144, .inl (r2 8))), ((a 9), .inl (G.2.1, 144, .inl (r2 9))), ((a 10), .inl (G.2.1, 144, .inl (r2 10))), ((a 11), .inl (G.2.2.1, 144, .inl (r2 11))), ((a 12), .inl (G.2.1, 144, .inl (r2 12))), ((a 13), .inl (G.2.1, 144, .inl (r2 13))), ((a 14), .inl (G.2.1, 144, .inl (r2 14))), ((b 3), .inr (5, [.ref (b 0), .ref (b 1), .ref (b 2), .int rc3])), ((b 0), .inl (G.2.1, 25, .inl s2)), ((b 1), .inl (G.2.1, 25, .inl bb)), ((b 2), .inl (G.2.1, 25, .inl qq))] H := hP rfl
            have hD := D_as2 hP hD rfl
            refine lv_if_ne (tgt := 105) hx hb dX2_draw_101 (by decide) (fun c10 => ?_) (fun c10 => ?_)
            · have hch : wCh adjR u0 t0 bb := (hz.resolve_left c10).2
              refine lv_iload_n hx hb dX2_draw_105 rfl (lv_at hl 3 rfl) ?_
              refine lv_aload_n hx hb dX2_draw_106 rfl (lv_at hl 0 rfl) ?_
              refine va_get (D := G.1) (ci := 2) (v := .ref (a 12)) (C := RX2) (T := TX2) (N := 15) hx hb hts inX2 hown hK.1 hP 0 rfl rfl 12 (by decide) (hts _ mf_X2_54) (fun _ h9 => h9) rfl dX2_draw_107 ?_
              refine lv_iload hx hb dX2_draw_110 (lv_at hl 4 rfl) ?_
              refine xiald hx hb hK hP 7 (i * 12 + j) (rfl) (by omega) (by omega) rfl dX2_draw_112 ?_
              refine lv_topi (fun v11 ev11 => ?_)
              refine lv_isub hx hb dX2_draw_113 ?_
              refine lv_topi (fun v12 ev12 => ?_)
              refine va_mabs hx hb (hml.trans hl.1.symm) hown (hts _ ml_X2_128) (hts _ mst_yJ9_abs_0f7a4) (hts _ mz_RJ9) (hts _ mcode_yJ9_abs_0f7a4) (Nat.le_of_ble_eq_true rfl) (Nat.le_of_ble_eq_true rfl) (Nat.zero_le _) (Nat.zero_le _) dX2_draw_114 ?_
              refine lv_topi (fun v13 ev13 => ?_)
              refine lv_aload_n hx hb dX2_draw_117 rfl (lv_at hl 0 rfl) ?_
              refine lv_iload hx hb dX2_draw_118 (lv_at hl 7 rfl) ?_
              refine lv_iload hx hb dX2_draw_120 (lv_at hl 8 rfl) ?_
              refine rdV (rest := [.int v13]) (q0 := 0) ⟨hx, hb, hml, hown, hts⟩ (c_X2_room l G a b f r2 (fun k => match k with | 0 => s2 | 1 => bb | _ => qq) rc3 u0 t0 hu0 ht0 hch) mi_yX2_room mv_yX2_room ml_X2_133 ⟨rfl, rfl, Nat.le_of_ble_eq_true rfl, Nat.le_of_ble_eq_true rfl⟩ hK (hP) rfl rfl rfl hl.1 rfl (Nat.le_of_ble_eq_true rfl) dX2_draw_122 ⟨Nat.zero_le _, Nat.zero_le _⟩ hS hA hP (fun r14 H locs hr14 hP hS => ?_)
              refine va_mmin hx hb (hml.trans hl.1.symm) hown (hts _ ml_X2_136) (hts _ mst_yJ9_min_7cf53) (hts _ mz_RJ9) (hts _ mcode_yJ9_min_7cf53) (Nat.le_of_ble_eq_true rfl) (Nat.le_of_ble_eq_true rfl) (Nat.zero_le _) (Nat.zero_le _) dX2_draw_125 ?_
              refine lv_topi (fun v15 ev15 => ?_)
              refine lv_istore (lv' := [(10, .int v15), (0, .ref (a 15)), (1, .int (nI i)), (2, .int (nI j)), (3, .int wt), (4, .int (nI (i * 12 + j))), (5, .int (nI (12 + j))), (6, .int fl), (7, .int (nI u0)), (8, .int (nI t0)), (9, .int (nI n))]) hx hb dX2_draw_128 hl (by decide) rfl (fun ls hl => ?_)
              refine lv_aload_n hx hb dX2_draw_130 rfl (lv_at hl 1 rfl) ?_
              refine lv_iload hx hb dX2_draw_131 (lv_at hl 8 rfl) ?_
              refine lv_iload hx hb dX2_draw_133 (lv_at hl 9 rfl) ?_
              refine lv_iload hx hb dX2_draw_135 (lv_at hl 0 rfl) ?_
              refine wrVV (rest := []) (q0 := 0) ⟨hx, hb, hml, hown, hts⟩ (c_X2_shift l G a b f r2 (fun k => match k with | 0 => s2 | 1 => bb | _ => qq) rc3 u0 t0 hu0 ht0 v15 hch hRB) mi_yX2_shift mv_yX2_shift ml_X2_139 ⟨rfl, rfl, Nat.le_of_ble_eq_true rfl, Nat.le_of_ble_eq_true rfl⟩ hK hP hD [0, 1, 2, 3, 4, 5, 6, 7, 8, 9, 10, 11, 12, 13] rfl (by decide) rfl rfl rfl hl.1 rfl (Nat.le_of_ble_eq_true rfl) dX2_draw_137 ⟨Nat.zero_le _, Nat.zero_le _⟩ hS hA (fun w17 H locs hw17 hP hS => ?_)
              obtain ⟨r3, s3, hRB, rfl⟩ := hw17
              have h9_ := P_rg (s := 0) (hP rfl) rfl (Nat.le_of_ble_eq_true rfl)
              have hP : PP G [((a 15), .inr (2, [.int (f 0), .int (f 1), .int (f 2), .int (f 3), .int (f 4), .ref (b 3), .ref (a 6), .ref (a 7), .ref (a 8), .ref (a 9), .ref (a 10), .ref (a 11), .ref (a 12), .ref (a 13), .ref (a 14)])), ((a 6), .inl (G.2.2.1, 12, .inl (r3 6))), ((a 7), .inl (G.2.1, 12, .inl (r3 7))), ((a 8), .inl (G.2.1, 144, .inl (r3 8))), ((a 9), .inl (G.2.1, 144, .inl (r3 9))), ((a 10), .inl (G.2.1, 144, .inl (r3 10))), ((a 11), .inl (G.2.2.1, 144, .inl (r3 11))), ((a 12), .inl (G.2.1, 144, .inl (r3 12))), ((a 13), .inl (G.2.1, 144, .inl (r3 13))), ((a 14), .inl (G.2.1, 144, .inl (r3 14))), ((b 3), .inr (5, [.ref (b 0), .ref (b 1), .ref (b 2), .int rc3])), ((b 0), .inl (G.2.1, 25, .inl s3)), ((b 1), .inl (G.2.1, 25, .inl bb)), ((b 2), .inl (G.2.1, 25, .inl qq))] H := h9_
              have hD := D_as2 hP hD rfl
              refine lv_aload_n hx hb dX2_draw_140 rfl (lv_at hl 1 rfl) ?_
              refine va_get (D := G.1) (ci := 2) (v := .ref (a 12)) (C := RX2) (T := TX2) (N := 15) hx hb hts inX2 hown hK.1 hP 0 rfl rfl 12 (by decide) (hts _ mf_X2_54) (fun _ h9 => h9) rfl dX2_draw_141 ?_
              refine lv_iload hx hb dX2_draw_144 (lv_at hl 5 rfl) ?_
              refine lv_dup2_11 hx hb dX2_draw_146 rfl rfl ?_
              refine xiald hx hb hK hP 7 (i * 12 + j) (rfl) (by omega) (by omega) rfl dX2_draw_147 ?_
              refine lv_topi (fun v18 ev18 => ?_)
              refine lv_iload hx hb dX2_draw_148 (lv_at hl 7 rfl) ?_
              refine lv_if_eq (tgt := 159) hx hb dX2_draw_150 (by decide) (fun c19 => ?_) (fun c19 => ?_)
              · refine lv_iload hx hb dX2_draw_159 (lv_at hl 0 rfl) ?_
                refine lv_iadd hx hb dX2_draw_161 ?_
                refine lv_topi (fun v20 ev20 => ?_)
                refine xiast (x := v20) hx hb hK hP hD hS 7 (i * 12 + j) (rfl) (by omega) (by omega) rfl dX2_draw_162 (fun H locs hP hD hS => ?_)
                have hP : PP G [((a 15), .inr (2, [.int (f 0), .int (f 1), .int (f 2), .int (f 3), .int (f 4), .ref (b 3), .ref (a 6), .ref (a 7), .ref (a 8), .ref (a 9), .ref (a 10), .ref (a 11), .ref (a 12), .ref (a 13), .ref (a 14)])), ((a 6), .inl (G.2.2.1, 12, .inl (r3 6))), ((a 7), .inl (G.2.1, 12, .inl (r3 7))), ((a 8), .inl (G.2.1, 144, .inl (r3 8))), ((a 9), .inl (G.2.1, 144, .inl (r3 9))), ((a 10), .inl (G.2.1, 144, .inl (r3 10))), ((a 11), .inl (G.2.2.1, 144, .inl (r3 11))), ((a 12), .inl (G.2.1, 144, .inl (upd (r3 12) (i * 12 + j) (v20)))), ((a 13), .inl (G.2.1, 144, .inl (r3 13))), ((a 14), .inl (G.2.1, 144, .inl (r3 14))), ((b 3), .inr (5, [.ref (b 0), .ref (b 1), .ref (b 2), .int rc3])), ((b 0), .inl (G.2.1, 25, .inl s3)), ((b 1), .inl (G.2.1, 25, .inl bb)), ((b 2), .inl (G.2.1, 25, .inl qq))] H := hP
                have hD := D_as hP hD rfl
                obtain ⟨v21, ev21⟩ : ∃ y : Int32, y = (nI n) + Int32.ofInt (1) := ⟨_, rfl⟩
                refine lv_iinc (v := v21) (lv' := [(9, .int v21), (10, .int v15), (0, .ref (a 15)), (1, .int (nI i)), (2, .int (nI j)), (3, .int wt), (4, .int (nI (i * 12 + j))), (5, .int (nI (12 + j))), (6, .int fl), (7, .int (nI u0)), (8, .int (nI t0))]) hx hb dX2_draw_163 hl (k := 10) rfl ev21.symm (by decide) rfl (fun ls hl => ?_)
                refine lv_goto (tgt := 72) hx hb dX2_draw_166 (by decide) ?_
                exact ih (n + 1) (fun k => match k with | 6 => (r3 6) | 7 => (r3 7) | 8 => (r3 8) | 9 => (r3 9) | 10 => (r3 10) | 11 => (r3 11) | 12 => (upd (r3 12) (i * 12 + j) (v20)) | 13 => (r3 13) | 14 => (r3 14) | _ => (fun _ => 0)) _ _ _ _ (by omega) (by omega) hRB _ _ _ hP hS (by have e := nI_inc ev21; rw [e] at hl; exact lv_sub hl [2, 3, 4, 5, 6, 7, 8, 9, 10, 0] rfl)
              · refine lv_iload hx hb dX2_draw_153 (lv_at hl 0 rfl) ?_
                refine lv_ineg hx hb dX2_draw_155 ?_
                refine lv_topi (fun v22 ev22 => ?_)
                refine lv_goto (tgt := 161) hx hb dX2_draw_156 (by decide) ?_
                refine lv_iadd hx hb dX2_draw_161 ?_
                refine lv_topi (fun v23 ev23 => ?_)
                refine xiast (x := v23) hx hb hK hP hD hS 7 (i * 12 + j) (rfl) (by omega) (by omega) rfl dX2_draw_162 (fun H locs hP hD hS => ?_)
                have hP : PP G [((a 15), .inr (2, [.int (f 0), .int (f 1), .int (f 2), .int (f 3), .int (f 4), .ref (b 3), .ref (a 6), .ref (a 7), .ref (a 8), .ref (a 9), .ref (a 10), .ref (a 11), .ref (a 12), .ref (a 13), .ref (a 14)])), ((a 6), .inl (G.2.2.1, 12, .inl (r3 6))), ((a 7), .inl (G.2.1, 12, .inl (r3 7))), ((a 8), .inl (G.2.1, 144, .inl (r3 8))), ((a 9), .inl (G.2.1, 144, .inl (r3 9))), ((a 10), .inl (G.2.1, 144, .inl (r3 10))), ((a 11), .inl (G.2.2.1, 144, .inl (r3 11))), ((a 12), .inl (G.2.1, 144, .inl (upd (r3 12) (i * 12 + j) (v23)))), ((a 13), .inl (G.2.1, 144, .inl (r3 13))), ((a 14), .inl (G.2.1, 144, .inl (r3 14))), ((b 3), .inr (5, [.ref (b 0), .ref (b 1), .ref (b 2), .int rc3])), ((b 0), .inl (G.2.1, 25, .inl s3)), ((b 1), .inl (G.2.1, 25, .inl bb)), ((b 2), .inl (G.2.1, 25, .inl qq))] H := hP
                have hD := D_as hP hD rfl
                obtain ⟨v24, ev24⟩ : ∃ y : Int32, y = (nI n) + Int32.ofInt (1) := ⟨_, rfl⟩
                refine lv_iinc (v := v24) (lv' := [(9, .int v24), (10, .int v15), (0, .ref (a 15)), (1, .int (nI i)), (2, .int (nI j)), (3, .int wt), (4, .int (nI (i * 12 + j))), (5, .int (nI (12 + j))), (6, .int fl), (7, .int (nI u0)), (8, .int (nI t0))]) hx hb dX2_draw_163 hl (k := 10) rfl ev24.symm (by decide) rfl (fun ls hl => ?_)
                refine lv_goto (tgt := 72) hx hb dX2_draw_166 (by decide) ?_
                exact ih (n + 1) (fun k => match k with | 6 => (r3 6) | 7 => (r3 7) | 8 => (r3 8) | 9 => (r3 9) | 10 => (r3 10) | 11 => (r3 11) | 12 => (upd (r3 12) (i * 12 + j) (v23)) | 13 => (r3 13) | 14 => (r3 14) | _ => (fun _ => 0)) _ _ _ _ (by omega) (by omega) hRB _ _ _ hP hS (by have e := nI_inc ev24; rw [e] at hl; exact lv_sub hl [2, 3, 4, 5, 6, 7, 8, 9, 10, 0] rfl)
            · exact wr_vret hx hb hr hlocks hS hP ⟨(fun k => match k with | 6 => (r2 6) | 7 => (r2 7) | 8 => (r2 8) | 9 => (r2 9) | 10 => (r2 10) | 11 => (r2 11) | 12 => (r2 12) | 13 => (r2 13) | 14 => (r2 14) | _ => (fun _ => 0)), _, _, _, _, hRB, rfl⟩ dX2_draw_104
    exact loop 1000001 0 r (jnF (q 0) i (12 + j) 0 0) (q 1) (q 2) rc (Nat.zero_le _) (by omega) hRB _ _ _ hP hS (lv_sub hl [0, 1, 2, 3, 4, 5, 6, 7, 8, 9] rfl)
  refine lv_iload_n hx hb dX2_draw_25 rfl (lv_at hl 5 rfl) ?_
  refine lv_aload_n hx hb dX2_draw_26 rfl (lv_at hl 2 rfl) ?_
  refine va_get (D := G.1) (ci := 2) (v := .ref (a 12)) (C := RX2) (T := TX2) (N := 15) hx hb hts inX2 hown hK.1 hP 0 rfl rfl 12 (by decide) (hts _ mf_X2_54) (fun _ h9 => h9) rfl dX2_draw_27 ?_
  refine lv_iload hx hb dX2_draw_30 (lv_at hl 1 rfl) ?_
  refine xiald hx hb hK hP 7 (i * 12 + j) (rfl) (by omega) (by omega) rfl dX2_draw_32 ?_
  refine lv_topi (fun v25 ev25 => ?_)
  refine lv_icmp_ge (tgt := 40) hx hb dX2_draw_33 (by decide) (fun c26 => ?_) (fun c26 => ?_)
  · refine lv_iconst (v := 0) hx hb dX2_draw_40 (by decide) ?_
    refine lv_istore (lv' := [(6, .int 0), (5, .int (nI (12 + j))), (4, .int (nI (i * 12 + j))), (0, .ref (a 15)), (1, .int (nI i)), (2, .int (nI j)), (3, .int wt)]) hx hb dX2_draw_41 hl (by decide) rfl (fun ls hl => ?_)
    refine lv_iload hx hb dX2_draw_43 (lv_at hl 0 rfl) ?_
    refine lv_if_eq (tgt := 52) hx hb dX2_draw_45 (by decide) (fun _ => ?_) (fun c27 => absurd (by decide) c27)
    refine lv_iload hx hb dX2_draw_52 (lv_at hl 1 rfl) ?_
    refine lv_istore (lv' := [(7, .int (nI (12 + j))), (6, .int 0), (5, .int (nI (12 + j))), (4, .int (nI (i * 12 + j))), (0, .ref (a 15)), (1, .int (nI i)), (2, .int (nI j)), (3, .int wt)]) hx hb dX2_draw_54 hl (by decide) rfl (fun ls hl => ?_)
    refine lv_iload hx hb dX2_draw_56 (lv_at hl 1 rfl) ?_
    refine lv_if_eq (tgt := 66) hx hb dX2_draw_58 (by decide) (fun _ => ?_) (fun c28 => absurd (by decide) c28)
    refine lv_iload_n hx hb dX2_draw_66 rfl (lv_at hl 5 rfl) ?_
    refine lv_istore (lv' := [(8, .int (nI i)), (7, .int (nI (12 + j))), (6, .int 0), (5, .int (nI (12 + j))), (4, .int (nI (i * 12 + j))), (0, .ref (a 15)), (1, .int (nI i)), (2, .int (nI j)), (3, .int wt)]) hx hb dX2_draw_67 hl (by decide) rfl (fun ls hl => ?_)
    refine lv_iconst (v := 0) hx hb dX2_draw_69 (by decide) ?_
    refine lv_istore (lv' := [(9, .int 0), (8, .int (nI i)), (7, .int (nI (12 + j))), (6, .int 0), (5, .int (nI (12 + j))), (4, .int (nI (i * 12 + j))), (0, .ref (a 15)), (1, .int (nI i)), (2, .int (nI j)), (3, .int wt)]) hx hb dX2_draw_70 hl (by decide) rfl (fun ls hl => ?_)
    exact j72 (12 + j) i 0 (by omega) (by omega) _ _ _ hP hS (lv_sub hl [6, 7, 8, 9, 5, 4, 3, 2, 1, 0] rfl)
  · refine lv_iconst (v := 1) hx hb dX2_draw_36 (by decide) ?_
    refine lv_goto (tgt := 41) hx hb dX2_draw_37 (by decide) ?_
    refine lv_istore (lv' := [(6, .int 1), (5, .int (nI (12 + j))), (4, .int (nI (i * 12 + j))), (0, .ref (a 15)), (1, .int (nI i)), (2, .int (nI j)), (3, .int wt)]) hx hb dX2_draw_41 hl (by decide) rfl (fun ls hl => ?_)
    refine lv_iload hx hb dX2_draw_43 (lv_at hl 0 rfl) ?_
    refine lv_if_eq (tgt := 52) hx hb dX2_draw_45 (by decide) (fun c29 => absurd c29 (by decide)) (fun _ => ?_)
    refine lv_iload_n hx hb dX2_draw_48 rfl (lv_at hl 4 rfl) ?_
    refine lv_goto (tgt := 54) hx hb dX2_draw_49 (by decide) ?_
    refine lv_istore (lv' := [(7, .int (nI i)), (6, .int 1), (5, .int (nI (12 + j))), (4, .int (nI (i * 12 + j))), (0, .ref (a 15)), (1, .int (nI i)), (2, .int (nI j)), (3, .int wt)]) hx hb dX2_draw_54 hl (by decide) rfl (fun ls hl => ?_)
    refine lv_iload hx hb dX2_draw_56 (lv_at hl 1 rfl) ?_
    refine lv_if_eq (tgt := 66) hx hb dX2_draw_58 (by decide) (fun c30 => absurd c30 (by decide)) (fun _ => ?_)
    refine lv_iload hx hb dX2_draw_61 (lv_at hl 2 rfl) ?_
    refine lv_goto (tgt := 67) hx hb dX2_draw_63 (by decide) ?_
    refine lv_istore (lv' := [(8, .int (nI (12 + j))), (7, .int (nI i)), (6, .int 1), (5, .int (nI (12 + j))), (4, .int (nI (i * 12 + j))), (0, .ref (a 15)), (1, .int (nI i)), (2, .int (nI j)), (3, .int wt)]) hx hb dX2_draw_67 hl (by decide) rfl (fun ls hl => ?_)
    refine lv_iconst (v := 0) hx hb dX2_draw_69 (by decide) ?_
    refine lv_istore (lv' := [(9, .int 0), (8, .int (nI (12 + j))), (7, .int (nI i)), (6, .int 1), (5, .int (nI (12 + j))), (4, .int (nI (i * 12 + j))), (0, .ref (a 15)), (1, .int (nI i)), (2, .int (nI j)), (3, .int wt)]) hx hb dX2_draw_70 hl (by decide) rfl (fun ls hl => ?_)
    exact j72 i (12 + j) 1 (by omega) (by omega) _ _ _ hP hS (lv_sub hl [6, 7, 8, 9, 5, 4, 3, 2, 1, 0] rfl)
