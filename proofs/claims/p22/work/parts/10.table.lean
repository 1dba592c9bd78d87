theorem ml_X4_73 : Cond.methodLink RX4 73 yX4_giversAt ∈ TB := TB_t2 131 rfl rfl
theorem mcode_yX4_giversAt : Cond.code yX4_giversAt cX4_giversAt 4 (some .int) ∈ TB := TB_t2 134 rfl rfl
theorem mi_yX4_giversAt : MI yX4_giversAt cX4_giversAt 4 (some .int) 1 := ⟨mz_RX4, mcode_yX4_giversAt, by decide +kernel, by decide +kernel, by decide +kernel⟩
theorem mim_yX4_giversAt : Cond.instanceMethod yX4_giversAt ∈ TB := TB_t2 132 rfl rfl
theorem msel_yX4_giversAt : Cond.selects yX4_giversAt.cls yX4_giversAt yX4_giversAt ∈ TB := TB_t2 133 rfl rfl
theorem mv_yX4_giversAt : Cond.instanceMethod yX4_giversAt ∈ TB ∧ Cond.selects yX4_giversAt.cls yX4_giversAt yX4_giversAt ∈ TB := ⟨mim_yX4_giversAt, msel_yX4_giversAt⟩
theorem ml_X4_88 : Cond.methodLink RX4 88 yX4_leftByTwo ∈ TB := TB_t3 5 rfl rfl
theorem mcode_yX4_leftByTwo : Cond.code yX4_leftByTwo cX4_leftByTwo 6 (some .int) ∈ TB := TB_t3 8 rfl rfl
theorem mi_yX4_leftByTwo : MI yX4_leftByTwo cX4_leftByTwo 6 (some .int) 1 := ⟨mz_RX4, mcode_yX4_leftByTwo, by decide +kernel, by decide +kernel, by decide +kernel⟩
theorem mim_yX4_leftByTwo : Cond.instanceMethod yX4_leftByTwo ∈ TB := TB_t3 7 rfl rfl
theorem msel_yX4_leftByTwo : Cond.selects yX4_leftByTwo.cls yX4_leftByTwo yX4_leftByTwo ∈ TB := TB_s (n := 12) 10 (by decide +kernel)
theorem mv_yX4_leftByTwo : Cond.instanceMethod yX4_leftByTwo ∈ TB ∧ Cond.selects yX4_leftByTwo.cls yX4_leftByTwo yX4_leftByTwo ∈ TB := ⟨mim_yX4_leftByTwo, msel_yX4_leftByTwo⟩
theorem ml_X4_84 : Cond.methodLink RX4 84 yX4_wasTold ∈ TB := TB_t3 1 rfl rfl
theorem mcode_yX4_wasTold : Cond.code yX4_wasTold cX4_wasTold 3 (some .boolean) ∈ TB := TB_t3 4 rfl rfl
theorem mi_yX4_wasTold : MI yX4_wasTold cX4_wasTold 3 (some .boolean) 2 := ⟨mz_RX4, mcode_yX4_wasTold, by decide +kernel, by decide +kernel, by decide +kernel⟩
theorem mim_yX4_wasTold : Cond.instanceMethod yX4_wasTold ∈ TB := TB_t3 2 rfl rfl
theorem msel_yX4_wasTold : Cond.selects yX4_wasTold.cls yX4_wasTold yX4_wasTold ∈ TB := TB_t3 3 rfl rfl
theorem mv_yX4_wasTold : Cond.instanceMethod yX4_wasTold ∈ TB ∧ Cond.selects yX4_wasTold.cls yX4_wasTold yX4_wasTold ∈ TB := ⟨mim_yX4_wasTold, msel_yX4_wasTold⟩
theorem ml_X4_91 : Cond.methodLink RX4 91 yX4_reasons ∈ TB := TB_t3 17 rfl rfl
theorem mcode_yX4_reasons : Cond.code yX4_reasons cX4_reasons 4 (some .int) ∈ TB := TB_t3 0 rfl rfl
theorem mi_yX4_reasons : MI yX4_reasons cX4_reasons 4 (some .int) 1 := ⟨mz_RX4, mcode_yX4_reasons, by decide +kernel, by decide +kernel, by decide +kernel⟩
theorem mim_yX4_reasons : Cond.instanceMethod yX4_reasons ∈ TB := TB_t2 238 rfl rfl
theorem msel_yX4_reasons : Cond.selects yX4_reasons.cls yX4_reasons yX4_reasons ∈ TB := TB_t2 239 rfl rfl
theorem mv_yX4_reasons : Cond.instanceMethod yX4_reasons ∈ TB ∧ Cond.selects yX4_reasons.cls yX4_reasons yX4_reasons ∈ TB := ⟨mim_yX4_reasons, msel_yX4_reasons⟩
theorem kcX4_wasTold_0 : CHb cX4_wasTold 0 [42, 180, 0, 35, 27, 46, 28, 126, 153, 0, 7, 4, 167, 0, 4, 3, 172] := CHb_of (by decide +kernel)
theorem dX4_wasTold_0 : decode cX4_wasTold 0 = .ok (.aload_n 0, 1) := dw_42 (kcX4_wasTold_0 0 42 rfl)
theorem dX4_wasTold_1 : decode cX4_wasTold 1 = .ok (.getfield 35, 3) := dw_180 (kcX4_wasTold_0 1 180 rfl) (kcX4_wasTold_0 2 0 rfl) (kcX4_wasTold_0 3 35 rfl) rfl
theorem dX4_wasTold_4 : decode cX4_wasTold 4 = .ok (.iload_n 1, 1) := dw_27 (kcX4_wasTold_0 4 27 rfl)
theorem dX4_wasTold_5 : decode cX4_wasTold 5 = .ok (.iaload, 1) := dw_46 (kcX4_wasTold_0 5 46 rfl)
theorem dX4_wasTold_6 : decode cX4_wasTold 6 = .ok (.iload_n 2, 1) := dw_28 (kcX4_wasTold_0 6 28 rfl)
theorem dX4_wasTold_7 : decode cX4_wasTold 7 = .ok (.iand, 1) := dw_126 (kcX4_wasTold_0 7 126 rfl)
theorem dX4_wasTold_8 : decode cX4_wasTold 8 = .ok (.ifCond .eq 7, 3) := dw_153 (kcX4_wasTold_0 8 153 rfl) (kcX4_wasTold_0 9 0 rfl) (kcX4_wasTold_0 10 7 rfl) rfl
theorem dX4_wasTold_15 : decode cX4_wasTold 15 = .ok (.iconst 0, 1) := dw_3 (kcX4_wasTold_0 15 3 rfl)
theorem dX4_wasTold_16 : decode cX4_wasTold 16 = .ok (.ireturn, 1) := dw_172 (kcX4_wasTold_0 16 172 rfl)
theorem dX4_wasTold_11 : decode cX4_wasTold 11 = .ok (.iconst 1, 1) := dw_4 (kcX4_wasTold_0 11 4 rfl)
theorem dX4_wasTold_12 : decode cX4_wasTold 12 = .ok (.goto 4, 3) := dw_167 (kcX4_wasTold_0 12 167 rfl) (kcX4_wasTold_0 13 0 rfl) (kcX4_wasTold_0 14 4 rfl) rfl
theorem kcX4_tell_0 : CHb cX4_tell 0 [42, 180, 0, 35, 27, 29, 153, 0, 14, 42, 180, 0, 35, 27, 46, 28, 128, 167, 0, 13, 42, 180, 0, 35, 27, 46, 28, 2, 130, 126, 79, 177] := CHb_of (by decide +kernel)
theorem dX4_tell_0 : decode cX4_tell 0 = .ok (.aload_n 0, 1) := dw_42 (kcX4_tell_0 0 42 rfl)
theorem dX4_tell_1 : decode cX4_tell 1 = .ok (.getfield 35, 3) := dw_180 (kcX4_tell_0 1 180 rfl) (kcX4_tell_0 2 0 rfl) (kcX4_tell_0 3 35 rfl) rfl
theorem dX4_tell_4 : decode cX4_tell 4 = .ok (.iload_n 1, 1) := dw_27 (kcX4_tell_0 4 27 rfl)
theorem dX4_tell_5 : decode cX4_tell 5 = .ok (.iload_n 3, 1) := dw_29 (kcX4_tell_0 5 29 rfl)
theorem dX4_tell_6 : decode cX4_tell 6 = .ok (.ifCond .eq 14, 3) := dw_153 (kcX4_tell_0 6 153 rfl) (kcX4_tell_0 7 0 rfl) (kcX4_tell_0 8 14 rfl) rfl
theorem dX4_tell_20 : decode cX4_tell 20 = .ok (.aload_n 0, 1) := dw_42 (kcX4_tell_0 20 42 rfl)
theorem dX4_tell_21 : decode cX4_tell 21 = .ok (.getfield 35, 3) := dw_180 (kcX4_tell_0 21 180 rfl) (kcX4_tell_0 22 0 rfl) (kcX4_tell_0 23 35 rfl) rfl
theorem dX4_tell_24 : decode cX4_tell 24 = .ok (.iload_n 1, 1) := dw_27 (kcX4_tell_0 24 27 rfl)
theorem dX4_tell_25 : decode cX4_tell 25 = .ok (.iaload, 1) := dw_46 (kcX4_tell_0 25 46 rfl)
theorem dX4_tell_26 : decode cX4_tell 26 = .ok (.iload_n 2, 1) := dw_28 (kcX4_tell_0 26 28 rfl)
theorem dX4_tell_27 : decode cX4_tell 27 = .ok (.iconst (-1), 1) := dw_2 (kcX4_tell_0 27 2 rfl)
theorem dX4_tell_28 : decode cX4_tell 28 = .ok (.ixor, 1) := dw_130 (kcX4_tell_0 28 130 rfl)
theorem dX4_tell_29 : decode cX4_tell 29 = .ok (.iand, 1) := dw_126 (kcX4_tell_0 29 126 rfl)
theorem dX4_tell_30 : decode cX4_tell 30 = .ok (.iastore, 1) := dw_79 (kcX4_tell_0 30 79 rfl)
theorem dX4_tell_31 : decode cX4_tell 31 = .ok (.return_, 1) := dw_177 (kcX4_tell_0 31 177 rfl)
theorem dX4_tell_9 : decode cX4_tell 9 = .ok (.aload_n 0, 1) := dw_42 (kcX4_tell_0 9 42 rfl)
theorem dX4_tell_10 : decode cX4_tell 10 = .ok (.getfield 35, 3) := dw_180 (kcX4_tell_0 10 180 rfl) (kcX4_tell_0 11 0 rfl) (kcX4_tell_0 12 35 rfl) rfl
theorem dX4_tell_13 : decode cX4_tell 13 = .ok (.iload_n 1, 1) := dw_27 (kcX4_tell_0 13 27 rfl)
theorem dX4_tell_14 : decode cX4_tell 14 = .ok (.iaload, 1) := dw_46 (kcX4_tell_0 14 46 rfl)
theorem dX4_tell_15 : decode cX4_tell 15 = .ok (.iload_n 2, 1) := dw_28 (kcX4_tell_0 15 28 rfl)
theorem dX4_tell_16 : decode cX4_tell 16 = .ok (.ior, 1) := dw_128 (kcX4_tell_0 16 128 rfl)
theorem dX4_tell_17 : decode cX4_tell 17 = .ok (.goto 13, 3) := dw_167 (kcX4_tell_0 17 167 rfl) (kcX4_tell_0 18 0 rfl) (kcX4_tell_0 19 13 rfl) rfl
theorem kcX4_giversAt_0 : CHb cX4_giversAt 0 [3, 61, 3, 62, 29, 16, 6, 162, 0, 31, 28, 42, 180, 0, 38, 27, 16, 6, 104, 29, 96, 46, 158, 0, 7, 4, 167, 0, 4, 3, 96, 61, 132, 3, 1, 167, 255, 225, 28, 172] := CHb_of (by decide +kernel)
theorem dX4_giversAt_0 : decode cX4_giversAt 0 = .ok (.iconst 0, 1) := dw_3 (kcX4_giversAt_0 0 3 rfl)
theorem dX4_giversAt_1 : decode cX4_giversAt 1 = .ok (.istore_n 2, 1) := dw_61 (kcX4_giversAt_0 1 61 rfl)
theorem dX4_giversAt_2 : decode cX4_giversAt 2 = .ok (.iconst 0, 1) := dw_3 (kcX4_giversAt_0 2 3 rfl)
theorem dX4_giversAt_3 : decode cX4_giversAt 3 = .ok (.istore_n 3, 1) := dw_62 (kcX4_giversAt_0 3 62 rfl)
theorem dX4_giversAt_4 : decode cX4_giversAt 4 = .ok (.iload_n 3, 1) := dw_29 (kcX4_giversAt_0 4 29 rfl)
theorem dX4_giversAt_5 : decode cX4_giversAt 5 = .ok (.bipush 6, 2) := dw_16 (kcX4_giversAt_0 5 16 rfl) (kcX4_giversAt_0 6 6 rfl) rfl
theorem dX4_giversAt_7 : decode cX4_giversAt 7 = .ok (.if_icmp .ge 31, 3) := dw_162 (kcX4_giversAt_0 7 162 rfl) (kcX4_giversAt_0 8 0 rfl) (kcX4_giversAt_0 9 31 rfl) rfl
theorem dX4_giversAt_38 : decode cX4_giversAt 38 = .ok (.iload_n 2, 1) := dw_28 (kcX4_giversAt_0 38 28 rfl)
theorem dX4_giversAt_39 : decode cX4_giversAt 39 = .ok (.ireturn, 1) := dw_172 (kcX4_giversAt_0 39 172 rfl)
theorem dX4_giversAt_10 : decode cX4_giversAt 10 = .ok (.iload_n 2, 1) := dw_28 (kcX4_giversAt_0 10 28 rfl)
theorem dX4_giversAt_11 : decode cX4_giversAt 11 = .ok (.aload_n 0, 1) := dw_42 (kcX4_giversAt_0 11 42 rfl)
theorem dX4_giversAt_12 : decode cX4_giversAt 12 = .ok (.getfield 38, 3) := dw_180 (kcX4_giversAt_0 12 180 rfl) (kcX4_giversAt_0 13 0 rfl) (kcX4_giversAt_0 14 38 rfl) rfl
theorem dX4_giversAt_15 : decode cX4_giversAt 15 = .ok (.iload_n 1, 1) := dw_27 (kcX4_giversAt_0 15 27 rfl)
theorem dX4_giversAt_16 : decode cX4_giversAt 16 = .ok (.bipush 6, 2) := dw_16 (kcX4_giversAt_0 16 16 rfl) (kcX4_giversAt_0 17 6 rfl) rfl
theorem dX4_giversAt_18 : decode cX4_giversAt 18 = .ok (.imul, 1) := dw_104 (kcX4_giversAt_0 18 104 rfl)
theorem dX4_giversAt_19 : decode cX4_giversAt 19 = .ok (.iload_n 3, 1) := dw_29 (kcX4_giversAt_0 19 29 rfl)
theorem dX4_giversAt_20 : decode cX4_giversAt 20 = .ok (.iadd, 1) := dw_96 (kcX4_giversAt_0 20 96 rfl)
theorem dX4_giversAt_21 : decode cX4_giversAt 21 = .ok (.iaload, 1) := dw_46 (kcX4_giversAt_0 21 46 rfl)
theorem dX4_giversAt_22 : decode cX4_giversAt 22 = .ok (.ifCond .le 7, 3) := dw_158 (kcX4_giversAt_0 22 158 rfl) (kcX4_giversAt_0 23 0 rfl) (kcX4_giversAt_0 24 7 rfl) rfl
theorem dX4_giversAt_29 : decode cX4_giversAt 29 = .ok (.iconst 0, 1) := dw_3 (kcX4_giversAt_0 29 3 rfl)
theorem dX4_giversAt_30 : decode cX4_giversAt 30 = .ok (.iadd, 1) := dw_96 (kcX4_giversAt_0 30 96 rfl)
theorem dX4_giversAt_31 : decode cX4_giversAt 31 = .ok (.istore_n 2, 1) := dw_61 (kcX4_giversAt_0 31 61 rfl)
theorem dX4_giversAt_32 : decode cX4_giversAt 32 = .ok (.iinc 3 1, 3) := dw_132 (kcX4_giversAt_0 32 132 rfl) (kcX4_giversAt_0 33 3 rfl) (kcX4_giversAt_0 34 1 rfl) rfl
theorem dX4_giversAt_35 : decode cX4_giversAt 35 = .ok (.goto (-31), 3) := dw_167 (kcX4_giversAt_0 35 167 rfl) (kcX4_giversAt_0 36 255 rfl) (kcX4_giversAt_0 37 225 rfl) rfl
theorem dX4_giversAt_25 : decode cX4_giversAt 25 = .ok (.iconst 1, 1) := dw_4 (kcX4_giversAt_0 25 4 rfl)
theorem dX4_giversAt_26 : decode cX4_giversAt 26 = .ok (.goto 4, 3) := dw_167 (kcX4_giversAt_0 26 167 rfl) (kcX4_giversAt_0 27 0 rfl) (kcX4_giversAt_0 28 4 rfl) rfl
theorem kcX4_rowSum_0 : CHb cX4_rowSum 0 [3, 61, 3, 62, 29, 42, 180, 0, 19, 162, 0, 22, 28, 42, 180, 0, 32, 27, 29, 184, 0, 65, 46, 96, 61, 132, 3, 1, 167, 255, 232, 28, 172] := CHb_of (by decide +kernel)
theorem dX4_rowSum_0 : decode cX4_rowSum 0 = .ok (.iconst 0, 1) := dw_3 (kcX4_rowSum_0 0 3 rfl)
theorem dX4_rowSum_1 : decode cX4_rowSum 1 = .ok (.istore_n 2, 1) := dw_61 (kcX4_rowSum_0 1 61 rfl)
theorem dX4_rowSum_2 : decode cX4_rowSum 2 = .ok (.iconst 0, 1) := dw_3 (kcX4_rowSum_0 2 3 rfl)
theorem dX4_rowSum_3 : decode cX4_rowSum 3 = .ok (.istore_n 3, 1) := dw_62 (kcX4_rowSum_0 3 62 rfl)
theorem dX4_rowSum_4 : decode cX4_rowSum 4 = .ok (.iload_n 3, 1) := dw_29 (kcX4_rowSum_0 4 29 rfl)
theorem dX4_rowSum_5 : decode cX4_rowSum 5 = .ok (.aload_n 0, 1) := dw_42 (kcX4_rowSum_0 5 42 rfl)
theorem dX4_rowSum_6 : decode cX4_rowSum 6 = .ok (.getfield 19, 3) := dw_180 (kcX4_rowSum_0 6 180 rfl) (kcX4_rowSum_0 7 0 rfl) (kcX4_rowSum_0 8 19 rfl) rfl
theorem dX4_rowSum_9 : decode cX4_rowSum 9 = .ok (.if_icmp .ge 22, 3) := dw_162 (kcX4_rowSum_0 9 162 rfl) (kcX4_rowSum_0 10 0 rfl) (kcX4_rowSum_0 11 22 rfl) rfl
theorem dX4_rowSum_31 : decode cX4_rowSum 31 = .ok (.iload_n 2, 1) := dw_28 (kcX4_rowSum_0 31 28 rfl)
theorem dX4_rowSum_32 : decode cX4_rowSum 32 = .ok (.ireturn, 1) := dw_172 (kcX4_rowSum_0 32 172 rfl)
theorem dX4_rowSum_12 : decode cX4_rowSum 12 = .ok (.iload_n 2, 1) := dw_28 (kcX4_rowSum_0 12 28 rfl)
theorem dX4_rowSum_13 : decode cX4_rowSum 13 = .ok (.aload_n 0, 1) := dw_42 (kcX4_rowSum_0 13 42 rfl)
theorem dX4_rowSum_14 : decode cX4_rowSum 14 = .ok (.getfield 32, 3) := dw_180 (kcX4_rowSum_0 14 180 rfl) (kcX4_rowSum_0 15 0 rfl) (kcX4_rowSum_0 16 32 rfl) rfl
theorem dX4_rowSum_17 : decode cX4_rowSum 17 = .ok (.iload_n 1, 1) := dw_27 (kcX4_rowSum_0 17 27 rfl)
theorem dX4_rowSum_18 : decode cX4_rowSum 18 = .ok (.iload_n 3, 1) := dw_29 (kcX4_rowSum_0 18 29 rfl)
theorem dX4_rowSum_19 : decode cX4_rowSum 19 = .ok (.invokestatic 65, 3) := dw_184 (kcX4_rowSum_0 19 184 rfl) (kcX4_rowSum_0 20 0 rfl) (kcX4_rowSum_0 21 65 rfl) rfl
theorem dX4_rowSum_22 : decode cX4_rowSum 22 = .ok (.iaload, 1) := dw_46 (kcX4_rowSum_0 22 46 rfl)
theorem dX4_rowSum_23 : decode cX4_rowSum 23 = .ok (.iadd, 1) := dw_96 (kcX4_rowSum_0 23 96 rfl)
theorem dX4_rowSum_24 : decode cX4_rowSum 24 = .ok (.istore_n 2, 1) := dw_61 (kcX4_rowSum_0 24 61 rfl)
theorem dX4_rowSum_25 : decode cX4_rowSum 25 = .ok (.iinc 3 1, 3) := dw_132 (kcX4_rowSum_0 25 132 rfl) (kcX4_rowSum_0 26 3 rfl) (kcX4_rowSum_0 27 1 rfl) rfl
theorem dX4_rowSum_28 : decode cX4_rowSum 28 = .ok (.goto (-24), 3) := dw_167 (kcX4_rowSum_0 28 167 rfl) (kcX4_rowSum_0 29 255 rfl) (kcX4_rowSum_0 30 232 rfl) rfl
theorem kcX4_isSound_0 : CHb cX4_isSound 0 [42, 180, 0, 25, 27, 46, 42, 180, 0, 19, 162, 0, 5, 3, 172, 3, 61, 28, 42, 180, 0, 19, 162, 0, 31, 42, 180, 0, 29, 27, 28, 184, 0, 65, 46, 62, 29, 153, 0, 8, 29, 8, 160, 0, 5, 3, 172, 132, 2, 1, 167, 255, 223, 4, 172] := CHb_of (by decide +kernel)
theorem dX4_isSound_0 : decode cX4_isSound 0 = .ok (.aload_n 0, 1) := dw_42 (kcX4_isSound_0 0 42 rfl)
theorem dX4_isSound_1 : decode cX4_isSound 1 = .ok (.getfield 25, 3) := dw_180 (kcX4_isSound_0 1 180 rfl) (kcX4_isSound_0 2 0 rfl) (kcX4_isSound_0 3 25 rfl) rfl
theorem dX4_isSound_4 : decode cX4_isSound 4 = .ok (.iload_n 1, 1) := dw_27 (kcX4_isSound_0 4 27 rfl)
theorem dX4_isSound_5 : decode cX4_isSound 5 = .ok (.iaload, 1) := dw_46 (kcX4_isSound_0 5 46 rfl)
theorem dX4_isSound_6 : decode cX4_isSound 6 = .ok (.aload_n 0, 1) := dw_42 (kcX4_isSound_0 6 42 rfl)
theorem dX4_isSound_7 : decode cX4_isSound 7 = .ok (.getfield 19, 3) := dw_180 (kcX4_isSound_0 7 180 rfl) (kcX4_isSound_0 8 0 rfl) (kcX4_isSound_0 9 19 rfl) rfl
theorem dX4_isSound_10 : decode cX4_isSound 10 = .ok (.if_icmp .ge 5, 3) := dw_162 (kcX4_isSound_0 10 162 rfl) (kcX4_isSound_0 11 0 rfl) (kcX4_isSound_0 12 5 rfl) rfl
theorem dX4_isSound_15 : decode cX4_isSound 15 = .ok (.iconst 0, 1) := dw_3 (kcX4_isSound_0 15 3 rfl)
theorem dX4_isSound_16 : decode cX4_isSound 16 = .ok (.istore_n 2, 1) := dw_61 (kcX4_isSound_0 16 61 rfl)
theorem dX4_isSound_17 : decode cX4_isSound 17 = .ok (.iload_n 2, 1) := dw_28 (kcX4_isSound_0 17 28 rfl)
theorem dX4_isSound_18 : decode cX4_isSound 18 = .ok (.aload_n 0, 1) := dw_42 (kcX4_isSound_0 18 42 rfl)
theorem dX4_isSound_19 : decode cX4_isSound 19 = .ok (.getfield 19, 3) := dw_180 (kcX4_isSound_0 19 180 rfl) (kcX4_isSound_0 20 0 rfl) (kcX4_isSound_0 21 19 rfl) rfl
theorem dX4_isSound_22 : decode cX4_isSound 22 = .ok (.if_icmp .ge 31, 3) := dw_162 (kcX4_isSound_0 22 162 rfl) (kcX4_isSound_0 23 0 rfl) (kcX4_isSound_0 24 31 rfl) rfl
theorem dX4_isSound_53 : decode cX4_isSound 53 = .ok (.iconst 1, 1) := dw_4 (kcX4_isSound_0 53 4 rfl)
theorem dX4_isSound_54 : decode cX4_isSound 54 = .ok (.ireturn, 1) := dw_172 (kcX4_isSound_0 54 172 rfl)
theorem dX4_isSound_25 : decode cX4_isSound 25 = .ok (.aload_n 0, 1) := dw_42 (kcX4_isSound_0 25 42 rfl)
theorem dX4_isSound_26 : decode cX4_isSound 26 = .ok (.getfield 29, 3) := dw_180 (kcX4_isSound_0 26 180 rfl) (kcX4_isSound_0 27 0 rfl) (kcX4_isSound_0 28 29 rfl) rfl
theorem dX4_isSound_29 : decode cX4_isSound 29 = .ok (.iload_n 1, 1) := dw_27 (kcX4_isSound_0 29 27 rfl)
theorem dX4_isSound_30 : decode cX4_isSound 30 = .ok (.iload_n 2, 1) := dw_28 (kcX4_isSound_0 30 28 rfl)
theorem dX4_isSound_31 : decode cX4_isSound 31 = .ok (.invokestatic 65, 3) := dw_184 (kcX4_isSound_0 31 184 rfl) (kcX4_isSound_0 32 0 rfl) (kcX4_isSound_0 33 65 rfl) rfl
theorem dX4_isSound_34 : decode cX4_isSound 34 = .ok (.iaload, 1) := dw_46 (kcX4_isSound_0 34 46 rfl)
theorem dX4_isSound_35 : decode cX4_isSound 35 = .ok (.istore_n 3, 1) := dw_62 (kcX4_isSound_0 35 62 rfl)
theorem dX4_isSound_36 : decode cX4_isSound 36 = .ok (.iload_n 3, 1) := dw_29 (kcX4_isSound_0 36 29 rfl)
theorem dX4_isSound_37 : decode cX4_isSound 37 = .ok (.ifCond .eq 8, 3) := dw_153 (kcX4_isSound_0 37 153 rfl) (kcX4_isSound_0 38 0 rfl) (kcX4_isSound_0 39 8 rfl) rfl
theorem dX4_isSound_45 : decode cX4_isSound 45 = .ok (.iconst 0, 1) := dw_3 (kcX4_isSound_0 45 3 rfl)
theorem dX4_isSound_46 : decode cX4_isSound 46 = .ok (.ireturn, 1) := dw_172 (kcX4_isSound_0 46 172 rfl)
theorem dX4_isSound_40 : decode cX4_isSound 40 = .ok (.iload_n 3, 1) := dw_29 (kcX4_isSound_0 40 29 rfl)
theorem dX4_isSound_41 : decode cX4_isSound 41 = .ok (.iconst 5, 1) := dw_8 (kcX4_isSound_0 41 8 rfl)
theorem dX4_isSound_42 : decode cX4_isSound 42 = .ok (.if_icmp .ne 5, 3) := dw_160 (kcX4_isSound_0 42 160 rfl) (kcX4_isSound_0 43 0 rfl) (kcX4_isSound_0 44 5 rfl) rfl
theorem dX4_isSound_47 : decode cX4_isSound 47 = .ok (.iinc 2 1, 3) := dw_132 (kcX4_isSound_0 47 132 rfl) (kcX4_isSound_0 48 2 rfl) (kcX4_isSound_0 49 1 rfl) rfl
theorem dX4_isSound_50 : decode cX4_isSound 50 = .ok (.goto (-33), 3) := dw_167 (kcX4_isSound_0 50 167 rfl) (kcX4_isSound_0 51 255 rfl) (kcX4_isSound_0 52 223 rfl) rfl
theorem dX4_isSound_13 : decode cX4_isSound 13 = .ok (.iconst 0, 1) := dw_3 (kcX4_isSound_0 13 3 rfl)
theorem dX4_isSound_14 : decode cX4_isSound 14 = .ok (.ireturn, 1) := dw_172 (kcX4_isSound_0 14 172 rfl)
theorem kcX4_leftByTwo_0 : CHb cX4_leftByTwo 0 [3, 61, 3, 62, 3, 54, 4, 21, 4, 16, 6, 162, 0, 46, 42, 180, 0, 38, 27, 16, 6, 104, 21, 4, 96, 46, 54, 5, 21, 5, 28, 164, 0, 11, 28, 62, 21, 5, 61, 167, 0, 12, 21, 5, 29, 164, 0, 6, 21, 5, 62, 132, 4, 1, 167, 255, 209, 42, 180, 0, 32, 27, 46, 28] := CHb_of (by decide +kernel)
theorem dX4_leftByTwo_0 : decode cX4_leftByTwo 0 = .ok (.iconst 0, 1) := dw_3 (kcX4_leftByTwo_0 0 3 rfl)
theorem dX4_leftByTwo_1 : decode cX4_leftByTwo 1 = .ok (.istore_n 2, 1) := dw_61 (kcX4_leftByTwo_0 1 61 rfl)
theorem dX4_leftByTwo_2 : decode cX4_leftByTwo 2 = .ok (.iconst 0, 1) := dw_3 (kcX4_leftByTwo_0 2 3 rfl)
theorem dX4_leftByTwo_3 : decode cX4_leftByTwo 3 = .ok (.istore_n 3, 1) := dw_62 (kcX4_leftByTwo_0 3 62 rfl)
theorem dX4_leftByTwo_4 : decode cX4_leftByTwo 4 = .ok (.iconst 0, 1) := dw_3 (kcX4_leftByTwo_0 4 3 rfl)
theorem dX4_leftByTwo_5 : decode cX4_leftByTwo 5 = .ok (.istore 4, 2) := dw_54 (kcX4_leftByTwo_0 5 54 rfl) (kcX4_leftByTwo_0 6 4 rfl)
theorem dX4_leftByTwo_7 : decode cX4_leftByTwo 7 = .ok (.iload 4, 2) := dw_21 (kcX4_leftByTwo_0 7 21 rfl) (kcX4_leftByTwo_0 8 4 rfl)
theorem dX4_leftByTwo_9 : decode cX4_leftByTwo 9 = .ok (.bipush 6, 2) := dw_16 (kcX4_leftByTwo_0 9 16 rfl) (kcX4_leftByTwo_0 10 6 rfl) rfl
theorem dX4_leftByTwo_11 : decode cX4_leftByTwo 11 = .ok (.if_icmp .ge 46, 3) := dw_162 (kcX4_leftByTwo_0 11 162 rfl) (kcX4_leftByTwo_0 12 0 rfl) (kcX4_leftByTwo_0 13 46 rfl) rfl
theorem dX4_leftByTwo_57 : decode cX4_leftByTwo 57 = .ok (.aload_n 0, 1) := dw_42 (kcX4_leftByTwo_0 57 42 rfl)
theorem dX4_leftByTwo_58 : decode cX4_leftByTwo 58 = .ok (.getfield 32, 3) := dw_180 (kcX4_leftByTwo_0 58 180 rfl) (kcX4_leftByTwo_0 59 0 rfl) (kcX4_leftByTwo_0 60 32 rfl) rfl
theorem dX4_leftByTwo_61 : decode cX4_leftByTwo 61 = .ok (.iload_n 1, 1) := dw_27 (kcX4_leftByTwo_0 61 27 rfl)
theorem dX4_leftByTwo_62 : decode cX4_leftByTwo 62 = .ok (.iaload, 1) := dw_46 (kcX4_leftByTwo_0 62 46 rfl)
theorem dX4_leftByTwo_63 : decode cX4_leftByTwo 63 = .ok (.iload_n 2, 1) := dw_28 (kcX4_leftByTwo_0 63 28 rfl)
theorem kcX4_leftByTwo_1 : CHb cX4_leftByTwo 64 [100, 29, 100, 172] := CHb_of (by decide +kernel)
theorem dX4_leftByTwo_64 : decode cX4_leftByTwo 64 = .ok (.isub, 1) := dw_100 (kcX4_leftByTwo_1 0 100 rfl)
theorem dX4_leftByTwo_65 : decode cX4_leftByTwo 65 = .ok (.iload_n 3, 1) := dw_29 (kcX4_leftByTwo_1 1 29 rfl)
theorem dX4_leftByTwo_66 : decode cX4_leftByTwo 66 = .ok (.isub, 1) := dw_100 (kcX4_leftByTwo_1 2 100 rfl)
theorem dX4_leftByTwo_67 : decode cX4_leftByTwo 67 = .ok (.ireturn, 1) := dw_172 (kcX4_leftByTwo_1 3 172 rfl)
theorem dX4_leftByTwo_14 : decode cX4_leftByTwo 14 = .ok (.aload_n 0, 1) := dw_42 (kcX4_leftByTwo_0 14 42 rfl)
theorem dX4_leftByTwo_15 : decode cX4_leftByTwo 15 = .ok (.getfield 38, 3) := dw_180 (kcX4_leftByTwo_0 15 180 rfl) (kcX4_leftByTwo_0 16 0 rfl) (kcX4_leftByTwo_0 17 38 rfl) rfl
theorem dX4_leftByTwo_18 : decode cX4_leftByTwo 18 = .ok (.iload_n 1, 1) := dw_27 (kcX4_leftByTwo_0 18 27 rfl)
theorem dX4_leftByTwo_19 : decode cX4_leftByTwo 19 = .ok (.bipush 6, 2) := dw_16 (kcX4_leftByTwo_0 19 16 rfl) (kcX4_leftByTwo_0 20 6 rfl) rfl
theorem dX4_leftByTwo_21 : decode cX4_leftByTwo 21 = .ok (.imul, 1) := dw_104 (kcX4_leftByTwo_0 21 104 rfl)
theorem dX4_leftByTwo_22 : decode cX4_leftByTwo 22 = .ok (.iload 4, 2) := dw_21 (kcX4_leftByTwo_0 22 21 rfl) (kcX4_leftByTwo_0 23 4 rfl)
theorem dX4_leftByTwo_24 : decode cX4_leftByTwo 24 = .ok (.iadd, 1) := dw_96 (kcX4_leftByTwo_0 24 96 rfl)
theorem dX4_leftByTwo_25 : decode cX4_leftByTwo 25 = .ok (.iaload, 1) := dw_46 (kcX4_leftByTwo_0 25 46 rfl)
theorem dX4_leftByTwo_26 : decode cX4_leftByTwo 26 = .ok (.istore 5, 2) := dw_54 (kcX4_leftByTwo_0 26 54 rfl) (kcX4_leftByTwo_0 27 5 rfl)
theorem dX4_leftByTwo_28 : decode cX4_leftByTwo 28 = .ok (.iload 5, 2) := dw_21 (kcX4_leftByTwo_0 28 21 rfl) (kcX4_leftByTwo_0 29 5 rfl)
theorem dX4_leftByTwo_30 : decode cX4_leftByTwo 30 = .ok (.iload_n 2, 1) := dw_28 (kcX4_leftByTwo_0 30 28 rfl)
theorem dX4_leftByTwo_31 : decode cX4_leftByTwo 31 = .ok (.if_icmp .le 11, 3) := dw_164 (kcX4_leftByTwo_0 31 164 rfl) (kcX4_leftByTwo_0 32 0 rfl) (kcX4_leftByTwo_0 33 11 rfl) rfl
theorem dX4_leftByTwo_42 : decode cX4_leftByTwo 42 = .ok (.iload 5, 2) := dw_21 (kcX4_leftByTwo_0 42 21 rfl) (kcX4_leftByTwo_0 43 5 rfl)
theorem dX4_leftByTwo_44 : decode cX4_leftByTwo 44 = .ok (.iload_n 3, 1) := dw_29 (kcX4_leftByTwo_0 44 29 rfl)
theorem dX4_leftByTwo_45 : decode cX4_leftByTwo 45 = .ok (.if_icmp .le 6, 3) := dw_164 (kcX4_leftByTwo_0 45 164 rfl) (kcX4_leftByTwo_0 46 0 rfl) (kcX4_leftByTwo_0 47 6 rfl) rfl
theorem dX4_leftByTwo_51 : decode cX4_leftByTwo 51 = .ok (.iinc 4 1, 3) := dw_132 (kcX4_leftByTwo_0 51 132 rfl) (kcX4_leftByTwo_0 52 4 rfl) (kcX4_leftByTwo_0 53 1 rfl) rfl
theorem dX4_leftByTwo_54 : decode cX4_leftByTwo 54 = .ok (.goto (-47), 3) := dw_167 (kcX4_leftByTwo_0 54 167 rfl) (kcX4_leftByTwo_0 55 255 rfl) (kcX4_leftByTwo_0 56 209 rfl) rfl
theorem dX4_leftByTwo_48 : decode cX4_leftByTwo 48 = .ok (.iload 5, 2) := dw_21 (kcX4_leftByTwo_0 48 21 rfl) (kcX4_leftByTwo_0 49 5 rfl)
theorem dX4_leftByTwo_50 : decode cX4_leftByTwo 50 = .ok (.istore_n 3, 1) := dw_62 (kcX4_leftByTwo_0 50 62 rfl)
theorem dX4_leftByTwo_34 : decode cX4_leftByTwo 34 = .ok (.iload_n 2, 1) := dw_28 (kcX4_leftByTwo_0 34 28 rfl)
theorem dX4_leftByTwo_35 : decode cX4_leftByTwo 35 = .ok (.istore_n 3, 1) := dw_62 (kcX4_leftByTwo_0 35 62 rfl)
theorem dX4_leftByTwo_36 : decode cX4_leftByTwo 36 = .ok (.iload 5, 2) := dw_21 (kcX4_leftByTwo_0 36 21 rfl) (kcX4_leftByTwo_0 37 5 rfl)
theorem dX4_leftByTwo_38 : decode cX4_leftByTwo 38 = .ok (.istore_n 2, 1) := dw_61 (kcX4_leftByTwo_0 38 61 rfl)
theorem dX4_leftByTwo_39 : decode cX4_leftByTwo 39 = .ok (.goto 12, 3) := dw_167 (kcX4_leftByTwo_0 39 167 rfl) (kcX4_leftByTwo_0 40 0 rfl) (kcX4_leftByTwo_0 41 12 rfl) rfl
theorem kcX4_classOf_0 : CHb cX4_classOf 0 [2, 61, 16, 13, 62, 3, 54, 4, 21, 4, 42, 180, 0, 22, 162, 0, 81, 42, 180, 0, 47, 21, 4, 46, 27, 163, 0, 18, 27, 42, 180, 0, 50, 21, 4, 46, 163, 0, 7, 4, 167, 0, 4, 3, 54, 5, 21, 5, 153, 0, 41, 42, 180, 0, 50, 21, 4, 46, 42, 180, 0, 47, 21, 4] := CHb_of (by decide +kernel)
theorem dX4_classOf_0 : decode cX4_classOf 0 = .ok (.iconst (-1), 1) := dw_2 (kcX4_classOf_0 0 2 rfl)
theorem dX4_classOf_1 : decode cX4_classOf 1 = .ok (.istore_n 2, 1) := dw_61 (kcX4_classOf_0 1 61 rfl)
theorem dX4_classOf_2 : decode cX4_classOf 2 = .ok (.bipush 13, 2) := dw_16 (kcX4_classOf_0 2 16 rfl) (kcX4_classOf_0 3 13 rfl) rfl
theorem dX4_classOf_4 : decode cX4_classOf 4 = .ok (.istore_n 3, 1) := dw_62 (kcX4_classOf_0 4 62 rfl)
theorem dX4_classOf_5 : decode cX4_classOf 5 = .ok (.iconst 0, 1) := dw_3 (kcX4_classOf_0 5 3 rfl)
theorem dX4_classOf_6 : decode cX4_classOf 6 = .ok (.istore 4, 2) := dw_54 (kcX4_classOf_0 6 54 rfl) (kcX4_classOf_0 7 4 rfl)
theorem dX4_classOf_8 : decode cX4_classOf 8 = .ok (.iload 4, 2) := dw_21 (kcX4_classOf_0 8 21 rfl) (kcX4_classOf_0 9 4 rfl)
theorem dX4_classOf_10 : decode cX4_classOf 10 = .ok (.aload_n 0, 1) := dw_42 (kcX4_classOf_0 10 42 rfl)
theorem dX4_classOf_11 : decode cX4_classOf 11 = .ok (.getfield 22, 3) := dw_180 (kcX4_classOf_0 11 180 rfl) (kcX4_classOf_0 12 0 rfl) (kcX4_classOf_0 13 22 rfl) rfl
theorem dX4_classOf_14 : decode cX4_classOf 14 = .ok (.if_icmp .ge 81, 3) := dw_162 (kcX4_classOf_0 14 162 rfl) (kcX4_classOf_0 15 0 rfl) (kcX4_classOf_0 16 81 rfl) rfl
theorem kcX4_classOf_1 : CHb cX4_classOf 64 [46, 100, 29, 162, 0, 22, 21, 4, 61, 42, 180, 0, 50, 21, 4, 46, 42, 180, 0, 47, 21, 4, 46, 100, 62, 132, 4, 1, 167, 255, 172, 28, 172] := CHb_of (by decide +kernel)
theorem dX4_classOf_95 : decode cX4_classOf 95 = .ok (.iload_n 2, 1) := dw_28 (kcX4_classOf_1 31 28 rfl)
theorem dX4_classOf_96 : decode cX4_classOf 96 = .ok (.ireturn, 1) := dw_172 (kcX4_classOf_1 32 172 rfl)
theorem dX4_classOf_17 : decode cX4_classOf 17 = .ok (.aload_n 0, 1) := dw_42 (kcX4_classOf_0 17 42 rfl)
theorem dX4_classOf_18 : decode cX4_classOf 18 = .ok (.getfield 47, 3) := dw_180 (kcX4_classOf_0 18 180 rfl) (kcX4_classOf_0 19 0 rfl) (kcX4_classOf_0 20 47 rfl) rfl
theorem dX4_classOf_21 : decode cX4_classOf 21 = .ok (.iload 4, 2) := dw_21 (kcX4_classOf_0 21 21 rfl) (kcX4_classOf_0 22 4 rfl)
theorem dX4_classOf_23 : decode cX4_classOf 23 = .ok (.iaload, 1) := dw_46 (kcX4_classOf_0 23 46 rfl)
theorem dX4_classOf_24 : decode cX4_classOf 24 = .ok (.iload_n 1, 1) := dw_27 (kcX4_classOf_0 24 27 rfl)
theorem dX4_classOf_25 : decode cX4_classOf 25 = .ok (.if_icmp .gt 18, 3) := dw_163 (kcX4_classOf_0 25 163 rfl) (kcX4_classOf_0 26 0 rfl) (kcX4_classOf_0 27 18 rfl) rfl
theorem dX4_classOf_43 : decode cX4_classOf 43 = .ok (.iconst 0, 1) := dw_3 (kcX4_classOf_0 43 3 rfl)
theorem dX4_classOf_44 : decode cX4_classOf 44 = .ok (.istore 5, 2) := dw_54 (kcX4_classOf_0 44 54 rfl) (kcX4_classOf_0 45 5 rfl)
theorem dX4_classOf_46 : decode cX4_classOf 46 = .ok (.iload 5, 2) := dw_21 (kcX4_classOf_0 46 21 rfl) (kcX4_classOf_0 47 5 rfl)
theorem dX4_classOf_48 : decode cX4_classOf 48 = .ok (.ifCond .eq 41, 3) := dw_153 (kcX4_classOf_0 48 153 rfl) (kcX4_classOf_0 49 0 rfl) (kcX4_classOf_0 50 41 rfl) rfl
theorem dX4_classOf_89 : decode cX4_classOf 89 = .ok (.iinc 4 1, 3) := dw_132 (kcX4_classOf_1 25 132 rfl) (kcX4_classOf_1 26 4 rfl) (kcX4_classOf_1 27 1 rfl) rfl
theorem dX4_classOf_92 : decode cX4_classOf 92 = .ok (.goto (-84), 3) := dw_167 (kcX4_classOf_1 28 167 rfl) (kcX4_classOf_1 29 255 rfl) (kcX4_classOf_1 30 172 rfl) rfl
theorem dX4_classOf_28 : decode cX4_classOf 28 = .ok (.iload_n 1, 1) := dw_27 (kcX4_classOf_0 28 27 rfl)
theorem dX4_classOf_29 : decode cX4_classOf 29 = .ok (.aload_n 0, 1) := dw_42 (kcX4_classOf_0 29 42 rfl)
theorem dX4_classOf_30 : decode cX4_classOf 30 = .ok (.getfield 50, 3) := dw_180 (kcX4_classOf_0 30 180 rfl) (kcX4_classOf_0 31 0 rfl) (kcX4_classOf_0 32 50 rfl) rfl
theorem dX4_classOf_33 : decode cX4_classOf 33 = .ok (.iload 4, 2) := dw_21 (kcX4_classOf_0 33 21 rfl) (kcX4_classOf_0 34 4 rfl)
theorem dX4_classOf_35 : decode cX4_classOf 35 = .ok (.iaload, 1) := dw_46 (kcX4_classOf_0 35 46 rfl)
theorem dX4_classOf_36 : decode cX4_classOf 36 = .ok (.if_icmp .gt 7, 3) := dw_163 (kcX4_classOf_0 36 163 rfl) (kcX4_classOf_0 37 0 rfl) (kcX4_classOf_0 38 7 rfl) rfl
theorem dX4_classOf_39 : decode cX4_classOf 39 = .ok (.iconst 1, 1) := dw_4 (kcX4_classOf_0 39 4 rfl)
theorem dX4_classOf_40 : decode cX4_classOf 40 = .ok (.goto 4, 3) := dw_167 (kcX4_classOf_0 40 167 rfl) (kcX4_classOf_0 41 0 rfl) (kcX4_classOf_0 42 4 rfl) rfl
theorem dX4_classOf_51 : decode cX4_classOf 51 = .ok (.aload_n 0, 1) := dw_42 (kcX4_classOf_0 51 42 rfl)
theorem dX4_classOf_52 : decode cX4_classOf 52 = .ok (.getfield 50, 3) := dw_180 (kcX4_classOf_0 52 180 rfl) (kcX4_classOf_0 53 0 rfl) (kcX4_classOf_0 54 50 rfl) rfl
theorem dX4_classOf_55 : decode cX4_classOf 55 = .ok (.iload 4, 2) := dw_21 (kcX4_classOf_0 55 21 rfl) (kcX4_classOf_0 56 4 rfl)
theorem dX4_classOf_57 : decode cX4_classOf 57 = .ok (.iaload, 1) := dw_46 (kcX4_classOf_0 57 46 rfl)
theorem dX4_classOf_58 : decode cX4_classOf 58 = .ok (.aload_n 0, 1) := dw_42 (kcX4_classOf_0 58 42 rfl)
theorem dX4_classOf_59 : decode cX4_classOf 59 = .ok (.getfield 47, 3) := dw_180 (kcX4_classOf_0 59 180 rfl) (kcX4_classOf_0 60 0 rfl) (kcX4_classOf_0 61 47 rfl) rfl
theorem dX4_classOf_62 : decode cX4_classOf 62 = .ok (.iload 4, 2) := dw_21 (kcX4_classOf_0 62 21 rfl) (kcX4_classOf_0 63 4 rfl)
theorem dX4_classOf_64 : decode cX4_classOf 64 = .ok (.iaload, 1) := dw_46 (kcX4_classOf_1 0 46 rfl)
theorem dX4_classOf_65 : decode cX4_classOf 65 = .ok (.isub, 1) := dw_100 (kcX4_classOf_1 1 100 rfl)
theorem dX4_classOf_66 : decode cX4_classOf 66 = .ok (.iload_n 3, 1) := dw_29 (kcX4_classOf_1 2 29 rfl)
theorem dX4_classOf_67 : decode cX4_classOf 67 = .ok (.if_icmp .ge 22, 3) := dw_162 (kcX4_classOf_1 3 162 rfl) (kcX4_classOf_1 4 0 rfl) (kcX4_classOf_1 5 22 rfl) rfl
theorem dX4_classOf_70 : decode cX4_classOf 70 = .ok (.iload 4, 2) := dw_21 (kcX4_classOf_1 6 21 rfl) (kcX4_classOf_1 7 4 rfl)
theorem dX4_classOf_72 : decode cX4_classOf 72 = .ok (.istore_n 2, 1) := dw_61 (kcX4_classOf_1 8 61 rfl)
theorem dX4_classOf_73 : decode cX4_classOf 73 = .ok (.aload_n 0, 1) := dw_42 (kcX4_classOf_1 9 42 rfl)
theorem dX4_classOf_74 : decode cX4_classOf 74 = .ok (.getfield 50, 3) := dw_180 (kcX4_classOf_1 10 180 rfl) (kcX4_classOf_1 11 0 rfl) (kcX4_classOf_1 12 50 rfl) rfl
theorem dX4_classOf_77 : decode cX4_classOf 77 = .ok (.iload 4, 2) := dw_21 (kcX4_classOf_1 13 21 rfl) (kcX4_classOf_1 14 4 rfl)
theorem dX4_classOf_79 : decode cX4_classOf 79 = .ok (.iaload, 1) := dw_46 (kcX4_classOf_1 15 46 rfl)
theorem dX4_classOf_80 : decode cX4_classOf 80 = .ok (.aload_n 0, 1) := dw_42 (kcX4_classOf_1 16 42 rfl)
theorem dX4_classOf_81 : decode cX4_classOf 81 = .ok (.getfield 47, 3) := dw_180 (kcX4_classOf_1 17 180 rfl) (kcX4_classOf_1 18 0 rfl) (kcX4_classOf_1 19 47 rfl) rfl
theorem dX4_classOf_84 : decode cX4_classOf 84 = .ok (.iload 4, 2) := dw_21 (kcX4_classOf_1 20 21 rfl) (kcX4_classOf_1 21 4 rfl)
theorem dX4_classOf_86 : decode cX4_classOf 86 = .ok (.iaload, 1) := dw_46 (kcX4_classOf_1 22 46 rfl)
theorem dX4_classOf_87 : decode cX4_classOf 87 = .ok (.isub, 1) := dw_100 (kcX4_classOf_1 23 100 rfl)
theorem dX4_classOf_88 : decode cX4_classOf 88 = .ok (.istore_n 3, 1) := dw_62 (kcX4_classOf_1 24 62 rfl)
theorem kcX4_addBlock_0 : CHb cX4_addBlock 0 [42, 180, 0, 47, 42, 180, 0, 22, 27, 79, 42, 180, 0, 50, 42, 180, 0, 22, 28, 79, 42, 89, 180, 0, 22, 4, 96, 181, 0, 22, 177] := CHb_of (by decide +kernel)
theorem dX4_addBlock_0 : decode cX4_addBlock 0 = .ok (.aload_n 0, 1) := dw_42 (kcX4_addBlock_0 0 42 rfl)
theorem dX4_addBlock_1 : decode cX4_addBlock 1 = .ok (.getfield 47, 3) := dw_180 (kcX4_addBlock_0 1 180 rfl) (kcX4_addBlock_0 2 0 rfl) (kcX4_addBlock_0 3 47 rfl) rfl
theorem dX4_addBlock_4 : decode cX4_addBlock 4 = .ok (.aload_n 0, 1) := dw_42 (kcX4_addBlock_0 4 42 rfl)
theorem dX4_addBlock_5 : decode cX4_addBlock 5 = .ok (.getfield 22, 3) := dw_180 (kcX4_addBlock_0 5 180 rfl) (kcX4_addBlock_0 6 0 rfl) (kcX4_addBlock_0 7 22 rfl) rfl
theorem dX4_addBlock_8 : decode cX4_addBlock 8 = .ok (.iload_n 1, 1) := dw_27 (kcX4_addBlock_0 8 27 rfl)
theorem dX4_addBlock_9 : decode cX4_addBlock 9 = .ok (.iastore, 1) := dw_79 (kcX4_addBlock_0 9 79 rfl)
theorem dX4_addBlock_10 : decode cX4_addBlock 10 = .ok (.aload_n 0, 1) := dw_42 (kcX4_addBlock_0 10 42 rfl)
theorem dX4_addBlock_11 : decode cX4_addBlock 11 = .ok (.getfield 50, 3) := dw_180 (kcX4_addBlock_0 11 180 rfl) (kcX4_addBlock_0 12 0 rfl) (kcX4_addBlock_0 13 50 rfl) rfl
theorem dX4_addBlock_14 : decode cX4_addBlock 14 = .ok (.aload_n 0, 1) := dw_42 (kcX4_addBlock_0 14 42 rfl)
theorem dX4_addBlock_15 : decode cX4_addBlock 15 = .ok (.getfield 22, 3) := dw_180 (kcX4_addBlock_0 15 180 rfl) (kcX4_addBlock_0 16 0 rfl) (kcX4_addBlock_0 17 22 rfl) rfl
theorem dX4_addBlock_18 : decode cX4_addBlock 18 = .ok (.iload_n 2, 1) := dw_28 (kcX4_addBlock_0 18 28 rfl)
theorem dX4_addBlock_19 : decode cX4_addBlock 19 = .ok (.iastore, 1) := dw_79 (kcX4_addBlock_0 19 79 rfl)
theorem dX4_addBlock_20 : decode cX4_addBlock 20 = .ok (.aload_n 0, 1) := dw_42 (kcX4_addBlock_0 20 42 rfl)
theorem dX4_addBlock_21 : decode cX4_addBlock 21 = .ok (.dup, 1) := dw_89 (kcX4_addBlock_0 21 89 rfl)
theorem dX4_addBlock_22 : decode cX4_addBlock 22 = .ok (.getfield 22, 3) := dw_180 (kcX4_addBlock_0 22 180 rfl) (kcX4_addBlock_0 23 0 rfl) (kcX4_addBlock_0 24 22 rfl) rfl
theorem dX4_addBlock_25 : decode cX4_addBlock 25 = .ok (.iconst 1, 1) := dw_4 (kcX4_addBlock_0 25 4 rfl)
theorem dX4_addBlock_26 : decode cX4_addBlock 26 = .ok (.iadd, 1) := dw_96 (kcX4_addBlock_0 26 96 rfl)
theorem dX4_addBlock_27 : decode cX4_addBlock 27 = .ok (.putfield 22, 3) := dw_181 (kcX4_addBlock_0 27 181 rfl) (kcX4_addBlock_0 28 0 rfl) (kcX4_addBlock_0 29 22 rfl) rfl
theorem dX4_addBlock_30 : decode cX4_addBlock 30 = .ok (.return_, 1) := dw_177 (kcX4_addBlock_0 30 177 rfl)
theorem kcX4_addGiver_0 : CHb cX4_addGiver 0 [42, 27, 182, 0, 73, 62, 29, 16, 6, 161, 0, 5, 3, 172, 42, 180, 0, 38, 27, 16, 6, 104, 29, 96, 28, 79, 42, 180, 0, 32, 27, 92, 46, 28, 96, 79, 4, 172] := CHb_of (by decide +kernel)
theorem dX4_addGiver_0 : decode cX4_addGiver 0 = .ok (.aload_n 0, 1) := dw_42 (kcX4_addGiver_0 0 42 rfl)
theorem dX4_addGiver_1 : decode cX4_addGiver 1 = .ok (.iload_n 1, 1) := dw_27 (kcX4_addGiver_0 1 27 rfl)
theorem dX4_addGiver_2 : decode cX4_addGiver 2 = .ok (.invokevirtual 73, 3) := dw_182 (kcX4_addGiver_0 2 182 rfl) (kcX4_addGiver_0 3 0 rfl) (kcX4_addGiver_0 4 73 rfl) rfl
theorem dX4_addGiver_5 : decode cX4_addGiver 5 = .ok (.istore_n 3, 1) := dw_62 (kcX4_addGiver_0 5 62 rfl)
theorem dX4_addGiver_6 : decode cX4_addGiver 6 = .ok (.iload_n 3, 1) := dw_29 (kcX4_addGiver_0 6 29 rfl)
theorem dX4_addGiver_7 : decode cX4_addGiver 7 = .ok (.bipush 6, 2) := dw_16 (kcX4_addGiver_0 7 16 rfl) (kcX4_addGiver_0 8 6 rfl) rfl
theorem dX4_addGiver_9 : decode cX4_addGiver 9 = .ok (.if_icmp .lt 5, 3) := dw_161 (kcX4_addGiver_0 9 161 rfl) (kcX4_addGiver_0 10 0 rfl) (kcX4_addGiver_0 11 5 rfl) rfl
theorem dX4_addGiver_14 : decode cX4_addGiver 14 = .ok (.aload_n 0, 1) := dw_42 (kcX4_addGiver_0 14 42 rfl)
theorem dX4_addGiver_15 : decode cX4_addGiver 15 = .ok (.getfield 38, 3) := dw_180 (kcX4_addGiver_0 15 180 rfl) (kcX4_addGiver_0 16 0 rfl) (kcX4_addGiver_0 17 38 rfl) rfl
theorem dX4_addGiver_18 : decode cX4_addGiver 18 = .ok (.iload_n 1, 1) := dw_27 (kcX4_addGiver_0 18 27 rfl)
theorem dX4_addGiver_19 : decode cX4_addGiver 19 = .ok (.bipush 6, 2) := dw_16 (kcX4_addGiver_0 19 16 rfl) (kcX4_addGiver_0 20 6 rfl) rfl
theorem dX4_addGiver_21 : decode cX4_addGiver 21 = .ok (.imul, 1) := dw_104 (kcX4_addGiver_0 21 104 rfl)
theorem dX4_addGiver_22 : decode cX4_addGiver 22 = .ok (.iload_n 3, 1) := dw_29 (kcX4_addGiver_0 22 29 rfl)
theorem dX4_addGiver_23 : decode cX4_addGiver 23 = .ok (.iadd, 1) := dw_96 (kcX4_addGiver_0 23 96 rfl)
theorem dX4_addGiver_24 : decode cX4_addGiver 24 = .ok (.iload_n 2, 1) := dw_28 (kcX4_addGiver_0 24 28 rfl)
theorem dX4_addGiver_25 : decode cX4_addGiver 25 = .ok (.iastore, 1) := dw_79 (kcX4_addGiver_0 25 79 rfl)
theorem dX4_addGiver_26 : decode cX4_addGiver 26 = .ok (.aload_n 0, 1) := dw_42 (kcX4_addGiver_0 26 42 rfl)
theorem dX4_addGiver_27 : decode cX4_addGiver 27 = .ok (.getfield 32, 3) := dw_180 (kcX4_addGiver_0 27 180 rfl) (kcX4_addGiver_0 28 0 rfl) (kcX4_addGiver_0 29 32 rfl) rfl
theorem dX4_addGiver_30 : decode cX4_addGiver 30 = .ok (.iload_n 1, 1) := dw_27 (kcX4_addGiver_0 30 27 rfl)
theorem dX4_addGiver_31 : decode cX4_addGiver 31 = .ok (.dup2, 1) := dw_92 (kcX4_addGiver_0 31 92 rfl)
theorem dX4_addGiver_32 : decode cX4_addGiver 32 = .ok (.iaload, 1) := dw_46 (kcX4_addGiver_0 32 46 rfl)
theorem dX4_addGiver_33 : decode cX4_addGiver 33 = .ok (.iload_n 2, 1) := dw_28 (kcX4_addGiver_0 33 28 rfl)
theorem dX4_addGiver_34 : decode cX4_addGiver 34 = .ok (.iadd, 1) := dw_96 (kcX4_addGiver_0 34 96 rfl)
theorem dX4_addGiver_35 : decode cX4_addGiver 35 = .ok (.iastore, 1) := dw_79 (kcX4_addGiver_0 35 79 rfl)
theorem dX4_addGiver_36 : decode cX4_addGiver 36 = .ok (.iconst 1, 1) := dw_4 (kcX4_addGiver_0 36 4 rfl)
theorem dX4_addGiver_37 : decode cX4_addGiver 37 = .ok (.ireturn, 1) := dw_172 (kcX4_addGiver_0 37 172 rfl)
theorem dX4_addGiver_12 : decode cX4_addGiver 12 = .ok (.iconst 0, 1) := dw_3 (kcX4_addGiver_0 12 3 rfl)
theorem dX4_addGiver_13 : decode cX4_addGiver 13 = .ok (.ireturn, 1) := dw_172 (kcX4_addGiver_0 13 172 rfl)
theorem kcX4_mayLie_0 : CHb cX4_mayLie 0 [3, 62, 29, 42, 180, 0, 22, 162, 0, 129, 28, 42, 180, 0, 47, 29, 46, 161, 0, 13, 27, 42, 180, 0, 50, 29, 46, 164, 0, 7, 4, 167, 0, 4, 3, 54, 4, 27, 42, 180, 0, 47, 29, 46, 161, 0, 17, 28, 42, 180, 0, 50, 29, 46, 163, 0, 7, 4, 167, 0, 4, 3, 54, 5] := CHb_of (by decide +kernel)
theorem dX4_mayLie_0 : decode cX4_mayLie 0 = .ok (.iconst 0, 1) := dw_3 (kcX4_mayLie_0 0 3 rfl)
theorem dX4_mayLie_1 : decode cX4_mayLie 1 = .ok (.istore_n 3, 1) := dw_62 (kcX4_mayLie_0 1 62 rfl)
theorem dX4_mayLie_2 : decode cX4_mayLie 2 = .ok (.iload_n 3, 1) := dw_29 (kcX4_mayLie_0 2 29 rfl)
theorem dX4_mayLie_3 : decode cX4_mayLie 3 = .ok (.aload_n 0, 1) := dw_42 (kcX4_mayLie_0 3 42 rfl)
theorem dX4_mayLie_4 : decode cX4_mayLie 4 = .ok (.getfield 22, 3) := dw_180 (kcX4_mayLie_0 4 180 rfl) (kcX4_mayLie_0 5 0 rfl) (kcX4_mayLie_0 6 22 rfl) rfl
theorem dX4_mayLie_7 : decode cX4_mayLie 7 = .ok (.if_icmp .ge 129, 3) := dw_162 (kcX4_mayLie_0 7 162 rfl) (kcX4_mayLie_0 8 0 rfl) (kcX4_mayLie_0 9 129 rfl) rfl
theorem kcX4_mayLie_2 : CHb cX4_mayLie 128 [3, 172, 132, 3, 1, 167, 255, 125, 4, 172] := CHb_of (by decide +kernel)
theorem dX4_mayLie_136 : decode cX4_mayLie 136 = .ok (.iconst 1, 1) := dw_4 (kcX4_mayLie_2 8 4 rfl)
theorem dX4_mayLie_137 : decode cX4_mayLie 137 = .ok (.ireturn, 1) := dw_172 (kcX4_mayLie_2 9 172 rfl)
theorem dX4_mayLie_10 : decode cX4_mayLie 10 = .ok (.iload_n 2, 1) := dw_28 (kcX4_mayLie_0 10 28 rfl)
theorem kcX4_mayLie_1 : CHb cX4_mayLie 64 [27, 42, 180, 0, 47, 29, 46, 163, 0, 17, 28, 42, 180, 0, 50, 29, 46, 161, 0, 7, 4, 167, 0, 4, 3, 54, 6, 21, 5, 153, 0, 12, 21, 6, 153, 0, 7, 4, 167, 0, 4, 3, 54, 7, 21, 7, 154, 0, 18, 21, 4, 154, 0, 15, 21, 5, 154, 0, 10, 21, 6, 154, 0, 5] := CHb_of (by decide +kernel)
theorem dX4_mayLie_89 : decode cX4_mayLie 89 = .ok (.istore 6, 2) := dw_54 (kcX4_mayLie_1 25 54 rfl) (kcX4_mayLie_1 26 6 rfl)
theorem dX4_mayLie_91 : decode cX4_mayLie 91 = .ok (.iload 5, 2) := dw_21 (kcX4_mayLie_1 27 21 rfl) (kcX4_mayLie_1 28 5 rfl)
theorem dX4_mayLie_93 : decode cX4_mayLie 93 = .ok (.ifCond .eq 12, 3) := dw_153 (kcX4_mayLie_1 29 153 rfl) (kcX4_mayLie_1 30 0 rfl) (kcX4_mayLie_1 31 12 rfl) rfl
theorem dX4_mayLie_105 : decode cX4_mayLie 105 = .ok (.iconst 0, 1) := dw_3 (kcX4_mayLie_1 41 3 rfl)
theorem dX4_mayLie_106 : decode cX4_mayLie 106 = .ok (.istore 7, 2) := dw_54 (kcX4_mayLie_1 42 54 rfl) (kcX4_mayLie_1 43 7 rfl)
theorem dX4_mayLie_108 : decode cX4_mayLie 108 = .ok (.iload 7, 2) := dw_21 (kcX4_mayLie_1 44 21 rfl) (kcX4_mayLie_1 45 7 rfl)
theorem dX4_mayLie_110 : decode cX4_mayLie 110 = .ok (.ifCond .ne 18, 3) := dw_154 (kcX4_mayLie_1 46 154 rfl) (kcX4_mayLie_1 47 0 rfl) (kcX4_mayLie_1 48 18 rfl) rfl
theorem dX4_mayLie_113 : decode cX4_mayLie 113 = .ok (.iload 4, 2) := dw_21 (kcX4_mayLie_1 49 21 rfl) (kcX4_mayLie_1 50 4 rfl)
theorem dX4_mayLie_115 : decode cX4_mayLie 115 = .ok (.ifCond .ne 15, 3) := dw_154 (kcX4_mayLie_1 51 154 rfl) (kcX4_mayLie_1 52 0 rfl) (kcX4_mayLie_1 53 15 rfl) rfl
theorem dX4_mayLie_130 : decode cX4_mayLie 130 = .ok (.iinc 3 1, 3) := dw_132 (kcX4_mayLie_2 2 132 rfl) (kcX4_mayLie_2 3 3 rfl) (kcX4_mayLie_2 4 1 rfl) rfl
theorem dX4_mayLie_133 : decode cX4_mayLie 133 = .ok (.goto (-131), 3) := dw_167 (kcX4_mayLie_2 5 167 rfl) (kcX4_mayLie_2 6 255 rfl) (kcX4_mayLie_2 7 125 rfl) rfl
theorem dX4_mayLie_118 : decode cX4_mayLie 118 = .ok (.iload 5, 2) := dw_21 (kcX4_mayLie_1 54 21 rfl) (kcX4_mayLie_1 55 5 rfl)
theorem dX4_mayLie_120 : decode cX4_mayLie 120 = .ok (.ifCond .ne 10, 3) := dw_154 (kcX4_mayLie_1 56 154 rfl) (kcX4_mayLie_1 57 0 rfl) (kcX4_mayLie_1 58 10 rfl) rfl
theorem dX4_mayLie_123 : decode cX4_mayLie 123 = .ok (.iload 6, 2) := dw_21 (kcX4_mayLie_1 59 21 rfl) (kcX4_mayLie_1 60 6 rfl)
theorem dX4_mayLie_125 : decode cX4_mayLie 125 = .ok (.ifCond .ne 5, 3) := dw_154 (kcX4_mayLie_1 61 154 rfl) (kcX4_mayLie_1 62 0 rfl) (kcX4_mayLie_1 63 5 rfl) rfl
theorem dX4_mayLie_128 : decode cX4_mayLie 128 = .ok (.iconst 0, 1) := dw_3 (kcX4_mayLie_2 0 3 rfl)
theorem dX4_mayLie_129 : decode cX4_mayLie 129 = .ok (.ireturn, 1) := dw_172 (kcX4_mayLie_2 1 172 rfl)
theorem dX4_mayLie_96 : decode cX4_mayLie 96 = .ok (.iload 6, 2) := dw_21 (kcX4_mayLie_1 32 21 rfl) (kcX4_mayLie_1 33 6 rfl)
theorem dX4_mayLie_98 : decode cX4_mayLie 98 = .ok (.ifCond .eq 7, 3) := dw_153 (kcX4_mayLie_1 34 153 rfl) (kcX4_mayLie_1 35 0 rfl) (kcX4_mayLie_1 36 7 rfl) rfl
theorem dX4_mayLie_101 : decode cX4_mayLie 101 = .ok (.iconst 1, 1) := dw_4 (kcX4_mayLie_1 37 4 rfl)
theorem dX4_mayLie_102 : decode cX4_mayLie 102 = .ok (.goto 4, 3) := dw_167 (kcX4_mayLie_1 38 167 rfl) (kcX4_mayLie_1 39 0 rfl) (kcX4_mayLie_1 40 4 rfl) rfl
theorem dX4_mayLie_62 : decode cX4_mayLie 62 = .ok (.istore 5, 2) := dw_54 (kcX4_mayLie_0 62 54 rfl) (kcX4_mayLie_0 63 5 rfl)
theorem dX4_mayLie_64 : decode cX4_mayLie 64 = .ok (.iload_n 1, 1) := dw_27 (kcX4_mayLie_1 0 27 rfl)
theorem dX4_mayLie_65 : decode cX4_mayLie 65 = .ok (.aload_n 0, 1) := dw_42 (kcX4_mayLie_1 1 42 rfl)
theorem dX4_mayLie_66 : decode cX4_mayLie 66 = .ok (.getfield 47, 3) := dw_180 (kcX4_mayLie_1 2 180 rfl) (kcX4_mayLie_1 3 0 rfl) (kcX4_mayLie_1 4 47 rfl) rfl
theorem dX4_mayLie_69 : decode cX4_mayLie 69 = .ok (.iload_n 3, 1) := dw_29 (kcX4_mayLie_1 5 29 rfl)
theorem dX4_mayLie_70 : decode cX4_mayLie 70 = .ok (.iaload, 1) := dw_46 (kcX4_mayLie_1 6 46 rfl)
theorem dX4_mayLie_71 : decode cX4_mayLie 71 = .ok (.if_icmp .gt 17, 3) := dw_163 (kcX4_mayLie_1 7 163 rfl) (kcX4_mayLie_1 8 0 rfl) (kcX4_mayLie_1 9 17 rfl) rfl
theorem dX4_mayLie_88 : decode cX4_mayLie 88 = .ok (.iconst 0, 1) := dw_3 (kcX4_mayLie_1 24 3 rfl)
theorem dX4_mayLie_74 : decode cX4_mayLie 74 = .ok (.iload_n 2, 1) := dw_28 (kcX4_mayLie_1 10 28 rfl)
theorem dX4_mayLie_75 : decode cX4_mayLie 75 = .ok (.aload_n 0, 1) := dw_42 (kcX4_mayLie_1 11 42 rfl)
theorem dX4_mayLie_76 : decode cX4_mayLie 76 = .ok (.getfield 50, 3) := dw_180 (kcX4_mayLie_1 12 180 rfl) (kcX4_mayLie_1 13 0 rfl) (kcX4_mayLie_1 14 50 rfl) rfl
theorem dX4_mayLie_79 : decode cX4_mayLie 79 = .ok (.iload_n 3, 1) := dw_29 (kcX4_mayLie_1 15 29 rfl)
theorem dX4_mayLie_80 : decode cX4_mayLie 80 = .ok (.iaload, 1) := dw_46 (kcX4_mayLie_1 16 46 rfl)
theorem dX4_mayLie_81 : decode cX4_mayLie 81 = .ok (.if_icmp .lt 7, 3) := dw_161 (kcX4_mayLie_1 17 161 rfl) (kcX4_mayLie_1 18 0 rfl) (kcX4_mayLie_1 19 7 rfl) rfl
theorem dX4_mayLie_84 : decode cX4_mayLie 84 = .ok (.iconst 1, 1) := dw_4 (kcX4_mayLie_1 20 4 rfl)
theorem dX4_mayLie_85 : decode cX4_mayLie 85 = .ok (.goto 4, 3) := dw_167 (kcX4_mayLie_1 21 167 rfl) (kcX4_mayLie_1 22 0 rfl) (kcX4_mayLie_1 23 4 rfl) rfl
theorem dX4_mayLie_35 : decode cX4_mayLie 35 = .ok (.istore 4, 2) := dw_54 (kcX4_mayLie_0 35 54 rfl) (kcX4_mayLie_0 36 4 rfl)
theorem dX4_mayLie_37 : decode cX4_mayLie 37 = .ok (.iload_n 1, 1) := dw_27 (kcX4_mayLie_0 37 27 rfl)
theorem dX4_mayLie_38 : decode cX4_mayLie 38 = .ok (.aload_n 0, 1) := dw_42 (kcX4_mayLie_0 38 42 rfl)
theorem dX4_mayLie_39 : decode cX4_mayLie 39 = .ok (.getfield 47, 3) := dw_180 (kcX4_mayLie_0 39 180 rfl) (kcX4_mayLie_0 40 0 rfl) (kcX4_mayLie_0 41 47 rfl) rfl
theorem dX4_mayLie_42 : decode cX4_mayLie 42 = .ok (.iload_n 3, 1) := dw_29 (kcX4_mayLie_0 42 29 rfl)
theorem dX4_mayLie_43 : decode cX4_mayLie 43 = .ok (.iaload, 1) := dw_46 (kcX4_mayLie_0 43 46 rfl)
theorem dX4_mayLie_44 : decode cX4_mayLie 44 = .ok (.if_icmp .lt 17, 3) := dw_161 (kcX4_mayLie_0 44 161 rfl) (kcX4_mayLie_0 45 0 rfl) (kcX4_mayLie_0 46 17 rfl) rfl
theorem dX4_mayLie_61 : decode cX4_mayLie 61 = .ok (.iconst 0, 1) := dw_3 (kcX4_mayLie_0 61 3 rfl)
theorem dX4_mayLie_47 : decode cX4_mayLie 47 = .ok (.iload_n 2, 1) := dw_28 (kcX4_mayLie_0 47 28 rfl)
theorem dX4_mayLie_48 : decode cX4_mayLie 48 = .ok (.aload_n 0, 1) := dw_42 (kcX4_mayLie_0 48 42 rfl)
theorem dX4_mayLie_49 : decode cX4_mayLie 49 = .ok (.getfield 50, 3) := dw_180 (kcX4_mayLie_0 49 180 rfl) (kcX4_mayLie_0 50 0 rfl) (kcX4_mayLie_0 51 50 rfl) rfl
theorem dX4_mayLie_52 : decode cX4_mayLie 52 = .ok (.iload_n 3, 1) := dw_29 (kcX4_mayLie_0 52 29 rfl)
theorem dX4_mayLie_53 : decode cX4_mayLie 53 = .ok (.iaload, 1) := dw_46 (kcX4_mayLie_0 53 46 rfl)
theorem dX4_mayLie_54 : decode cX4_mayLie 54 = .ok (.if_icmp .gt 7, 3) := dw_163 (kcX4_mayLie_0 54 163 rfl) (kcX4_mayLie_0 55 0 rfl) (kcX4_mayLie_0 56 7 rfl) rfl
theorem dX4_mayLie_57 : decode cX4_mayLie 57 = .ok (.iconst 1, 1) := dw_4 (kcX4_mayLie_0 57 4 rfl)
theorem dX4_mayLie_58 : decode cX4_mayLie 58 = .ok (.goto 4, 3) := dw_167 (kcX4_mayLie_0 58 167 rfl) (kcX4_mayLie_0 59 0 rfl) (kcX4_mayLie_0 60 4 rfl) rfl
theorem dX4_mayLie_11 : decode cX4_mayLie 11 = .ok (.aload_n 0, 1) := dw_42 (kcX4_mayLie_0 11 42 rfl)
theorem dX4_mayLie_12 : decode cX4_mayLie 12 = .ok (.getfield 47, 3) := dw_180 (kcX4_mayLie_0 12 180 rfl) (kcX4_mayLie_0 13 0 rfl) (kcX4_mayLie_0 14 47 rfl) rfl
theorem dX4_mayLie_15 : decode cX4_mayLie 15 = .ok (.iload_n 3, 1) := dw_29 (kcX4_mayLie_0 15 29 rfl)
theorem dX4_mayLie_16 : decode cX4_mayLie 16 = .ok (.iaload, 1) := dw_46 (kcX4_mayLie_0 16 46 rfl)
theorem dX4_mayLie_17 : decode cX4_mayLie 17 = .ok (.if_icmp .lt 13, 3) := dw_161 (kcX4_mayLie_0 17 161 rfl) (kcX4_mayLie_0 18 0 rfl) (kcX4_mayLie_0 19 13 rfl) rfl
theorem dX4_mayLie_30 : decode cX4_mayLie 30 = .ok (.iconst 1, 1) := dw_4 (kcX4_mayLie_0 30 4 rfl)
theorem dX4_mayLie_31 : decode cX4_mayLie 31 = .ok (.goto 4, 3) := dw_167 (kcX4_mayLie_0 31 167 rfl) (kcX4_mayLie_0 32 0 rfl) (kcX4_mayLie_0 33 4 rfl) rfl
theorem dX4_mayLie_20 : decode cX4_mayLie 20 = .ok (.iload_n 1, 1) := dw_27 (kcX4_mayLie_0 20 27 rfl)
theorem dX4_mayLie_21 : decode cX4_mayLie 21 = .ok (.aload_n 0, 1) := dw_42 (kcX4_mayLie_0 21 42 rfl)
theorem dX4_mayLie_22 : decode cX4_mayLie 22 = .ok (.getfield 50, 3) := dw_180 (kcX4_mayLie_0 22 180 rfl) (kcX4_mayLie_0 23 0 rfl) (kcX4_mayLie_0 24 50 rfl) rfl
theorem dX4_mayLie_25 : decode cX4_mayLie 25 = .ok (.iload_n 3, 1) := dw_29 (kcX4_mayLie_0 25 29 rfl)
theorem dX4_mayLie_26 : decode cX4_mayLie 26 = .ok (.iaload, 1) := dw_46 (kcX4_mayLie_0 26 46 rfl)
theorem dX4_mayLie_27 : decode cX4_mayLie 27 = .ok (.if_icmp .le 7, 3) := dw_164 (kcX4_mayLie_0 27 164 rfl) (kcX4_mayLie_0 28 0 rfl) (kcX4_mayLie_0 29 7 rfl) rfl
theorem dX4_mayLie_34 : decode cX4_mayLie 34 = .ok (.iconst 0, 1) := dw_3 (kcX4_mayLie_0 34 3 rfl)
theorem kcX4_priceOf_0 : CHb cX4_priceOf 0 [42, 180, 0, 44, 8, 46, 154, 0, 7, 4, 167, 0, 11, 42, 180, 0, 32, 27, 46, 4, 96, 172] := CHb_of (by decide +kernel)
theorem dX4_priceOf_0 : decode cX4_priceOf 0 = .ok (.aload_n 0, 1) := dw_42 (kcX4_priceOf_0 0 42 rfl)
theorem dX4_priceOf_1 : decode cX4_priceOf 1 = .ok (.getfield 44, 3) := dw_180 (kcX4_priceOf_0 1 180 rfl) (kcX4_priceOf_0 2 0 rfl) (kcX4_priceOf_0 3 44 rfl) rfl
theorem dX4_priceOf_4 : decode cX4_priceOf 4 = .ok (.iconst 5, 1) := dw_8 (kcX4_priceOf_0 4 8 rfl)
theorem dX4_priceOf_5 : decode cX4_priceOf 5 = .ok (.iaload, 1) := dw_46 (kcX4_priceOf_0 5 46 rfl)
theorem dX4_priceOf_6 : decode cX4_priceOf 6 = .ok (.ifCond .ne 7, 3) := dw_154 (kcX4_priceOf_0 6 154 rfl) (kcX4_priceOf_0 7 0 rfl) (kcX4_priceOf_0 8 7 rfl) rfl
theorem dX4_priceOf_13 : decode cX4_priceOf 13 = .ok (.aload_n 0, 1) := dw_42 (kcX4_priceOf_0 13 42 rfl)
theorem dX4_priceOf_14 : decode cX4_priceOf 14 = .ok (.getfield 32, 3) := dw_180 (kcX4_priceOf_0 14 180 rfl) (kcX4_priceOf_0 15 0 rfl) (kcX4_priceOf_0 16 32 rfl) rfl
theorem dX4_priceOf_17 : decode cX4_priceOf 17 = .ok (.iload_n 1, 1) := dw_27 (kcX4_priceOf_0 17 27 rfl)
theorem dX4_priceOf_18 : decode cX4_priceOf 18 = .ok (.iaload, 1) := dw_46 (kcX4_priceOf_0 18 46 rfl)
theorem dX4_priceOf_19 : decode cX4_priceOf 19 = .ok (.iconst 1, 1) := dw_4 (kcX4_priceOf_0 19 4 rfl)
theorem dX4_priceOf_20 : decode cX4_priceOf 20 = .ok (.iadd, 1) := dw_96 (kcX4_priceOf_0 20 96 rfl)
theorem dX4_priceOf_21 : decode cX4_priceOf 21 = .ok (.ireturn, 1) := dw_172 (kcX4_priceOf_0 21 172 rfl)
theorem dX4_priceOf_9 : decode cX4_priceOf 9 = .ok (.iconst 1, 1) := dw_4 (kcX4_priceOf_0 9 4 rfl)
theorem dX4_priceOf_10 : decode cX4_priceOf 10 = .ok (.goto 11, 3) := dw_167 (kcX4_priceOf_0 10 167 rfl) (kcX4_priceOf_0 11 0 rfl) (kcX4_priceOf_0 12 11 rfl) rfl
theorem kcX4_reasons_0 : CHb cX4_reasons 0 [42, 27, 4, 182, 0, 84, 153, 0, 8, 16, 8, 167, 0, 4, 3, 61, 42, 180, 0, 32, 27, 46, 62, 42, 180, 0, 29, 27, 46, 4, 160, 0, 21, 29, 4, 161, 0, 16, 29, 42, 180, 0, 44, 3, 46, 163, 0, 6, 132, 2, 1, 42, 180, 0, 29, 27, 46, 5, 160, 0, 46, 29, 158, 0] := CHb_of (by decide +kernel)
theorem dX4_reasons_0 : decode cX4_reasons 0 = .ok (.aload_n 0, 1) := dw_42 (kcX4_reasons_0 0 42 rfl)
theorem kcX4_reasons_1 : CHb cX4_reasons 64 [42, 42, 27, 182, 0, 73, 42, 180, 0, 44, 4, 46, 162, 0, 6, 132, 2, 2, 16, 100, 42, 27, 182, 0, 88, 104, 42, 180, 0, 44, 5, 46, 29, 104, 162, 0, 6, 132, 2, 4, 28, 172] := CHb_of (by decide +kernel)
theorem dX4_reasons_104 : decode cX4_reasons 104 = .ok (.iload_n 2, 1) := dw_28 (kcX4_reasons_1 40 28 rfl)
theorem dX4_reasons_105 : decode cX4_reasons 105 = .ok (.ireturn, 1) := dw_172 (kcX4_reasons_1 41 172 rfl)
theorem dX4_reasons_82 : decode cX4_reasons 82 = .ok (.bipush 100, 2) := dw_16 (kcX4_reasons_1 18 16 rfl) (kcX4_reasons_1 19 100 rfl) rfl
theorem dX4_reasons_84 : decode cX4_reasons 84 = .ok (.aload_n 0, 1) := dw_42 (kcX4_reasons_1 20 42 rfl)
theorem dX4_reasons_85 : decode cX4_reasons 85 = .ok (.iload_n 1, 1) := dw_27 (kcX4_reasons_1 21 27 rfl)
theorem dX4_reasons_86 : decode cX4_reasons 86 = .ok (.invokevirtual 88, 3) := dw_182 (kcX4_reasons_1 22 182 rfl) (kcX4_reasons_1 23 0 rfl) (kcX4_reasons_1 24 88 rfl) rfl
theorem dX4_reasons_89 : decode cX4_reasons 89 = .ok (.imul, 1) := dw_104 (kcX4_reasons_1 25 104 rfl)
theorem dX4_reasons_90 : decode cX4_reasons 90 = .ok (.aload_n 0, 1) := dw_42 (kcX4_reasons_1 26 42 rfl)
theorem dX4_reasons_91 : decode cX4_reasons 91 = .ok (.getfield 44, 3) := dw_180 (kcX4_reasons_1 27 180 rfl) (kcX4_reasons_1 28 0 rfl) (kcX4_reasons_1 29 44 rfl) rfl
theorem dX4_reasons_94 : decode cX4_reasons 94 = .ok (.iconst 2, 1) := dw_5 (kcX4_reasons_1 30 5 rfl)
theorem dX4_reasons_95 : decode cX4_reasons 95 = .ok (.iaload, 1) := dw_46 (kcX4_reasons_1 31 46 rfl)
theorem dX4_reasons_96 : decode cX4_reasons 96 = .ok (.iload_n 3, 1) := dw_29 (kcX4_reasons_1 32 29 rfl)
theorem dX4_reasons_97 : decode cX4_reasons 97 = .ok (.imul, 1) := dw_104 (kcX4_reasons_1 33 104 rfl)
theorem dX4_reasons_98 : decode cX4_reasons 98 = .ok (.if_icmp .ge 6, 3) := dw_162 (kcX4_reasons_1 34 162 rfl) (kcX4_reasons_1 35 0 rfl) (kcX4_reasons_1 36 6 rfl) rfl
theorem dX4_reasons_101 : decode cX4_reasons 101 = .ok (.iinc 2 4, 3) := dw_132 (kcX4_reasons_1 37 132 rfl) (kcX4_reasons_1 38 2 rfl) (kcX4_reasons_1 39 4 rfl) rfl
theorem dX4_reasons_51 : decode cX4_reasons 51 = .ok (.aload_n 0, 1) := dw_42 (kcX4_reasons_0 51 42 rfl)
theorem dX4_reasons_52 : decode cX4_reasons 52 = .ok (.getfield 29, 3) := dw_180 (kcX4_reasons_0 52 180 rfl) (kcX4_reasons_0 53 0 rfl) (kcX4_reasons_0 54 29 rfl) rfl
theorem dX4_reasons_55 : decode cX4_reasons 55 = .ok (.iload_n 1, 1) := dw_27 (kcX4_reasons_0 55 27 rfl)
theorem dX4_reasons_56 : decode cX4_reasons 56 = .ok (.iaload, 1) := dw_46 (kcX4_reasons_0 56 46 rfl)
theorem dX4_reasons_57 : decode cX4_reasons 57 = .ok (.iconst 2, 1) := dw_5 (kcX4_reasons_0 57 5 rfl)
theorem dX4_reasons_58 : decode cX4_reasons 58 = .ok (.if_icmp .ne 46, 3) := dw_160 (kcX4_reasons_0 58 160 rfl) (kcX4_reasons_0 59 0 rfl) (kcX4_reasons_0 60 46 rfl) rfl
theorem dX4_reasons_61 : decode cX4_reasons 61 = .ok (.iload_n 3, 1) := dw_29 (kcX4_reasons_0 61 29 rfl)
theorem dX4_reasons_62 : decode cX4_reasons 62 = .ok (.ifCond .le 42, 3) := dw_158 (kcX4_reasons_0 62 158 rfl) (kcX4_reasons_0 63 0 rfl) (kcX4_reasons_1 0 42 rfl) rfl
theorem dX4_reasons_65 : decode cX4_reasons 65 = .ok (.aload_n 0, 1) := dw_42 (kcX4_reasons_1 1 42 rfl)
theorem dX4_reasons_66 : decode cX4_reasons 66 = .ok (.iload_n 1, 1) := dw_27 (kcX4_reasons_1 2 27 rfl)
theorem dX4_reasons_67 : decode cX4_reasons 67 = .ok (.invokevirtual 73, 3) := dw_182 (kcX4_reasons_1 3 182 rfl) (kcX4_reasons_1 4 0 rfl) (kcX4_reasons_1 5 73 rfl) rfl
theorem dX4_reasons_70 : decode cX4_reasons 70 = .ok (.aload_n 0, 1) := dw_42 (kcX4_reasons_1 6 42 rfl)
theorem dX4_reasons_71 : decode cX4_reasons 71 = .ok (.getfield 44, 3) := dw_180 (kcX4_reasons_1 7 180 rfl) (kcX4_reasons_1 8 0 rfl) (kcX4_reasons_1 9 44 rfl) rfl
theorem dX4_reasons_74 : decode cX4_reasons 74 = .ok (.iconst 1, 1) := dw_4 (kcX4_reasons_1 10 4 rfl)
theorem dX4_reasons_75 : decode cX4_reasons 75 = .ok (.iaload, 1) := dw_46 (kcX4_reasons_1 11 46 rfl)
theorem dX4_reasons_76 : decode cX4_reasons 76 = .ok (.if_icmp .ge 6, 3) := dw_162 (kcX4_reasons_1 12 162 rfl) (kcX4_reasons_1 13 0 rfl) (kcX4_reasons_1 14 6 rfl) rfl
theorem dX4_reasons_79 : decode cX4_reasons 79 = .ok (.iinc 2 2, 3) := dw_132 (kcX4_reasons_1 15 132 rfl) (kcX4_reasons_1 16 2 rfl) (kcX4_reasons_1 17 2 rfl) rfl
theorem dX4_reasons_15 : decode cX4_reasons 15 = .ok (.istore_n 2, 1) := dw_61 (kcX4_reasons_0 15 61 rfl)
theorem dX4_reasons_16 : decode cX4_reasons 16 = .ok (.aload_n 0, 1) := dw_42 (kcX4_reasons_0 16 42 rfl)
theorem dX4_reasons_17 : decode cX4_reasons 17 = .ok (.getfield 32, 3) := dw_180 (kcX4_reasons_0 17 180 rfl) (kcX4_reasons_0 18 0 rfl) (kcX4_reasons_0 19 32 rfl) rfl
theorem dX4_reasons_20 : decode cX4_reasons 20 = .ok (.iload_n 1, 1) := dw_27 (kcX4_reasons_0 20 27 rfl)
theorem dX4_reasons_21 : decode cX4_reasons 21 = .ok (.iaload, 1) := dw_46 (kcX4_reasons_0 21 46 rfl)
theorem dX4_reasons_22 : decode cX4_reasons 22 = .ok (.istore_n 3, 1) := dw_62 (kcX4_reasons_0 22 62 rfl)
theorem dX4_reasons_23 : decode cX4_reasons 23 = .ok (.aload_n 0, 1) := dw_42 (kcX4_reasons_0 23 42 rfl)
theorem dX4_reasons_24 : decode cX4_reasons 24 = .ok (.getfield 29, 3) := dw_180 (kcX4_reasons_0 24 180 rfl) (kcX4_reasons_0 25 0 rfl) (kcX4_reasons_0 26 29 rfl) rfl
theorem dX4_reasons_27 : decode cX4_reasons 27 = .ok (.iload_n 1, 1) := dw_27 (kcX4_reasons_0 27 27 rfl)
theorem dX4_reasons_28 : decode cX4_reasons 28 = .ok (.iaload, 1) := dw_46 (kcX4_reasons_0 28 46 rfl)
theorem dX4_reasons_29 : decode cX4_reasons 29 = .ok (.iconst 1, 1) := dw_4 (kcX4_reasons_0 29 4 rfl)
theorem dX4_reasons_30 : decode cX4_reasons 30 = .ok (.if_icmp .ne 21, 3) := dw_160 (kcX4_reasons_0 30 160 rfl) (kcX4_reasons_0 31 0 rfl) (kcX4_reasons_0 32 21 rfl) rfl
theorem dX4_reasons_33 : decode cX4_reasons 33 = .ok (.iload_n 3, 1) := dw_29 (kcX4_reasons_0 33 29 rfl)
theorem dX4_reasons_34 : decode cX4_reasons 34 = .ok (.iconst 1, 1) := dw_4 (kcX4_reasons_0 34 4 rfl)
theorem dX4_reasons_35 : decode cX4_reasons 35 = .ok (.if_icmp .lt 16, 3) := dw_161 (kcX4_reasons_0 35 161 rfl) (kcX4_reasons_0 36 0 rfl) (kcX4_reasons_0 37 16 rfl) rfl
theorem dX4_reasons_38 : decode cX4_reasons 38 = .ok (.iload_n 3, 1) := dw_29 (kcX4_reasons_0 38 29 rfl)
theorem dX4_reasons_39 : decode cX4_reasons 39 = .ok (.aload_n 0, 1) := dw_42 (kcX4_reasons_0 39 42 rfl)
theorem dX4_reasons_40 : decode cX4_reasons 40 = .ok (.getfield 44, 3) := dw_180 (kcX4_reasons_0 40 180 rfl) (kcX4_reasons_0 41 0 rfl) (kcX4_reasons_0 42 44 rfl) rfl
theorem dX4_reasons_43 : decode cX4_reasons 43 = .ok (.iconst 0, 1) := dw_3 (kcX4_reasons_0 43 3 rfl)
theorem dX4_reasons_44 : decode cX4_reasons 44 = .ok (.iaload, 1) := dw_46 (kcX4_reasons_0 44 46 rfl)
theorem dX4_reasons_45 : decode cX4_reasons 45 = .ok (.if_icmp .gt 6, 3) := dw_163 (kcX4_reasons_0 45 163 rfl) (kcX4_reasons_0 46 0 rfl) (kcX4_reasons_0 47 6 rfl) rfl
theorem dX4_reasons_48 : decode cX4_reasons 48 = .ok (.iinc 2 1, 3) := dw_132 (kcX4_reasons_0 48 132 rfl) (kcX4_reasons_0 49 2 rfl) (kcX4_reasons_0 50 1 rfl) rfl
theorem dX4_reasons_1 : decode cX4_reasons 1 = .ok (.iload_n 1, 1) := dw_27 (kcX4_reasons_0 1 27 rfl)
theorem dX4_reasons_2 : decode cX4_reasons 2 = .ok (.iconst 1, 1) := dw_4 (kcX4_reasons_0 2 4 rfl)
theorem dX4_reasons_3 : decode cX4_reasons 3 = .ok (.invokevirtual 84, 3) := dw_182 (kcX4_reasons_0 3 182 rfl) (kcX4_reasons_0 4 0 rfl) (kcX4_reasons_0 5 84 rfl) rfl
theorem dX4_reasons_6 : decode cX4_reasons 6 = .ok (.ifCond .eq 8, 3) := dw_153 (kcX4_reasons_0 6 153 rfl) (kcX4_reasons_0 7 0 rfl) (kcX4_reasons_0 8 8 rfl) rfl
theorem dX4_reasons_14 : decode cX4_reasons 14 = .ok (.iconst 0, 1) := dw_3 (kcX4_reasons_0 14 3 rfl)
theorem dX4_reasons_9 : decode cX4_reasons 9 = .ok (.bipush 8, 2) := dw_16 (kcX4_reasons_0 9 16 rfl) (kcX4_reasons_0 10 8 rfl) rfl
theorem dX4_reasons_11 : decode cX4_reasons 11 = .ok (.goto 4, 3) := dw_167 (kcX4_reasons_0 11 167 rfl) (kcX4_reasons_0 12 0 rfl) (kcX4_reasons_0 13 4 rfl) rfl
theorem kcX4_isKept_0 : CHb cX4_isKept 0 [42, 27, 5, 182, 0, 84, 154, 0, 11, 42, 27, 182, 0, 91, 153, 0, 7, 4, 167, 0, 4, 3, 172] := CHb_of (by decide +kernel)
theorem dX4_isKept_0 : decode cX4_isKept 0 = .ok (.aload_n 0, 1) := dw_42 (kcX4_isKept_0 0 42 rfl)
theorem dX4_isKept_1 : decode cX4_isKept 1 = .ok (.iload_n 1, 1) := dw_27 (kcX4_isKept_0 1 27 rfl)
theorem dX4_isKept_2 : decode cX4_isKept 2 = .ok (.iconst 2, 1) := dw_5 (kcX4_isKept_0 2 5 rfl)
theorem dX4_isKept_3 : decode cX4_isKept 3 = .ok (.invokevirtual 84, 3) := dw_182 (kcX4_isKept_0 3 182 rfl) (kcX4_isKept_0 4 0 rfl) (kcX4_isKept_0 5 84 rfl) rfl
theorem dX4_isKept_6 : decode cX4_isKept 6 = .ok (.ifCond .ne 11, 3) := dw_154 (kcX4_isKept_0 6 154 rfl) (kcX4_isKept_0 7 0 rfl) (kcX4_isKept_0 8 11 rfl) rfl
theorem dX4_isKept_17 : decode cX4_isKept 17 = .ok (.iconst 1, 1) := dw_4 (kcX4_isKept_0 17 4 rfl)
theorem dX4_isKept_18 : decode cX4_isKept 18 = .ok (.goto 4, 3) := dw_167 (kcX4_isKept_0 18 167 rfl) (kcX4_isKept_0 19 0 rfl) (kcX4_isKept_0 20 4 rfl) rfl
theorem dX4_isKept_22 : decode cX4_isKept 22 = .ok (.ireturn, 1) := dw_172 (kcX4_isKept_0 22 172 rfl)
theorem dX4_isKept_9 : decode cX4_isKept 9 = .ok (.aload_n 0, 1) := dw_42 (kcX4_isKept_0 9 42 rfl)
theorem dX4_isKept_10 : decode cX4_isKept 10 = .ok (.iload_n 1, 1) := dw_27 (kcX4_isKept_0 10 27 rfl)
theorem dX4_isKept_11 : decode cX4_isKept 11 = .ok (.invokevirtual 91, 3) := dw_182 (kcX4_isKept_0 11 182 rfl) (kcX4_isKept_0 12 0 rfl) (kcX4_isKept_0 13 91 rfl) rfl
theorem dX4_isKept_14 : decode cX4_isKept 14 = .ok (.ifCond .eq 7, 3) := dw_153 (kcX4_isKept_0 14 153 rfl) (kcX4_isKept_0 15 0 rfl) (kcX4_isKept_0 16 7 rfl) rfl
theorem dX4_isKept_21 : decode cX4_isKept 21 = .ok (.iconst 0, 1) := dw_3 (kcX4_isKept_0 21 3 rfl)
/-! what Table's methods reckon, over the rows of one table: ps parts, kd kinds, nu numbers, td told, pl places, ru rules, bf bl blocks -/
def gvN (ps : Nat → Int32) (sp : Nat) : Nat → Nat
  | 0 => 0
  | k + 1 => gvN ps sp k + (if 0 < ps (sp * 6 + k) then 1 else 0)
theorem gvN_le (ps : Nat → Int32) (sp : Nat) : ∀ k, gvN ps sp k ≤ k
  | 0 => Nat.le_refl 0
  | k + 1 => by have h := gvN_le ps sp k; simp only [gvN]; split <;> omega
def smF (nu : Nat → Int32) (b : Nat) : Nat → Int32
  | 0 => 0
  | k + 1 => smF nu b k + nu (b + k)
def clS (bf bl : Nat → Int32) (row : Int32) : Nat → Int32 × Int32
  | 0 => (-1, 13)
  | k + 1 => if bf k ≤ row ∧ row ≤ bl k ∧ bl k - bf k < (clS bf bl row k).2 then (nI k, bl k - bf k) else clS bf bl row k
def twS (ps : Nat → Int32) (sp : Nat) : Nat → Int32 × Int32
  | 0 => (0, 0)
  | k + 1 => if (twS ps sp k).1 < ps (sp * 6 + k) then (ps (sp * 6 + k), (twS ps sp k).1) else if (twS ps sp k).2 < ps (sp * 6 + k) then ((twS ps sp k).1, ps (sp * 6 + k)) else twS ps sp k
def okB (f0 l0 fi la : Int32) : Prop := ¬ ((f0 ≤ fi ∧ la ≤ l0) ∧ (fi ≤ f0 ∧ l0 ≤ la)) ∧ ((la < f0 ∨ l0 < fi) ∨ (f0 ≤ fi ∧ la ≤ l0) ∨ (fi ≤ f0 ∧ l0 ≤ la))
def sndP (cl : Nat) (pl kd : Nat → Int32) (row : Nat) : Prop := nI cl ≤ pl row ∧ ∀ c, c < cl → kd (row * 12 + c) ≠ 0 ∧ kd (row * 12 + c) ≠ 5
theorem nI_mul6n {v : Int32} {i : Nat} (h : v = nI i * 6) : v = nI (i * 6) := h.trans (pk_mul i 6)
theorem spot_eq {r : Int32} {i j : Nat} (h : r = nI i * 12 + nI j) : r = nI (i * 12 + j) := h.trans (nI_plus rfl (nI_mul12 rfl rfl) rfl)
theorem rgF_app (f : Nat → Int32) (v : Int32) (a n m : Nat) : rgF (rgF f v a n) v (a + n) m = rgF f v a (n + m) := by
  funext j
  simp only [rgF]
  by_cases h1 : a + n ≤ j ∧ j < a + n + m
  · rw [if_pos h1, if_pos (by omega)]
  · rw [if_neg h1]
    by_cases h2 : a ≤ j ∧ j < a + n
    · rw [if_pos h2, if_pos (by omega)]
    · rw [if_neg h2, if_neg (by omega)]
set_option maxHeartbeats 4000000 in
set_option maxRecDepth 100000 in
theorem c_X4_wasTold (l : Launch) (G : GG) (a : Nat → Nat) (f : Nat → Int32) (r : Nat → Nat → Int32) (sp : Nat) (wh : Int32) (hsp : sp < 144) : RdI l yX4_wasTold cX4_wasTold 3 (some .boolean) ({ frames := 0, cells := 0, slots := 0, locals := 0 }) G (tW G a f r) [.ref (a 0), .int (nI sp), .int wh] (fun q => (q = 0 ∧ r 7 sp &&& wh = 0) ∨ (q = 1 ∧ ¬ r 7 sp &&& wh = 0)) := by
  refine rd_entry (by decide +kernel) (Nat.le_of_ble_eq_true rfl) ?_
  intro p e s m below meth c C0 hP hK ls hl
  have hS : va_S (fun q => s.heap.size ≤ q) s.heap s.heap [] := va_S.rf
  have hA : ∀ q, s.heap.size ≤ q → (fun q => s.heap.size ≤ q) q := fun _ h => h
  obtain ⟨hx, hb, hml, hown, hts, hr, hlocks, hin⟩ := C0
  have hown : s.vm.findClass RX4 = some m.cls := hown
  have hl : lv_has ls 3 [(0, .ref (a 0)), (1, .int (nI sp)), (2, .int wh)] := hl
  refine lv_aload_n hx hb dX4_wasTold_0 rfl (lv_at hl 0 rfl) ?_
  refine va_get (D := G.1) (ci := 4) (v := .ref (a 7)) (C := RX4) (T := TX4) (N := 12) hx hb hts inX4 hown hK.1 hP 0 rfl rfl 7 (by decide) (hts _ mf_X4_35) (fun _ h9 => h9) rfl dX4_wasTold_1 ?_
  refine lv_iload_n hx hb dX4_wasTold_4 rfl (lv_at hl 1 rfl) ?_
  refine xiald hx hb hK hP 4 (sp) (rfl) (hsp) (by omega) rfl dX4_wasTold_5 ?_
  refine lv_topi (fun v1 ev1 => ?_)
  refine lv_iload_n hx hb dX4_wasTold_6 rfl (lv_at hl 2 rfl) ?_
  refine lv_iand hx hb dX4_wasTold_7 ?_
  refine lv_topi (fun v2 ev2 => ?_)
  refine lv_if_eq (tgt := 15) hx hb dX4_wasTold_8 (by decide) (fun c3 => ?_) (fun c3 => ?_)
  · refine lv_iconst (v := 0) hx hb dX4_wasTold_15 (by decide) ?_
    subst ev1
    subst ev2
    exact rd_zret hx hb hr hlocks (Or.inl rfl) hS (Or.inl ⟨rfl, c3⟩) dX4_wasTold_16
  · refine lv_iconst (v := 1) hx hb dX4_wasTold_11 (by decide) ?_
    refine lv_goto (tgt := 16) hx hb dX4_wasTold_12 (by decide) ?_
    subst ev1
    subst ev2
    exact rd_zret hx hb hr hlocks (Or.inr rfl) hS (Or.inr ⟨rfl, c3⟩) dX4_wasTold_16
set_option maxHeartbeats 4000000 in
set_option maxRecDepth 100000 in
theorem c_X4_tell (l : Launch) (G : GG) (a : Nat → Nat) (f : Nat → Int32) (r : Nat → Nat → Int32) (sp : Nat) (wh on : Int32) (hsp : sp < 144) : WrV l yX4_tell cX4_tell 4 ({ frames := 0, cells := 0, slots := 0, locals := 0 }) G ([((a 0), .inr (4, [.int (f 0), .int (f 1), .int (f 2), .int (f 3), .ref (a 4), .ref (a 5), .ref (a 6), .ref (a 7), .ref (a 8), .ref (a 9), .ref (a 10), .ref (a 11)])), ((a 7), .inl (G.2.1, 144, .inl (r 7)))]) [.ref (a 0), .int (nI sp), .int wh, .int on] (fun w => w = [((a 0), .inr (4, [.int (f 0), .int (f 1), .int (f 2), .int (f 3), .ref (a 4), .ref (a 5), .ref (a 6), .ref (a 7), .ref (a 8), .ref (a 9), .ref (a 10), .ref (a 11)])), ((a 7), .inl (G.2.1, 144, .inl (upd (r 7) sp (if on = 0 then r 7 sp &&& (wh ^^^ (-1)) else r 7 sp ||| wh))))]) := by
  refine wr_entryV (by decide +kernel) (Nat.le_of_ble_eq_true rfl) ?_
  intro p e s m below meth c A C0 hP hK hD hA ls hl
  have hS : va_S A s.heap s.heap [] := va_S.rf
  obtain ⟨hx, hb, hml, hown, hts, hr, hlocks, hin⟩ := C0
  have hown : s.vm.findClass RX4 = some m.cls := hown
  have hl : lv_has ls 4 [(0, .ref (a 0)), (1, .int (nI sp)), (2, .int wh), (3, .int on)] := hl
  refine lv_aload_n hx hb dX4_tell_0 rfl (lv_at hl 0 rfl) ?_
  refine va_get (D := G.1) (ci := 4) (v := .ref (a 7)) (C := RX4) (T := TX4) (N := 12) hx hb hts inX4 hown hK.1 hP 0 rfl rfl 7 (by decide) (hts _ mf_X4_35) (fun _ h9 => h9) rfl dX4_tell_1 ?_
  refine lv_iload_n hx hb dX4_tell_4 rfl (lv_at hl 1 rfl) ?_
  refine lv_iload_n hx hb dX4_tell_5 rfl (lv_at hl 3 rfl) ?_
  refine lv_if_eq (tgt := 20) hx hb dX4_tell_6 (by decide) (fun c1 => ?_) (fun c1 => ?_)
  · refine lv_aload_n hx hb dX4_tell_20 rfl (lv_at hl 0 rfl) ?_
    refine va_get (D := G.1) (ci := 4) (v := .ref (a 7)) (C := RX4) (T := TX4) (N := 12) hx hb hts inX4 hown hK.1 hP 0 rfl rfl 7 (by decide) (hts _ mf_X4_35) (fun _ h9 => h9) rfl dX4_tell_21 ?_
    refine lv_iload_n hx hb dX4_tell_24 rfl (lv_at hl 1 rfl) ?_
    refine xiald hx hb hK hP 1 (sp) (rfl) (hsp) (by omega) rfl dX4_tell_25 ?_
    refine lv_topi (fun v2 ev2 => ?_)
    refine lv_iload_n hx hb dX4_tell_26 rfl (lv_at hl 2 rfl) ?_
    refine lv_iconst (v := -1) hx hb dX4_tell_27 (by decide) ?_
    refine lv_ixor hx hb dX4_tell_28 ?_
    refine lv_topi (fun v3 ev3 => ?_)
    refine lv_iand hx hb dX4_tell_29 ?_
    refine lv_topi (fun v4 ev4 => ?_)
    refine xiast (x := v4) hx hb hK hP hD hS 1 (sp) (rfl) (hsp) (by omega) rfl dX4_tell_30 (fun H locs hP hD hS => ?_)
    have hP : PP G [((a 0), .inr (4, [.int (f 0), .int (f 1), .int (f 2), .int (f 3), .ref (a 4), .ref (a 5), .ref (a 6), .ref (a 7), .ref (a 8), .ref (a 9), .ref (a 10), .ref (a 11)])), ((a 7), .inl (G.2.1, 144, .inl (upd (r 7) (sp) (v4))))] H := hP
    have hD := D_as hP hD rfl
    exact wr_vret hx hb hr hlocks hS hP (by rw [if_pos c1]; simp only [*]) dX4_tell_31
  · refine lv_aload_n hx hb dX4_tell_9 rfl (lv_at hl 0 rfl) ?_
    refine va_get (D := G.1) (ci := 4) (v := .ref (a 7)) (C := RX4) (T := TX4) (N := 12) hx hb hts inX4 hown hK.1 hP 0 rfl rfl 7 (by decide) (hts _ mf_X4_35) (fun _ h9 => h9) rfl dX4_tell_10 ?_
    refine lv_iload_n hx hb dX4_tell_13 rfl (lv_at hl 1 rfl) ?_
    refine xiald hx hb hK hP 1 (sp) (rfl) (hsp) (by omega) rfl dX4_tell_14 ?_
    refine lv_topi (fun v5 ev5 => ?_)
    refine lv_iload_n hx hb dX4_tell_15 rfl (lv_at hl 2 rfl) ?_
    refine lv_ior hx hb dX4_tell_16 ?_
    refine lv_topi (fun v6 ev6 => ?_)
    refine lv_goto (tgt := 30) hx hb dX4_tell_17 (by decide) ?_
    refine xiast (x := v6) hx hb hK hP hD hS 1 (sp) (rfl) (hsp) (by omega) rfl dX4_tell_30 (fun H locs hP hD hS => ?_)
    have hP : PP G [((a 0), .inr (4, [.int (f 0), .int (f 1), .int (f 2), .int (f 3), .ref (a 4), .ref (a 5), .ref (a 6), .ref (a 7), .ref (a 8), .ref (a 9), .ref (a 10), .ref (a 11)])), ((a 7), .inl (G.2.1, 144, .inl (upd (r 7) (sp) (v6))))] H := hP
    have hD := D_as hP hD rfl
    exact wr_vret hx hb hr hlocks hS hP (by rw [if_neg c1]; simp only [*]) dX4_tell_31
set_option maxHeartbeats 4000000 in
set_option maxRecDepth 100000 in
theorem c_X4_giversAt (l : Launch) (G : GG) (a : Nat → Nat) (f : Nat → Int32) (r : Nat → Nat → Int32) (sp : Nat) (hsp : sp < 144) : RdI l yX4_giversAt cX4_giversAt 4 (some .int) ({ frames := 0, cells := 0, slots := 0, locals := 0 }) G (tW G a f r) [.ref (a 0), .int (nI sp)] (fun q => q = nI (gvN (r 8) sp 6)) := by
  refine rd_entry (by decide +kernel) (Nat.le_of_ble_eq_true rfl) ?_
  intro p e s m below meth c C0 hP hK ls hl
  have hS : va_S (fun q => s.heap.size ≤ q) s.heap s.heap [] := va_S.rf
  have hA : ∀ q, s.heap.size ≤ q → (fun q => s.heap.size ≤ q) q := fun _ h => h
  obtain ⟨hx, hb, hml, hown, hts, hr, hlocks, hin⟩ := C0
  have hown : s.vm.findClass RX4 = some m.cls := hown
  have hl : lv_has ls 4 [(0, .ref (a 0)), (1, .int (nI sp))] := hl
  refine lv_iconst (v := 0) hx hb dX4_giversAt_0 (by decide) ?_
  refine lv_istore_n (lv' := [(2, .int 0), (0, .ref (a 0)), (1, .int (nI sp))]) hx hb dX4_giversAt_1 rfl hl (by decide) rfl (fun ls hl => ?_)
  refine lv_iconst (v := 0) hx hb dX4_giversAt_2 (by decide) ?_
  refine lv_istore_n (lv' := [(3, .int 0), (2, .int 0), (0, .ref (a 0)), (1, .int (nI sp))]) hx hb dX4_giversAt_3 rfl hl (by decide) rfl (fun ls hl => ?_)
  have loop : ∀ (k i : Nat), i ≤ 6 → 6 < i + k → ∀ (H : Heap) (locs : List Loc) (ls : Array Slot), PP G ([((a 0), .inr (4, [.int (f 0), .int (f 1), .int (f 2), .int (f 3), .ref (a 4), .ref (a 5), .ref (a 6), .ref (a 7), .ref (a 8), .ref (a 9), .ref (a 10), .ref (a 11)])), ((a 4), .inl (G.2.1, 12, .inl (r 4))), ((a 5), .inl (G.2.1, 144, .inl (r 5))), ((a 6), .inl (G.2.1, 144, .inl (r 6))), ((a 7), .inl (G.2.1, 144, .inl (r 7))), ((a 8), .inl (G.2.1, 864, .inl (r 8))), ((a 9), .inl (G.2.1, 6, .inl (r 9))), ((a 10), .inl (G.2.1, 12, .inl (r 10))), ((a 11), .inl (G.2.1, 12, .inl (r 11)))]) H → va_S (fun q => s.heap.size ≤ q) s.heap H locs → lv_has ls 4 [(0, .ref (a 0)), (1, .int (nI sp)), (2, .int (nI (gvN (r 8) sp i))), (3, .int (nI i))] → W p l e ({ frames := 0, cells := 0, slots := 0, locals := 0 }) s m ([.ref (a 0), .int (nI sp)] : List Value).toArray below meth c H locs 0 0 (MQ below (QrI (fun q => q = nI (gvN (r 8) sp 6)) (fun q => s.heap.size ≤ q)) ([.ref (a 0), .int (nI sp)] : List Value).toArray s 0 0 (fun q => s.heap.size ≤ q)) (F0 m 4 ls []) := by
    intro k
    induction k with
    | zero => intro i  h1 h2; omega
    | succ k ih =>
      intro i  hi_i hk_i  H locs ls hP hS hl
      refine lv_iload_n hx hb dX4_giversAt_4 rfl (lv_at hl 3 rfl) ?_
      refine lv_bipush (v := 6) hx hb dX4_giversAt_5 (by decide) ?_
      refine lv_icmp_ge (tgt := 38) hx hb dX4_giversAt_7 (by decide) (fun c1 => ?_) (fun c1 => ?_)
      · have hge := ge_t (b := 6) (by omega) (by omega) c1
        obtain rfl : i = 6 := by omega
        refine lv_iload_n hx hb dX4_giversAt_38 rfl (lv_at hl 2 rfl) ?_
        exact rd_iret hx hb hr hlocks hS rfl dX4_giversAt_39
      · have hlt := ge_f (b := 6) (by omega) (by omega) c1
        refine lv_iload_n hx hb dX4_giversAt_10 rfl (lv_at hl 2 rfl) ?_
        refine lv_aload_n hx hb dX4_giversAt_11 rfl (lv_at hl 0 rfl) ?_
        refine va_get (D := G.1) (ci := 4) (v := .ref (a 8)) (C := RX4) (T := TX4) (N := 12) hx hb hts inX4 hown hK.1 hP 0 rfl rfl 8 (by decide) (hts _ mf_X4_38) (fun _ h9 => h9) rfl dX4_giversAt_12 ?_
        refine lv_iload_n hx hb dX4_giversAt_15 rfl (lv_at hl 1 rfl) ?_
        refine lv_bipush (v := 6) hx hb dX4_giversAt_16 (by decide) ?_
        refine lv_imul hx hb dX4_giversAt_18 ?_
        refine lv_topi (fun v2 ev2 => ?_)
        refine lv_iload_n hx hb dX4_giversAt_19 rfl (lv_at hl 3 rfl) ?_
        refine lv_iadd hx hb dX4_giversAt_20 ?_
        refine lv_topi (fun v3 ev3 => ?_)
        refine xiald hx hb hK hP 5 (sp * 6 + i) (nI_plus ev3 (nI_mul6n ev2) rfl) (by omega) (by omega) rfl dX4_giversAt_21 ?_
        refine lv_topi (fun v4 ev4 => ?_)
        refine lv_if_le (tgt := 29) hx hb dX4_giversAt_22 (by decide) (fun c5 => ?_) (fun c5 => ?_)
        · refine lv_iconst (v := 0) hx hb dX4_giversAt_29 (by decide) ?_
          refine lv_iadd hx hb dX4_giversAt_30 ?_
          refine lv_topi (fun v6 ev6 => ?_)
          refine lv_istore_n (lv' := [(2, .int v6), (0, .ref (a 0)), (1, .int (nI sp)), (3, .int (nI i))]) hx hb dX4_giversAt_31 rfl hl (by decide) rfl (fun ls hl => ?_)
          obtain ⟨v7, ev7⟩ : ∃ y : Int32, y = (nI i) + Int32.ofInt (1) := ⟨_, rfl⟩
          refine lv_iinc (v := v7) (lv' := [(3, .int v7), (2, .int v6), (0, .ref (a 0)), (1, .int (nI sp))]) hx hb dX4_giversAt_32 hl (k := 3) rfl ev7.symm (by decide) rfl (fun ls hl => ?_)
          refine lv_goto (tgt := 4) hx hb dX4_giversAt_35 (by decide) ?_
          have e2 : v6 = nI (gvN (r 8) sp (i + 1)) := by
            simp only [gvN]
            rw [if_neg (show ¬ 0 < r 8 (sp * 6 + i) by rw [← ev4]; exact Int32.not_lt.mpr c5)]
            exact nI_plus (j := 0) ev6 rfl rfl
          exact ih (i + 1) (by omega) (by omega) _ _ _ hP hS (by have e := nI_inc ev7; rw [e, e2] at hl; exact lv_sub hl [2, 3, 1, 0] rfl)
        · refine lv_iconst (v := 1) hx hb dX4_giversAt_25 (by decide) ?_
          refine lv_goto (tgt := 30) hx hb dX4_giversAt_26 (by decide) ?_
          refine lv_iadd hx hb dX4_giversAt_30 ?_
          refine lv_topi (fun v8 ev8 => ?_)
          refine lv_istore_n (lv' := [(2, .int v8), (0, .ref (a 0)), (1, .int (nI sp)), (3, .int (nI i))]) hx hb dX4_giversAt_31 rfl hl (by decide) rfl (fun ls hl => ?_)
          obtain ⟨v9, ev9⟩ : ∃ y : Int32, y = (nI i) + Int32.ofInt (1) := ⟨_, rfl⟩
          refine lv_iinc (v := v9) (lv' := [(3, .int v9), (2, .int v8), (0, .ref (a 0)), (1, .int (nI sp))]) hx hb dX4_giversAt_32 hl (k := 3) rfl ev9.symm (by decide) rfl (fun ls hl => ?_)
          refine lv_goto (tgt := 4) hx hb dX4_giversAt_35 (by decide) ?_
          have e2 : v8 = nI (gvN (r 8) sp (i + 1)) := by
            simp only [gvN]
            rw [if_pos (show 0 < r 8 (sp * 6 + i) by rw [← ev4]; exact Int32.not_le.mp c5)]
            exact nI_plus (j := 1) ev8 rfl rfl
          exact ih (i + 1) (by omega) (by omega) _ _ _ hP hS (by have e := nI_inc ev9; rw [e, e2] at hl; exact lv_sub hl [2, 3, 1, 0] rfl)
  exact loop 7 0 (Nat.zero_le _) (by omega) _ _ _ hP hS (lv_sub hl [2, 3, 1, 0] rfl)
set_option maxHeartbeats 4000000 in
set_option maxRecDepth 100000 in
theorem c_X4_rowSum (l : Launch) (G : GG) (a : Nat → Nat) (f : Nat → Int32) (r : Nat → Nat → Int32) (i cl : Nat) (hi : i < 12) (hcl : cl ≤ 12) (h2 : f 2 = nI cl) : RdI l yX4_rowSum cX4_rowSum 4 (some .int) ({ frames := 1, cells := 0, slots := 0, locals := 21 }) G (tW G a f r) [.ref (a 0), .int (nI i)] (fun q => q = smF (r 6) (i * 12) cl) := by
  refine rd_entry (by decide +kernel) (Nat.le_of_ble_eq_true rfl) ?_
  intro p e s m below meth c C0 hP hK ls hl
  have hS : va_S (fun q => s.heap.size ≤ q) s.heap s.heap [] := va_S.rf
  have hA : ∀ q, s.heap.size ≤ q → (fun q => s.heap.size ≤ q) q := fun _ h => h
  obtain ⟨hx, hb, hml, hown, hts, hr, hlocks, hin⟩ := C0
  have hown : s.vm.findClass RX4 = some m.cls := hown
  have hl : lv_has ls 4 [(0, .ref (a 0)), (1, .int (nI i))] := hl
  refine lv_iconst (v := 0) hx hb dX4_rowSum_0 (by decide) ?_
  refine lv_istore_n (lv' := [(2, .int 0), (0, .ref (a 0)), (1, .int (nI i))]) hx hb dX4_rowSum_1 rfl hl (by decide) rfl (fun ls hl => ?_)
  refine lv_iconst (v := 0) hx hb dX4_rowSum_2 (by decide) ?_
  refine lv_istore_n (lv' := [(3, .int 0), (2, .int 0), (0, .ref (a 0)), (1, .int (nI i))]) hx hb dX4_rowSum_3 rfl hl (by decide) rfl (fun ls hl => ?_)
  have loop : ∀ (k j : Nat), j ≤ cl → cl < j + k → ∀ (H : Heap) (locs : List Loc) (ls : Array Slot), PP G ([((a 0), .inr (4, [.int (f 0), .int (f 1), .int (f 2), .int (f 3), .ref (a 4), .ref (a 5), .ref (a 6), .ref (a 7), .ref (a 8), .ref (a 9), .ref (a 10), .ref (a 11)])), ((a 4), .inl (G.2.1, 12, .inl (r 4))), ((a 5), .inl (G.2.1, 144, .inl (r 5))), ((a 6), .inl (G.2.1, 144, .inl (r 6))), ((a 7), .inl (G.2.1, 144, .inl (r 7))), ((a 8), .inl (G.2.1, 864, .inl (r 8))), ((a 9), .inl (G.2.1, 6, .inl (r 9))), ((a 10), .inl (G.2.1, 12, .inl (r 10))), ((a 11), .inl (G.2.1, 12, .inl (r 11)))]) H → va_S (fun q => s.heap.size ≤ q) s.heap H locs → lv_has ls 4 [(0, .ref (a 0)), (1, .int (nI i)), (2, .int (smF (r 6) (i * 12) j)), (3, .int (nI j))] → W p l e ({ frames := 1, cells := 0, slots := 0, locals := 21 }) s m ([.ref (a 0), .int (nI i)] : List Value).toArray below meth c H locs 0 0 (MQ below (QrI (fun q => q = smF (r 6) (i * 12) cl) (fun q => s.heap.size ≤ q)) ([.ref (a 0), .int (nI i)] : List Value).toArray s 0 0 (fun q => s.heap.size ≤ q)) (F0 m 4 ls []) := by
    intro k
    induction k with
    | zero => intro j  h1 h2; omega
    | succ k ih =>
      intro j  hi_j hk_j  H locs ls hP hS hl
      refine lv_iload_n hx hb dX4_rowSum_4 rfl (lv_at hl 3 rfl) ?_
      refine lv_aload_n hx hb dX4_rowSum_5 rfl (lv_at hl 0 rfl) ?_
      refine va_get (D := G.1) (ci := 4) (v := .int (f 2)) (C := RX4) (T := TX4) (N := 12) hx hb hts inX4 hown hK.1 hP 0 rfl rfl 2 (by decide) (hts _ mf_X4_19) (fun _ h9 => h9) rfl dX4_rowSum_6 ?_
      refine lv_icmp_ge (tgt := 31) hx hb dX4_rowSum_9 (by decide) (fun c1 => ?_) (fun c1 => ?_)
      · rw [h2] at c1
        have hge := ge_t (by omega) (by omega) c1
        obtain rfl : j = cl := by omega
        refine lv_iload_n hx hb dX4_rowSum_31 rfl (lv_at hl 2 rfl) ?_
        exact rd_iret hx hb hr hlocks hS rfl dX4_rowSum_32
      · rw [h2] at c1
        have hlt := ge_f (by omega) (by omega) c1
        refine lv_iload_n hx hb dX4_rowSum_12 rfl (lv_at hl 2 rfl) ?_
        refine lv_aload_n hx hb dX4_rowSum_13 rfl (lv_at hl 0 rfl) ?_
        refine va_get (D := G.1) (ci := 4) (v := .ref (a 6)) (C := RX4) (T := TX4) (N := 12) hx hb hts inX4 hown hK.1 hP 0 rfl rfl 6 (by decide) (hts _ mf_X4_32) (fun _ h9 => h9) rfl dX4_rowSum_14 ?_
        refine lv_iload_n hx hb dX4_rowSum_17 rfl (lv_at hl 1 rfl) ?_
        refine lv_iload_n hx hb dX4_rowSum_18 rfl (lv_at hl 3 rfl) ?_
        refine rdSN (rest := [.ref (a 6), .int (smF (r 6) (i * 12) j)]) ⟨hx, hb, hml, hown, hts⟩ (c_X6_spotOf l G ((nI i)) ((nI j))) mi_yX6_spotOf mst_yX6_spotOf (by decide +kernel) ⟨rfl, rfl, Nat.le_of_ble_eq_true rfl, Nat.le_of_ble_eq_true rfl⟩ hK (fun k q h => by simp at h) rfl hl.1 rfl (Nat.le_of_ble_eq_true rfl) dX4_rowSum_19 ⟨Nat.zero_le _, Nat.zero_le _⟩ hS hA hP (fun r2 H locs hr2 hP hS => ?_)
        refine xiald hx hb hK hP 3 (i * 12 + j) (spot_eq hr2) (by omega) (by omega) rfl dX4_rowSum_22 ?_
        refine lv_topi (fun v3 ev3 => ?_)
        refine lv_iadd hx hb dX4_rowSum_23 ?_
        refine lv_topi (fun v4 ev4 => ?_)
        refine lv_istore_n (lv' := [(2, .int v4), (0, .ref (a 0)), (1, .int (nI i)), (3, .int (nI j))]) hx hb dX4_rowSum_24 rfl hl (by decide) rfl (fun ls hl => ?_)
        obtain ⟨v5, ev5⟩ : ∃ y : Int32, y = (nI j) + Int32.ofInt (1) := ⟨_, rfl⟩
        refine lv_iinc (v := v5) (lv' := [(3, .int v5), (2, .int v4), (0, .ref (a 0)), (1, .int (nI i))]) hx hb dX4_rowSum_25 hl (k := 3) rfl ev5.symm (by decide) rfl (fun ls hl => ?_)
        refine lv_goto (tgt := 4) hx hb dX4_rowSum_28 (by decide) ?_
        have e2 : v4 = smF (r 6) (i * 12) (j + 1) := by rw [ev4, ev3]; rfl
        exact ih (j + 1) (by omega) (by omega) _ _ _ hP hS (by have e := nI_inc ev5; rw [e, e2] at hl; exact lv_sub hl [2, 3, 1, 0] rfl)
  exact loop (cl + 1) 0 (Nat.zero_le _) (by omega) _ _ _ hP hS (lv_sub hl [2, 3, 1, 0] rfl)
set_option maxHeartbeats 4000000 in
set_option maxRecDepth 100000 in
theorem c_X4_isSound (l : Launch) (G : GG) (a : Nat → Nat) (f : Nat → Int32) (r : Nat → Nat → Int32) (i cl : Nat) (hi : i < 12) (hcl : cl ≤ 12) (h2 : f 2 = nI cl) : RdI l yX4_isSound cX4_isSound 4 (some .boolean) ({ frames := 1, cells := 0, slots := 0, locals := 21 }) G (tW G a f r) [.ref (a 0), .int (nI i)] (fun q => (q = 1 ∧ sndP cl (r 4) (r 5) i) ∨ (q = 0 ∧ ¬ sndP cl (r 4) (r 5) i)) := by
  refine rd_entry (by decide +kernel) (Nat.le_of_ble_eq_true rfl) ?_
  intro p e s m below meth c C0 hP hK ls hl
  have hS : va_S (fun q => s.heap.size ≤ q) s.heap s.heap [] := va_S.rf
  have hA : ∀ q, s.heap.size ≤ q → (fun q => s.heap.size ≤ q) q := fun _ h => h
  obtain ⟨hx, hb, hml, hown, hts, hr, hlocks, hin⟩ := C0
  have hown : s.vm.findClass RX4 = some m.cls := hown
  have hl : lv_has ls 4 [(0, .ref (a 0)), (1, .int (nI i))] := hl
  refine lv_aload_n hx hb dX4_isSound_0 rfl (lv_at hl 0 rfl) ?_
  refine va_get (D := G.1) (ci := 4) (v := .ref (a 4)) (C := RX4) (T := TX4) (N := 12) hx hb hts inX4 hown hK.1 hP 0 rfl rfl 4 (by decide) (hts _ mf_X4_25) (fun _ h9 => h9) rfl dX4_isSound_1 ?_
  refine lv_iload_n hx hb dX4_isSound_4 rfl (lv_at hl 1 rfl) ?_
  refine xiald hx hb hK hP 1 (i) (rfl) (hi) (by omega) rfl dX4_isSound_5 ?_
  refine lv_topi (fun v1 ev1 => ?_)
  refine lv_aload_n hx hb dX4_isSound_6 rfl (lv_at hl 0 rfl) ?_
  refine va_get (D := G.1) (ci := 4) (v := .int (f 2)) (C := RX4) (T := TX4) (N := 12) hx hb hts inX4 hown hK.1 hP 0 rfl rfl 2 (by decide) (hts _ mf_X4_19) (fun _ h9 => h9) rfl dX4_isSound_7 ?_
  refine lv_icmp_ge (tgt := 15) hx hb dX4_isSound_10 (by decide) (fun c2 => ?_) (fun c2 => ?_)
  · rw [h2] at c2
    rw [ev1] at c2
    refine lv_iconst (v := 0) hx hb dX4_isSound_15 (by decide) ?_
    refine lv_istore_n (lv' := [(2, .int 0), (0, .ref (a 0)), (1, .int (nI i))]) hx hb dX4_isSound_16 rfl hl (by decide) rfl (fun ls hl => ?_)
    have loop : ∀ (k j : Nat), j ≤ cl → cl < j + k → (∀ c, c < j → r 5 (i * 12 + c) ≠ 0 ∧ r 5 (i * 12 + c) ≠ 5) → ∀ (H : Heap) (locs : List Loc) (ls : Array Slot), PP G ([((a 0), .inr (4, [.int (f 0), .int (f 1), .int (f 2), .int (f 3), .ref (a 4), .ref (a 5), .ref (a 6), .ref (a 7), .ref (a 8), .ref (a 9), .ref (a 10), .ref (a 11)])), ((a 4), .inl (G.2.1, 12, .inl (r 4))), ((a 5), .inl (G.2.1, 144, .inl (r 5))), ((a 6), .inl (G.2.1, 144, .inl (r 6))), ((a 7), .inl (G.2.1, 144, .inl (r 7))), ((a 8), .inl (G.2.1, 864, .inl (r 8))), ((a 9), .inl (G.2.1, 6, .inl (r 9))), ((a 10), .inl (G.2.1, 12, .inl (r 10))), ((a 11), .inl (G.2.1, 12, .inl (r 11)))]) H → va_S (fun q => s.heap.size ≤ q) s.heap H locs → lv_has ls 4 [(0, .ref (a 0)), (1, .int (nI i)), (2, .int (nI j))] → W p l e ({ frames := 1, cells := 0, slots := 0, locals := 21 }) s m ([.ref (a 0), .int (nI i)] : List Value).toArray below meth c H locs 0 0 (MQ below (QrI (fun q => (q = 1 ∧ sndP cl (r 4) (r 5) i) ∨ (q = 0 ∧ ¬ sndP cl (r 4) (r 5) i)) (fun q => s.heap.size ≤ q)) ([.ref (a 0), .int (nI i)] : List Value).toArray s 0 0 (fun q => s.heap.size ≤ q)) (F0 m 17 ls []) := by
      intro k
      induction k with
      | zero => intro j  h1 h2; omega
      | succ k ih =>
        intro j  hi_j hk_j hall H locs ls hP hS hl
        refine lv_iload_n hx hb dX4_isSound_17 rfl (lv_at hl 2 rfl) ?_
        refine lv_aload_n hx hb dX4_isSound_18 rfl (lv_at hl 0 rfl) ?_
        refine va_get (D := G.1) (ci := 4) (v := .int (f 2)) (C := RX4) (T := TX4) (N := 12) hx hb hts inX4 hown hK.1 hP 0 rfl rfl 2 (by decide) (hts _ mf_X4_19) (fun _ h9 => h9) rfl dX4_isSound_19 ?_
        refine lv_icmp_ge (tgt := 53) hx hb dX4_isSound_22 (by decide) (fun c3 => ?_) (fun c3 => ?_)
        · rw [h2] at c3
          have hge := ge_t (by omega) (by omega) c3
          obtain rfl : j = cl := by omega
          refine lv_iconst (v := 1) hx hb dX4_isSound_53 (by decide) ?_
          exact rd_zret hx hb hr hlocks (Or.inr rfl) hS (Or.inl ⟨rfl, c2, hall⟩) dX4_isSound_54
        · rw [h2] at c3
          have hlt := ge_f (by omega) (by omega) c3
          refine lv_aload_n hx hb dX4_isSound_25 rfl (lv_at hl 0 rfl) ?_
          refine va_get (D := G.1) (ci := 4) (v := .ref (a 5)) (C := RX4) (T := TX4) (N := 12) hx hb hts inX4 hown hK.1 hP 0 rfl rfl 5 (by decide) (hts _ mf_X4_29) (fun _ h9 => h9) rfl dX4_isSound_26 ?_
          refine lv_iload_n hx hb dX4_isSound_29 rfl (lv_at hl 1 rfl) ?_
          refine lv_iload_n hx hb dX4_isSound_30 rfl (lv_at hl 2 rfl) ?_
          refine rdSN (rest := [.ref (a 5)]) ⟨hx, hb, hml, hown, hts⟩ (c_X6_spotOf l G ((nI i)) ((nI j))) mi_yX6_spotOf mst_yX6_spotOf (by decide +kernel) ⟨rfl, rfl, Nat.le_of_ble_eq_true rfl, Nat.le_of_ble_eq_true rfl⟩ hK (fun k q h => by simp at h) rfl hl.1 rfl (Nat.le_of_ble_eq_true rfl) dX4_isSound_31 ⟨Nat.zero_le _, Nat.zero_le _⟩ hS hA hP (fun r4 H locs hr4 hP hS => ?_)
          refine xiald hx hb hK hP 2 (i * 12 + j) (spot_eq hr4) (by omega) (by omega) rfl dX4_isSound_34 ?_
          refine lv_topi (fun v5 ev5 => ?_)
          refine lv_istore_n (lv' := [(3, .int v5), (0, .ref (a 0)), (1, .int (nI i)), (2, .int (nI j))]) hx hb dX4_isSound_35 rfl hl (by decide) rfl (fun ls hl => ?_)
          refine lv_iload_n hx hb dX4_isSound_36 rfl (lv_at hl 0 rfl) ?_
          refine lv_if_eq (tgt := 45) hx hb dX4_isSound_37 (by decide) (fun c6 => ?_) (fun c6 => ?_)
          · refine lv_iconst (v := 0) hx hb dX4_isSound_45 (by decide) ?_
            exact rd_zret hx hb hr hlocks (Or.inl rfl) hS (Or.inr ⟨rfl, fun h => (h.2 j hlt).1 (by rw [← ev5]; exact c6)⟩) dX4_isSound_46
          · refine lv_iload_n hx hb dX4_isSound_40 rfl (lv_at hl 0 rfl) ?_
            refine lv_iconst (v := 5) hx hb dX4_isSound_41 (by decide) ?_
            refine lv_icmp_ne (tgt := 47) hx hb dX4_isSound_42 (by decide) (fun c7 => ?_) (fun c7 => ?_)
            · obtain ⟨v8, ev8⟩ : ∃ y : Int32, y = (nI j) + Int32.ofInt (1) := ⟨_, rfl⟩
              refine lv_iinc (v := v8) (lv' := [(2, .int v8), (3, .int v5), (0, .ref (a 0)), (1, .int (nI i))]) hx hb dX4_isSound_47 hl (k := 3) rfl ev8.symm (by decide) rfl (fun ls hl => ?_)
              refine lv_goto (tgt := 17) hx hb dX4_isSound_50 (by decide) ?_
              have hall2 : ∀ c, c < j + 1 → r 5 (i * 12 + c) ≠ 0 ∧ r 5 (i * 12 + c) ≠ 5 := fun c hc => by
                rcases Nat.lt_or_ge c j with h | h
                · exact hall c h
                · obtain rfl : c = j := by omega
                  rw [← ev5]; exact ⟨c6, c7⟩
              exact ih (j + 1) (by omega) (by omega) hall2 _ _ _ hP hS (by have e := nI_inc ev8; rw [e] at hl; exact lv_sub hl [2, 3, 0] rfl)
            · refine lv_iconst (v := 0) hx hb dX4_isSound_45 (by decide) ?_
              exact rd_zret hx hb hr hlocks (Or.inl rfl) hS (Or.inr ⟨rfl, fun h => (h.2 j hlt).2 (by rw [← ev5]; exact c7)⟩) dX4_isSound_46
    exact loop (cl + 1) 0 (Nat.zero_le _) (by omega) (fun c hc => absurd hc (Nat.not_lt_zero c)) _ _ _ hP hS (lv_sub hl [1, 2, 0] rfl)
  · rw [h2] at c2
    rw [ev1] at c2
    refine lv_iconst (v := 0) hx hb dX4_isSound_13 (by decide) ?_
    exact rd_zret hx hb hr hlocks (Or.inl rfl) hS (Or.inr ⟨rfl, fun h => c2 h.1⟩) dX4_isSound_14
set_option maxHeartbeats 4000000 in
set_option maxRecDepth 100000 in
theorem c_X4_leftByTwo (l : Launch) (G : GG) (a : Nat → Nat) (f : Nat → Int32) (r : Nat → Nat → Int32) (sp : Nat) (hsp : sp < 144) : RdI l yX4_leftByTwo cX4_leftByTwo 6 (some .int) ({ frames := 0, cells := 0, slots := 0, locals := 0 }) G (tW G a f r) [.ref (a 0), .int (nI sp)] (fun q => q = r 6 sp - (twS (r 8) sp 6).1 - (twS (r 8) sp 6).2) := by
  refine rd_entry (by decide +kernel) (Nat.le_of_ble_eq_true rfl) ?_
  intro p e s m below meth c C0 hP hK ls hl
  have hS : va_S (fun q => s.heap.size ≤ q) s.heap s.heap [] := va_S.rf
  have hA : ∀ q, s.heap.size ≤ q → (fun q => s.heap.size ≤ q) q := fun _ h => h
  obtain ⟨hx, hb, hml, hown, hts, hr, hlocks, hin⟩ := C0
  have hown : s.vm.findClass RX4 = some m.cls := hown
  have hl : lv_has ls 6 [(0, .ref (a 0)), (1, .int (nI sp))] := hl
  refine lv_iconst (v := 0) hx hb dX4_leftByTwo_0 (by decide) ?_
  refine lv_istore_n (lv' := [(2, .int 0), (0, .ref (a 0)), (1, .int (nI sp))]) hx hb dX4_leftByTwo_1 rfl hl (by decide) rfl (fun ls hl => ?_)
  refine lv_iconst (v := 0) hx hb dX4_leftByTwo_2 (by decide) ?_
  refine lv_istore_n (lv' := [(3, .int 0), (2, .int 0), (0, .ref (a 0)), (1, .int (nI sp))]) hx hb dX4_leftByTwo_3 rfl hl (by decide) rfl (fun ls hl => ?_)
  refine lv_iconst (v := 0) hx hb dX4_leftByTwo_4 (by decide) ?_
  refine lv_istore (lv' := [(4, .int 0), (3, .int 0), (2, .int 0), (0, .ref (a 0)), (1, .int (nI sp))]) hx hb dX4_leftByTwo_5 hl (by decide) rfl (fun ls hl => ?_)
  have loop : ∀ (k i : Nat), i ≤ 6 → 6 < i + k → ∀ (H : Heap) (locs : List Loc) (ls : Array Slot), PP G ([((a 0), .inr (4, [.int (f 0), .int (f 1), .int (f 2), .int (f 3), .ref (a 4), .ref (a 5), .ref (a 6), .ref (a 7), .ref (a 8), .ref (a 9), .ref (a 10), .ref (a 11)])), ((a 4), .inl (G.2.1, 12, .inl (r 4))), ((a 5), .inl (G.2.1, 144, .inl (r 5))), ((a 6), .inl (G.2.1, 144, .inl (r 6))), ((a 7), .inl (G.2.1, 144, .inl (r 7))), ((a 8), .inl (G.2.1, 864, .inl (r 8))), ((a 9), .inl (G.2.1, 6, .inl (r 9))), ((a 10), .inl (G.2.1, 12, .inl (r 10))), ((a 11), .inl (G.2.1, 12, .inl (r 11)))]) H → va_S (fun q => s.heap.size ≤ q) s.heap H locs → lv_has ls 6 [(0, .ref (a 0)), (1, .int (nI sp)), (2, .int (twS (r 8) sp i).1), (3, .int (twS (r 8) sp i).2), (4, .int (nI i))] → W p l e ({ frames := 0, cells := 0, slots := 0, locals := 0 }) s m ([.ref (a 0), .int (nI sp)] : List Value).toArray below meth c H locs 0 0 (MQ below (QrI (fun q => q = r 6 sp - (twS (r 8) sp 6).1 - (twS (r 8) sp 6).2) (fun q => s.heap.size ≤ q)) ([.ref (a 0), .int (nI sp)] : List Value).toArray s 0 0 (fun q => s.heap.size ≤ q)) (F0 m 7 ls []) := by
    intro k
    induction k with
    | zero => intro i  h1 h2; omega
    | succ k ih =>
      intro i  hi_i hk_i  H locs ls hP hS hl
      refine lv_iload hx hb dX4_leftByTwo_7 (lv_at hl 4 rfl) ?_
      refine lv_bipush (v := 6) hx hb dX4_leftByTwo_9 (by decide) ?_
      refine lv_icmp_ge (tgt := 57) hx hb dX4_leftByTwo_11 (by decide) (fun c1 => ?_) (fun c1 => ?_)
      · have hge := ge_t (b := 6) (by omega) (by omega) c1
        obtain rfl : i = 6 := by omega
        refine lv_aload_n hx hb dX4_leftByTwo_57 rfl (lv_at hl 0 rfl) ?_
        refine va_get (D := G.1) (ci := 4) (v := .ref (a 6)) (C := RX4) (T := TX4) (N := 12) hx hb hts inX4 hown hK.1 hP 0 rfl rfl 6 (by decide) (hts _ mf_X4_32) (fun _ h9 => h9) rfl dX4_leftByTwo_58 ?_
        refine lv_iload_n hx hb dX4_leftByTwo_61 rfl (lv_at hl 1 rfl) ?_
        refine xiald hx hb hK hP 3 (sp) (rfl) (hsp) (by omega) rfl dX4_leftByTwo_62 ?_
        refine lv_topi (fun v2 ev2 => ?_)
        refine lv_iload_n hx hb dX4_leftByTwo_63 rfl (lv_at hl 2 rfl) ?_
        refine lv_isub hx hb dX4_leftByTwo_64 ?_
        refine lv_topi (fun v3 ev3 => ?_)
        refine lv_iload_n hx hb dX4_leftByTwo_65 rfl (lv_at hl 3 rfl) ?_
        refine lv_isub hx hb dX4_leftByTwo_66 ?_
        refine lv_topi (fun v4 ev4 => ?_)
        exact rd_iret hx hb hr hlocks hS (by simp only [*]) dX4_leftByTwo_67
      · have hlt := ge_f (b := 6) (by omega) (by omega) c1
        refine lv_aload_n hx hb dX4_leftByTwo_14 rfl (lv_at hl 0 rfl) ?_
        refine va_get (D := G.1) (ci := 4) (v := .ref (a 8)) (C := RX4) (T := TX4) (N := 12) hx hb hts inX4 hown hK.1 hP 0 rfl rfl 8 (by decide) (hts _ mf_X4_38) (fun _ h9 => h9) rfl dX4_leftByTwo_15 ?_
        refine lv_iload_n hx hb dX4_leftByTwo_18 rfl (lv_at hl 1 rfl) ?_
        refine lv_bipush (v := 6) hx hb dX4_leftByTwo_19 (by decide) ?_
        refine lv_imul hx hb dX4_leftByTwo_21 ?_
        refine lv_topi (fun v5 ev5 => ?_)
        refine lv_iload hx hb dX4_leftByTwo_22 (lv_at hl 4 rfl) ?_
        refine lv_iadd hx hb dX4_leftByTwo_24 ?_
        refine lv_topi (fun v6 ev6 => ?_)
        refine xiald hx hb hK hP 5 (sp * 6 + i) (nI_plus ev6 (nI_mul6n ev5) rfl) (by omega) (by omega) rfl dX4_leftByTwo_25 ?_
        refine lv_topi (fun v7 ev7 => ?_)
        refine lv_istore (lv' := [(5, .int v7), (0, .ref (a 0)), (1, .int (nI sp)), (2, .int (twS (r 8) sp i).1), (3, .int (twS (r 8) sp i).2), (4, .int (nI i))]) hx hb dX4_leftByTwo_26 hl (by decide) rfl (fun ls hl => ?_)
        refine lv_iload hx hb dX4_leftByTwo_28 (lv_at hl 0 rfl) ?_
        refine lv_iload_n hx hb dX4_leftByTwo_30 rfl (lv_at hl 3 rfl) ?_
        refine lv_icmp_le (tgt := 42) hx hb dX4_leftByTwo_31 (by decide) (fun c8 => ?_) (fun c8 => ?_)
        · refine lv_iload hx hb dX4_leftByTwo_42 (lv_at hl 0 rfl) ?_
          refine lv_iload_n hx hb dX4_leftByTwo_44 rfl (lv_at hl 4 rfl) ?_
          refine lv_icmp_le (tgt := 51) hx hb dX4_leftByTwo_45 (by decide) (fun c9 => ?_) (fun c9 => ?_)
          · obtain ⟨v10, ev10⟩ : ∃ y : Int32, y = (nI i) + Int32.ofInt (1) := ⟨_, rfl⟩
            refine lv_iinc (v := v10) (lv' := [(4, .int v10), (5, .int v7), (0, .ref (a 0)), (1, .int (nI sp)), (2, .int (twS (r 8) sp i).1), (3, .int (twS (r 8) sp i).2)]) hx hb dX4_leftByTwo_51 hl (k := 5) rfl ev10.symm (by decide) rfl (fun ls hl => ?_)
            refine lv_goto (tgt := 7) hx hb dX4_leftByTwo_54 (by decide) ?_
            have e2 : twS (r 8) sp (i + 1) = ((twS (r 8) sp i).1, (twS (r 8) sp i).2) := by
              simp only [twS]
              rw [if_neg (by rw [← ev7]; exact Int32.not_lt.mpr c8), if_neg (by rw [← ev7]; exact Int32.not_lt.mpr c9)]
            exact ih (i + 1) (by omega) (by omega) _ _ _ hP hS (by have e := nI_inc ev10; rw [e] at hl; rw [e2]; exact lv_sub hl [2, 3, 4, 5, 0] rfl)
          · refine lv_iload hx hb dX4_leftByTwo_48 (lv_at hl 0 rfl) ?_
            refine lv_istore_n (lv' := [(3, .int v7), (5, .int v7), (0, .ref (a 0)), (1, .int (nI sp)), (2, .int (twS (r 8) sp i).1), (4, .int (nI i))]) hx hb dX4_leftByTwo_50 rfl hl (by decide) rfl (fun ls hl => ?_)
            obtain ⟨v11, ev11⟩ : ∃ y : Int32, y = (nI i) + Int32.ofInt (1) := ⟨_, rfl⟩
            refine lv_iinc (v := v11) (lv' := [(4, .int v11), (3, .int v7), (5, .int v7), (0, .ref (a 0)), (1, .int (nI sp)), (2, .int (twS (r 8) sp i).1)]) hx hb dX4_leftByTwo_51 hl (k := 5) rfl ev11.symm (by decide) rfl (fun ls hl => ?_)
            refine lv_goto (tgt := 7) hx hb dX4_leftByTwo_54 (by decide) ?_
            have e2 : twS (r 8) sp (i + 1) = ((twS (r 8) sp i).1, v7) := by
              simp only [twS]
              rw [if_neg (by rw [← ev7]; exact Int32.not_lt.mpr c8), if_pos (by rw [← ev7]; exact Int32.not_le.mp c9)]
              rw [ev7]
            exact ih (i + 1) (by omega) (by omega) _ _ _ hP hS (by have e := nI_inc ev11; rw [e] at hl; rw [e2]; exact lv_sub hl [3, 4, 5, 1, 0] rfl)
        · refine lv_iload_n hx hb dX4_leftByTwo_34 rfl (lv_at hl 3 rfl) ?_
          refine lv_istore_n (lv' := [(3, .int (twS (r 8) sp i).1), (5, .int v7), (0, .ref (a 0)), (1, .int (nI sp)), (2, .int (twS (r 8) sp i).1), (4, .int (nI i))]) hx hb dX4_leftByTwo_35 rfl hl (by decide) rfl (fun ls hl => ?_)
          refine lv_iload hx hb dX4_leftByTwo_36 (lv_at hl 1 rfl) ?_
          refine lv_istore_n (lv' := [(2, .int v7), (3, .int (twS (r 8) sp i).1), (5, .int v7), (0, .ref (a 0)), (1, .int (nI sp)), (4, .int (nI i))]) hx hb dX4_leftByTwo_38 rfl hl (by decide) rfl (fun ls hl => ?_)
          refine lv_goto (tgt := 51) hx hb dX4_leftByTwo_39 (by decide) ?_
          obtain ⟨v12, ev12⟩ : ∃ y : Int32, y = (nI i) + Int32.ofInt (1) := ⟨_, rfl⟩
          refine lv_iinc (v := v12) (lv' := [(4, .int v12), (2, .int v7), (3, .int (twS (r 8) sp i).1), (5, .int v7), (0, .ref (a 0)), (1, .int (nI sp))]) hx hb dX4_leftByTwo_51 hl (k := 5) rfl ev12.symm (by decide) rfl (fun ls hl => ?_)
          refine lv_goto (tgt := 7) hx hb dX4_leftByTwo_54 (by decide) ?_
          have e2 : twS (r 8) sp (i + 1) = (v7, (twS (r 8) sp i).1) := by
            simp only [twS]
            rw [if_pos (by rw [← ev7]; exact Int32.not_le.mp c8)]
            rw [ev7]
          exact ih (i + 1) (by omega) (by omega) _ _ _ hP hS (by have e := nI_inc ev12; rw [e] at hl; rw [e2]; exact lv_sub hl [4, 5, 1, 2, 0] rfl)
  exact loop 7 0 (Nat.zero_le _) (by omega) _ _ _ hP hS (lv_sub hl [3, 4, 2, 1, 0] rfl)
set_option maxHeartbeats 4000000 in
set_option maxRecDepth 100000 in
theorem c_X4_classOf (l : Launch) (G : GG) (a : Nat → Nat) (f : Nat → Int32) (r : Nat → Nat → Int32) (i bk : Nat) (hbk : bk ≤ 12) (h3 : f 3 = nI bk) : RdI l yX4_classOf cX4_classOf 6 (some .int) ({ frames := 0, cells := 0, slots := 0, locals := 0 }) G (tW G a f r) [.ref (a 0), .int (nI i)] (fun q => q = (clS (r 10) (r 11) (nI i) bk).1) := by
  refine rd_entry (by decide +kernel) (Nat.le_of_ble_eq_true rfl) ?_
  intro p e s m below meth c C0 hP hK ls hl
  have hS : va_S (fun q => s.heap.size ≤ q) s.heap s.heap [] := va_S.rf
  have hA : ∀ q, s.heap.size ≤ q → (fun q => s.heap.size ≤ q) q := fun _ h => h
  obtain ⟨hx, hb, hml, hown, hts, hr, hlocks, hin⟩ := C0
  have hown : s.vm.findClass RX4 = some m.cls := hown
  have hl : lv_has ls 6 [(0, .ref (a 0)), (1, .int (nI i))] := hl
  refine lv_iconst (v := -1) hx hb dX4_classOf_0 (by decide) ?_
  refine lv_istore_n (lv' := [(2, .int (-1)), (0, .ref (a 0)), (1, .int (nI i))]) hx hb dX4_classOf_1 rfl hl (by decide) rfl (fun ls hl => ?_)
  refine lv_bipush (v := 13) hx hb dX4_classOf_2 (by decide) ?_
  refine lv_istore_n (lv' := [(3, .int 13), (2, .int (-1)), (0, .ref (a 0)), (1, .int (nI i))]) hx hb dX4_classOf_4 rfl hl (by decide) rfl (fun ls hl => ?_)
  refine lv_iconst (v := 0) hx hb dX4_classOf_5 (by decide) ?_
  refine lv_istore (lv' := [(4, .int 0), (3, .int 13), (2, .int (-1)), (0, .ref (a 0)), (1, .int (nI i))]) hx hb dX4_classOf_6 hl (by decide) rfl (fun ls hl => ?_)
  have loop : ∀ (k j : Nat), j ≤ bk → bk < j + k → ∀ (H : Heap) (locs : List Loc) (ls : Array Slot), PP G ([((a 0), .inr (4, [.int (f 0), .int (f 1), .int (f 2), .int (f 3), .ref (a 4), .ref (a 5), .ref (a 6), .ref (a 7), .ref (a 8), .ref (a 9), .ref (a 10), .ref (a 11)])), ((a 4), .inl (G.2.1, 12, .inl (r 4))), ((a 5), .inl (G.2.1, 144, .inl (r 5))), ((a 6), .inl (G.2.1, 144, .inl (r 6))), ((a 7), .inl (G.2.1, 144, .inl (r 7))), ((a 8), .inl (G.2.1, 864, .inl (r 8))), ((a 9), .inl (G.2.1, 6, .inl (r 9))), ((a 10), .inl (G.2.1, 12, .inl (r 10))), ((a 11), .inl (G.2.1, 12, .inl (r 11)))]) H → va_S (fun q => s.heap.size ≤ q) s.heap H locs → lv_has ls 6 [(0, .ref (a 0)), (1, .int (nI i)), (2, .int (clS (r 10) (r 11) (nI i) j).1), (3, .int (clS (r 10) (r 11) (nI i) j).2), (4, .int (nI j))] → W p l e ({ frames := 0, cells := 0, slots := 0, locals := 0 }) s m ([.ref (a 0), .int (nI i)] : List Value).toArray below meth c H locs 0 0 (MQ below (QrI (fun q => q = (clS (r 10) (r 11) (nI i) bk).1) (fun q => s.heap.size ≤ q)) ([.ref (a 0), .int (nI i)] : List Value).toArray s 0 0 (fun q => s.heap.size ≤ q)) (F0 m 8 ls []) := by
    intro k
    induction k with
    | zero => intro j  h1 h2; omega
    | succ k ih =>
      intro j  hi_j hk_j  H locs ls hP hS hl
      refine lv_iload hx hb dX4_classOf_8 (lv_at hl 4 rfl) ?_
      refine lv_aload_n hx hb dX4_classOf_10 rfl (lv_at hl 0 rfl) ?_
      refine va_get (D := G.1) (ci := 4) (v := .int (f 3)) (C := RX4) (T := TX4) (N := 12) hx hb hts inX4 hown hK.1 hP 0 rfl rfl 3 (by decide) (hts _ mf_X4_22) (fun _ h9 => h9) rfl dX4_classOf_11 ?_
      refine lv_icmp_ge (tgt := 95) hx hb dX4_classOf_14 (by decide) (fun c1 => ?_) (fun c1 => ?_)
      · rw [h3] at c1
        have hge := ge_t (by omega) (by omega) c1
        obtain rfl : j = bk := by omega
        refine lv_iload_n hx hb dX4_classOf_95 rfl (lv_at hl 2 rfl) ?_
        exact rd_iret hx hb hr hlocks hS rfl dX4_classOf_96
      · rw [h3] at c1
        have hlt := ge_f (by omega) (by omega) c1
        refine lv_aload_n hx hb dX4_classOf_17 rfl (lv_at hl 0 rfl) ?_
        refine va_get (D := G.1) (ci := 4) (v := .ref (a 10)) (C := RX4) (T := TX4) (N := 12) hx hb hts inX4 hown hK.1 hP 0 rfl rfl 10 (by decide) (hts _ mf_X4_47) (fun _ h9 => h9) rfl dX4_classOf_18 ?_
        refine lv_iload hx hb dX4_classOf_21 (lv_at hl 4 rfl) ?_
        refine xiald hx hb hK hP 7 (j) (rfl) (by omega) (by omega) rfl dX4_classOf_23 ?_
        refine lv_topi (fun v2 ev2 => ?_)
        refine lv_iload_n hx hb dX4_classOf_24 rfl (lv_at hl 1 rfl) ?_
        refine lv_icmp_gt (tgt := 43) hx hb dX4_classOf_25 (by decide) (fun c3 => ?_) (fun c3 => ?_)
        · refine lv_iconst (v := 0) hx hb dX4_classOf_43 (by decide) ?_
          refine lv_istore (lv' := [(5, .int 0), (0, .ref (a 0)), (1, .int (nI i)), (2, .int (clS (r 10) (r 11) (nI i) j).1), (3, .int (clS (r 10) (r 11) (nI i) j).2), (4, .int (nI j))]) hx hb dX4_classOf_44 hl (by decide) rfl (fun ls hl => ?_)
          refine lv_iload hx hb dX4_classOf_46 (lv_at hl 0 rfl) ?_
          refine lv_if_eq (tgt := 89) hx hb dX4_classOf_48 (by decide) (fun _ => ?_) (fun c4 => absurd (by decide) c4)
          obtain ⟨v5, ev5⟩ : ∃ y : Int32, y = (nI j) + Int32.ofInt (1) := ⟨_, rfl⟩
          refine lv_iinc (v := v5) (lv' := [(4, .int v5), (5, .int 0), (0, .ref (a 0)), (1, .int (nI i)), (2, .int (clS (r 10) (r 11) (nI i) j).1), (3, .int (clS (r 10) (r 11) (nI i) j).2)]) hx hb dX4_classOf_89 hl (k := 5) rfl ev5.symm (by decide) rfl (fun ls hl => ?_)
          refine lv_goto (tgt := 8) hx hb dX4_classOf_92 (by decide) ?_
          have e2 : clS (r 10) (r 11) (nI i) (j + 1) = ((clS (r 10) (r 11) (nI i) j).1, (clS (r 10) (r 11) (nI i) j).2) := by
            simp only [clS]
            clear ih hl hP hS
            rw [if_neg (fun h => by simp only [*] at * <;> exact Int32.not_lt.mpr h.1 c3)]
          exact ih (j + 1) (by omega) (by omega) _ _ _ hP hS (by have e := nI_inc ev5; rw [e] at hl; rw [e2]; exact lv_sub hl [2, 3, 4, 5, 0] rfl)
        · refine lv_iload_n hx hb dX4_classOf_28 rfl (lv_at hl 1 rfl) ?_
          refine lv_aload_n hx hb dX4_classOf_29 rfl (lv_at hl 0 rfl) ?_
          refine va_get (D := G.1) (ci := 4) (v := .ref (a 11)) (C := RX4) (T := TX4) (N := 12) hx hb hts inX4 hown hK.1 hP 0 rfl rfl 11 (by decide) (hts _ mf_X4_50) (fun _ h9 => h9) rfl dX4_classOf_30 ?_
          refine lv_iload hx hb dX4_classOf_33 (lv_at hl 4 rfl) ?_
          refine xiald hx hb hK hP 8 (j) (rfl) (by omega) (by omega) rfl dX4_classOf_35 ?_
          refine lv_topi (fun v6 ev6 => ?_)
          refine lv_icmp_gt (tgt := 43) hx hb dX4_classOf_36 (by decide) (fun c7 => ?_) (fun c7 => ?_)
          · refine lv_iconst (v := 0) hx hb dX4_classOf_43 (by decide) ?_
            refine lv_istore (lv' := [(5, .int 0), (0, .ref (a 0)), (1, .int (nI i)), (2, .int (clS (r 10) (r 11) (nI i) j).1), (3, .int (clS (r 10) (r 11) (nI i) j).2), (4, .int (nI j))]) hx hb dX4_classOf_44 hl (by decide) rfl (fun ls hl => ?_)
            refine lv_iload hx hb dX4_classOf_46 (lv_at hl 0 rfl) ?_
            refine lv_if_eq (tgt := 89) hx hb dX4_classOf_48 (by decide) (fun _ => ?_) (fun c8 => absurd (by decide) c8)
            obtain ⟨v9, ev9⟩ : ∃ y : Int32, y = (nI j) + Int32.ofInt (1) := ⟨_, rfl⟩
            refine lv_iinc (v := v9) (lv' := [(4, .int v9), (5, .int 0), (0, .ref (a 0)), (1, .int (nI i)), (2, .int (clS (r 10) (r 11) (nI i) j).1), (3, .int (clS (r 10) (r 11) (nI i) j).2)]) hx hb dX4_classOf_89 hl (k := 5) rfl ev9.symm (by decide) rfl (fun ls hl => ?_)
            refine lv_goto (tgt := 8) hx hb dX4_classOf_92 (by decide) ?_
            have e2 : clS (r 10) (r 11) (nI i) (j + 1) = ((clS (r 10) (r 11) (nI i) j).1, (clS (r 10) (r 11) (nI i) j).2) := by
              simp only [clS]
              clear ih hl hP hS
              rw [if_neg (fun h => by simp only [*] at * <;> exact Int32.not_lt.mpr h.2.1 c7)]
            exact ih (j + 1) (by omega) (by omega) _ _ _ hP hS (by have e := nI_inc ev9; rw [e] at hl; rw [e2]; exact lv_sub hl [2, 3, 4, 5, 0] rfl)
          · refine lv_iconst (v := 1) hx hb dX4_classOf_39 (by decide) ?_
            refine lv_goto (tgt := 44) hx hb dX4_classOf_40 (by decide) ?_
            refine lv_istore (lv' := [(5, .int 1), (0, .ref (a 0)), (1, .int (nI i)), (2, .int (clS (r 10) (r 11) (nI i) j).1), (3, .int (clS (r 10) (r 11) (nI i) j).2), (4, .int (nI j))]) hx hb dX4_classOf_44 hl (by decide) rfl (fun ls hl => ?_)
            refine lv_iload hx hb dX4_classOf_46 (lv_at hl 0 rfl) ?_
            refine lv_if_eq (tgt := 89) hx hb dX4_classOf_48 (by decide) (fun c10 => absurd c10 (by decide)) (fun _ => ?_)
            refine lv_aload_n hx hb dX4_classOf_51 rfl (lv_at hl 1 rfl) ?_
            refine va_get (D := G.1) (ci := 4) (v := .ref (a 11)) (C := RX4) (T := TX4) (N := 12) hx hb hts inX4 hown hK.1 hP 0 rfl rfl 11 (by decide) (hts _ mf_X4_50) (fun _ h9 => h9) rfl dX4_classOf_52 ?_
            refine lv_iload hx hb dX4_classOf_55 (lv_at hl 5 rfl) ?_
            refine xiald hx hb hK hP 8 (j) (rfl) (by omega) (by omega) rfl dX4_classOf_57 ?_
            refine lv_topi (fun v11 ev11 => ?_)
            refine lv_aload_n hx hb dX4_classOf_58 rfl (lv_at hl 1 rfl) ?_
            refine va_get (D := G.1) (ci := 4) (v := .ref (a 10)) (C := RX4) (T := TX4) (N := 12) hx hb hts inX4 hown hK.1 hP 0 rfl rfl 10 (by decide) (hts _ mf_X4_47) (fun _ h9 => h9) rfl dX4_classOf_59 ?_
            refine lv_iload hx hb dX4_classOf_62 (lv_at hl 5 rfl) ?_
            refine xiald hx hb hK hP 7 (j) (rfl) (by omega) (by omega) rfl dX4_classOf_64 ?_
            refine lv_topi (fun v12 ev12 => ?_)
            refine lv_isub hx hb dX4_classOf_65 ?_
            refine lv_topi (fun v13 ev13 => ?_)
            refine lv_iload_n hx hb dX4_classOf_66 rfl (lv_at hl 4 rfl) ?_
            refine lv_icmp_ge (tgt := 89) hx hb dX4_classOf_67 (by decide) (fun c14 => ?_) (fun c14 => ?_)
            · obtain ⟨v15, ev15⟩ : ∃ y : Int32, y = (nI j) + Int32.ofInt (1) := ⟨_, rfl⟩
              refine lv_iinc (v := v15) (lv' := [(4, .int v15), (5, .int 1), (0, .ref (a 0)), (1, .int (nI i)), (2, .int (clS (r 10) (r 11) (nI i) j).1), (3, .int (clS (r 10) (r 11) (nI i) j).2)]) hx hb dX4_classOf_89 hl (k := 5) rfl ev15.symm (by decide) rfl (fun ls hl => ?_)
              refine lv_goto (tgt := 8) hx hb dX4_classOf_92 (by decide) ?_
              have e2 : clS (r 10) (r 11) (nI i) (j + 1) = ((clS (r 10) (r 11) (nI i) j).1, (clS (r 10) (r 11) (nI i) j).2) := by
                simp only [clS]
                clear ih hl hP hS
                rw [if_neg (fun h => by simp only [*] at * <;> exact Int32.not_lt.mpr c14 h.2.2)]
              exact ih (j + 1) (by omega) (by omega) _ _ _ hP hS (by have e := nI_inc ev15; rw [e] at hl; rw [e2]; exact lv_sub hl [2, 3, 4, 5, 0] rfl)
            · refine lv_iload hx hb dX4_classOf_70 (lv_at hl 5 rfl) ?_
              refine lv_istore_n (lv' := [(2, .int (nI j)), (5, .int 1), (0, .ref (a 0)), (1, .int (nI i)), (3, .int (clS (r 10) (r 11) (nI i) j).2), (4, .int (nI j))]) hx hb dX4_classOf_72 rfl hl (by decide) rfl (fun ls hl => ?_)
              refine lv_aload_n hx hb dX4_classOf_73 rfl (lv_at hl 2 rfl) ?_
              refine va_get (D := G.1) (ci := 4) (v := .ref (a 11)) (C := RX4) (T := TX4) (N := 12) hx hb hts inX4 hown hK.1 hP 0 rfl rfl 11 (by decide) (hts _ mf_X4_50) (fun _ h9 => h9) rfl dX4_classOf_74 ?_
              refine lv_iload hx hb dX4_classOf_77 (lv_at hl 5 rfl) ?_
              refine xiald hx hb hK hP 8 (j) (rfl) (by omega) (by omega) rfl dX4_classOf_79 ?_
              refine lv_topi (fun v16 ev16 => ?_)
              refine lv_aload_n hx hb dX4_classOf_80 rfl (lv_at hl 2 rfl) ?_
              refine va_get (D := G.1) (ci := 4) (v := .ref (a 10)) (C := RX4) (T := TX4) (N := 12) hx hb hts inX4 hown hK.1 hP 0 rfl rfl 10 (by decide) (hts _ mf_X4_47) (fun _ h9 => h9) rfl dX4_classOf_81 ?_
              refine lv_iload hx hb dX4_classOf_84 (lv_at hl 5 rfl) ?_
              refine xiald hx hb hK hP 7 (j) (rfl) (by omega) (by omega) rfl dX4_classOf_86 ?_
              refine lv_topi (fun v17 ev17 => ?_)
              refine lv_isub hx hb dX4_classOf_87 ?_
              refine lv_topi (fun v18 ev18 => ?_)
              refine lv_istore_n (lv' := [(3, .int v18), (2, .int (nI j)), (5, .int 1), (0, .ref (a 0)), (1, .int (nI i)), (4, .int (nI j))]) hx hb dX4_classOf_88 rfl hl (by decide) rfl (fun ls hl => ?_)
              obtain ⟨v19, ev19⟩ : ∃ y : Int32, y = (nI j) + Int32.ofInt (1) := ⟨_, rfl⟩
              refine lv_iinc (v := v19) (lv' := [(4, .int v19), (3, .int v18), (2, .int (nI j)), (5, .int 1), (0, .ref (a 0)), (1, .int (nI i))]) hx hb dX4_classOf_89 hl (k := 5) rfl ev19.symm (by decide) rfl (fun ls hl => ?_)
              refine lv_goto (tgt := 8) hx hb dX4_classOf_92 (by decide) ?_
              have e2 : clS (r 10) (r 11) (nI i) (j + 1) = ((nI j), v18) := by
                simp only [clS]
                clear ih hl hP hS
                rw [if_pos ⟨by simp only [*] at * <;> exact Int32.not_lt.mp c3, by simp only [*] at * <;> exact Int32.not_lt.mp c7, by simp only [*] at * <;> exact Int32.not_le.mp c14⟩]; simp only [*]
              exact ih (j + 1) (by omega) (by omega) _ _ _ hP hS (by have e := nI_inc ev19; rw [e] at hl; rw [e2]; exact lv_sub hl [4, 5, 2, 1, 0] rfl)
  exact loop (bk + 1) 0 (Nat.zero_le _) (by omega) _ _ _ hP hS (lv_sub hl [3, 4, 2, 1, 0] rfl)
set_option maxHeartbeats 4000000 in
set_option maxRecDepth 100000 in
theorem c_X4_addGiver (l : Launch) (G : GG) (a : Nat → Nat) (f : Nat → Int32) (r : Nat → Nat → Int32) (sp : Nat) (v : Int32) (hsp : sp < 144) : WrI l yX4_addGiver cX4_addGiver 4 (some .boolean) ({ frames := 1, cells := 0, slots := 0, locals := 23 }) G (tW G a f r) [.ref (a 0), .int (nI sp), .int v] (fun q w => (q = 0 ∧ 6 ≤ gvN (r 8) sp 6 ∧ w = tW G a f r) ∨ (q = 1 ∧ gvN (r 8) sp 6 < 6 ∧ w = [((a 0), .inr (4, [.int (f 0), .int (f 1), .int (f 2), .int (f 3), .ref (a 4), .ref (a 5), .ref (a 6), .ref (a 7), .ref (a 8), .ref (a 9), .ref (a 10), .ref (a 11)])), ((a 4), .inl (G.2.1, 12, .inl (r 4))), ((a 5), .inl (G.2.1, 144, .inl (r 5))), ((a 6), .inl (G.2.1, 144, .inl (upd (r 6) (sp) (r 6 sp + v)))), ((a 7), .inl (G.2.1, 144, .inl (r 7))), ((a 8), .inl (G.2.1, 864, .inl (upd (r 8) (sp * 6 + gvN (r 8) sp 6) (v)))), ((a 9), .inl (G.2.1, 6, .inl (r 9))), ((a 10), .inl (G.2.1, 12, .inl (r 10))), ((a 11), .inl (G.2.1, 12, .inl (r 11)))])) := by
  refine wr_entryI (by decide +kernel) (Nat.le_of_ble_eq_true rfl) ?_
  intro p e s m below meth c A C0 hP hK hD hA ls hl
  have hS : va_S A s.heap s.heap [] := va_S.rf
  obtain ⟨hx, hb, hml, hown, hts, hr, hlocks, hin⟩ := C0
  have hown : s.vm.findClass RX4 = some m.cls := hown
  have hl : lv_has ls 4 [(0, .ref (a 0)), (1, .int (nI sp)), (2, .int v)] := hl
  refine lv_aload_n hx hb dX4_addGiver_0 rfl (lv_at hl 0 rfl) ?_
  refine lv_iload_n hx hb dX4_addGiver_1 rfl (lv_at hl 1 rfl) ?_
  refine rdV (rest := []) (q0 := 0) ⟨hx, hb, hml, hown, hts⟩ (c_X4_giversAt l G a f r sp hsp) mi_yX4_giversAt mv_yX4_giversAt ml_X4_73 ⟨rfl, rfl, Nat.le_of_ble_eq_true rfl, Nat.le_of_ble_eq_true rfl⟩ hK (hP) rfl rfl rfl hl.1 rfl (Nat.le_of_ble_eq_true rfl) dX4_addGiver_2 ⟨Nat.zero_le _, Nat.zero_le _⟩ hS hA hP (fun r1 H locs hr1 hP hS => ?_)
  subst hr1
  refine lv_istore_n (lv' := [(3, .int (nI (gvN (r 8) sp 6))), (0, .ref (a 0)), (1, .int (nI sp)), (2, .int v)]) hx hb dX4_addGiver_5 rfl hl (by decide) rfl (fun ls hl => ?_)
  refine lv_iload_n hx hb dX4_addGiver_6 rfl (lv_at hl 0 rfl) ?_
  refine lv_bipush (v := 6) hx hb dX4_addGiver_7 (by decide) ?_
  refine lv_icmp_lt (tgt := 14) hx hb dX4_addGiver_9 (by decide) (fun c2 => ?_) (fun c2 => ?_)
  · have hg : gvN (r 8) sp 6 < 6 := (nI_ltI (b := 6) (by have := gvN_le (r 8) sp 6; omega) (by decide)).mp c2
    refine lv_aload_n hx hb dX4_addGiver_14 rfl (lv_at hl 1 rfl) ?_
    refine va_get (D := G.1) (ci := 4) (v := .ref (a 8)) (C := RX4) (T := TX4) (N := 12) hx hb hts inX4 hown hK.1 hP 0 rfl rfl 8 (by decide) (hts _ mf_X4_38) (fun _ h9 => h9) rfl dX4_addGiver_15 ?_
    refine lv_iload_n hx hb dX4_addGiver_18 rfl (lv_at hl 2 rfl) ?_
    refine lv_bipush (v := 6) hx hb dX4_addGiver_19 (by decide) ?_
    refine lv_imul hx hb dX4_addGiver_21 ?_
    refine lv_topi (fun v3 ev3 => ?_)
    refine lv_iload_n hx hb dX4_addGiver_22 rfl (lv_at hl 0 rfl) ?_
    refine lv_iadd hx hb dX4_addGiver_23 ?_
    refine lv_topi (fun v4 ev4 => ?_)
    refine lv_iload_n hx hb dX4_addGiver_24 rfl (lv_at hl 3 rfl) ?_
    refine xiast (x := v) hx hb hK hP hD hS 5 (sp * 6 + gvN (r 8) sp 6) (nI_plus ev4 (nI_mul6n ev3) rfl) (by omega) (by omega) rfl dX4_addGiver_25 (fun H locs hP hD hS => ?_)
    have hP : PP G [((a 0), .inr (4, [.int (f 0), .int (f 1), .int (f 2), .int (f 3), .ref (a 4), .ref (a 5), .ref (a 6), .ref (a 7), .ref (a 8), .ref (a 9), .ref (a 10), .ref (a 11)])), ((a 4), .inl (G.2.1, 12, .inl (r 4))), ((a 5), .inl (G.2.1, 144, .inl (r 5))), ((a 6), .inl (G.2.1, 144, .inl (r 6))), ((a 7), .inl (G.2.1, 144, .inl (r 7))), ((a 8), .inl (G.2.1, 864, .inl (upd (r 8) (sp * 6 + gvN (r 8) sp 6) (v)))), ((a 9), .inl (G.2.1, 6, .inl (r 9))), ((a 10), .inl (G.2.1, 12, .inl (r 10))), ((a 11), .inl (G.2.1, 12, .inl (r 11)))] H := hP
    have hD := D_as hP hD rfl
    refine lv_aload_n hx hb dX4_addGiver_26 rfl (lv_at hl 1 rfl) ?_
    refine va_get (D := G.1) (ci := 4) (v := .ref (a 6)) (C := RX4) (T := TX4) (N := 12) hx hb hts inX4 hown hK.1 hP 0 rfl rfl 6 (by decide) (hts _ mf_X4_32) (fun _ h9 => h9) rfl dX4_addGiver_27 ?_
    refine lv_iload_n hx hb dX4_addGiver_30 rfl (lv_at hl 2 rfl) ?_
    refine lv_dup2_11 hx hb dX4_addGiver_31 rfl rfl ?_
    refine xiald hx hb hK hP 3 (sp) (rfl) (hsp) (by omega) rfl dX4_addGiver_32 ?_
    refine lv_topi (fun v5 ev5 => ?_)
    refine lv_iload_n hx hb dX4_addGiver_33 rfl (lv_at hl 3 rfl) ?_
    refine lv_iadd hx hb dX4_addGiver_34 ?_
    refine lv_topi (fun v6 ev6 => ?_)
    refine xiast (x := v6) hx hb hK hP hD hS 3 (sp) (rfl) (hsp) (by omega) rfl dX4_addGiver_35 (fun H locs hP hD hS => ?_)
    have hP : PP G [((a 0), .inr (4, [.int (f 0), .int (f 1), .int (f 2), .int (f 3), .ref (a 4), .ref (a 5), .ref (a 6), .ref (a 7), .ref (a 8), .ref (a 9), .ref (a 10), .ref (a 11)])), ((a 4), .inl (G.2.1, 12, .inl (r 4))), ((a 5), .inl (G.2.1, 144, .inl (r 5))), ((a 6), .inl (G.2.1, 144, .inl (upd (r 6) (sp) (v6)))), ((a 7), .inl (G.2.1, 144, .inl (r 7))), ((a 8), .inl (G.2.1, 864, .inl (upd (r 8) (sp * 6 + gvN (r 8) sp 6) (v)))), ((a 9), .inl (G.2.1, 6, .inl (r 9))), ((a 10), .inl (G.2.1, 12, .inl (r 10))), ((a 11), .inl (G.2.1, 12, .inl (r 11)))] H := hP
    have hD := D_as hP hD rfl
    refine lv_iconst (v := 1) hx hb dX4_addGiver_36 (by decide) ?_
    exact wr_zret hx hb hr hlocks (Or.inr rfl) hS hP (Or.inr ⟨rfl, hg, by simp only [*]⟩) dX4_addGiver_37
  · have hg : 6 ≤ gvN (r 8) sp 6 := Nat.not_lt.mp (fun h => c2 ((nI_ltI (b := 6) (by omega) (by decide)).mpr h))
    refine lv_iconst (v := 0) hx hb dX4_addGiver_12 (by decide) ?_
    exact wr_zret hx hb hr hlocks (Or.inl rfl) hS hP (Or.inl ⟨rfl, hg, rfl⟩) dX4_addGiver_13
def okP (bf bl : Nat → Int32) (fi la : Int32) (n : Nat) : Prop := ∀ k, k < n → okB (bf k) (bl k) fi la
def rsB (td : Nat → Int32) (sp : Nat) : Int32 := if td sp &&& 1 = 0 then 0 else 8
def rs1 (kd nu td ru : Nat → Int32) (sp : Nat) : Int32 := if kd sp = 1 ∧ ¬ nu sp < 1 ∧ ¬ ru 0 < nu sp then rsB td sp + 1 else rsB td sp
def rs2 (kd nu td ps ru : Nat → Int32) (sp : Nat) : Int32 := if kd sp = 2 ∧ ¬ nu sp ≤ 0 ∧ ¬ ru 1 ≤ nI (gvN ps sp 6) then rs1 kd nu td ru sp + 2 else rs1 kd nu td ru sp
def rsF (kd nu td ps ru : Nat → Int32) (sp : Nat) : Int32 := if kd sp = 2 ∧ ¬ nu sp ≤ 0 ∧ ¬ ru 2 * nu sp ≤ 100 * (nu sp - (twS ps sp 6).1 - (twS ps sp 6).2) then rs2 kd nu td ps ru sp + 4 else rs2 kd nu td ps ru sp
def kpP (kd nu td ps ru : Nat → Int32) (sp : Nat) : Prop := ¬ td sp &&& 2 = 0 ∨ ¬ rsF kd nu td ps ru sp = 0
noncomputable def csF (cl : Nat) (pl kd nu bf bl : Nat → Int32) (bk : Nat) (wt : Int32) (col : Nat) : Nat → Int32
  | 0 => 0
  | k + 1 => @ite _ ((clS bf bl (nI k) bk).1 = wt ∧ sndP cl pl kd k) (Classical.propDecidable _) (csF cl pl kd nu bf bl bk wt col k + nu (k * 12 + col)) (csF cl pl kd nu bf bl bk wt col k)
set_option maxHeartbeats 4000000 in
set_option maxRecDepth 100000 in
theorem c_X4_mayLie (l : Launch) (G : GG) (a : Nat → Nat) (f : Nat → Int32) (r : Nat → Nat → Int32) (fi la : Int32) (bk : Nat) (hbk : bk ≤ 12) (h3 : f 3 = nI bk) : RdI l yX4_mayLie cX4_mayLie 8 (some .boolean) ({ frames := 0, cells := 0, slots := 0, locals := 0 }) G (tW G a f r) [.ref (a 0), .int fi, .int la] (fun q => (q = 1 ∧ okP (r 10) (r 11) fi la bk) ∨ (q = 0 ∧ ¬ okP (r 10) (r 11) fi la bk)) := by
  refine rd_entry (by decide +kernel) (Nat.le_of_ble_eq_true rfl) ?_
  intro p e s m below meth c C0 hP hK ls hl
  have hS : va_S (fun q => s.heap.size ≤ q) s.heap s.heap [] := va_S.rf
  have hA : ∀ q, s.heap.size ≤ q → (fun q => s.heap.size ≤ q) q := fun _ h => h
  obtain ⟨hx, hb, hml, hown, hts, hr, hlocks, hin⟩ := C0
  have hown : s.vm.findClass RX4 = some m.cls := hown
  have hl : lv_has ls 8 [(0, .ref (a 0)), (1, .int fi), (2, .int la)] := hl
  refine lv_iconst (v := 0) hx hb dX4_mayLie_0 (by decide) ?_
  refine lv_istore_n (lv' := [(3, .int 0), (0, .ref (a 0)), (1, .int fi), (2, .int la)]) hx hb dX4_mayLie_1 rfl hl (by decide) rfl (fun ls hl => ?_)
  have loop : ∀ (k j : Nat), j ≤ bk → bk < j + k → okP (r 10) (r 11) fi la j → ∀ (H : Heap) (locs : List Loc) (ls : Array Slot), PP G ([((a 0), .inr (4, [.int (f 0), .int (f 1), .int (f 2), .int (f 3), .ref (a 4), .ref (a 5), .ref (a 6), .ref (a 7), .ref (a 8), .ref (a 9), .ref (a 10), .ref (a 11)])), ((a 4), .inl (G.2.1, 12, .inl (r 4))), ((a 5), .inl (G.2.1, 144, .inl (r 5))), ((a 6), .inl (G.2.1, 144, .inl (r 6))), ((a 7), .inl (G.2.1, 144, .inl (r 7))), ((a 8), .inl (G.2.1, 864, .inl (r 8))), ((a 9), .inl (G.2.1, 6, .inl (r 9))), ((a 10), .inl (G.2.1, 12, .inl (r 10))), ((a 11), .inl (G.2.1, 12, .inl (r 11)))]) H → va_S (fun q => s.heap.size ≤ q) s.heap H locs → lv_has ls 8 [(0, .ref (a 0)), (1, .int fi), (2, .int la), (3, .int (nI j))] → W p l e ({ frames := 0, cells := 0, slots := 0, locals := 0 }) s m ([.ref (a 0), .int fi, .int la] : List Value).toArray below meth c H locs 0 0 (MQ below (QrI (fun q => (q = 1 ∧ okP (r 10) (r 11) fi la bk) ∨ (q = 0 ∧ ¬ okP (r 10) (r 11) fi la bk)) (fun q => s.heap.size ≤ q)) ([.ref (a 0), .int fi, .int la] : List Value).toArray s 0 0 (fun q => s.heap.size ≤ q)) (F0 m 2 ls []) := by
    intro k
    induction k with
    | zero => intro j  h1 h2; omega
    | succ k ih =>
      intro j  hi_j hk_j hall H locs ls hP hS hl
      refine lv_iload_n hx hb dX4_mayLie_2 rfl (lv_at hl 3 rfl) ?_
      refine lv_aload_n hx hb dX4_mayLie_3 rfl (lv_at hl 0 rfl) ?_
      refine va_get (D := G.1) (ci := 4) (v := .int (f 3)) (C := RX4) (T := TX4) (N := 12) hx hb hts inX4 hown hK.1 hP 0 rfl rfl 3 (by decide) (hts _ mf_X4_22) (fun _ h9 => h9) rfl dX4_mayLie_4 ?_
      refine lv_icmp_ge (tgt := 136) hx hb dX4_mayLie_7 (by decide) (fun c1 => ?_) (fun c1 => ?_)
      · rw [h3] at c1
        have hge := ge_t (by omega) (by omega) c1
        obtain rfl : j = bk := by omega
        refine lv_iconst (v := 1) hx hb dX4_mayLie_136 (by decide) ?_
        exact rd_zret hx hb hr hlocks (Or.inr rfl) hS (Or.inl ⟨rfl, hall⟩) dX4_mayLie_137
      · rw [h3] at c1
        have hlt := ge_f (by omega) (by omega) c1
        have j89 : ∀ (z4 z5 z6 : Int32), ((z4 : Int32) = 1 ∧ (la < r 10 j ∨ r 11 j < fi)) ∨ ((z4 : Int32) = 0 ∧ ¬ (la < r 10 j ∨ r 11 j < fi)) → ((z5 : Int32) = 1 ∧ (r 10 j ≤ fi ∧ la ≤ r 11 j)) ∨ ((z5 : Int32) = 0 ∧ ¬ (r 10 j ≤ fi ∧ la ≤ r 11 j)) → ((z6 : Int32) = 1 ∧ (fi ≤ r 10 j ∧ r 11 j ≤ la)) ∨ ((z6 : Int32) = 0 ∧ ¬ (fi ≤ r 10 j ∧ r 11 j ≤ la)) → ∀ (H : Heap) (locs : List Loc) (ls : Array Slot), PP G ([((a 0), .inr (4, [.int (f 0), .int (f 1), .int (f 2), .int (f 3), .ref (a 4), .ref (a 5), .ref (a 6), .ref (a 7), .ref (a 8), .ref (a 9), .ref (a 10), .ref (a 11)])), ((a 4), .inl (G.2.1, 12, .inl (r 4))), ((a 5), .inl (G.2.1, 144, .inl (r 5))), ((a 6), .inl (G.2.1, 144, .inl (r 6))), ((a 7), .inl (G.2.1, 144, .inl (r 7))), ((a 8), .inl (G.2.1, 864, .inl (r 8))), ((a 9), .inl (G.2.1, 6, .inl (r 9))), ((a 10), .inl (G.2.1, 12, .inl (r 10))), ((a 11), .inl (G.2.1, 12, .inl (r 11)))]) H → va_S (fun q => s.heap.size ≤ q) s.heap H locs → lv_has ls 8 [(5, .int z5), (4, .int z4), (0, .ref (a 0)), (1, .int fi), (2, .int la), (3, .int (nI j))] → W p l e ({ frames := 0, cells := 0, slots := 0, locals := 0 }) s m ([.ref (a 0), .int fi, .int la] : List Value).toArray below meth c H locs 0 0 (MQ below (QrI (fun q => (q = 1 ∧ okP (r 10) (r 11) fi la bk) ∨ (q = 0 ∧ ¬ okP (r 10) (r 11) fi la bk)) (fun q => s.heap.size ≤ q)) ([.ref (a 0), .int fi, .int la] : List Value).toArray s 0 0 (fun q => s.heap.size ≤ q)) (F0 m 89 ls [.int z6]) := by
          intro z4 z5 z6 h4 h5 h6 H locs ls hP hS hl
          refine lv_istore (lv' := [(6, .int z6), (5, .int z5), (4, .int z4), (0, .ref (a 0)), (1, .int fi), (2, .int la), (3, .int (nI j))]) hx hb dX4_mayLie_89 hl (by decide) rfl (fun ls hl => ?_)
          refine lv_iload hx hb dX4_mayLie_91 (lv_at hl 1 rfl) ?_
          refine lv_if_eq (tgt := 105) hx hb dX4_mayLie_93 (by decide) (fun c2 => ?_) (fun c2 => ?_)
          · refine lv_iconst (v := 0) hx hb dX4_mayLie_105 (by decide) ?_
            refine lv_istore (lv' := [(7, .int 0), (6, .int z6), (5, .int z5), (4, .int z4), (0, .ref (a 0)), (1, .int fi), (2, .int la), (3, .int (nI j))]) hx hb dX4_mayLie_106 hl (by decide) rfl (fun ls hl => ?_)
            refine lv_iload hx hb dX4_mayLie_108 (lv_at hl 0 rfl) ?_
            refine lv_if_ne (tgt := 128) hx hb dX4_mayLie_110 (by decide) (fun c3 => absurd (by decide) c3) (fun _ => ?_)
            refine lv_iload hx hb dX4_mayLie_113 (lv_at hl 3 rfl) ?_
            refine lv_if_ne (tgt := 130) hx hb dX4_mayLie_115 (by decide) (fun c4 => ?_) (fun c4 => ?_)
            · obtain ⟨v5, ev5⟩ : ∃ y : Int32, y = (nI j) + Int32.ofInt (1) := ⟨_, rfl⟩
              refine lv_iinc (v := v5) (lv' := [(3, .int v5), (7, .int 0), (6, .int z6), (5, .int z5), (4, .int z4), (0, .ref (a 0)), (1, .int fi), (2, .int la)]) hx hb dX4_mayLie_130 hl (k := 7) rfl ev5.symm (by decide) rfl (fun ls hl => ?_)
              refine lv_goto (tgt := 2) hx hb dX4_mayLie_133 (by decide) ?_
              have ok2 : okB (r 10 j) (r 11 j) fi la := ⟨fun h => bF h5 c2 h.1, Or.inl (bT h4 c4)⟩
              have hall2 : okP (r 10) (r 11) fi la (j + 1) := fun c hc => by
                rcases Nat.lt_or_ge c j with h | h
                · exact hall c h
                · obtain rfl : c = j := by omega
                  exact ok2
              exact ih (j + 1) (by omega) (by omega) hall2 _ _ _ hP hS (by have e := nI_inc ev5; rw [e] at hl; exact lv_sub hl [5, 6, 7, 0] rfl)
            · refine lv_iload hx hb dX4_mayLie_118 (lv_at hl 2 rfl) ?_
              refine lv_if_ne (tgt := 130) hx hb dX4_mayLie_120 (by decide) (fun c6 => ?_) (fun c6 => ?_)
              · obtain ⟨v7, ev7⟩ : ∃ y : Int32, y = (nI j) + Int32.ofInt (1) := ⟨_, rfl⟩
                refine lv_iinc (v := v7) (lv' := [(3, .int v7), (7, .int 0), (6, .int z6), (5, .int z5), (4, .int z4), (0, .ref (a 0)), (1, .int fi), (2, .int la)]) hx hb dX4_mayLie_130 hl (k := 7) rfl ev7.symm (by decide) rfl (fun ls hl => ?_)
                refine lv_goto (tgt := 2) hx hb dX4_mayLie_133 (by decide) ?_
                have ok2 : okB (r 10 j) (r 11 j) fi la := ⟨fun h => bF h5 c2 h.1, Or.inr (Or.inl (bT h5 c6))⟩
                have hall2 : okP (r 10) (r 11) fi la (j + 1) := fun c hc => by
                  rcases Nat.lt_or_ge c j with h | h
                  · exact hall c h
                  · obtain rfl : c = j := by omega
                    exact ok2
                exact ih (j + 1) (by omega) (by omega) hall2 _ _ _ hP hS (by have e := nI_inc ev7; rw [e] at hl; exact lv_sub hl [5, 6, 7, 0] rfl)
              · refine lv_iload hx hb dX4_mayLie_123 (lv_at hl 1 rfl) ?_
                refine lv_if_ne (tgt := 130) hx hb dX4_mayLie_125 (by decide) (fun c8 => ?_) (fun c8 => ?_)
                · obtain ⟨v9, ev9⟩ : ∃ y : Int32, y = (nI j) + Int32.ofInt (1) := ⟨_, rfl⟩
                  refine lv_iinc (v := v9) (lv' := [(3, .int v9), (7, .int 0), (6, .int z6), (5, .int z5), (4, .int z4), (0, .ref (a 0)), (1, .int fi), (2, .int la)]) hx hb dX4_mayLie_130 hl (k := 7) rfl ev9.symm (by decide) rfl (fun ls hl => ?_)
                  refine lv_goto (tgt := 2) hx hb dX4_mayLie_133 (by decide) ?_
                  have ok2 : okB (r 10 j) (r 11 j) fi la := ⟨fun h => bF h5 c2 h.1, Or.inr (Or.inr (bT h6 c8))⟩
                  have hall2 : okP (r 10) (r 11) fi la (j + 1) := fun c hc => by
                    rcases Nat.lt_or_ge c j with h | h
                    · exact hall c h
                    · obtain rfl : c = j := by omega
                      exact ok2
                  exact ih (j + 1) (by omega) (by omega) hall2 _ _ _ hP hS (by have e := nI_inc ev9; rw [e] at hl; exact lv_sub hl [5, 6, 7, 0] rfl)
                · refine lv_iconst (v := 0) hx hb dX4_mayLie_128 (by decide) ?_
                  exact rd_zret hx hb hr hlocks (Or.inl rfl) hS (Or.inr ⟨rfl, fun h => (h j hlt).2.elim (bF h4 c4) (fun w => w.elim (bF h5 c6) (bF h6 c8))⟩) dX4_mayLie_129
          · refine lv_iload hx hb dX4_mayLie_96 (lv_at hl 0 rfl) ?_
            refine lv_if_eq (tgt := 105) hx hb dX4_mayLie_98 (by decide) (fun c10 => ?_) (fun c10 => ?_)
            · refine lv_iconst (v := 0) hx hb dX4_mayLie_105 (by decide) ?_
              refine lv_istore (lv' := [(7, .int 0), (6, .int z6), (5, .int z5), (4, .int z4), (0, .ref (a 0)), (1, .int fi), (2, .int la), (3, .int (nI j))]) hx hb dX4_mayLie_106 hl (by decide) rfl (fun ls hl => ?_)
              refine lv_iload hx hb dX4_mayLie_108 (lv_at hl 0 rfl) ?_
              refine lv_if_ne (tgt := 128) hx hb dX4_mayLie_110 (by decide) (fun c11 => absurd (by decide) c11) (fun _ => ?_)
              refine lv_iload hx hb dX4_mayLie_113 (lv_at hl 3 rfl) ?_
              refine lv_if_ne (tgt := 130) hx hb dX4_mayLie_115 (by decide) (fun c12 => ?_) (fun c12 => ?_)
              · obtain ⟨v13, ev13⟩ : ∃ y : Int32, y = (nI j) + Int32.ofInt (1) := ⟨_, rfl⟩
                refine lv_iinc (v := v13) (lv' := [(3, .int v13), (7, .int 0), (6, .int z6), (5, .int z5), (4, .int z4), (0, .ref (a 0)), (1, .int fi), (2, .int la)]) hx hb dX4_mayLie_130 hl (k := 7) rfl ev13.symm (by decide) rfl (fun ls hl => ?_)
                refine lv_goto (tgt := 2) hx hb dX4_mayLie_133 (by decide) ?_
                have ok2 : okB (r 10 j) (r 11 j) fi la := ⟨fun h => bF h6 c10 h.2, Or.inl (bT h4 c12)⟩
                have hall2 : okP (r 10) (r 11) fi la (j + 1) := fun c hc => by
                  rcases Nat.lt_or_ge c j with h | h
                  · exact hall c h
                  · obtain rfl : c = j := by omega
                    exact ok2
                exact ih (j + 1) (by omega) (by omega) hall2 _ _ _ hP hS (by have e := nI_inc ev13; rw [e] at hl; exact lv_sub hl [5, 6, 7, 0] rfl)
              · refine lv_iload hx hb dX4_mayLie_118 (lv_at hl 2 rfl) ?_
                refine lv_if_ne (tgt := 130) hx hb dX4_mayLie_120 (by decide) (fun c14 => ?_) (fun c14 => ?_)
                · obtain ⟨v15, ev15⟩ : ∃ y : Int32, y = (nI j) + Int32.ofInt (1) := ⟨_, rfl⟩
                  refine lv_iinc (v := v15) (lv' := [(3, .int v15), (7, .int 0), (6, .int z6), (5, .int z5), (4, .int z4), (0, .ref (a 0)), (1, .int fi), (2, .int la)]) hx hb dX4_mayLie_130 hl (k := 7) rfl ev15.symm (by decide) rfl (fun ls hl => ?_)
                  refine lv_goto (tgt := 2) hx hb dX4_mayLie_133 (by decide) ?_
                  have ok2 : okB (r 10 j) (r 11 j) fi la := ⟨fun h => bF h6 c10 h.2, Or.inr (Or.inl (bT h5 c14))⟩
                  have hall2 : okP (r 10) (r 11) fi la (j + 1) := fun c hc => by
                    rcases Nat.lt_or_ge c j with h | h
                    · exact hall c h
                    · obtain rfl : c = j := by omega
                      exact ok2
                  exact ih (j + 1) (by omega) (by omega) hall2 _ _ _ hP hS (by have e := nI_inc ev15; rw [e] at hl; exact lv_sub hl [5, 6, 7, 0] rfl)
                · refine lv_iload hx hb dX4_mayLie_123 (lv_at hl 1 rfl) ?_
                  refine lv_if_ne (tgt := 130) hx hb dX4_mayLie_125 (by decide) (fun c16 => ?_) (fun c16 => ?_)
                  · obtain ⟨v17, ev17⟩ : ∃ y : Int32, y = (nI j) + Int32.ofInt (1) := ⟨_, rfl⟩
                    refine lv_iinc (v := v17) (lv' := [(3, .int v17), (7, .int 0), (6, .int z6), (5, .int z5), (4, .int z4), (0, .ref (a 0)), (1, .int fi), (2, .int la)]) hx hb dX4_mayLie_130 hl (k := 7) rfl ev17.symm (by decide) rfl (fun ls hl => ?_)
                    refine lv_goto (tgt := 2) hx hb dX4_mayLie_133 (by decide) ?_
                    have ok2 : okB (r 10 j) (r 11 j) fi la := ⟨fun h => bF h6 c10 h.2, Or.inr (Or.inr (bT h6 c16))⟩
                    have hall2 : okP (r 10) (r 11) fi la (j + 1) := fun c hc => by
                      rcases Nat.lt_or_ge c j with h | h
                      · exact hall c h
                      · obtain rfl : c = j := by omega
                        exact ok2
                    exact ih (j + 1) (by omega) (by omega) hall2 _ _ _ hP hS (by have e := nI_inc ev17; rw [e] at hl; exact lv_sub hl [5, 6, 7, 0] rfl)
                  · refine lv_iconst (v := 0) hx hb dX4_mayLie_128 (by decide) ?_
                    exact rd_zret hx hb hr hlocks (Or.inl rfl) hS (Or.inr ⟨rfl, fun h => (h j hlt).2.elim (bF h4 c12) (fun w => w.elim (bF h5 c14) (bF h6 c16))⟩) dX4_mayLie_129
            · refine lv_iconst (v := 1) hx hb dX4_mayLie_101 (by decide) ?_
              refine lv_goto (tgt := 106) hx hb dX4_mayLie_102 (by decide) ?_
              refine lv_istore (lv' := [(7, .int 1), (6, .int z6), (5, .int z5), (4, .int z4), (0, .ref (a 0)), (1, .int fi), (2, .int la), (3, .int (nI j))]) hx hb dX4_mayLie_106 hl (by decide) rfl (fun ls hl => ?_)
              refine lv_iload hx hb dX4_mayLie_108 (lv_at hl 0 rfl) ?_
              refine lv_if_ne (tgt := 128) hx hb dX4_mayLie_110 (by decide) (fun _ => ?_) (fun c18 => absurd c18 (by decide))
              refine lv_iconst (v := 0) hx hb dX4_mayLie_128 (by decide) ?_
              exact rd_zret hx hb hr hlocks (Or.inl rfl) hS (Or.inr ⟨rfl, fun h => (h j hlt).1 ⟨bT h5 c2, bT h6 c10⟩⟩) dX4_mayLie_129
        have j62 : ∀ (z4 z5 : Int32), ((z4 : Int32) = 1 ∧ (la < r 10 j ∨ r 11 j < fi)) ∨ ((z4 : Int32) = 0 ∧ ¬ (la < r 10 j ∨ r 11 j < fi)) → ((z5 : Int32) = 1 ∧ (r 10 j ≤ fi ∧ la ≤ r 11 j)) ∨ ((z5 : Int32) = 0 ∧ ¬ (r 10 j ≤ fi ∧ la ≤ r 11 j)) → ∀ (H : Heap) (locs : List Loc) (ls : Array Slot), PP G ([((a 0), .inr (4, [.int (f 0), .int (f 1), .int (f 2), .int (f 3), .ref (a 4), .ref (a 5), .ref (a 6), .ref (a 7), .ref (a 8), .ref (a 9), .ref (a 10), .ref (a 11)])), ((a 4), .inl (G.2.1, 12, .inl (r 4))), ((a 5), .inl (G.2.1, 144, .inl (r 5))), ((a 6), .inl (G.2.1, 144, .inl (r 6))), ((a 7), .inl (G.2.1, 144, .inl (r 7))), ((a 8), .inl (G.2.1, 864, .inl (r 8))), ((a 9), .inl (G.2.1, 6, .inl (r 9))), ((a 10), .inl (G.2.1, 12, .inl (r 10))), ((a 11), .inl (G.2.1, 12, .inl (r 11)))]) H → va_S (fun q => s.heap.size ≤ q) s.heap H locs → lv_has ls 8 [(4, .int z4), (0, .ref (a 0)), (1, .int fi), (2, .int la), (3, .int (nI j))] → W p l e ({ frames := 0, cells := 0, slots := 0, locals := 0 }) s m ([.ref (a 0), .int fi, .int la] : List Value).toArray below meth c H locs 0 0 (MQ below (QrI (fun q => (q = 1 ∧ okP (r 10) (r 11) fi la bk) ∨ (q = 0 ∧ ¬ okP (r 10) (r 11) fi la bk)) (fun q => s.heap.size ≤ q)) ([.ref (a 0), .int fi, .int la] : List Value).toArray s 0 0 (fun q => s.heap.size ≤ q)) (F0 m 62 ls [.int z5]) := by
          intro z4 z5 h4 h5 H locs ls hP hS hl
          refine lv_istore (lv' := [(5, .int z5), (4, .int z4), (0, .ref (a 0)), (1, .int fi), (2, .int la), (3, .int (nI j))]) hx hb dX4_mayLie_62 hl (by decide) rfl (fun ls hl => ?_)
          refine lv_iload_n hx hb dX4_mayLie_64 rfl (lv_at hl 3 rfl) ?_
          refine lv_aload_n hx hb dX4_mayLie_65 rfl (lv_at hl 2 rfl) ?_
          refine va_get (D := G.1) (ci := 4) (v := .ref (a 10)) (C := RX4) (T := TX4) (N := 12) hx hb hts inX4 hown hK.1 hP 0 rfl rfl 10 (by decide) (hts _ mf_X4_47) (fun _ h9 => h9) rfl dX4_mayLie_66 ?_
          refine lv_iload_n hx hb dX4_mayLie_69 rfl (lv_at hl 5 rfl) ?_
          refine xiald hx hb hK hP 7 (j) (rfl) (by omega) (by omega) rfl dX4_mayLie_70 ?_
          refine lv_topi (fun v19 ev19 => ?_)
          refine lv_icmp_gt (tgt := 88) hx hb dX4_mayLie_71 (by decide) (fun c20 => ?_) (fun c20 => ?_)
          · refine lv_iconst (v := 0) hx hb dX4_mayLie_88 (by decide) ?_
            have h6 : ((0 : Int32) = 1 ∧ (fi ≤ r 10 j ∧ r 11 j ≤ la)) ∨ ((0 : Int32) = 0 ∧ ¬ (fi ≤ r 10 j ∧ r 11 j ≤ la)) := Or.inr ⟨rfl, fun h => by simp only [*] at * <;> exact Int32.not_lt.mpr h.1 c20⟩
            exact j89 z4 z5 0 h4 h5 h6 _ _ _ hP hS (lv_sub hl [0, 1, 2, 3, 4, 5] rfl)
          · refine lv_iload_n hx hb dX4_mayLie_74 rfl (lv_at hl 4 rfl) ?_
            refine lv_aload_n hx hb dX4_mayLie_75 rfl (lv_at hl 2 rfl) ?_
            refine va_get (D := G.1) (ci := 4) (v := .ref (a 11)) (C := RX4) (T := TX4) (N := 12) hx hb hts inX4 hown hK.1 hP 0 rfl rfl 11 (by decide) (hts _ mf_X4_50) (fun _ h9 => h9) rfl dX4_mayLie_76 ?_
            refine lv_iload_n hx hb dX4_mayLie_79 rfl (lv_at hl 5 rfl) ?_
            refine xiald hx hb hK hP 8 (j) (rfl) (by omega) (by omega) rfl dX4_mayLie_80 ?_
            refine lv_topi (fun v21 ev21 => ?_)
            refine lv_icmp_lt (tgt := 88) hx hb dX4_mayLie_81 (by decide) (fun c22 => ?_) (fun c22 => ?_)
            · refine lv_iconst (v := 0) hx hb dX4_mayLie_88 (by decide) ?_
              have h6 : ((0 : Int32) = 1 ∧ (fi ≤ r 10 j ∧ r 11 j ≤ la)) ∨ ((0 : Int32) = 0 ∧ ¬ (fi ≤ r 10 j ∧ r 11 j ≤ la)) := Or.inr ⟨rfl, fun h => by simp only [*] at * <;> exact Int32.not_lt.mpr h.2 c22⟩
              exact j89 z4 z5 0 h4 h5 h6 _ _ _ hP hS (lv_sub hl [0, 1, 2, 3, 4, 5] rfl)
            · refine lv_iconst (v := 1) hx hb dX4_mayLie_84 (by decide) ?_
              refine lv_goto (tgt := 89) hx hb dX4_mayLie_85 (by decide) ?_
              have h6 : ((1 : Int32) = 1 ∧ (fi ≤ r 10 j ∧ r 11 j ≤ la)) ∨ ((1 : Int32) = 0 ∧ ¬ (fi ≤ r 10 j ∧ r 11 j ≤ la)) := Or.inl ⟨rfl, by simp only [*] at * <;> exact ⟨Int32.not_lt.mp c20, Int32.not_lt.mp c22⟩⟩
              exact j89 z4 z5 1 h4 h5 h6 _ _ _ hP hS (lv_sub hl [0, 1, 2, 3, 4, 5] rfl)
        have j35 : ∀ (z4 : Int32), ((z4 : Int32) = 1 ∧ (la < r 10 j ∨ r 11 j < fi)) ∨ ((z4 : Int32) = 0 ∧ ¬ (la < r 10 j ∨ r 11 j < fi)) → ∀ (H : Heap) (locs : List Loc) (ls : Array Slot), PP G ([((a 0), .inr (4, [.int (f 0), .int (f 1), .int (f 2), .int (f 3), .ref (a 4), .ref (a 5), .ref (a 6), .ref (a 7), .ref (a 8), .ref (a 9), .ref (a 10), .ref (a 11)])), ((a 4), .inl (G.2.1, 12, .inl (r 4))), ((a 5), .inl (G.2.1, 144, .inl (r 5))), ((a 6), .inl (G.2.1, 144, .inl (r 6))), ((a 7), .inl (G.2.1, 144, .inl (r 7))), ((a 8), .inl (G.2.1, 864, .inl (r 8))), ((a 9), .inl (G.2.1, 6, .inl (r 9))), ((a 10), .inl (G.2.1, 12, .inl (r 10))), ((a 11), .inl (G.2.1, 12, .inl (r 11)))]) H → va_S (fun q => s.heap.size ≤ q) s.heap H locs → lv_has ls 8 [(0, .ref (a 0)), (1, .int fi), (2, .int la), (3, .int (nI j))] → W p l e ({ frames := 0, cells := 0, slots := 0, locals := 0 }) s m ([.ref (a 0), .int fi, .int la] : List Value).toArray below meth c H locs 0 0 (MQ below (QrI (fun q => (q = 1 ∧ okP (r 10) (r 11) fi la bk) ∨ (q = 0 ∧ ¬ okP (r 10) (r 11) fi la bk)) (fun q => s.heap.size ≤ q)) ([.ref (a 0), .int fi, .int la] : List Value).toArray s 0 0 (fun q => s.heap.size ≤ q)) (F0 m 35 ls [.int z4]) := by
          intro z4 h4 H locs ls hP hS hl
          refine lv_istore (lv' := [(4, .int z4), (0, .ref (a 0)), (1, .int fi), (2, .int la), (3, .int (nI j))]) hx hb dX4_mayLie_35 hl (by decide) rfl (fun ls hl => ?_)
          refine lv_iload_n hx hb dX4_mayLie_37 rfl (lv_at hl 2 rfl) ?_
          refine lv_aload_n hx hb dX4_mayLie_38 rfl (lv_at hl 1 rfl) ?_
          refine va_get (D := G.1) (ci := 4) (v := .ref (a 10)) (C := RX4) (T := TX4) (N := 12) hx hb hts inX4 hown hK.1 hP 0 rfl rfl 10 (by decide) (hts _ mf_X4_47) (fun _ h9 => h9) rfl dX4_mayLie_39 ?_
          refine lv_iload_n hx hb dX4_mayLie_42 rfl (lv_at hl 4 rfl) ?_
          refine xiald hx hb hK hP 7 (j) (rfl) (by omega) (by omega) rfl dX4_mayLie_43 ?_
          refine lv_topi (fun v23 ev23 => ?_)
          refine lv_icmp_lt (tgt := 61) hx hb dX4_mayLie_44 (by decide) (fun c24 => ?_) (fun c24 => ?_)
          · refine lv_iconst (v := 0) hx hb dX4_mayLie_61 (by decide) ?_
            have h5 : ((0 : Int32) = 1 ∧ (r 10 j ≤ fi ∧ la ≤ r 11 j)) ∨ ((0 : Int32) = 0 ∧ ¬ (r 10 j ≤ fi ∧ la ≤ r 11 j)) := Or.inr ⟨rfl, fun h => by simp only [*] at * <;> exact Int32.not_lt.mpr h.1 c24⟩
            exact j62 z4 0 h4 h5 _ _ _ hP hS (lv_sub hl [0, 1, 2, 3, 4] rfl)
          · refine lv_iload_n hx hb dX4_mayLie_47 rfl (lv_at hl 3 rfl) ?_
            refine lv_aload_n hx hb dX4_mayLie_48 rfl (lv_at hl 1 rfl) ?_
            refine va_get (D := G.1) (ci := 4) (v := .ref (a 11)) (C := RX4) (T := TX4) (N := 12) hx hb hts inX4 hown hK.1 hP 0 rfl rfl 11 (by decide) (hts _ mf_X4_50) (fun _ h9 => h9) rfl dX4_mayLie_49 ?_
            refine lv_iload_n hx hb dX4_mayLie_52 rfl (lv_at hl 4 rfl) ?_
            refine xiald hx hb hK hP 8 (j) (rfl) (by omega) (by omega) rfl dX4_mayLie_53 ?_
            refine lv_topi (fun v25 ev25 => ?_)
            refine lv_icmp_gt (tgt := 61) hx hb dX4_mayLie_54 (by decide) (fun c26 => ?_) (fun c26 => ?_)
            · refine lv_iconst (v := 0) hx hb dX4_mayLie_61 (by decide) ?_
              have h5 : ((0 : Int32) = 1 ∧ (r 10 j ≤ fi ∧ la ≤ r 11 j)) ∨ ((0 : Int32) = 0 ∧ ¬ (r 10 j ≤ fi ∧ la ≤ r 11 j)) := Or.inr ⟨rfl, fun h => by simp only [*] at * <;> exact Int32.not_lt.mpr h.2 c26⟩
              exact j62 z4 0 h4 h5 _ _ _ hP hS (lv_sub hl [0, 1, 2, 3, 4] rfl)
            · refine lv_iconst (v := 1) hx hb dX4_mayLie_57 (by decide) ?_
              refine lv_goto (tgt := 62) hx hb dX4_mayLie_58 (by decide) ?_
              have h5 : ((1 : Int32) = 1 ∧ (r 10 j ≤ fi ∧ la ≤ r 11 j)) ∨ ((1 : Int32) = 0 ∧ ¬ (r 10 j ≤ fi ∧ la ≤ r 11 j)) := Or.inl ⟨rfl, by simp only [*] at * <;> exact ⟨Int32.not_lt.mp c24, Int32.not_lt.mp c26⟩⟩
              exact j62 z4 1 h4 h5 _ _ _ hP hS (lv_sub hl [0, 1, 2, 3, 4] rfl)
        refine lv_iload_n hx hb dX4_mayLie_10 rfl (lv_at hl 2 rfl) ?_
        refine lv_aload_n hx hb dX4_mayLie_11 rfl (lv_at hl 0 rfl) ?_
        refine va_get (D := G.1) (ci := 4) (v := .ref (a 10)) (C := RX4) (T := TX4) (N := 12) hx hb hts inX4 hown hK.1 hP 0 rfl rfl 10 (by decide) (hts _ mf_X4_47) (fun _ h9 => h9) rfl dX4_mayLie_12 ?_
        refine lv_iload_n hx hb dX4_mayLie_15 rfl (lv_at hl 3 rfl) ?_
        refine xiald hx hb hK hP 7 (j) (rfl) (by omega) (by omega) rfl dX4_mayLie_16 ?_
        refine lv_topi (fun v27 ev27 => ?_)
        refine lv_icmp_lt (tgt := 30) hx hb dX4_mayLie_17 (by decide) (fun c28 => ?_) (fun c28 => ?_)
        · refine lv_iconst (v := 1) hx hb dX4_mayLie_30 (by decide) ?_
          refine lv_goto (tgt := 35) hx hb dX4_mayLie_31 (by decide) ?_
          have h4 : ((1 : Int32) = 1 ∧ (la < r 10 j ∨ r 11 j < fi)) ∨ ((1 : Int32) = 0 ∧ ¬ (la < r 10 j ∨ r 11 j < fi)) := Or.inl ⟨rfl, by simp only [*] at * <;> exact Or.inl c28⟩
          exact j35 1 h4 _ _ _ hP hS (lv_sub hl [0, 1, 2, 3] rfl)
        · refine lv_iload_n hx hb dX4_mayLie_20 rfl (lv_at hl 1 rfl) ?_
          refine lv_aload_n hx hb dX4_mayLie_21 rfl (lv_at hl 0 rfl) ?_
          refine va_get (D := G.1) (ci := 4) (v := .ref (a 11)) (C := RX4) (T := TX4) (N := 12) hx hb hts inX4 hown hK.1 hP 0 rfl rfl 11 (by decide) (hts _ mf_X4_50) (fun _ h9 => h9) rfl dX4_mayLie_22 ?_
          refine lv_iload_n hx hb dX4_mayLie_25 rfl (lv_at hl 3 rfl) ?_
          refine xiald hx hb hK hP 8 (j) (rfl) (by omega) (by omega) rfl dX4_mayLie_26 ?_
          refine lv_topi (fun v29 ev29 => ?_)
          refine lv_icmp_le (tgt := 34) hx hb dX4_mayLie_27 (by decide) (fun c30 => ?_) (fun c30 => ?_)
          · refine lv_iconst (v := 0) hx hb dX4_mayLie_34 (by decide) ?_
            have h4 : ((0 : Int32) = 1 ∧ (la < r 10 j ∨ r 11 j < fi)) ∨ ((0 : Int32) = 0 ∧ ¬ (la < r 10 j ∨ r 11 j < fi)) := Or.inr ⟨rfl, fun h => by simp only [*] at * <;> exact h.elim (fun q => c28 q) (fun q => Int32.not_lt.mpr c30 q)⟩
            exact j35 0 h4 _ _ _ hP hS (lv_sub hl [0, 1, 2, 3] rfl)
          · refine lv_iconst (v := 1) hx hb dX4_mayLie_30 (by decide) ?_
            refine lv_goto (tgt := 35) hx hb dX4_mayLie_31 (by decide) ?_
            have h4 : ((1 : Int32) = 1 ∧ (la < r 10 j ∨ r 11 j < fi)) ∨ ((1 : Int32) = 0 ∧ ¬ (la < r 10 j ∨ r 11 j < fi)) := Or.inl ⟨rfl, by simp only [*] at * <;> exact Or.inr (Int32.not_le.mp c30)⟩
            exact j35 1 h4 _ _ _ hP hS (lv_sub hl [0, 1, 2, 3] rfl)
  exact loop (bk + 1) 0 (Nat.zero_le _) (by omega) (fun c hc => absurd hc (Nat.not_lt_zero c)) _ _ _ hP hS (lv_sub hl [1, 2, 3, 0] rfl)
set_option maxHeartbeats 4000000 in
set_option maxRecDepth 100000 in
theorem c_X4_priceOf (l : Launch) (G : GG) (a : Nat → Nat) (f : Nat → Int32) (r : Nat → Nat → Int32) (sp : Nat) (hsp : sp < 144) : RdI l yX4_priceOf cX4_priceOf 2 (some .int) ({ frames := 0, cells := 0, slots := 0, locals := 0 }) G (tW G a f r) [.ref (a 0), .int (nI sp)] (fun q => q = (if r 9 5 = 0 then 1 else r 6 sp + 1)) := by
  refine rd_entry (by decide +kernel) (Nat.le_of_ble_eq_true rfl) ?_
  intro p e s m below meth c C0 hP hK ls hl
  have hS : va_S (fun q => s.heap.size ≤ q) s.heap s.heap [] := va_S.rf
  have hA : ∀ q, s.heap.size ≤ q → (fun q => s.heap.size ≤ q) q := fun _ h => h
  obtain ⟨hx, hb, hml, hown, hts, hr, hlocks, hin⟩ := C0
  have hown : s.vm.findClass RX4 = some m.cls := hown
  have hl : lv_has ls 2 [(0, .ref (a 0)), (1, .int (nI sp))] := hl
  refine lv_aload_n hx hb dX4_priceOf_0 rfl (lv_at hl 0 rfl) ?_
  refine va_get (D := G.1) (ci := 4) (v := .ref (a 9)) (C := RX4) (T := TX4) (N := 12) hx hb hts inX4 hown hK.1 hP 0 rfl rfl 9 (by decide) (hts _ mf_X4_44) (fun _ h9 => h9) rfl dX4_priceOf_1 ?_
  refine lv_iconst (v := 5) hx hb dX4_priceOf_4 (by decide) ?_
  refine xiald hx hb hK hP 6 (5) (rfl) (by decide) (by omega) rfl dX4_priceOf_5 ?_
  refine lv_topi (fun v1 ev1 => ?_)
  refine lv_if_ne (tgt := 13) hx hb dX4_priceOf_6 (by decide) (fun c2 => ?_) (fun c2 => ?_)
  · refine lv_aload_n hx hb dX4_priceOf_13 rfl (lv_at hl 0 rfl) ?_
    refine va_get (D := G.1) (ci := 4) (v := .ref (a 6)) (C := RX4) (T := TX4) (N := 12) hx hb hts inX4 hown hK.1 hP 0 rfl rfl 6 (by decide) (hts _ mf_X4_32) (fun _ h9 => h9) rfl dX4_priceOf_14 ?_
    refine lv_iload_n hx hb dX4_priceOf_17 rfl (lv_at hl 1 rfl) ?_
    refine xiald hx hb hK hP 3 (sp) (rfl) (hsp) (by omega) rfl dX4_priceOf_18 ?_
    refine lv_topi (fun v3 ev3 => ?_)
    refine lv_iconst (v := 1) hx hb dX4_priceOf_19 (by decide) ?_
    refine lv_iadd hx hb dX4_priceOf_20 ?_
    refine lv_topi (fun v4 ev4 => ?_)
    exact rd_iret hx hb hr hlocks hS (by rw [if_neg (by rw [← ev1]; exact c2)]; simp only [*]) dX4_priceOf_21
  · refine lv_iconst (v := 1) hx hb dX4_priceOf_9 (by decide) ?_
    refine lv_goto (tgt := 21) hx hb dX4_priceOf_10 (by decide) ?_
    exact rd_iret hx hb hr hlocks hS (by rw [if_pos (by rw [← ev1]; exact c2)]) dX4_priceOf_21
set_option maxHeartbeats 4000000 in
set_option maxRecDepth 100000 in
theorem c_X4_reasons (l : Launch) (G : GG) (a : Nat → Nat) (f : Nat → Int32) (r : Nat → Nat → Int32) (sp : Nat) (hsp : sp < 144) : RdI l yX4_reasons cX4_reasons 4 (some .int) ({ frames := 1, cells := 0, slots := 0, locals := 25 }) G (tW G a f r) [.ref (a 0), .int (nI sp)] (fun q => q = rsF (r 5) (r 6) (r 7) (r 8) (r 9) sp) := by
  refine rd_entry (by decide +kernel) (Nat.le_of_ble_eq_true rfl) ?_
  intro p e s m below meth c C0 hP hK ls hl
  have hS : va_S (fun q => s.heap.size ≤ q) s.heap s.heap [] := va_S.rf
  have hA : ∀ q, s.heap.size ≤ q → (fun q => s.heap.size ≤ q) q := fun _ h => h
  obtain ⟨hx, hb, hml, hown, hts, hr, hlocks, hin⟩ := C0
  have hown : s.vm.findClass RX4 = some m.cls := hown
  have hl : lv_has ls 4 [(0, .ref (a 0)), (1, .int (nI sp))] := hl
  have j104 : ∀ (z : Int32), z = rsF (r 5) (r 6) (r 7) (r 8) (r 9) sp → ∀ (H : Heap) (locs : List Loc) (ls : Array Slot), PP G ([((a 0), .inr (4, [.int (f 0), .int (f 1), .int (f 2), .int (f 3), .ref (a 4), .ref (a 5), .ref (a 6), .ref (a 7), .ref (a 8), .ref (a 9), .ref (a 10), .ref (a 11)])), ((a 4), .inl (G.2.1, 12, .inl (r 4))), ((a 5), .inl (G.2.1, 144, .inl (r 5))), ((a 6), .inl (G.2.1, 144, .inl (r 6))), ((a 7), .inl (G.2.1, 144, .inl (r 7))), ((a 8), .inl (G.2.1, 864, .inl (r 8))), ((a 9), .inl (G.2.1, 6, .inl (r 9))), ((a 10), .inl (G.2.1, 12, .inl (r 10))), ((a 11), .inl (G.2.1, 12, .inl (r 11)))]) H → va_S (fun q => s.heap.size ≤ q) s.heap H locs → lv_has ls 4 [(0, .ref (a 0)), (1, .int (nI sp)), (2, .int z), (3, .int (r 6 sp))] → W p l e ({ frames := 1, cells := 0, slots := 0, locals := 25 }) s m ([.ref (a 0), .int (nI sp)] : List Value).toArray below meth c H locs 0 0 (MQ below (QrI (fun q => q = rsF (r 5) (r 6) (r 7) (r 8) (r 9) sp) (fun q => s.heap.size ≤ q)) ([.ref (a 0), .int (nI sp)] : List Value).toArray s 0 0 (fun q => s.heap.size ≤ q)) (F0 m 104 ls []) := by
    intro z hz H locs ls hP hS hl
    refine lv_iload_n hx hb dX4_reasons_104 rfl (lv_at hl 2 rfl) ?_
    exact rd_iret hx hb hr hlocks hS hz dX4_reasons_105
  have j82 : ∀ (z : Int32), r 5 sp = 2 → ¬ r 6 sp ≤ 0 → z = rs2 (r 5) (r 6) (r 7) (r 8) (r 9) sp → ∀ (H : Heap) (locs : List Loc) (ls : Array Slot), PP G ([((a 0), .inr (4, [.int (f 0), .int (f 1), .int (f 2), .int (f 3), .ref (a 4), .ref (a 5), .ref (a 6), .ref (a 7), .ref (a 8), .ref (a 9), .ref (a 10), .ref (a 11)])), ((a 4), .inl (G.2.1, 12, .inl (r 4))), ((a 5), .inl (G.2.1, 144, .inl (r 5))), ((a 6), .inl (G.2.1, 144, .inl (r 6))), ((a 7), .inl (G.2.1, 144, .inl (r 7))), ((a 8), .inl (G.2.1, 864, .inl (r 8))), ((a 9), .inl (G.2.1, 6, .inl (r 9))), ((a 10), .inl (G.2.1, 12, .inl (r 10))), ((a 11), .inl (G.2.1, 12, .inl (r 11)))]) H → va_S (fun q => s.heap.size ≤ q) s.heap H locs → lv_has ls 4 [(0, .ref (a 0)), (1, .int (nI sp)), (2, .int z), (3, .int (r 6 sp))] → W p l e ({ frames := 1, cells := 0, slots := 0, locals := 25 }) s m ([.ref (a 0), .int (nI sp)] : List Value).toArray below meth c H locs 0 0 (MQ below (QrI (fun q => q = rsF (r 5) (r 6) (r 7) (r 8) (r 9) sp) (fun q => s.heap.size ≤ q)) ([.ref (a 0), .int (nI sp)] : List Value).toArray s 0 0 (fun q => s.heap.size ≤ q)) (F0 m 82 ls []) := by
    intro z hk hn hz H locs ls hP hS hl
    refine lv_bipush (v := 100) hx hb dX4_reasons_82 (by decide) ?_
    refine lv_aload_n hx hb dX4_reasons_84 rfl (lv_at hl 0 rfl) ?_
    refine lv_iload_n hx hb dX4_reasons_85 rfl (lv_at hl 1 rfl) ?_
    refine rdV (rest := [.int 100]) (q0 := 0) ⟨hx, hb, hml, hown, hts⟩ (c_X4_leftByTwo l G a f r sp hsp) mi_yX4_leftByTwo mv_yX4_leftByTwo ml_X4_88 ⟨rfl, rfl, Nat.le_of_ble_eq_true rfl, Nat.le_of_ble_eq_true rfl⟩ hK (hP) rfl rfl rfl hl.1 rfl (Nat.le_of_ble_eq_true rfl) dX4_reasons_86 ⟨Nat.zero_le _, Nat.zero_le _⟩ hS hA hP (fun r1 H locs hr1 hP hS => ?_)
    refine lv_imul hx hb dX4_reasons_89 ?_
    refine lv_topi (fun v2 ev2 => ?_)
    refine lv_aload_n hx hb dX4_reasons_90 rfl (lv_at hl 0 rfl) ?_
    refine va_get (D := G.1) (ci := 4) (v := .ref (a 9)) (C := RX4) (T := TX4) (N := 12) hx hb hts inX4 hown hK.1 hP 0 rfl rfl 9 (by decide) (hts _ mf_X4_44) (fun _ h9 => h9) rfl dX4_reasons_91 ?_
    refine lv_iconst (v := 2) hx hb dX4_reasons_94 (by decide) ?_
    refine xiald hx hb hK hP 6 (2) (rfl) (by decide) (by omega) rfl dX4_reasons_95 ?_
    refine lv_topi (fun v3 ev3 => ?_)
    refine lv_iload_n hx hb dX4_reasons_96 rfl (lv_at hl 3 rfl) ?_
    refine lv_imul hx hb dX4_reasons_97 ?_
    refine lv_topi (fun v4 ev4 => ?_)
    refine lv_icmp_ge (tgt := 104) hx hb dX4_reasons_98 (by decide) (fun c5 => ?_) (fun c5 => ?_)
    · have hf : (z : Int32) = rsF (r 5) (r 6) (r 7) (r 8) (r 9) sp := by
        unfold rsF
        rw [if_neg (fun h => by simp only [*] at * <;> exact h.2.2 c5)]
        exact hz
      exact j104 z hf _ _ _ hP hS (lv_sub hl [0, 1, 2, 3] rfl)
    · obtain ⟨v6, ev6⟩ : ∃ y : Int32, y = z + Int32.ofInt (4) := ⟨_, rfl⟩
      refine lv_iinc (v := v6) (lv' := [(2, .int v6), (0, .ref (a 0)), (1, .int (nI sp)), (3, .int (r 6 sp))]) hx hb dX4_reasons_101 hl (k := 2) rfl ev6.symm (by decide) rfl (fun ls hl => ?_)
      have hf : (v6 : Int32) = rsF (r 5) (r 6) (r 7) (r 8) (r 9) sp := by
        unfold rsF
        rw [if_pos ⟨hk, hn, by simp only [*] at * <;> exact c5⟩]
        rw [ev6, hz]; rfl
      exact j104 v6 hf _ _ _ hP hS (lv_sub hl [1, 2, 0, 3] rfl)
  have j51 : ∀ (z : Int32), z = rs1 (r 5) (r 6) (r 7) (r 9) sp → ∀ (H : Heap) (locs : List Loc) (ls : Array Slot), PP G ([((a 0), .inr (4, [.int (f 0), .int (f 1), .int (f 2), .int (f 3), .ref (a 4), .ref (a 5), .ref (a 6), .ref (a 7), .ref (a 8), .ref (a 9), .ref (a 10), .ref (a 11)])), ((a 4), .inl (G.2.1, 12, .inl (r 4))), ((a 5), .inl (G.2.1, 144, .inl (r 5))), ((a 6), .inl (G.2.1, 144, .inl (r 6))), ((a 7), .inl (G.2.1, 144, .inl (r 7))), ((a 8), .inl (G.2.1, 864, .inl (r 8))), ((a 9), .inl (G.2.1, 6, .inl (r 9))), ((a 10), .inl (G.2.1, 12, .inl (r 10))), ((a 11), .inl (G.2.1, 12, .inl (r 11)))]) H → va_S (fun q => s.heap.size ≤ q) s.heap H locs → lv_has ls 4 [(0, .ref (a 0)), (1, .int (nI sp)), (2, .int z), (3, .int (r 6 sp))] → W p l e ({ frames := 1, cells := 0, slots := 0, locals := 25 }) s m ([.ref (a 0), .int (nI sp)] : List Value).toArray below meth c H locs 0 0 (MQ below (QrI (fun q => q = rsF (r 5) (r 6) (r 7) (r 8) (r 9) sp) (fun q => s.heap.size ≤ q)) ([.ref (a 0), .int (nI sp)] : List Value).toArray s 0 0 (fun q => s.heap.size ≤ q)) (F0 m 51 ls []) := by
    intro z hz H locs ls hP hS hl
    refine lv_aload_n hx hb dX4_reasons_51 rfl (lv_at hl 0 rfl) ?_
    refine va_get (D := G.1) (ci := 4) (v := .ref (a 5)) (C := RX4) (T := TX4) (N := 12) hx hb hts inX4 hown hK.1 hP 0 rfl rfl 5 (by decide) (hts _ mf_X4_29) (fun _ h9 => h9) rfl dX4_reasons_52 ?_
    refine lv_iload_n hx hb dX4_reasons_55 rfl (lv_at hl 1 rfl) ?_
    refine xiald hx hb hK hP 2 (sp) (rfl) (hsp) (by omega) rfl dX4_reasons_56 ?_
    refine lv_topi (fun v7 ev7 => ?_)
    refine lv_iconst (v := 2) hx hb dX4_reasons_57 (by decide) ?_
    refine lv_icmp_ne (tgt := 104) hx hb dX4_reasons_58 (by decide) (fun c8 => ?_) (fun c8 => ?_)
    · have hf : (z : Int32) = rsF (r 5) (r 6) (r 7) (r 8) (r 9) sp := by
        unfold rsF rs2
        rw [if_neg (fun h => c8 (by simp only [*] at * <;> exact h.1)), if_neg (fun h => c8 (by simp only [*] at * <;> exact h.1))]
        exact hz
      exact j104 z hf _ _ _ hP hS (lv_sub hl [0, 1, 2, 3] rfl)
    · refine lv_iload_n hx hb dX4_reasons_61 rfl (lv_at hl 3 rfl) ?_
      refine lv_if_le (tgt := 104) hx hb dX4_reasons_62 (by decide) (fun c9 => ?_) (fun c9 => ?_)
      · have hf : (z : Int32) = rsF (r 5) (r 6) (r 7) (r 8) (r 9) sp := by
          unfold rsF rs2
          rw [if_neg (fun h => h.2.1 (by simp only [*] at * <;> exact c9)), if_neg (fun h => h.2.1 (by simp only [*] at * <;> exact c9))]
          exact hz
        exact j104 z hf _ _ _ hP hS (lv_sub hl [0, 1, 2, 3] rfl)
      · refine lv_aload_n hx hb dX4_reasons_65 rfl (lv_at hl 0 rfl) ?_
        refine lv_iload_n hx hb dX4_reasons_66 rfl (lv_at hl 1 rfl) ?_
        refine rdV (rest := []) (q0 := 0) ⟨hx, hb, hml, hown, hts⟩ (c_X4_giversAt l G a f r sp hsp) mi_yX4_giversAt mv_yX4_giversAt ml_X4_73 ⟨rfl, rfl, Nat.le_of_ble_eq_true rfl, Nat.le_of_ble_eq_true rfl⟩ hK (hP) rfl rfl rfl hl.1 rfl (Nat.le_of_ble_eq_true rfl) dX4_reasons_67 ⟨Nat.zero_le _, Nat.zero_le _⟩ hS hA hP (fun r10 H locs hr10 hP hS => ?_)
        refine lv_aload_n hx hb dX4_reasons_70 rfl (lv_at hl 0 rfl) ?_
        refine va_get (D := G.1) (ci := 4) (v := .ref (a 9)) (C := RX4) (T := TX4) (N := 12) hx hb hts inX4 hown hK.1 hP 0 rfl rfl 9 (by decide) (hts _ mf_X4_44) (fun _ h9 => h9) rfl dX4_reasons_71 ?_
        refine lv_iconst (v := 1) hx hb dX4_reasons_74 (by decide) ?_
        refine xiald hx hb hK hP 6 (1) (rfl) (by decide) (by omega) rfl dX4_reasons_75 ?_
        refine lv_topi (fun v11 ev11 => ?_)
        refine lv_icmp_ge (tgt := 82) hx hb dX4_reasons_76 (by decide) (fun c12 => ?_) (fun c12 => ?_)
        · have hf : (z : Int32) = rs2 (r 5) (r 6) (r 7) (r 8) (r 9) sp := by
            unfold rs2
            rw [if_neg (fun h => by simp only [*] at * <;> exact h.2.2 c12)]
            exact hz
          exact j82 z (by rw [← ev7]; exact c8) c9 hf _ _ _ hP hS (lv_sub hl [0, 1, 2, 3] rfl)
        · obtain ⟨v13, ev13⟩ : ∃ y : Int32, y = z + Int32.ofInt (2) := ⟨_, rfl⟩
          refine lv_iinc (v := v13) (lv' := [(2, .int v13), (0, .ref (a 0)), (1, .int (nI sp)), (3, .int (r 6 sp))]) hx hb dX4_reasons_79 hl (k := 2) rfl ev13.symm (by decide) rfl (fun ls hl => ?_)
          have hf : (v13 : Int32) = rs2 (r 5) (r 6) (r 7) (r 8) (r 9) sp := by
            unfold rs2
            rw [if_pos ⟨by rw [← ev7]; exact c8, c9, by simp only [*] at * <;> exact c12⟩]
            rw [ev13, hz]; rfl
          exact j82 v13 (by rw [← ev7]; exact c8) c9 hf _ _ _ hP hS (lv_sub hl [1, 2, 0, 3] rfl)
  have j15 : ∀ (z : Int32), z = rsB (r 7) sp → ∀ (H : Heap) (locs : List Loc) (ls : Array Slot), PP G ([((a 0), .inr (4, [.int (f 0), .int (f 1), .int (f 2), .int (f 3), .ref (a 4), .ref (a 5), .ref (a 6), .ref (a 7), .ref (a 8), .ref (a 9), .ref (a 10), .ref (a 11)])), ((a 4), .inl (G.2.1, 12, .inl (r 4))), ((a 5), .inl (G.2.1, 144, .inl (r 5))), ((a 6), .inl (G.2.1, 144, .inl (r 6))), ((a 7), .inl (G.2.1, 144, .inl (r 7))), ((a 8), .inl (G.2.1, 864, .inl (r 8))), ((a 9), .inl (G.2.1, 6, .inl (r 9))), ((a 10), .inl (G.2.1, 12, .inl (r 10))), ((a 11), .inl (G.2.1, 12, .inl (r 11)))]) H → va_S (fun q => s.heap.size ≤ q) s.heap H locs → lv_has ls 4 [(0, .ref (a 0)), (1, .int (nI sp))] → W p l e ({ frames := 1, cells := 0, slots := 0, locals := 25 }) s m ([.ref (a 0), .int (nI sp)] : List Value).toArray below meth c H locs 0 0 (MQ below (QrI (fun q => q = rsF (r 5) (r 6) (r 7) (r 8) (r 9) sp) (fun q => s.heap.size ≤ q)) ([.ref (a 0), .int (nI sp)] : List Value).toArray s 0 0 (fun q => s.heap.size ≤ q)) (F0 m 15 ls [.int z]) := by
    intro z hz H locs ls hP hS hl
    refine lv_istore_n (lv' := [(2, .int z), (0, .ref (a 0)), (1, .int (nI sp))]) hx hb dX4_reasons_15 rfl hl (by decide) rfl (fun ls hl => ?_)
    refine lv_aload_n hx hb dX4_reasons_16 rfl (lv_at hl 1 rfl) ?_
    refine va_get (D := G.1) (ci := 4) (v := .ref (a 6)) (C := RX4) (T := TX4) (N := 12) hx hb hts inX4 hown hK.1 hP 0 rfl rfl 6 (by decide) (hts _ mf_X4_32) (fun _ h9 => h9) rfl dX4_reasons_17 ?_
    refine lv_iload_n hx hb dX4_reasons_20 rfl (lv_at hl 2 rfl) ?_
    refine xiald hx hb hK hP 3 (sp) (rfl) (hsp) (by omega) rfl dX4_reasons_21 ?_
    refine lv_topi (fun v14 ev14 => ?_)
    refine lv_istore_n (lv' := [(3, .int v14), (2, .int z), (0, .ref (a 0)), (1, .int (nI sp))]) hx hb dX4_reasons_22 rfl hl (by decide) rfl (fun ls hl => ?_)
    refine lv_aload_n hx hb dX4_reasons_23 rfl (lv_at hl 2 rfl) ?_
    refine va_get (D := G.1) (ci := 4) (v := .ref (a 5)) (C := RX4) (T := TX4) (N := 12) hx hb hts inX4 hown hK.1 hP 0 rfl rfl 5 (by decide) (hts _ mf_X4_29) (fun _ h9 => h9) rfl dX4_reasons_24 ?_
    refine lv_iload_n hx hb dX4_reasons_27 rfl (lv_at hl 3 rfl) ?_
    refine xiald hx hb hK hP 2 (sp) (rfl) (hsp) (by omega) rfl dX4_reasons_28 ?_
    refine lv_topi (fun v15 ev15 => ?_)
    refine lv_iconst (v := 1) hx hb dX4_reasons_29 (by decide) ?_
    refine lv_icmp_ne (tgt := 51) hx hb dX4_reasons_30 (by decide) (fun c16 => ?_) (fun c16 => ?_)
    · have hf : (z : Int32) = rs1 (r 5) (r 6) (r 7) (r 9) sp := by
        unfold rs1
        rw [if_neg (fun h => c16 (by simp only [*] at * <;> exact h.1))]
        exact hz
      subst ev14
      exact j51 z hf _ _ _ hP hS (lv_sub hl [2, 3, 1, 0] rfl)
    · refine lv_iload_n hx hb dX4_reasons_33 rfl (lv_at hl 0 rfl) ?_
      refine lv_iconst (v := 1) hx hb dX4_reasons_34 (by decide) ?_
      refine lv_icmp_lt (tgt := 51) hx hb dX4_reasons_35 (by decide) (fun c17 => ?_) (fun c17 => ?_)
      · have hf : (z : Int32) = rs1 (r 5) (r 6) (r 7) (r 9) sp := by
          unfold rs1
          rw [if_neg (fun h => h.2.1 (by simp only [*] at * <;> exact c17))]
          exact hz
        subst ev14
        exact j51 z hf _ _ _ hP hS (lv_sub hl [2, 3, 1, 0] rfl)
      · refine lv_iload_n hx hb dX4_reasons_38 rfl (lv_at hl 0 rfl) ?_
        refine lv_aload_n hx hb dX4_reasons_39 rfl (lv_at hl 2 rfl) ?_
        refine va_get (D := G.1) (ci := 4) (v := .ref (a 9)) (C := RX4) (T := TX4) (N := 12) hx hb hts inX4 hown hK.1 hP 0 rfl rfl 9 (by decide) (hts _ mf_X4_44) (fun _ h9 => h9) rfl dX4_reasons_40 ?_
        refine lv_iconst (v := 0) hx hb dX4_reasons_43 (by decide) ?_
        refine xiald hx hb hK hP 6 (0) (rfl) (by decide) (by omega) rfl dX4_reasons_44 ?_
        refine lv_topi (fun v18 ev18 => ?_)
        refine lv_icmp_gt (tgt := 51) hx hb dX4_reasons_45 (by decide) (fun c19 => ?_) (fun c19 => ?_)
        · have hf : (z : Int32) = rs1 (r 5) (r 6) (r 7) (r 9) sp := by
            unfold rs1
            rw [if_neg (fun h => h.2.2 (by simp only [*] at * <;> exact c19))]
            exact hz
          subst ev14
          exact j51 z hf _ _ _ hP hS (lv_sub hl [2, 3, 1, 0] rfl)
        · obtain ⟨v20, ev20⟩ : ∃ y : Int32, y = z + Int32.ofInt (1) := ⟨_, rfl⟩
          refine lv_iinc (v := v20) (lv' := [(2, .int v20), (3, .int v14), (0, .ref (a 0)), (1, .int (nI sp))]) hx hb dX4_reasons_48 hl (k := 1) rfl ev20.symm (by decide) rfl (fun ls hl => ?_)
          have hf : (v20 : Int32) = rs1 (r 5) (r 6) (r 7) (r 9) sp := by
            unfold rs1
            rw [if_pos ⟨by rw [← ev15]; exact c16, by rw [← ev14]; exact c17, by simp only [*] at * <;> exact c19⟩]
            rw [ev20, hz]; rfl
          subst ev14
          exact j51 v20 hf _ _ _ hP hS (lv_sub hl [2, 3, 0, 1] rfl)
  refine lv_aload_n hx hb dX4_reasons_0 rfl (lv_at hl 0 rfl) ?_
  refine lv_iload_n hx hb dX4_reasons_1 rfl (lv_at hl 1 rfl) ?_
  refine lv_iconst (v := 1) hx hb dX4_reasons_2 (by decide) ?_
  refine rdV (rest := []) (q0 := 0) ⟨hx, hb, hml, hown, hts⟩ (c_X4_wasTold l G a f r sp 1 hsp) mi_yX4_wasTold mv_yX4_wasTold ml_X4_84 ⟨rfl, rfl, Nat.le_of_ble_eq_true rfl, Nat.le_of_ble_eq_true rfl⟩ hK (hP) rfl rfl rfl hl.1 rfl (Nat.le_of_ble_eq_true rfl) dX4_reasons_3 ⟨Nat.zero_le _, Nat.zero_le _⟩ hS hA hP (fun r21 H locs hr21 hP hS => ?_)
  refine lv_if_eq (tgt := 14) hx hb dX4_reasons_6 (by decide) (fun c22 => ?_) (fun c22 => ?_)
  · refine lv_iconst (v := 0) hx hb dX4_reasons_14 (by decide) ?_
    have hf : (0 : Int32) = rsB (r 7) sp := by
      unfold rsB
      rcases hr21 with ⟨a1, a2⟩ | ⟨a1, a2⟩
      · rw [if_pos a2]
      · exact absurd (a1.symm.trans c22) (by decide)
    exact j15 0 hf _ _ _ hP hS (lv_sub hl [0, 1] rfl)
  · refine lv_bipush (v := 8) hx hb dX4_reasons_9 (by decide) ?_
    refine lv_goto (tgt := 15) hx hb dX4_reasons_11 (by decide) ?_
    have hf : (8 : Int32) = rsB (r 7) sp := by
      unfold rsB
      rcases hr21 with ⟨a1, a2⟩ | ⟨a1, a2⟩
      · exact absurd a1 c22
      · rw [if_neg a2]
    exact j15 8 hf _ _ _ hP hS (lv_sub hl [0, 1] rfl)
set_option maxHeartbeats 4000000 in
set_option maxRecDepth 100000 in
theorem c_X4_isKept (l : Launch) (G : GG) (a : Nat → Nat) (f : Nat → Int32) (r : Nat → Nat → Int32) (sp : Nat) (hsp : sp < 144) : RdI l yX4_isKept cX4_isKept 2 (some .boolean) ({ frames := 2, cells := 0, slots := 0, locals := 48 }) G (tW G a f r) [.ref (a 0), .int (nI sp)] (fun q => (q = 1 ∧ kpP (r 5) (r 6) (r 7) (r 8) (r 9) sp) ∨ (q = 0 ∧ ¬ kpP (r 5) (r 6) (r 7) (r 8) (r 9) sp)) := by
  refine rd_entry (by decide +kernel) (Nat.le_of_ble_eq_true rfl) ?_
  intro p e s m below meth c C0 hP hK ls hl
  have hS : va_S (fun q => s.heap.size ≤ q) s.heap s.heap [] := va_S.rf
  have hA : ∀ q, s.heap.size ≤ q → (fun q => s.heap.size ≤ q) q := fun _ h => h
  obtain ⟨hx, hb, hml, hown, hts, hr, hlocks, hin⟩ := C0
  have hown : s.vm.findClass RX4 = some m.cls := hown
  have hl : lv_has ls 2 [(0, .ref (a 0)), (1, .int (nI sp))] := hl
  refine lv_aload_n hx hb dX4_isKept_0 rfl (lv_at hl 0 rfl) ?_
  refine lv_iload_n hx hb dX4_isKept_1 rfl (lv_at hl 1 rfl) ?_
  refine lv_iconst (v := 2) hx hb dX4_isKept_2 (by decide) ?_
  refine rdV (rest := []) (q0 := 0) ⟨hx, hb, hml, hown, hts⟩ (c_X4_wasTold l G a f r sp 2 hsp) mi_yX4_wasTold mv_yX4_wasTold ml_X4_84 ⟨rfl, rfl, Nat.le_of_ble_eq_true rfl, Nat.le_of_ble_eq_true rfl⟩ hK (hP) rfl rfl rfl hl.1 rfl (Nat.le_of_ble_eq_true rfl) dX4_isKept_3 ⟨Nat.zero_le _, Nat.zero_le _⟩ hS hA hP (fun r1 H locs hr1 hP hS => ?_)
  refine lv_if_ne (tgt := 17) hx hb dX4_isKept_6 (by decide) (fun c2 => ?_) (fun c2 => ?_)
  · refine lv_iconst (v := 1) hx hb dX4_isKept_17 (by decide) ?_
    refine lv_goto (tgt := 22) hx hb dX4_isKept_18 (by decide) ?_
    exact rd_zret hx hb hr hlocks (Or.inr rfl) hS (Or.inl ⟨rfl, Or.inl (fun z => hr1.elim (fun a => absurd a.1 c2) (fun a => a.2 z))⟩) dX4_isKept_22
  · refine lv_aload_n hx hb dX4_isKept_9 rfl (lv_at hl 0 rfl) ?_
    refine lv_iload_n hx hb dX4_isKept_10 rfl (lv_at hl 1 rfl) ?_
    refine rdV (rest := []) (q0 := 0) ⟨hx, hb, hml, hown, hts⟩ (c_X4_reasons l G a f r sp hsp) mi_yX4_reasons mv_yX4_reasons ml_X4_91 ⟨rfl, rfl, Nat.le_of_ble_eq_true rfl, Nat.le_of_ble_eq_true rfl⟩ hK (hP) rfl rfl rfl hl.1 rfl (Nat.le_of_ble_eq_true rfl) dX4_isKept_11 ⟨Nat.zero_le _, Nat.zero_le _⟩ hS hA hP (fun r3 H locs hr3 hP hS => ?_)
    refine lv_if_eq (tgt := 21) hx hb dX4_isKept_14 (by decide) (fun c4 => ?_) (fun c4 => ?_)
    · refine lv_iconst (v := 0) hx hb dX4_isKept_21 (by decide) ?_
      exact rd_zret hx hb hr hlocks (Or.inl rfl) hS (Or.inr ⟨rfl, fun h => h.elim (fun a => a (hr1.elim (fun b => b.2) (fun b => absurd (b.1.symm.trans c2) (by decide)))) (fun a => a (by rw [← hr3]; exact c4))⟩) dX4_isKept_22
    · refine lv_iconst (v := 1) hx hb dX4_isKept_17 (by decide) ?_
      refine lv_goto (tgt := 22) hx hb dX4_isKept_18 (by decide) ?_
      exact rd_zret hx hb hr hlocks (Or.inr rfl) hS (Or.inl ⟨rfl, Or.inr (by rw [← hr3]; exact c4)⟩) dX4_isKept_22
