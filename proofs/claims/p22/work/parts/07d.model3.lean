theorem ml_X7_171 : Cond.methodLink RX7 171 yX7_twoGreatest ∈ TB := TB_t5 131 rfl rfl
theorem mcode_yX7_twoGreatest : Cond.code yX7_twoGreatest cX7_twoGreatest 6 (some .int) ∈ TB := TB_t5 134 rfl rfl
theorem mi_yX7_twoGreatest : MI yX7_twoGreatest cX7_twoGreatest 6 (some .int) 1 := ⟨mz_RX7, mcode_yX7_twoGreatest, by decide +kernel, by decide +kernel, by decide +kernel⟩
theorem mim_yX7_twoGreatest : Cond.instanceMethod yX7_twoGreatest ∈ TB := TB_t5 133 rfl rfl
theorem msel_yX7_twoGreatest : Cond.selects yX7_twoGreatest.cls yX7_twoGreatest yX7_twoGreatest ∈ TB := TB_s (n := 43) 56 (by decide +kernel)
theorem mv_yX7_twoGreatest : Cond.instanceMethod yX7_twoGreatest ∈ TB ∧ Cond.selects yX7_twoGreatest.cls yX7_twoGreatest yX7_twoGreatest ∈ TB := ⟨mim_yX7_twoGreatest, msel_yX7_twoGreatest⟩
theorem ml_X7_175 : Cond.methodLink RX7 175 yX7_why ∈ TB := TB_t5 127 rfl rfl
theorem mcode_yX7_why : Cond.code yX7_why cX7_why 6 (some .int) ∈ TB := TB_t5 130 rfl rfl
theorem mi_yX7_why : MI yX7_why cX7_why 6 (some .int) 2 := ⟨mz_RX7, mcode_yX7_why, by decide +kernel, by decide +kernel, by decide +kernel⟩
theorem mim_yX7_why : Cond.instanceMethod yX7_why ∈ TB := TB_t5 129 rfl rfl
theorem msel_yX7_why : Cond.selects yX7_why.cls yX7_why yX7_why ∈ TB := TB_s (n := 43) 55 (by decide +kernel)
theorem mv_yX7_why : Cond.instanceMethod yX7_why ∈ TB ∧ Cond.selects yX7_why.cls yX7_why yX7_why ∈ TB := ⟨mim_yX7_why, msel_yX7_why⟩
theorem ml_X7_161 : Cond.methodLink RX7 161 yX7_isSound ∈ TB := TB_t5 99 rfl rfl
theorem mcode_yX7_isSound : Cond.code yX7_isSound cX7_isSound 5 (some .boolean) ∈ TB := TB_t5 102 rfl rfl
theorem mi_yX7_isSound : MI yX7_isSound cX7_isSound 5 (some .boolean) 2 := ⟨mz_RX7, mcode_yX7_isSound, by decide +kernel, by decide +kernel, by decide +kernel⟩
theorem mim_yX7_isSound : Cond.instanceMethod yX7_isSound ∈ TB := TB_t5 101 rfl rfl
theorem msel_yX7_isSound : Cond.selects yX7_isSound.cls yX7_isSound yX7_isSound ∈ TB := TB_s (n := 43) 51 (by decide +kernel)
theorem mv_yX7_isSound : Cond.instanceMethod yX7_isSound ∈ TB ∧ Cond.selects yX7_isSound.cls yX7_isSound yX7_isSound ∈ TB := ⟨mim_yX7_isSound, msel_yX7_isSound⟩
theorem ml_X7_155 : Cond.methodLink RX7 155 yX7_wrongAmount ∈ TB := TB_t5 75 rfl rfl
theorem mcode_yX7_wrongAmount : Cond.code yX7_wrongAmount cX7_wrongAmount 6 (some .int) ∈ TB := TB_t5 78 rfl rfl
theorem mi_yX7_wrongAmount : MI yX7_wrongAmount cX7_wrongAmount 6 (some .int) 3 := ⟨mz_RX7, mcode_yX7_wrongAmount, by decide +kernel, by decide +kernel, by decide +kernel⟩
theorem mim_yX7_wrongAmount : Cond.instanceMethod yX7_wrongAmount ∈ TB := TB_t5 77 rfl rfl
theorem msel_yX7_wrongAmount : Cond.selects yX7_wrongAmount.cls yX7_wrongAmount yX7_wrongAmount ∈ TB := TB_s (n := 43) 49 (by decide +kernel)
theorem mv_yX7_wrongAmount : Cond.instanceMethod yX7_wrongAmount ∈ TB ∧ Cond.selects yX7_wrongAmount.cls yX7_wrongAmount yX7_wrongAmount ∈ TB := ⟨mim_yX7_wrongAmount, msel_yX7_wrongAmount⟩
theorem ml_X7_158 : Cond.methodLink RX7 158 yX7_wrongToTell ∈ TB := TB_t5 87 rfl rfl
theorem mcode_yX7_wrongToTell : Cond.code yX7_wrongToTell cX7_wrongToTell 6 (some .int) ∈ TB := TB_t5 90 rfl rfl
theorem mi_yX7_wrongToTell : MI yX7_wrongToTell cX7_wrongToTell 6 (some .int) 3 := ⟨mz_RX7, mcode_yX7_wrongToTell, by decide +kernel, by decide +kernel, by decide +kernel⟩
theorem mim_yX7_wrongToTell : Cond.instanceMethod yX7_wrongToTell ∈ TB := TB_t5 89 rfl rfl
theorem msel_yX7_wrongToTell : Cond.selects yX7_wrongToTell.cls yX7_wrongToTell yX7_wrongToTell ∈ TB := TB_s (n := 43) 50 (by decide +kernel)
theorem mv_yX7_wrongToTell : Cond.instanceMethod yX7_wrongToTell ∈ TB ∧ Cond.selects yX7_wrongToTell.cls yX7_wrongToTell yX7_wrongToTell ∈ TB := ⟨mim_yX7_wrongToTell, msel_yX7_wrongToTell⟩
theorem ml_X7_164 : Cond.methodLink RX7 164 yX7_sumOf ∈ TB := TB_t5 107 rfl rfl
theorem mcode_yX7_sumOf : Cond.code yX7_sumOf cX7_sumOf 5 (some .int) ∈ TB := TB_t5 110 rfl rfl
theorem mi_yX7_sumOf : MI yX7_sumOf cX7_sumOf 5 (some .int) 2 := ⟨mz_RX7, mcode_yX7_sumOf, by decide +kernel, by decide +kernel, by decide +kernel⟩
theorem mim_yX7_sumOf : Cond.instanceMethod yX7_sumOf ∈ TB := TB_t5 109 rfl rfl
theorem msel_yX7_sumOf : Cond.selects yX7_sumOf.cls yX7_sumOf yX7_sumOf ∈ TB := TB_s (n := 43) 52 (by decide +kernel)
theorem mv_yX7_sumOf : Cond.instanceMethod yX7_sumOf ∈ TB ∧ Cond.selects yX7_sumOf.cls yX7_sumOf yX7_sumOf ∈ TB := ⟨mim_yX7_sumOf, msel_yX7_sumOf⟩
theorem ml_X7_168 : Cond.methodLink RX7 168 yX7_classOf ∈ TB := TB_t5 115 rfl rfl
theorem mcode_yX7_classOf : Cond.code yX7_classOf cX7_classOf 8 (some .int) ∈ TB := TB_t5 118 rfl rfl
theorem mi_yX7_classOf : MI yX7_classOf cX7_classOf 8 (some .int) 2 := ⟨mz_RX7, mcode_yX7_classOf, by decide +kernel, by decide +kernel, by decide +kernel⟩
theorem mim_yX7_classOf : Cond.instanceMethod yX7_classOf ∈ TB := TB_t5 117 rfl rfl
theorem msel_yX7_classOf : Cond.selects yX7_classOf.cls yX7_classOf yX7_classOf ∈ TB := TB_s (n := 43) 53 (by decide +kernel)
theorem mv_yX7_classOf : Cond.instanceMethod yX7_classOf ∈ TB ∧ Cond.selects yX7_classOf.cls yX7_classOf yX7_classOf ∈ TB := ⟨mim_yX7_classOf, msel_yX7_classOf⟩
theorem ml_X7_178 : Cond.methodLink RX7 178 yX7_wrongSound ∈ TB := TB_t5 123 rfl rfl
theorem mcode_yX7_wrongSound : Cond.code yX7_wrongSound cX7_wrongSound 6 (some .int) ∈ TB := TB_t5 126 rfl rfl
theorem mi_yX7_wrongSound : MI yX7_wrongSound cX7_wrongSound 6 (some .int) 3 := ⟨mz_RX7, mcode_yX7_wrongSound, by decide +kernel, by decide +kernel, by decide +kernel⟩
theorem mim_yX7_wrongSound : Cond.instanceMethod yX7_wrongSound ∈ TB := TB_t5 125 rfl rfl
theorem msel_yX7_wrongSound : Cond.selects yX7_wrongSound.cls yX7_wrongSound yX7_wrongSound ∈ TB := TB_s (n := 43) 54 (by decide +kernel)
theorem mv_yX7_wrongSound : Cond.instanceMethod yX7_wrongSound ∈ TB ∧ Cond.selects yX7_wrongSound.cls yX7_wrongSound yX7_wrongSound ∈ TB := ⟨mim_yX7_wrongSound, msel_yX7_wrongSound⟩
theorem ml_X7_181 : Cond.methodLink RX7 181 yX7_isKept ∈ TB := TB_t5 139 rfl rfl
theorem mcode_yX7_isKept : Cond.code yX7_isKept cX7_isKept 3 (some .boolean) ∈ TB := TB_t5 142 rfl rfl
theorem mi_yX7_isKept : MI yX7_isKept cX7_isKept 3 (some .boolean) 2 := ⟨mz_RX7, mcode_yX7_isKept, by decide +kernel, by decide +kernel, by decide +kernel⟩
theorem mim_yX7_isKept : Cond.instanceMethod yX7_isKept ∈ TB := TB_t5 141 rfl rfl
theorem msel_yX7_isKept : Cond.selects yX7_isKept.cls yX7_isKept yX7_isKept ∈ TB := TB_s (n := 43) 57 (by decide +kernel)
theorem mv_yX7_isKept : Cond.instanceMethod yX7_isKept ∈ TB ∧ Cond.selects yX7_isKept.cls yX7_isKept yX7_isKept ∈ TB := ⟨mim_yX7_isKept, msel_yX7_isKept⟩
theorem mkl_X7_184 : Cond.constantLong RX7 184 (1000) ∈ TB := TB_t5 151 rfl rfl
theorem ml_X7_186 : Cond.methodLink RX7 186 yX7_thousandthsOf ∈ TB := TB_t5 147 rfl rfl
theorem mcode_yX7_thousandthsOf : Cond.code yX7_thousandthsOf cX7_thousandthsOf 5 (some .int) ∈ TB := TB_t5 150 rfl rfl
theorem mi_yX7_thousandthsOf : MI yX7_thousandthsOf cX7_thousandthsOf 5 (some .int) 3 := ⟨mz_RX7, mcode_yX7_thousandthsOf, by decide +kernel, by decide +kernel, by decide +kernel⟩
theorem mim_yX7_thousandthsOf : Cond.instanceMethod yX7_thousandthsOf ∈ TB := TB_t5 149 rfl rfl
theorem msel_yX7_thousandthsOf : Cond.selects yX7_thousandthsOf.cls yX7_thousandthsOf yX7_thousandthsOf ∈ TB := TB_s (n := 43) 58 (by decide +kernel)
theorem mv_yX7_thousandthsOf : Cond.instanceMethod yX7_thousandthsOf ∈ TB ∧ Cond.selects yX7_thousandthsOf.cls yX7_thousandthsOf yX7_thousandthsOf ∈ TB := ⟨mim_yX7_thousandthsOf, msel_yX7_thousandthsOf⟩
theorem ml_X7_242 : Cond.methodLink RX7 242 yX7_costOf ∈ TB := TB_t5 227 rfl rfl
theorem mcode_yX7_costOf : Cond.code yX7_costOf cX7_costOf 3 (some .int) ∈ TB := TB_t5 230 rfl rfl
theorem mi_yX7_costOf : MI yX7_costOf cX7_costOf 3 (some .int) 2 := ⟨mz_RX7, mcode_yX7_costOf, by decide +kernel, by decide +kernel, by decide +kernel⟩
theorem mim_yX7_costOf : Cond.instanceMethod yX7_costOf ∈ TB := TB_t5 229 rfl rfl
theorem msel_yX7_costOf : Cond.selects yX7_costOf.cls yX7_costOf yX7_costOf ∈ TB := TB_s (n := 43) 69 (by decide +kernel)
theorem mv_yX7_costOf : Cond.instanceMethod yX7_costOf ∈ TB ∧ Cond.selects yX7_costOf.cls yX7_costOf yX7_costOf ∈ TB := ⟨mim_yX7_costOf, msel_yX7_costOf⟩
theorem kcX7_isSound_0 : CHb cX7_isSound 0 [42, 180, 0, 41, 16, 12, 27, 104, 28, 96, 46, 42, 180, 0, 17, 27, 46, 160, 0, 7, 4, 167, 0, 4, 3, 62, 3, 54, 4, 21, 4, 42, 180, 0, 17, 27, 46, 162, 0, 51, 29, 153, 0, 47, 42, 180, 0, 23, 27, 28, 21, 4, 184, 0, 147, 46, 4, 161, 0, 23, 42, 180, 0, 23] := CHb_of (by decide +kernel)
theorem dX7_isSound_0 : decode cX7_isSound 0 = .ok (.aload_n 0, 1) := dw_42 (kcX7_isSound_0 0 42 rfl)
theorem dX7_isSound_1 : decode cX7_isSound 1 = .ok (.getfield 41, 3) := dw_180 (kcX7_isSound_0 1 180 rfl) (kcX7_isSound_0 2 0 rfl) (kcX7_isSound_0 3 41 rfl) rfl
theorem dX7_isSound_4 : decode cX7_isSound 4 = .ok (.bipush 12, 2) := dw_16 (kcX7_isSound_0 4 16 rfl) (kcX7_isSound_0 5 12 rfl) rfl
theorem dX7_isSound_6 : decode cX7_isSound 6 = .ok (.iload_n 1, 1) := dw_27 (kcX7_isSound_0 6 27 rfl)
theorem dX7_isSound_7 : decode cX7_isSound 7 = .ok (.imul, 1) := dw_104 (kcX7_isSound_0 7 104 rfl)
theorem dX7_isSound_8 : decode cX7_isSound 8 = .ok (.iload_n 2, 1) := dw_28 (kcX7_isSound_0 8 28 rfl)
theorem dX7_isSound_9 : decode cX7_isSound 9 = .ok (.iadd, 1) := dw_96 (kcX7_isSound_0 9 96 rfl)
theorem dX7_isSound_10 : decode cX7_isSound 10 = .ok (.iaload, 1) := dw_46 (kcX7_isSound_0 10 46 rfl)
theorem dX7_isSound_11 : decode cX7_isSound 11 = .ok (.aload_n 0, 1) := dw_42 (kcX7_isSound_0 11 42 rfl)
theorem dX7_isSound_12 : decode cX7_isSound 12 = .ok (.getfield 17, 3) := dw_180 (kcX7_isSound_0 12 180 rfl) (kcX7_isSound_0 13 0 rfl) (kcX7_isSound_0 14 17 rfl) rfl
theorem dX7_isSound_15 : decode cX7_isSound 15 = .ok (.iload_n 1, 1) := dw_27 (kcX7_isSound_0 15 27 rfl)
theorem dX7_isSound_16 : decode cX7_isSound 16 = .ok (.iaload, 1) := dw_46 (kcX7_isSound_0 16 46 rfl)
theorem dX7_isSound_17 : decode cX7_isSound 17 = .ok (.if_icmp .ne 7, 3) := dw_160 (kcX7_isSound_0 17 160 rfl) (kcX7_isSound_0 18 0 rfl) (kcX7_isSound_0 19 7 rfl) rfl
theorem dX7_isSound_24 : decode cX7_isSound 24 = .ok (.iconst 0, 1) := dw_3 (kcX7_isSound_0 24 3 rfl)
theorem dX7_isSound_20 : decode cX7_isSound 20 = .ok (.iconst 1, 1) := dw_4 (kcX7_isSound_0 20 4 rfl)
theorem dX7_isSound_21 : decode cX7_isSound 21 = .ok (.goto 4, 3) := dw_167 (kcX7_isSound_0 21 167 rfl) (kcX7_isSound_0 22 0 rfl) (kcX7_isSound_0 23 4 rfl) rfl
theorem dX7_isSound_25 : decode cX7_isSound 25 = .ok (.istore_n 3, 1) := dw_62 (kcX7_isSound_0 25 62 rfl)
theorem dX7_isSound_26 : decode cX7_isSound 26 = .ok (.iconst 0, 1) := dw_3 (kcX7_isSound_0 26 3 rfl)
theorem dX7_isSound_27 : decode cX7_isSound 27 = .ok (.istore 4, 2) := dw_54 (kcX7_isSound_0 27 54 rfl) (kcX7_isSound_0 28 4 rfl)
theorem dX7_isSound_29 : decode cX7_isSound 29 = .ok (.iload 4, 2) := dw_21 (kcX7_isSound_0 29 21 rfl) (kcX7_isSound_0 30 4 rfl)
theorem dX7_isSound_31 : decode cX7_isSound 31 = .ok (.aload_n 0, 1) := dw_42 (kcX7_isSound_0 31 42 rfl)
theorem dX7_isSound_32 : decode cX7_isSound 32 = .ok (.getfield 17, 3) := dw_180 (kcX7_isSound_0 32 180 rfl) (kcX7_isSound_0 33 0 rfl) (kcX7_isSound_0 34 17 rfl) rfl
theorem dX7_isSound_35 : decode cX7_isSound 35 = .ok (.iload_n 1, 1) := dw_27 (kcX7_isSound_0 35 27 rfl)
theorem dX7_isSound_36 : decode cX7_isSound 36 = .ok (.iaload, 1) := dw_46 (kcX7_isSound_0 36 46 rfl)
theorem dX7_isSound_37 : decode cX7_isSound 37 = .ok (.if_icmp .ge 51, 3) := dw_162 (kcX7_isSound_0 37 162 rfl) (kcX7_isSound_0 38 0 rfl) (kcX7_isSound_0 39 51 rfl) rfl
theorem kcX7_isSound_1 : CHb cX7_isSound 64 [27, 28, 21, 4, 184, 0, 147, 46, 7, 163, 0, 7, 4, 167, 0, 4, 3, 62, 132, 4, 1, 167, 255, 200, 29, 172] := CHb_of (by decide +kernel)
theorem dX7_isSound_88 : decode cX7_isSound 88 = .ok (.iload_n 3, 1) := dw_29 (kcX7_isSound_1 24 29 rfl)
theorem dX7_isSound_89 : decode cX7_isSound 89 = .ok (.ireturn, 1) := dw_172 (kcX7_isSound_1 25 172 rfl)
theorem dX7_isSound_40 : decode cX7_isSound 40 = .ok (.iload_n 3, 1) := dw_29 (kcX7_isSound_0 40 29 rfl)
theorem dX7_isSound_41 : decode cX7_isSound 41 = .ok (.ifCond .eq 47, 3) := dw_153 (kcX7_isSound_0 41 153 rfl) (kcX7_isSound_0 42 0 rfl) (kcX7_isSound_0 43 47 rfl) rfl
theorem dX7_isSound_44 : decode cX7_isSound 44 = .ok (.aload_n 0, 1) := dw_42 (kcX7_isSound_0 44 42 rfl)
theorem dX7_isSound_45 : decode cX7_isSound 45 = .ok (.getfield 23, 3) := dw_180 (kcX7_isSound_0 45 180 rfl) (kcX7_isSound_0 46 0 rfl) (kcX7_isSound_0 47 23 rfl) rfl
theorem dX7_isSound_48 : decode cX7_isSound 48 = .ok (.iload_n 1, 1) := dw_27 (kcX7_isSound_0 48 27 rfl)
theorem dX7_isSound_49 : decode cX7_isSound 49 = .ok (.iload_n 2, 1) := dw_28 (kcX7_isSound_0 49 28 rfl)
theorem dX7_isSound_50 : decode cX7_isSound 50 = .ok (.iload 4, 2) := dw_21 (kcX7_isSound_0 50 21 rfl) (kcX7_isSound_0 51 4 rfl)
theorem dX7_isSound_52 : decode cX7_isSound 52 = .ok (.invokestatic 147, 3) := dw_184 (kcX7_isSound_0 52 184 rfl) (kcX7_isSound_0 53 0 rfl) (kcX7_isSound_0 54 147 rfl) rfl
theorem dX7_isSound_55 : decode cX7_isSound 55 = .ok (.iaload, 1) := dw_46 (kcX7_isSound_0 55 46 rfl)
theorem dX7_isSound_56 : decode cX7_isSound 56 = .ok (.iconst 1, 1) := dw_4 (kcX7_isSound_0 56 4 rfl)
theorem dX7_isSound_57 : decode cX7_isSound 57 = .ok (.if_icmp .lt 23, 3) := dw_161 (kcX7_isSound_0 57 161 rfl) (kcX7_isSound_0 58 0 rfl) (kcX7_isSound_0 59 23 rfl) rfl
theorem dX7_isSound_80 : decode cX7_isSound 80 = .ok (.iconst 0, 1) := dw_3 (kcX7_isSound_1 16 3 rfl)
theorem dX7_isSound_60 : decode cX7_isSound 60 = .ok (.aload_n 0, 1) := dw_42 (kcX7_isSound_0 60 42 rfl)
theorem dX7_isSound_61 : decode cX7_isSound 61 = .ok (.getfield 23, 3) := dw_180 (kcX7_isSound_0 61 180 rfl) (kcX7_isSound_0 62 0 rfl) (kcX7_isSound_0 63 23 rfl) rfl
theorem dX7_isSound_64 : decode cX7_isSound 64 = .ok (.iload_n 1, 1) := dw_27 (kcX7_isSound_1 0 27 rfl)
theorem dX7_isSound_65 : decode cX7_isSound 65 = .ok (.iload_n 2, 1) := dw_28 (kcX7_isSound_1 1 28 rfl)
theorem dX7_isSound_66 : decode cX7_isSound 66 = .ok (.iload 4, 2) := dw_21 (kcX7_isSound_1 2 21 rfl) (kcX7_isSound_1 3 4 rfl)
theorem dX7_isSound_68 : decode cX7_isSound 68 = .ok (.invokestatic 147, 3) := dw_184 (kcX7_isSound_1 4 184 rfl) (kcX7_isSound_1 5 0 rfl) (kcX7_isSound_1 6 147 rfl) rfl
theorem dX7_isSound_71 : decode cX7_isSound 71 = .ok (.iaload, 1) := dw_46 (kcX7_isSound_1 7 46 rfl)
theorem dX7_isSound_72 : decode cX7_isSound 72 = .ok (.iconst 4, 1) := dw_7 (kcX7_isSound_1 8 7 rfl)
theorem dX7_isSound_73 : decode cX7_isSound 73 = .ok (.if_icmp .gt 7, 3) := dw_163 (kcX7_isSound_1 9 163 rfl) (kcX7_isSound_1 10 0 rfl) (kcX7_isSound_1 11 7 rfl) rfl
theorem dX7_isSound_76 : decode cX7_isSound 76 = .ok (.iconst 1, 1) := dw_4 (kcX7_isSound_1 12 4 rfl)
theorem dX7_isSound_77 : decode cX7_isSound 77 = .ok (.goto 4, 3) := dw_167 (kcX7_isSound_1 13 167 rfl) (kcX7_isSound_1 14 0 rfl) (kcX7_isSound_1 15 4 rfl) rfl
theorem dX7_isSound_81 : decode cX7_isSound 81 = .ok (.istore_n 3, 1) := dw_62 (kcX7_isSound_1 17 62 rfl)
theorem dX7_isSound_82 : decode cX7_isSound 82 = .ok (.iinc 4 1, 3) := dw_132 (kcX7_isSound_1 18 132 rfl) (kcX7_isSound_1 19 4 rfl) (kcX7_isSound_1 20 1 rfl) rfl
theorem dX7_isSound_85 : decode cX7_isSound 85 = .ok (.goto (-56), 3) := dw_167 (kcX7_isSound_1 21 167 rfl) (kcX7_isSound_1 22 255 rfl) (kcX7_isSound_1 23 200 rfl) rfl
theorem kcX7_sumOf_0 : CHb cX7_sumOf 0 [3, 62, 3, 54, 4, 21, 4, 42, 180, 0, 17, 27, 46, 162, 0, 24, 29, 42, 180, 0, 26, 27, 28, 21, 4, 184, 0, 147, 46, 96, 62, 132, 4, 1, 167, 255, 227, 29, 172] := CHb_of (by decide +kernel)
theorem dX7_sumOf_0 : decode cX7_sumOf 0 = .ok (.iconst 0, 1) := dw_3 (kcX7_sumOf_0 0 3 rfl)
theorem dX7_sumOf_1 : decode cX7_sumOf 1 = .ok (.istore_n 3, 1) := dw_62 (kcX7_sumOf_0 1 62 rfl)
theorem dX7_sumOf_2 : decode cX7_sumOf 2 = .ok (.iconst 0, 1) := dw_3 (kcX7_sumOf_0 2 3 rfl)
theorem dX7_sumOf_3 : decode cX7_sumOf 3 = .ok (.istore 4, 2) := dw_54 (kcX7_sumOf_0 3 54 rfl) (kcX7_sumOf_0 4 4 rfl)
theorem dX7_sumOf_5 : decode cX7_sumOf 5 = .ok (.iload 4, 2) := dw_21 (kcX7_sumOf_0 5 21 rfl) (kcX7_sumOf_0 6 4 rfl)
theorem dX7_sumOf_7 : decode cX7_sumOf 7 = .ok (.aload_n 0, 1) := dw_42 (kcX7_sumOf_0 7 42 rfl)
theorem dX7_sumOf_8 : decode cX7_sumOf 8 = .ok (.getfield 17, 3) := dw_180 (kcX7_sumOf_0 8 180 rfl) (kcX7_sumOf_0 9 0 rfl) (kcX7_sumOf_0 10 17 rfl) rfl
theorem dX7_sumOf_11 : decode cX7_sumOf 11 = .ok (.iload_n 1, 1) := dw_27 (kcX7_sumOf_0 11 27 rfl)
theorem dX7_sumOf_12 : decode cX7_sumOf 12 = .ok (.iaload, 1) := dw_46 (kcX7_sumOf_0 12 46 rfl)
theorem dX7_sumOf_13 : decode cX7_sumOf 13 = .ok (.if_icmp .ge 24, 3) := dw_162 (kcX7_sumOf_0 13 162 rfl) (kcX7_sumOf_0 14 0 rfl) (kcX7_sumOf_0 15 24 rfl) rfl
theorem dX7_sumOf_16 : decode cX7_sumOf 16 = .ok (.iload_n 3, 1) := dw_29 (kcX7_sumOf_0 16 29 rfl)
theorem dX7_sumOf_17 : decode cX7_sumOf 17 = .ok (.aload_n 0, 1) := dw_42 (kcX7_sumOf_0 17 42 rfl)
theorem dX7_sumOf_18 : decode cX7_sumOf 18 = .ok (.getfield 26, 3) := dw_180 (kcX7_sumOf_0 18 180 rfl) (kcX7_sumOf_0 19 0 rfl) (kcX7_sumOf_0 20 26 rfl) rfl
theorem dX7_sumOf_21 : decode cX7_sumOf 21 = .ok (.iload_n 1, 1) := dw_27 (kcX7_sumOf_0 21 27 rfl)
theorem dX7_sumOf_22 : decode cX7_sumOf 22 = .ok (.iload_n 2, 1) := dw_28 (kcX7_sumOf_0 22 28 rfl)
theorem dX7_sumOf_23 : decode cX7_sumOf 23 = .ok (.iload 4, 2) := dw_21 (kcX7_sumOf_0 23 21 rfl) (kcX7_sumOf_0 24 4 rfl)
theorem dX7_sumOf_25 : decode cX7_sumOf 25 = .ok (.invokestatic 147, 3) := dw_184 (kcX7_sumOf_0 25 184 rfl) (kcX7_sumOf_0 26 0 rfl) (kcX7_sumOf_0 27 147 rfl) rfl
theorem dX7_sumOf_28 : decode cX7_sumOf 28 = .ok (.iaload, 1) := dw_46 (kcX7_sumOf_0 28 46 rfl)
theorem dX7_sumOf_29 : decode cX7_sumOf 29 = .ok (.iadd, 1) := dw_96 (kcX7_sumOf_0 29 96 rfl)
theorem dX7_sumOf_30 : decode cX7_sumOf 30 = .ok (.istore_n 3, 1) := dw_62 (kcX7_sumOf_0 30 62 rfl)
theorem dX7_sumOf_31 : decode cX7_sumOf 31 = .ok (.iinc 4 1, 3) := dw_132 (kcX7_sumOf_0 31 132 rfl) (kcX7_sumOf_0 32 4 rfl) (kcX7_sumOf_0 33 1 rfl) rfl
theorem dX7_sumOf_34 : decode cX7_sumOf 34 = .ok (.goto (-29), 3) := dw_167 (kcX7_sumOf_0 34 167 rfl) (kcX7_sumOf_0 35 255 rfl) (kcX7_sumOf_0 36 227 rfl) rfl
theorem dX7_sumOf_37 : decode cX7_sumOf 37 = .ok (.iload_n 3, 1) := dw_29 (kcX7_sumOf_0 37 29 rfl)
theorem dX7_sumOf_38 : decode cX7_sumOf 38 = .ok (.ireturn, 1) := dw_172 (kcX7_sumOf_0 38 172 rfl)
theorem kcX7_twoGreatest_0 : CHb cX7_twoGreatest 0 [3, 61, 3, 62, 3, 54, 4, 21, 4, 42, 180, 0, 29, 27, 46, 162, 0, 46, 42, 180, 0, 32, 16, 6, 27, 104, 21, 4, 96, 46, 54, 5, 21, 5, 28, 164, 0, 11, 28, 62, 21, 5, 61, 167, 0, 12, 21, 5, 29, 164, 0, 6, 21, 5, 62, 132, 4, 1, 167, 255, 205, 28, 29, 96] := CHb_of (by decide +kernel)
theorem dX7_twoGreatest_0 : decode cX7_twoGreatest 0 = .ok (.iconst 0, 1) := dw_3 (kcX7_twoGreatest_0 0 3 rfl)
theorem dX7_twoGreatest_1 : decode cX7_twoGreatest 1 = .ok (.istore_n 2, 1) := dw_61 (kcX7_twoGreatest_0 1 61 rfl)
theorem dX7_twoGreatest_2 : decode cX7_twoGreatest 2 = .ok (.iconst 0, 1) := dw_3 (kcX7_twoGreatest_0 2 3 rfl)
theorem dX7_twoGreatest_3 : decode cX7_twoGreatest 3 = .ok (.istore_n 3, 1) := dw_62 (kcX7_twoGreatest_0 3 62 rfl)
theorem dX7_twoGreatest_4 : decode cX7_twoGreatest 4 = .ok (.iconst 0, 1) := dw_3 (kcX7_twoGreatest_0 4 3 rfl)
theorem dX7_twoGreatest_5 : decode cX7_twoGreatest 5 = .ok (.istore 4, 2) := dw_54 (kcX7_twoGreatest_0 5 54 rfl) (kcX7_twoGreatest_0 6 4 rfl)
theorem dX7_twoGreatest_7 : decode cX7_twoGreatest 7 = .ok (.iload 4, 2) := dw_21 (kcX7_twoGreatest_0 7 21 rfl) (kcX7_twoGreatest_0 8 4 rfl)
theorem dX7_twoGreatest_9 : decode cX7_twoGreatest 9 = .ok (.aload_n 0, 1) := dw_42 (kcX7_twoGreatest_0 9 42 rfl)
theorem dX7_twoGreatest_10 : decode cX7_twoGreatest 10 = .ok (.getfield 29, 3) := dw_180 (kcX7_twoGreatest_0 10 180 rfl) (kcX7_twoGreatest_0 11 0 rfl) (kcX7_twoGreatest_0 12 29 rfl) rfl
theorem dX7_twoGreatest_13 : decode cX7_twoGreatest 13 = .ok (.iload_n 1, 1) := dw_27 (kcX7_twoGreatest_0 13 27 rfl)
theorem dX7_twoGreatest_14 : decode cX7_twoGreatest 14 = .ok (.iaload, 1) := dw_46 (kcX7_twoGreatest_0 14 46 rfl)
theorem dX7_twoGreatest_15 : decode cX7_twoGreatest 15 = .ok (.if_icmp .ge 46, 3) := dw_162 (kcX7_twoGreatest_0 15 162 rfl) (kcX7_twoGreatest_0 16 0 rfl) (kcX7_twoGreatest_0 17 46 rfl) rfl
theorem dX7_twoGreatest_18 : decode cX7_twoGreatest 18 = .ok (.aload_n 0, 1) := dw_42 (kcX7_twoGreatest_0 18 42 rfl)
theorem dX7_twoGreatest_19 : decode cX7_twoGreatest 19 = .ok (.getfield 32, 3) := dw_180 (kcX7_twoGreatest_0 19 180 rfl) (kcX7_twoGreatest_0 20 0 rfl) (kcX7_twoGreatest_0 21 32 rfl) rfl
theorem dX7_twoGreatest_22 : decode cX7_twoGreatest 22 = .ok (.bipush 6, 2) := dw_16 (kcX7_twoGreatest_0 22 16 rfl) (kcX7_twoGreatest_0 23 6 rfl) rfl
theorem dX7_twoGreatest_24 : decode cX7_twoGreatest 24 = .ok (.iload_n 1, 1) := dw_27 (kcX7_twoGreatest_0 24 27 rfl)
theorem dX7_twoGreatest_25 : decode cX7_twoGreatest 25 = .ok (.imul, 1) := dw_104 (kcX7_twoGreatest_0 25 104 rfl)
theorem dX7_twoGreatest_26 : decode cX7_twoGreatest 26 = .ok (.iload 4, 2) := dw_21 (kcX7_twoGreatest_0 26 21 rfl) (kcX7_twoGreatest_0 27 4 rfl)
theorem dX7_twoGreatest_28 : decode cX7_twoGreatest 28 = .ok (.iadd, 1) := dw_96 (kcX7_twoGreatest_0 28 96 rfl)
theorem dX7_twoGreatest_29 : decode cX7_twoGreatest 29 = .ok (.iaload, 1) := dw_46 (kcX7_twoGreatest_0 29 46 rfl)
theorem dX7_twoGreatest_30 : decode cX7_twoGreatest 30 = .ok (.istore 5, 2) := dw_54 (kcX7_twoGreatest_0 30 54 rfl) (kcX7_twoGreatest_0 31 5 rfl)
theorem dX7_twoGreatest_32 : decode cX7_twoGreatest 32 = .ok (.iload 5, 2) := dw_21 (kcX7_twoGreatest_0 32 21 rfl) (kcX7_twoGreatest_0 33 5 rfl)
theorem dX7_twoGreatest_34 : decode cX7_twoGreatest 34 = .ok (.iload_n 2, 1) := dw_28 (kcX7_twoGreatest_0 34 28 rfl)
theorem dX7_twoGreatest_35 : decode cX7_twoGreatest 35 = .ok (.if_icmp .le 11, 3) := dw_164 (kcX7_twoGreatest_0 35 164 rfl) (kcX7_twoGreatest_0 36 0 rfl) (kcX7_twoGreatest_0 37 11 rfl) rfl
theorem dX7_twoGreatest_46 : decode cX7_twoGreatest 46 = .ok (.iload 5, 2) := dw_21 (kcX7_twoGreatest_0 46 21 rfl) (kcX7_twoGreatest_0 47 5 rfl)
theorem dX7_twoGreatest_48 : decode cX7_twoGreatest 48 = .ok (.iload_n 3, 1) := dw_29 (kcX7_twoGreatest_0 48 29 rfl)
theorem dX7_twoGreatest_49 : decode cX7_twoGreatest 49 = .ok (.if_icmp .le 6, 3) := dw_164 (kcX7_twoGreatest_0 49 164 rfl) (kcX7_twoGreatest_0 50 0 rfl) (kcX7_twoGreatest_0 51 6 rfl) rfl
theorem dX7_twoGreatest_55 : decode cX7_twoGreatest 55 = .ok (.iinc 4 1, 3) := dw_132 (kcX7_twoGreatest_0 55 132 rfl) (kcX7_twoGreatest_0 56 4 rfl) (kcX7_twoGreatest_0 57 1 rfl) rfl
theorem dX7_twoGreatest_58 : decode cX7_twoGreatest 58 = .ok (.goto (-51), 3) := dw_167 (kcX7_twoGreatest_0 58 167 rfl) (kcX7_twoGreatest_0 59 255 rfl) (kcX7_twoGreatest_0 60 205 rfl) rfl
theorem dX7_twoGreatest_52 : decode cX7_twoGreatest 52 = .ok (.iload 5, 2) := dw_21 (kcX7_twoGreatest_0 52 21 rfl) (kcX7_twoGreatest_0 53 5 rfl)
theorem dX7_twoGreatest_54 : decode cX7_twoGreatest 54 = .ok (.istore_n 3, 1) := dw_62 (kcX7_twoGreatest_0 54 62 rfl)
theorem dX7_twoGreatest_38 : decode cX7_twoGreatest 38 = .ok (.iload_n 2, 1) := dw_28 (kcX7_twoGreatest_0 38 28 rfl)
theorem dX7_twoGreatest_39 : decode cX7_twoGreatest 39 = .ok (.istore_n 3, 1) := dw_62 (kcX7_twoGreatest_0 39 62 rfl)
theorem dX7_twoGreatest_40 : decode cX7_twoGreatest 40 = .ok (.iload 5, 2) := dw_21 (kcX7_twoGreatest_0 40 21 rfl) (kcX7_twoGreatest_0 41 5 rfl)
theorem dX7_twoGreatest_42 : decode cX7_twoGreatest 42 = .ok (.istore_n 2, 1) := dw_61 (kcX7_twoGreatest_0 42 61 rfl)
theorem dX7_twoGreatest_43 : decode cX7_twoGreatest 43 = .ok (.goto 12, 3) := dw_167 (kcX7_twoGreatest_0 43 167 rfl) (kcX7_twoGreatest_0 44 0 rfl) (kcX7_twoGreatest_0 45 12 rfl) rfl
theorem dX7_twoGreatest_61 : decode cX7_twoGreatest 61 = .ok (.iload_n 2, 1) := dw_28 (kcX7_twoGreatest_0 61 28 rfl)
theorem dX7_twoGreatest_62 : decode cX7_twoGreatest 62 = .ok (.iload_n 3, 1) := dw_29 (kcX7_twoGreatest_0 62 29 rfl)
theorem dX7_twoGreatest_63 : decode cX7_twoGreatest 63 = .ok (.iadd, 1) := dw_96 (kcX7_twoGreatest_0 63 96 rfl)
theorem kcX7_twoGreatest_1 : CHb cX7_twoGreatest 64 [172] := CHb_of (by decide +kernel)
theorem dX7_twoGreatest_64 : decode cX7_twoGreatest 64 = .ok (.ireturn, 1) := dw_172 (kcX7_twoGreatest_1 0 172 rfl)
theorem kcX7_why_0 : CHb cX7_why 0 [42, 180, 0, 23, 28, 46, 62, 29, 7, 159, 0, 12, 29, 8, 159, 0, 7, 29, 154, 0, 5, 3, 172, 42, 180, 0, 26, 28, 46, 54, 4, 42, 180, 0, 35, 28, 51, 153, 0, 8, 16, 8, 167, 0, 4, 3, 54, 5, 29, 4, 160, 0, 26, 21, 4, 4, 161, 0, 20, 21, 4, 42, 180, 0] := CHb_of (by decide +kernel)
theorem dX7_why_0 : decode cX7_why 0 = .ok (.aload_n 0, 1) := dw_42 (kcX7_why_0 0 42 rfl)
theorem dX7_why_1 : decode cX7_why 1 = .ok (.getfield 23, 3) := dw_180 (kcX7_why_0 1 180 rfl) (kcX7_why_0 2 0 rfl) (kcX7_why_0 3 23 rfl) rfl
theorem dX7_why_4 : decode cX7_why 4 = .ok (.iload_n 2, 1) := dw_28 (kcX7_why_0 4 28 rfl)
theorem dX7_why_5 : decode cX7_why 5 = .ok (.iaload, 1) := dw_46 (kcX7_why_0 5 46 rfl)
theorem dX7_why_6 : decode cX7_why 6 = .ok (.istore_n 3, 1) := dw_62 (kcX7_why_0 6 62 rfl)
theorem dX7_why_7 : decode cX7_why 7 = .ok (.iload_n 3, 1) := dw_29 (kcX7_why_0 7 29 rfl)
theorem dX7_why_8 : decode cX7_why 8 = .ok (.iconst 4, 1) := dw_7 (kcX7_why_0 8 7 rfl)
theorem dX7_why_9 : decode cX7_why 9 = .ok (.if_icmp .eq 12, 3) := dw_159 (kcX7_why_0 9 159 rfl) (kcX7_why_0 10 0 rfl) (kcX7_why_0 11 12 rfl) rfl
theorem dX7_why_21 : decode cX7_why 21 = .ok (.iconst 0, 1) := dw_3 (kcX7_why_0 21 3 rfl)
theorem dX7_why_22 : decode cX7_why 22 = .ok (.ireturn, 1) := dw_172 (kcX7_why_0 22 172 rfl)
theorem dX7_why_12 : decode cX7_why 12 = .ok (.iload_n 3, 1) := dw_29 (kcX7_why_0 12 29 rfl)
theorem dX7_why_13 : decode cX7_why 13 = .ok (.iconst 5, 1) := dw_8 (kcX7_why_0 13 8 rfl)
theorem dX7_why_14 : decode cX7_why 14 = .ok (.if_icmp .eq 7, 3) := dw_159 (kcX7_why_0 14 159 rfl) (kcX7_why_0 15 0 rfl) (kcX7_why_0 16 7 rfl) rfl
theorem dX7_why_17 : decode cX7_why 17 = .ok (.iload_n 3, 1) := dw_29 (kcX7_why_0 17 29 rfl)
theorem dX7_why_18 : decode cX7_why 18 = .ok (.ifCond .ne 5, 3) := dw_154 (kcX7_why_0 18 154 rfl) (kcX7_why_0 19 0 rfl) (kcX7_why_0 20 5 rfl) rfl
theorem dX7_why_23 : decode cX7_why 23 = .ok (.aload_n 0, 1) := dw_42 (kcX7_why_0 23 42 rfl)
theorem dX7_why_24 : decode cX7_why 24 = .ok (.getfield 26, 3) := dw_180 (kcX7_why_0 24 180 rfl) (kcX7_why_0 25 0 rfl) (kcX7_why_0 26 26 rfl) rfl
theorem dX7_why_27 : decode cX7_why 27 = .ok (.iload_n 2, 1) := dw_28 (kcX7_why_0 27 28 rfl)
theorem dX7_why_28 : decode cX7_why 28 = .ok (.iaload, 1) := dw_46 (kcX7_why_0 28 46 rfl)
theorem dX7_why_29 : decode cX7_why 29 = .ok (.istore 4, 2) := dw_54 (kcX7_why_0 29 54 rfl) (kcX7_why_0 30 4 rfl)
theorem dX7_why_31 : decode cX7_why 31 = .ok (.aload_n 0, 1) := dw_42 (kcX7_why_0 31 42 rfl)
theorem dX7_why_32 : decode cX7_why 32 = .ok (.getfield 35, 3) := dw_180 (kcX7_why_0 32 180 rfl) (kcX7_why_0 33 0 rfl) (kcX7_why_0 34 35 rfl) rfl
theorem dX7_why_35 : decode cX7_why 35 = .ok (.iload_n 2, 1) := dw_28 (kcX7_why_0 35 28 rfl)
theorem dX7_why_36 : decode cX7_why 36 = .ok (.baload, 1) := dw_51 (kcX7_why_0 36 51 rfl)
theorem dX7_why_37 : decode cX7_why 37 = .ok (.ifCond .eq 8, 3) := dw_153 (kcX7_why_0 37 153 rfl) (kcX7_why_0 38 0 rfl) (kcX7_why_0 39 8 rfl) rfl
theorem dX7_why_45 : decode cX7_why 45 = .ok (.iconst 0, 1) := dw_3 (kcX7_why_0 45 3 rfl)
theorem dX7_why_40 : decode cX7_why 40 = .ok (.bipush 8, 2) := dw_16 (kcX7_why_0 40 16 rfl) (kcX7_why_0 41 8 rfl) rfl
theorem dX7_why_42 : decode cX7_why 42 = .ok (.goto 4, 3) := dw_167 (kcX7_why_0 42 167 rfl) (kcX7_why_0 43 0 rfl) (kcX7_why_0 44 4 rfl) rfl
theorem dX7_why_46 : decode cX7_why 46 = .ok (.istore 5, 2) := dw_54 (kcX7_why_0 46 54 rfl) (kcX7_why_0 47 5 rfl)
theorem dX7_why_48 : decode cX7_why 48 = .ok (.iload_n 3, 1) := dw_29 (kcX7_why_0 48 29 rfl)
theorem dX7_why_49 : decode cX7_why 49 = .ok (.iconst 1, 1) := dw_4 (kcX7_why_0 49 4 rfl)
theorem dX7_why_50 : decode cX7_why 50 = .ok (.if_icmp .ne 26, 3) := dw_160 (kcX7_why_0 50 160 rfl) (kcX7_why_0 51 0 rfl) (kcX7_why_0 52 26 rfl) rfl
theorem dX7_why_53 : decode cX7_why 53 = .ok (.iload 4, 2) := dw_21 (kcX7_why_0 53 21 rfl) (kcX7_why_0 54 4 rfl)
theorem dX7_why_55 : decode cX7_why 55 = .ok (.iconst 1, 1) := dw_4 (kcX7_why_0 55 4 rfl)
theorem dX7_why_56 : decode cX7_why 56 = .ok (.if_icmp .lt 20, 3) := dw_161 (kcX7_why_0 56 161 rfl) (kcX7_why_0 57 0 rfl) (kcX7_why_0 58 20 rfl) rfl
theorem dX7_why_59 : decode cX7_why 59 = .ok (.iload 4, 2) := dw_21 (kcX7_why_0 59 21 rfl) (kcX7_why_0 60 4 rfl)
theorem dX7_why_61 : decode cX7_why 61 = .ok (.aload_n 0, 1) := dw_42 (kcX7_why_0 61 42 rfl)
theorem kcX7_why_1 : CHb cX7_why 64 [20, 16, 6, 27, 104, 46, 163, 0, 6, 132, 5, 1, 29, 5, 160, 0, 31, 21, 4, 158, 0, 26, 42, 180, 0, 29, 28, 46, 42, 180, 0, 20, 16, 6, 27, 104, 4, 96, 46, 162, 0, 6, 132, 5, 2, 29, 5, 160, 0, 39, 21, 4, 158, 0, 34, 16, 100, 21, 4, 42, 28, 182, 0, 171] := CHb_of (by decide +kernel)
theorem dX7_why_62 : decode cX7_why 62 = .ok (.getfield 20, 3) := dw_180 (kcX7_why_0 62 180 rfl) (kcX7_why_0 63 0 rfl) (kcX7_why_1 0 20 rfl) rfl
theorem dX7_why_65 : decode cX7_why 65 = .ok (.bipush 6, 2) := dw_16 (kcX7_why_1 1 16 rfl) (kcX7_why_1 2 6 rfl) rfl
theorem dX7_why_67 : decode cX7_why 67 = .ok (.iload_n 1, 1) := dw_27 (kcX7_why_1 3 27 rfl)
theorem dX7_why_68 : decode cX7_why 68 = .ok (.imul, 1) := dw_104 (kcX7_why_1 4 104 rfl)
theorem dX7_why_69 : decode cX7_why 69 = .ok (.iaload, 1) := dw_46 (kcX7_why_1 5 46 rfl)
theorem dX7_why_70 : decode cX7_why 70 = .ok (.if_icmp .gt 6, 3) := dw_163 (kcX7_why_1 6 163 rfl) (kcX7_why_1 7 0 rfl) (kcX7_why_1 8 6 rfl) rfl
theorem dX7_why_73 : decode cX7_why 73 = .ok (.iinc 5 1, 3) := dw_132 (kcX7_why_1 9 132 rfl) (kcX7_why_1 10 5 rfl) (kcX7_why_1 11 1 rfl) rfl
theorem dX7_why_76 : decode cX7_why 76 = .ok (.iload_n 3, 1) := dw_29 (kcX7_why_1 12 29 rfl)
theorem dX7_why_77 : decode cX7_why 77 = .ok (.iconst 2, 1) := dw_5 (kcX7_why_1 13 5 rfl)
theorem dX7_why_78 : decode cX7_why 78 = .ok (.if_icmp .ne 31, 3) := dw_160 (kcX7_why_1 14 160 rfl) (kcX7_why_1 15 0 rfl) (kcX7_why_1 16 31 rfl) rfl
theorem dX7_why_81 : decode cX7_why 81 = .ok (.iload 4, 2) := dw_21 (kcX7_why_1 17 21 rfl) (kcX7_why_1 18 4 rfl)
theorem dX7_why_83 : decode cX7_why 83 = .ok (.ifCond .le 26, 3) := dw_158 (kcX7_why_1 19 158 rfl) (kcX7_why_1 20 0 rfl) (kcX7_why_1 21 26 rfl) rfl
theorem dX7_why_86 : decode cX7_why 86 = .ok (.aload_n 0, 1) := dw_42 (kcX7_why_1 22 42 rfl)
theorem dX7_why_87 : decode cX7_why 87 = .ok (.getfield 29, 3) := dw_180 (kcX7_why_1 23 180 rfl) (kcX7_why_1 24 0 rfl) (kcX7_why_1 25 29 rfl) rfl
theorem dX7_why_90 : decode cX7_why 90 = .ok (.iload_n 2, 1) := dw_28 (kcX7_why_1 26 28 rfl)
theorem dX7_why_91 : decode cX7_why 91 = .ok (.iaload, 1) := dw_46 (kcX7_why_1 27 46 rfl)
theorem dX7_why_92 : decode cX7_why 92 = .ok (.aload_n 0, 1) := dw_42 (kcX7_why_1 28 42 rfl)
theorem dX7_why_93 : decode cX7_why 93 = .ok (.getfield 20, 3) := dw_180 (kcX7_why_1 29 180 rfl) (kcX7_why_1 30 0 rfl) (kcX7_why_1 31 20 rfl) rfl
theorem dX7_why_96 : decode cX7_why 96 = .ok (.bipush 6, 2) := dw_16 (kcX7_why_1 32 16 rfl) (kcX7_why_1 33 6 rfl) rfl
theorem dX7_why_98 : decode cX7_why 98 = .ok (.iload_n 1, 1) := dw_27 (kcX7_why_1 34 27 rfl)
theorem dX7_why_99 : decode cX7_why 99 = .ok (.imul, 1) := dw_104 (kcX7_why_1 35 104 rfl)
theorem dX7_why_100 : decode cX7_why 100 = .ok (.iconst 1, 1) := dw_4 (kcX7_why_1 36 4 rfl)
theorem dX7_why_101 : decode cX7_why 101 = .ok (.iadd, 1) := dw_96 (kcX7_why_1 37 96 rfl)
theorem dX7_why_102 : decode cX7_why 102 = .ok (.iaload, 1) := dw_46 (kcX7_why_1 38 46 rfl)
theorem dX7_why_103 : decode cX7_why 103 = .ok (.if_icmp .ge 6, 3) := dw_162 (kcX7_why_1 39 162 rfl) (kcX7_why_1 40 0 rfl) (kcX7_why_1 41 6 rfl) rfl
theorem dX7_why_106 : decode cX7_why 106 = .ok (.iinc 5 2, 3) := dw_132 (kcX7_why_1 42 132 rfl) (kcX7_why_1 43 5 rfl) (kcX7_why_1 44 2 rfl) rfl
theorem dX7_why_109 : decode cX7_why 109 = .ok (.iload_n 3, 1) := dw_29 (kcX7_why_1 45 29 rfl)
theorem dX7_why_110 : decode cX7_why 110 = .ok (.iconst 2, 1) := dw_5 (kcX7_why_1 46 5 rfl)
theorem dX7_why_111 : decode cX7_why 111 = .ok (.if_icmp .ne 39, 3) := dw_160 (kcX7_why_1 47 160 rfl) (kcX7_why_1 48 0 rfl) (kcX7_why_1 49 39 rfl) rfl
theorem dX7_why_114 : decode cX7_why 114 = .ok (.iload 4, 2) := dw_21 (kcX7_why_1 50 21 rfl) (kcX7_why_1 51 4 rfl)
theorem dX7_why_116 : decode cX7_why 116 = .ok (.ifCond .le 34, 3) := dw_158 (kcX7_why_1 52 158 rfl) (kcX7_why_1 53 0 rfl) (kcX7_why_1 54 34 rfl) rfl
theorem dX7_why_119 : decode cX7_why 119 = .ok (.bipush 100, 2) := dw_16 (kcX7_why_1 55 16 rfl) (kcX7_why_1 56 100 rfl) rfl
theorem dX7_why_121 : decode cX7_why 121 = .ok (.iload 4, 2) := dw_21 (kcX7_why_1 57 21 rfl) (kcX7_why_1 58 4 rfl)
theorem dX7_why_123 : decode cX7_why 123 = .ok (.aload_n 0, 1) := dw_42 (kcX7_why_1 59 42 rfl)
theorem dX7_why_124 : decode cX7_why 124 = .ok (.iload_n 2, 1) := dw_28 (kcX7_why_1 60 28 rfl)
theorem dX7_why_125 : decode cX7_why 125 = .ok (.invokevirtual 171, 3) := dw_182 (kcX7_why_1 61 182 rfl) (kcX7_why_1 62 0 rfl) (kcX7_why_1 63 171 rfl) rfl
theorem kcX7_why_2 : CHb cX7_why 128 [100, 104, 42, 180, 0, 20, 16, 6, 27, 104, 5, 96, 46, 21, 4, 104, 162, 0, 6, 132, 5, 4, 21, 5, 172] := CHb_of (by decide +kernel)
theorem dX7_why_128 : decode cX7_why 128 = .ok (.isub, 1) := dw_100 (kcX7_why_2 0 100 rfl)
theorem dX7_why_129 : decode cX7_why 129 = .ok (.imul, 1) := dw_104 (kcX7_why_2 1 104 rfl)
theorem dX7_why_130 : decode cX7_why 130 = .ok (.aload_n 0, 1) := dw_42 (kcX7_why_2 2 42 rfl)
theorem dX7_why_131 : decode cX7_why 131 = .ok (.getfield 20, 3) := dw_180 (kcX7_why_2 3 180 rfl) (kcX7_why_2 4 0 rfl) (kcX7_why_2 5 20 rfl) rfl
theorem dX7_why_134 : decode cX7_why 134 = .ok (.bipush 6, 2) := dw_16 (kcX7_why_2 6 16 rfl) (kcX7_why_2 7 6 rfl) rfl
theorem dX7_why_136 : decode cX7_why 136 = .ok (.iload_n 1, 1) := dw_27 (kcX7_why_2 8 27 rfl)
theorem dX7_why_137 : decode cX7_why 137 = .ok (.imul, 1) := dw_104 (kcX7_why_2 9 104 rfl)
theorem dX7_why_138 : decode cX7_why 138 = .ok (.iconst 2, 1) := dw_5 (kcX7_why_2 10 5 rfl)
theorem dX7_why_139 : decode cX7_why 139 = .ok (.iadd, 1) := dw_96 (kcX7_why_2 11 96 rfl)
theorem dX7_why_140 : decode cX7_why 140 = .ok (.iaload, 1) := dw_46 (kcX7_why_2 12 46 rfl)
theorem dX7_why_141 : decode cX7_why 141 = .ok (.iload 4, 2) := dw_21 (kcX7_why_2 13 21 rfl) (kcX7_why_2 14 4 rfl)
theorem dX7_why_143 : decode cX7_why 143 = .ok (.imul, 1) := dw_104 (kcX7_why_2 15 104 rfl)
theorem dX7_why_144 : decode cX7_why 144 = .ok (.if_icmp .ge 6, 3) := dw_162 (kcX7_why_2 16 162 rfl) (kcX7_why_2 17 0 rfl) (kcX7_why_2 18 6 rfl) rfl
theorem dX7_why_147 : decode cX7_why 147 = .ok (.iinc 5 4, 3) := dw_132 (kcX7_why_2 19 132 rfl) (kcX7_why_2 20 5 rfl) (kcX7_why_2 21 4 rfl) rfl
theorem dX7_why_150 : decode cX7_why 150 = .ok (.iload 5, 2) := dw_21 (kcX7_why_2 22 21 rfl) (kcX7_why_2 23 5 rfl)
theorem dX7_why_152 : decode cX7_why 152 = .ok (.ireturn, 1) := dw_172 (kcX7_why_2 24 172 rfl)
theorem kcX7_isKept_0 : CHb cX7_isKept 0 [42, 180, 0, 23, 28, 46, 7, 159, 0, 25, 42, 180, 0, 38, 28, 51, 154, 0, 12, 42, 27, 28, 182, 0, 175, 158, 0, 7, 4, 167, 0, 4, 3, 172] := CHb_of (by decide +kernel)
theorem dX7_isKept_0 : decode cX7_isKept 0 = .ok (.aload_n 0, 1) := dw_42 (kcX7_isKept_0 0 42 rfl)
theorem dX7_isKept_1 : decode cX7_isKept 1 = .ok (.getfield 23, 3) := dw_180 (kcX7_isKept_0 1 180 rfl) (kcX7_isKept_0 2 0 rfl) (kcX7_isKept_0 3 23 rfl) rfl
theorem dX7_isKept_4 : decode cX7_isKept 4 = .ok (.iload_n 2, 1) := dw_28 (kcX7_isKept_0 4 28 rfl)
theorem dX7_isKept_5 : decode cX7_isKept 5 = .ok (.iaload, 1) := dw_46 (kcX7_isKept_0 5 46 rfl)
theorem dX7_isKept_6 : decode cX7_isKept 6 = .ok (.iconst 4, 1) := dw_7 (kcX7_isKept_0 6 7 rfl)
theorem dX7_isKept_7 : decode cX7_isKept 7 = .ok (.if_icmp .eq 25, 3) := dw_159 (kcX7_isKept_0 7 159 rfl) (kcX7_isKept_0 8 0 rfl) (kcX7_isKept_0 9 25 rfl) rfl
theorem dX7_isKept_32 : decode cX7_isKept 32 = .ok (.iconst 0, 1) := dw_3 (kcX7_isKept_0 32 3 rfl)
theorem dX7_isKept_33 : decode cX7_isKept 33 = .ok (.ireturn, 1) := dw_172 (kcX7_isKept_0 33 172 rfl)
theorem dX7_isKept_10 : decode cX7_isKept 10 = .ok (.aload_n 0, 1) := dw_42 (kcX7_isKept_0 10 42 rfl)
theorem dX7_isKept_11 : decode cX7_isKept 11 = .ok (.getfield 38, 3) := dw_180 (kcX7_isKept_0 11 180 rfl) (kcX7_isKept_0 12 0 rfl) (kcX7_isKept_0 13 38 rfl) rfl
theorem dX7_isKept_14 : decode cX7_isKept 14 = .ok (.iload_n 2, 1) := dw_28 (kcX7_isKept_0 14 28 rfl)
theorem dX7_isKept_15 : decode cX7_isKept 15 = .ok (.baload, 1) := dw_51 (kcX7_isKept_0 15 51 rfl)
theorem dX7_isKept_16 : decode cX7_isKept 16 = .ok (.ifCond .ne 12, 3) := dw_154 (kcX7_isKept_0 16 154 rfl) (kcX7_isKept_0 17 0 rfl) (kcX7_isKept_0 18 12 rfl) rfl
theorem dX7_isKept_28 : decode cX7_isKept 28 = .ok (.iconst 1, 1) := dw_4 (kcX7_isKept_0 28 4 rfl)
theorem dX7_isKept_29 : decode cX7_isKept 29 = .ok (.goto 4, 3) := dw_167 (kcX7_isKept_0 29 167 rfl) (kcX7_isKept_0 30 0 rfl) (kcX7_isKept_0 31 4 rfl) rfl
theorem dX7_isKept_19 : decode cX7_isKept 19 = .ok (.aload_n 0, 1) := dw_42 (kcX7_isKept_0 19 42 rfl)
theorem dX7_isKept_20 : decode cX7_isKept 20 = .ok (.iload_n 1, 1) := dw_27 (kcX7_isKept_0 20 27 rfl)
theorem dX7_isKept_21 : decode cX7_isKept 21 = .ok (.iload_n 2, 1) := dw_28 (kcX7_isKept_0 21 28 rfl)
theorem dX7_isKept_22 : decode cX7_isKept 22 = .ok (.invokevirtual 175, 3) := dw_182 (kcX7_isKept_0 22 182 rfl) (kcX7_isKept_0 23 0 rfl) (kcX7_isKept_0 24 175 rfl) rfl
theorem dX7_isKept_25 : decode cX7_isKept 25 = .ok (.ifCond .le 7, 3) := dw_158 (kcX7_isKept_0 25 158 rfl) (kcX7_isKept_0 26 0 rfl) (kcX7_isKept_0 27 7 rfl) rfl
theorem kcX7_wrongAmount_0 : CHb cX7_wrongAmount 0 [42, 27, 28, 29, 182, 0, 143, 54, 4, 21, 4, 158, 0, 6, 21, 4, 172, 42, 180, 0, 23, 27, 28, 29, 184, 0, 147, 46, 54, 5, 21, 5, 154, 0, 7, 8, 167, 0, 15, 21, 5, 5, 159, 0, 8, 16, 6, 167, 0, 4, 3, 172] := CHb_of (by decide +kernel)
theorem dX7_wrongAmount_0 : decode cX7_wrongAmount 0 = .ok (.aload_n 0, 1) := dw_42 (kcX7_wrongAmount_0 0 42 rfl)
theorem dX7_wrongAmount_1 : decode cX7_wrongAmount 1 = .ok (.iload_n 1, 1) := dw_27 (kcX7_wrongAmount_0 1 27 rfl)
theorem dX7_wrongAmount_2 : decode cX7_wrongAmount 2 = .ok (.iload_n 2, 1) := dw_28 (kcX7_wrongAmount_0 2 28 rfl)
theorem dX7_wrongAmount_3 : decode cX7_wrongAmount 3 = .ok (.iload_n 3, 1) := dw_29 (kcX7_wrongAmount_0 3 29 rfl)
theorem dX7_wrongAmount_4 : decode cX7_wrongAmount 4 = .ok (.invokevirtual 143, 3) := dw_182 (kcX7_wrongAmount_0 4 182 rfl) (kcX7_wrongAmount_0 5 0 rfl) (kcX7_wrongAmount_0 6 143 rfl) rfl
theorem dX7_wrongAmount_7 : decode cX7_wrongAmount 7 = .ok (.istore 4, 2) := dw_54 (kcX7_wrongAmount_0 7 54 rfl) (kcX7_wrongAmount_0 8 4 rfl)
theorem dX7_wrongAmount_9 : decode cX7_wrongAmount 9 = .ok (.iload 4, 2) := dw_21 (kcX7_wrongAmount_0 9 21 rfl) (kcX7_wrongAmount_0 10 4 rfl)
theorem dX7_wrongAmount_11 : decode cX7_wrongAmount 11 = .ok (.ifCond .le 6, 3) := dw_158 (kcX7_wrongAmount_0 11 158 rfl) (kcX7_wrongAmount_0 12 0 rfl) (kcX7_wrongAmount_0 13 6 rfl) rfl
theorem dX7_wrongAmount_17 : decode cX7_wrongAmount 17 = .ok (.aload_n 0, 1) := dw_42 (kcX7_wrongAmount_0 17 42 rfl)
theorem dX7_wrongAmount_18 : decode cX7_wrongAmount 18 = .ok (.getfield 23, 3) := dw_180 (kcX7_wrongAmount_0 18 180 rfl) (kcX7_wrongAmount_0 19 0 rfl) (kcX7_wrongAmount_0 20 23 rfl) rfl
theorem dX7_wrongAmount_21 : decode cX7_wrongAmount 21 = .ok (.iload_n 1, 1) := dw_27 (kcX7_wrongAmount_0 21 27 rfl)
theorem dX7_wrongAmount_22 : decode cX7_wrongAmount 22 = .ok (.iload_n 2, 1) := dw_28 (kcX7_wrongAmount_0 22 28 rfl)
theorem dX7_wrongAmount_23 : decode cX7_wrongAmount 23 = .ok (.iload_n 3, 1) := dw_29 (kcX7_wrongAmount_0 23 29 rfl)
theorem dX7_wrongAmount_24 : decode cX7_wrongAmount 24 = .ok (.invokestatic 147, 3) := dw_184 (kcX7_wrongAmount_0 24 184 rfl) (kcX7_wrongAmount_0 25 0 rfl) (kcX7_wrongAmount_0 26 147 rfl) rfl
theorem dX7_wrongAmount_27 : decode cX7_wrongAmount 27 = .ok (.iaload, 1) := dw_46 (kcX7_wrongAmount_0 27 46 rfl)
theorem dX7_wrongAmount_28 : decode cX7_wrongAmount 28 = .ok (.istore 5, 2) := dw_54 (kcX7_wrongAmount_0 28 54 rfl) (kcX7_wrongAmount_0 29 5 rfl)
theorem dX7_wrongAmount_30 : decode cX7_wrongAmount 30 = .ok (.iload 5, 2) := dw_21 (kcX7_wrongAmount_0 30 21 rfl) (kcX7_wrongAmount_0 31 5 rfl)
theorem dX7_wrongAmount_32 : decode cX7_wrongAmount 32 = .ok (.ifCond .ne 7, 3) := dw_154 (kcX7_wrongAmount_0 32 154 rfl) (kcX7_wrongAmount_0 33 0 rfl) (kcX7_wrongAmount_0 34 7 rfl) rfl
theorem dX7_wrongAmount_39 : decode cX7_wrongAmount 39 = .ok (.iload 5, 2) := dw_21 (kcX7_wrongAmount_0 39 21 rfl) (kcX7_wrongAmount_0 40 5 rfl)
theorem dX7_wrongAmount_41 : decode cX7_wrongAmount 41 = .ok (.iconst 2, 1) := dw_5 (kcX7_wrongAmount_0 41 5 rfl)
theorem dX7_wrongAmount_42 : decode cX7_wrongAmount 42 = .ok (.if_icmp .eq 8, 3) := dw_159 (kcX7_wrongAmount_0 42 159 rfl) (kcX7_wrongAmount_0 43 0 rfl) (kcX7_wrongAmount_0 44 8 rfl) rfl
theorem dX7_wrongAmount_50 : decode cX7_wrongAmount 50 = .ok (.iconst 0, 1) := dw_3 (kcX7_wrongAmount_0 50 3 rfl)
theorem dX7_wrongAmount_51 : decode cX7_wrongAmount 51 = .ok (.ireturn, 1) := dw_172 (kcX7_wrongAmount_0 51 172 rfl)
theorem dX7_wrongAmount_45 : decode cX7_wrongAmount 45 = .ok (.bipush 6, 2) := dw_16 (kcX7_wrongAmount_0 45 16 rfl) (kcX7_wrongAmount_0 46 6 rfl) rfl
theorem dX7_wrongAmount_47 : decode cX7_wrongAmount 47 = .ok (.goto 4, 3) := dw_167 (kcX7_wrongAmount_0 47 167 rfl) (kcX7_wrongAmount_0 48 0 rfl) (kcX7_wrongAmount_0 49 4 rfl) rfl
theorem dX7_wrongAmount_35 : decode cX7_wrongAmount 35 = .ok (.iconst 5, 1) := dw_8 (kcX7_wrongAmount_0 35 8 rfl)
theorem dX7_wrongAmount_36 : decode cX7_wrongAmount 36 = .ok (.goto 15, 3) := dw_167 (kcX7_wrongAmount_0 36 167 rfl) (kcX7_wrongAmount_0 37 0 rfl) (kcX7_wrongAmount_0 38 15 rfl) rfl
theorem dX7_wrongAmount_14 : decode cX7_wrongAmount 14 = .ok (.iload 4, 2) := dw_21 (kcX7_wrongAmount_0 14 21 rfl) (kcX7_wrongAmount_0 15 4 rfl)
theorem dX7_wrongAmount_16 : decode cX7_wrongAmount 16 = .ok (.ireturn, 1) := dw_172 (kcX7_wrongAmount_0 16 172 rfl)
theorem kcX7_wrongToTell_0 : CHb cX7_wrongToTell 0 [42, 27, 28, 29, 182, 0, 143, 54, 4, 21, 4, 158, 0, 6, 21, 4, 172, 42, 180, 0, 23, 27, 28, 29, 184, 0, 147, 46, 54, 5, 21, 5, 154, 0, 7, 8, 167, 0, 21, 21, 5, 8, 159, 0, 9, 21, 5, 7, 160, 0, 8, 16, 6, 167, 0, 4, 3, 172] := CHb_of (by decide +kernel)
theorem dX7_wrongToTell_0 : decode cX7_wrongToTell 0 = .ok (.aload_n 0, 1) := dw_42 (kcX7_wrongToTell_0 0 42 rfl)
theorem dX7_wrongToTell_1 : decode cX7_wrongToTell 1 = .ok (.iload_n 1, 1) := dw_27 (kcX7_wrongToTell_0 1 27 rfl)
theorem dX7_wrongToTell_2 : decode cX7_wrongToTell 2 = .ok (.iload_n 2, 1) := dw_28 (kcX7_wrongToTell_0 2 28 rfl)
theorem dX7_wrongToTell_3 : decode cX7_wrongToTell 3 = .ok (.iload_n 3, 1) := dw_29 (kcX7_wrongToTell_0 3 29 rfl)
theorem dX7_wrongToTell_4 : decode cX7_wrongToTell 4 = .ok (.invokevirtual 143, 3) := dw_182 (kcX7_wrongToTell_0 4 182 rfl) (kcX7_wrongToTell_0 5 0 rfl) (kcX7_wrongToTell_0 6 143 rfl) rfl
theorem dX7_wrongToTell_7 : decode cX7_wrongToTell 7 = .ok (.istore 4, 2) := dw_54 (kcX7_wrongToTell_0 7 54 rfl) (kcX7_wrongToTell_0 8 4 rfl)
theorem dX7_wrongToTell_9 : decode cX7_wrongToTell 9 = .ok (.iload 4, 2) := dw_21 (kcX7_wrongToTell_0 9 21 rfl) (kcX7_wrongToTell_0 10 4 rfl)
theorem dX7_wrongToTell_11 : decode cX7_wrongToTell 11 = .ok (.ifCond .le 6, 3) := dw_158 (kcX7_wrongToTell_0 11 158 rfl) (kcX7_wrongToTell_0 12 0 rfl) (kcX7_wrongToTell_0 13 6 rfl) rfl
theorem dX7_wrongToTell_17 : decode cX7_wrongToTell 17 = .ok (.aload_n 0, 1) := dw_42 (kcX7_wrongToTell_0 17 42 rfl)
theorem dX7_wrongToTell_18 : decode cX7_wrongToTell 18 = .ok (.getfield 23, 3) := dw_180 (kcX7_wrongToTell_0 18 180 rfl) (kcX7_wrongToTell_0 19 0 rfl) (kcX7_wrongToTell_0 20 23 rfl) rfl
theorem dX7_wrongToTell_21 : decode cX7_wrongToTell 21 = .ok (.iload_n 1, 1) := dw_27 (kcX7_wrongToTell_0 21 27 rfl)
theorem dX7_wrongToTell_22 : decode cX7_wrongToTell 22 = .ok (.iload_n 2, 1) := dw_28 (kcX7_wrongToTell_0 22 28 rfl)
theorem dX7_wrongToTell_23 : decode cX7_wrongToTell 23 = .ok (.iload_n 3, 1) := dw_29 (kcX7_wrongToTell_0 23 29 rfl)
theorem dX7_wrongToTell_24 : decode cX7_wrongToTell 24 = .ok (.invokestatic 147, 3) := dw_184 (kcX7_wrongToTell_0 24 184 rfl) (kcX7_wrongToTell_0 25 0 rfl) (kcX7_wrongToTell_0 26 147 rfl) rfl
theorem dX7_wrongToTell_27 : decode cX7_wrongToTell 27 = .ok (.iaload, 1) := dw_46 (kcX7_wrongToTell_0 27 46 rfl)
theorem dX7_wrongToTell_28 : decode cX7_wrongToTell 28 = .ok (.istore 5, 2) := dw_54 (kcX7_wrongToTell_0 28 54 rfl) (kcX7_wrongToTell_0 29 5 rfl)
theorem dX7_wrongToTell_30 : decode cX7_wrongToTell 30 = .ok (.iload 5, 2) := dw_21 (kcX7_wrongToTell_0 30 21 rfl) (kcX7_wrongToTell_0 31 5 rfl)
theorem dX7_wrongToTell_32 : decode cX7_wrongToTell 32 = .ok (.ifCond .ne 7, 3) := dw_154 (kcX7_wrongToTell_0 32 154 rfl) (kcX7_wrongToTell_0 33 0 rfl) (kcX7_wrongToTell_0 34 7 rfl) rfl
theorem dX7_wrongToTell_39 : decode cX7_wrongToTell 39 = .ok (.iload 5, 2) := dw_21 (kcX7_wrongToTell_0 39 21 rfl) (kcX7_wrongToTell_0 40 5 rfl)
theorem dX7_wrongToTell_41 : decode cX7_wrongToTell 41 = .ok (.iconst 5, 1) := dw_8 (kcX7_wrongToTell_0 41 8 rfl)
theorem dX7_wrongToTell_42 : decode cX7_wrongToTell 42 = .ok (.if_icmp .eq 9, 3) := dw_159 (kcX7_wrongToTell_0 42 159 rfl) (kcX7_wrongToTell_0 43 0 rfl) (kcX7_wrongToTell_0 44 9 rfl) rfl
theorem dX7_wrongToTell_51 : decode cX7_wrongToTell 51 = .ok (.bipush 6, 2) := dw_16 (kcX7_wrongToTell_0 51 16 rfl) (kcX7_wrongToTell_0 52 6 rfl) rfl
theorem dX7_wrongToTell_53 : decode cX7_wrongToTell 53 = .ok (.goto 4, 3) := dw_167 (kcX7_wrongToTell_0 53 167 rfl) (kcX7_wrongToTell_0 54 0 rfl) (kcX7_wrongToTell_0 55 4 rfl) rfl
theorem dX7_wrongToTell_57 : decode cX7_wrongToTell 57 = .ok (.ireturn, 1) := dw_172 (kcX7_wrongToTell_0 57 172 rfl)
theorem dX7_wrongToTell_45 : decode cX7_wrongToTell 45 = .ok (.iload 5, 2) := dw_21 (kcX7_wrongToTell_0 45 21 rfl) (kcX7_wrongToTell_0 46 5 rfl)
theorem dX7_wrongToTell_47 : decode cX7_wrongToTell 47 = .ok (.iconst 4, 1) := dw_7 (kcX7_wrongToTell_0 47 7 rfl)
theorem dX7_wrongToTell_48 : decode cX7_wrongToTell 48 = .ok (.if_icmp .ne 8, 3) := dw_160 (kcX7_wrongToTell_0 48 160 rfl) (kcX7_wrongToTell_0 49 0 rfl) (kcX7_wrongToTell_0 50 8 rfl) rfl
theorem dX7_wrongToTell_56 : decode cX7_wrongToTell 56 = .ok (.iconst 0, 1) := dw_3 (kcX7_wrongToTell_0 56 3 rfl)
theorem dX7_wrongToTell_35 : decode cX7_wrongToTell 35 = .ok (.iconst 5, 1) := dw_8 (kcX7_wrongToTell_0 35 8 rfl)
theorem dX7_wrongToTell_36 : decode cX7_wrongToTell 36 = .ok (.goto 21, 3) := dw_167 (kcX7_wrongToTell_0 36 167 rfl) (kcX7_wrongToTell_0 37 0 rfl) (kcX7_wrongToTell_0 38 21 rfl) rfl
theorem dX7_wrongToTell_14 : decode cX7_wrongToTell 14 = .ok (.iload 4, 2) := dw_21 (kcX7_wrongToTell_0 14 21 rfl) (kcX7_wrongToTell_0 15 4 rfl)
theorem dX7_wrongToTell_16 : decode cX7_wrongToTell 16 = .ok (.ireturn, 1) := dw_172 (kcX7_wrongToTell_0 16 172 rfl)
theorem kcX7_wrongSound_0 : CHb cX7_wrongSound 0 [42, 27, 28, 29, 182, 0, 143, 54, 4, 21, 4, 158, 0, 6, 21, 4, 172, 42, 180, 0, 23, 27, 28, 29, 184, 0, 147, 46, 54, 5, 21, 5, 154, 0, 7, 8, 167, 0, 29, 21, 5, 8, 160, 0, 8, 16, 6, 167, 0, 18, 42, 27, 28, 182, 0, 161, 154, 0, 8, 16, 11, 167, 0, 4] := CHb_of (by decide +kernel)
theorem dX7_wrongSound_0 : decode cX7_wrongSound 0 = .ok (.aload_n 0, 1) := dw_42 (kcX7_wrongSound_0 0 42 rfl)
theorem dX7_wrongSound_1 : decode cX7_wrongSound 1 = .ok (.iload_n 1, 1) := dw_27 (kcX7_wrongSound_0 1 27 rfl)
theorem dX7_wrongSound_2 : decode cX7_wrongSound 2 = .ok (.iload_n 2, 1) := dw_28 (kcX7_wrongSound_0 2 28 rfl)
theorem dX7_wrongSound_3 : decode cX7_wrongSound 3 = .ok (.iload_n 3, 1) := dw_29 (kcX7_wrongSound_0 3 29 rfl)
theorem dX7_wrongSound_4 : decode cX7_wrongSound 4 = .ok (.invokevirtual 143, 3) := dw_182 (kcX7_wrongSound_0 4 182 rfl) (kcX7_wrongSound_0 5 0 rfl) (kcX7_wrongSound_0 6 143 rfl) rfl
theorem dX7_wrongSound_7 : decode cX7_wrongSound 7 = .ok (.istore 4, 2) := dw_54 (kcX7_wrongSound_0 7 54 rfl) (kcX7_wrongSound_0 8 4 rfl)
theorem dX7_wrongSound_9 : decode cX7_wrongSound 9 = .ok (.iload 4, 2) := dw_21 (kcX7_wrongSound_0 9 21 rfl) (kcX7_wrongSound_0 10 4 rfl)
theorem dX7_wrongSound_11 : decode cX7_wrongSound 11 = .ok (.ifCond .le 6, 3) := dw_158 (kcX7_wrongSound_0 11 158 rfl) (kcX7_wrongSound_0 12 0 rfl) (kcX7_wrongSound_0 13 6 rfl) rfl
theorem dX7_wrongSound_17 : decode cX7_wrongSound 17 = .ok (.aload_n 0, 1) := dw_42 (kcX7_wrongSound_0 17 42 rfl)
theorem dX7_wrongSound_18 : decode cX7_wrongSound 18 = .ok (.getfield 23, 3) := dw_180 (kcX7_wrongSound_0 18 180 rfl) (kcX7_wrongSound_0 19 0 rfl) (kcX7_wrongSound_0 20 23 rfl) rfl
theorem dX7_wrongSound_21 : decode cX7_wrongSound 21 = .ok (.iload_n 1, 1) := dw_27 (kcX7_wrongSound_0 21 27 rfl)
theorem dX7_wrongSound_22 : decode cX7_wrongSound 22 = .ok (.iload_n 2, 1) := dw_28 (kcX7_wrongSound_0 22 28 rfl)
theorem dX7_wrongSound_23 : decode cX7_wrongSound 23 = .ok (.iload_n 3, 1) := dw_29 (kcX7_wrongSound_0 23 29 rfl)
theorem dX7_wrongSound_24 : decode cX7_wrongSound 24 = .ok (.invokestatic 147, 3) := dw_184 (kcX7_wrongSound_0 24 184 rfl) (kcX7_wrongSound_0 25 0 rfl) (kcX7_wrongSound_0 26 147 rfl) rfl
theorem dX7_wrongSound_27 : decode cX7_wrongSound 27 = .ok (.iaload, 1) := dw_46 (kcX7_wrongSound_0 27 46 rfl)
theorem dX7_wrongSound_28 : decode cX7_wrongSound 28 = .ok (.istore 5, 2) := dw_54 (kcX7_wrongSound_0 28 54 rfl) (kcX7_wrongSound_0 29 5 rfl)
theorem dX7_wrongSound_30 : decode cX7_wrongSound 30 = .ok (.iload 5, 2) := dw_21 (kcX7_wrongSound_0 30 21 rfl) (kcX7_wrongSound_0 31 5 rfl)
theorem dX7_wrongSound_32 : decode cX7_wrongSound 32 = .ok (.ifCond .ne 7, 3) := dw_154 (kcX7_wrongSound_0 32 154 rfl) (kcX7_wrongSound_0 33 0 rfl) (kcX7_wrongSound_0 34 7 rfl) rfl
theorem dX7_wrongSound_39 : decode cX7_wrongSound 39 = .ok (.iload 5, 2) := dw_21 (kcX7_wrongSound_0 39 21 rfl) (kcX7_wrongSound_0 40 5 rfl)
theorem dX7_wrongSound_41 : decode cX7_wrongSound 41 = .ok (.iconst 5, 1) := dw_8 (kcX7_wrongSound_0 41 8 rfl)
theorem dX7_wrongSound_42 : decode cX7_wrongSound 42 = .ok (.if_icmp .ne 8, 3) := dw_160 (kcX7_wrongSound_0 42 160 rfl) (kcX7_wrongSound_0 43 0 rfl) (kcX7_wrongSound_0 44 8 rfl) rfl
theorem dX7_wrongSound_50 : decode cX7_wrongSound 50 = .ok (.aload_n 0, 1) := dw_42 (kcX7_wrongSound_0 50 42 rfl)
theorem dX7_wrongSound_51 : decode cX7_wrongSound 51 = .ok (.iload_n 1, 1) := dw_27 (kcX7_wrongSound_0 51 27 rfl)
theorem dX7_wrongSound_52 : decode cX7_wrongSound 52 = .ok (.iload_n 2, 1) := dw_28 (kcX7_wrongSound_0 52 28 rfl)
theorem dX7_wrongSound_53 : decode cX7_wrongSound 53 = .ok (.invokevirtual 161, 3) := dw_182 (kcX7_wrongSound_0 53 182 rfl) (kcX7_wrongSound_0 54 0 rfl) (kcX7_wrongSound_0 55 161 rfl) rfl
theorem dX7_wrongSound_56 : decode cX7_wrongSound 56 = .ok (.ifCond .ne 8, 3) := dw_154 (kcX7_wrongSound_0 56 154 rfl) (kcX7_wrongSound_0 57 0 rfl) (kcX7_wrongSound_0 58 8 rfl) rfl
theorem kcX7_wrongSound_1 : CHb cX7_wrongSound 64 [3, 172] := CHb_of (by decide +kernel)
theorem dX7_wrongSound_64 : decode cX7_wrongSound 64 = .ok (.iconst 0, 1) := dw_3 (kcX7_wrongSound_1 0 3 rfl)
theorem dX7_wrongSound_65 : decode cX7_wrongSound 65 = .ok (.ireturn, 1) := dw_172 (kcX7_wrongSound_1 1 172 rfl)
theorem dX7_wrongSound_59 : decode cX7_wrongSound 59 = .ok (.bipush 11, 2) := dw_16 (kcX7_wrongSound_0 59 16 rfl) (kcX7_wrongSound_0 60 11 rfl) rfl
theorem dX7_wrongSound_61 : decode cX7_wrongSound 61 = .ok (.goto 4, 3) := dw_167 (kcX7_wrongSound_0 61 167 rfl) (kcX7_wrongSound_0 62 0 rfl) (kcX7_wrongSound_0 63 4 rfl) rfl
theorem dX7_wrongSound_45 : decode cX7_wrongSound 45 = .ok (.bipush 6, 2) := dw_16 (kcX7_wrongSound_0 45 16 rfl) (kcX7_wrongSound_0 46 6 rfl) rfl
theorem dX7_wrongSound_47 : decode cX7_wrongSound 47 = .ok (.goto 18, 3) := dw_167 (kcX7_wrongSound_0 47 167 rfl) (kcX7_wrongSound_0 48 0 rfl) (kcX7_wrongSound_0 49 18 rfl) rfl
theorem dX7_wrongSound_35 : decode cX7_wrongSound 35 = .ok (.iconst 5, 1) := dw_8 (kcX7_wrongSound_0 35 8 rfl)
theorem dX7_wrongSound_36 : decode cX7_wrongSound 36 = .ok (.goto 29, 3) := dw_167 (kcX7_wrongSound_0 36 167 rfl) (kcX7_wrongSound_0 37 0 rfl) (kcX7_wrongSound_0 38 29 rfl) rfl
theorem dX7_wrongSound_14 : decode cX7_wrongSound 14 = .ok (.iload 4, 2) := dw_21 (kcX7_wrongSound_0 14 21 rfl) (kcX7_wrongSound_0 15 4 rfl)
theorem dX7_wrongSound_16 : decode cX7_wrongSound 16 = .ok (.ireturn, 1) := dw_172 (kcX7_wrongSound_0 16 172 rfl)
theorem kcX7_kind_0 : CHb cX7_kind 0 [42, 42, 27, 28, 29, 182, 0, 143, 181, 0, 116, 42, 180, 0, 116, 158, 0, 7, 2, 167, 0, 14, 42, 180, 0, 23, 27, 28, 29, 184, 0, 147, 46, 172] := CHb_of (by decide +kernel)
theorem dX7_kind_0 : decode cX7_kind 0 = .ok (.aload_n 0, 1) := dw_42 (kcX7_kind_0 0 42 rfl)
theorem dX7_kind_1 : decode cX7_kind 1 = .ok (.aload_n 0, 1) := dw_42 (kcX7_kind_0 1 42 rfl)
theorem dX7_kind_2 : decode cX7_kind 2 = .ok (.iload_n 1, 1) := dw_27 (kcX7_kind_0 2 27 rfl)
theorem dX7_kind_3 : decode cX7_kind 3 = .ok (.iload_n 2, 1) := dw_28 (kcX7_kind_0 3 28 rfl)
theorem dX7_kind_4 : decode cX7_kind 4 = .ok (.iload_n 3, 1) := dw_29 (kcX7_kind_0 4 29 rfl)
theorem dX7_kind_5 : decode cX7_kind 5 = .ok (.invokevirtual 143, 3) := dw_182 (kcX7_kind_0 5 182 rfl) (kcX7_kind_0 6 0 rfl) (kcX7_kind_0 7 143 rfl) rfl
theorem dX7_kind_8 : decode cX7_kind 8 = .ok (.putfield 116, 3) := dw_181 (kcX7_kind_0 8 181 rfl) (kcX7_kind_0 9 0 rfl) (kcX7_kind_0 10 116 rfl) rfl
theorem dX7_kind_11 : decode cX7_kind 11 = .ok (.aload_n 0, 1) := dw_42 (kcX7_kind_0 11 42 rfl)
theorem dX7_kind_12 : decode cX7_kind 12 = .ok (.getfield 116, 3) := dw_180 (kcX7_kind_0 12 180 rfl) (kcX7_kind_0 13 0 rfl) (kcX7_kind_0 14 116 rfl) rfl
theorem dX7_kind_15 : decode cX7_kind 15 = .ok (.ifCond .le 7, 3) := dw_158 (kcX7_kind_0 15 158 rfl) (kcX7_kind_0 16 0 rfl) (kcX7_kind_0 17 7 rfl) rfl
theorem dX7_kind_22 : decode cX7_kind 22 = .ok (.aload_n 0, 1) := dw_42 (kcX7_kind_0 22 42 rfl)
theorem dX7_kind_23 : decode cX7_kind 23 = .ok (.getfield 23, 3) := dw_180 (kcX7_kind_0 23 180 rfl) (kcX7_kind_0 24 0 rfl) (kcX7_kind_0 25 23 rfl) rfl
theorem dX7_kind_26 : decode cX7_kind 26 = .ok (.iload_n 1, 1) := dw_27 (kcX7_kind_0 26 27 rfl)
theorem dX7_kind_27 : decode cX7_kind 27 = .ok (.iload_n 2, 1) := dw_28 (kcX7_kind_0 27 28 rfl)
theorem dX7_kind_28 : decode cX7_kind 28 = .ok (.iload_n 3, 1) := dw_29 (kcX7_kind_0 28 29 rfl)
theorem dX7_kind_29 : decode cX7_kind 29 = .ok (.invokestatic 147, 3) := dw_184 (kcX7_kind_0 29 184 rfl) (kcX7_kind_0 30 0 rfl) (kcX7_kind_0 31 147 rfl) rfl
theorem dX7_kind_32 : decode cX7_kind 32 = .ok (.iaload, 1) := dw_46 (kcX7_kind_0 32 46 rfl)
theorem dX7_kind_33 : decode cX7_kind 33 = .ok (.ireturn, 1) := dw_172 (kcX7_kind_0 33 172 rfl)
theorem dX7_kind_18 : decode cX7_kind 18 = .ok (.iconst (-1), 1) := dw_2 (kcX7_kind_0 18 2 rfl)
theorem dX7_kind_19 : decode cX7_kind 19 = .ok (.goto 14, 3) := dw_167 (kcX7_kind_0 19 167 rfl) (kcX7_kind_0 20 0 rfl) (kcX7_kind_0 21 14 rfl) rfl
theorem kcX7_number_0 : CHb cX7_number 0 [42, 42, 27, 28, 29, 182, 0, 143, 181, 0, 116, 42, 180, 0, 116, 154, 0, 22, 42, 180, 0, 23, 27, 28, 29, 184, 0, 147, 46, 154, 0, 8, 42, 8, 181, 0, 116, 42, 180, 0, 116, 158, 0, 7, 2, 167, 0, 14, 42, 180, 0, 26, 27, 28, 29, 184, 0, 147, 46, 172] := CHb_of (by decide +kernel)
theorem dX7_number_0 : decode cX7_number 0 = .ok (.aload_n 0, 1) := dw_42 (kcX7_number_0 0 42 rfl)
theorem dX7_number_1 : decode cX7_number 1 = .ok (.aload_n 0, 1) := dw_42 (kcX7_number_0 1 42 rfl)
theorem dX7_number_2 : decode cX7_number 2 = .ok (.iload_n 1, 1) := dw_27 (kcX7_number_0 2 27 rfl)
theorem dX7_number_3 : decode cX7_number 3 = .ok (.iload_n 2, 1) := dw_28 (kcX7_number_0 3 28 rfl)
theorem dX7_number_4 : decode cX7_number 4 = .ok (.iload_n 3, 1) := dw_29 (kcX7_number_0 4 29 rfl)
theorem dX7_number_5 : decode cX7_number 5 = .ok (.invokevirtual 143, 3) := dw_182 (kcX7_number_0 5 182 rfl) (kcX7_number_0 6 0 rfl) (kcX7_number_0 7 143 rfl) rfl
theorem dX7_number_8 : decode cX7_number 8 = .ok (.putfield 116, 3) := dw_181 (kcX7_number_0 8 181 rfl) (kcX7_number_0 9 0 rfl) (kcX7_number_0 10 116 rfl) rfl
theorem dX7_number_11 : decode cX7_number 11 = .ok (.aload_n 0, 1) := dw_42 (kcX7_number_0 11 42 rfl)
theorem dX7_number_12 : decode cX7_number 12 = .ok (.getfield 116, 3) := dw_180 (kcX7_number_0 12 180 rfl) (kcX7_number_0 13 0 rfl) (kcX7_number_0 14 116 rfl) rfl
theorem dX7_number_15 : decode cX7_number 15 = .ok (.ifCond .ne 22, 3) := dw_154 (kcX7_number_0 15 154 rfl) (kcX7_number_0 16 0 rfl) (kcX7_number_0 17 22 rfl) rfl
theorem dX7_number_37 : decode cX7_number 37 = .ok (.aload_n 0, 1) := dw_42 (kcX7_number_0 37 42 rfl)
theorem dX7_number_38 : decode cX7_number 38 = .ok (.getfield 116, 3) := dw_180 (kcX7_number_0 38 180 rfl) (kcX7_number_0 39 0 rfl) (kcX7_number_0 40 116 rfl) rfl
theorem dX7_number_41 : decode cX7_number 41 = .ok (.ifCond .le 7, 3) := dw_158 (kcX7_number_0 41 158 rfl) (kcX7_number_0 42 0 rfl) (kcX7_number_0 43 7 rfl) rfl
theorem dX7_number_44 : decode cX7_number 44 = .ok (.iconst (-1), 1) := dw_2 (kcX7_number_0 44 2 rfl)
theorem dX7_number_45 : decode cX7_number 45 = .ok (.goto 14, 3) := dw_167 (kcX7_number_0 45 167 rfl) (kcX7_number_0 46 0 rfl) (kcX7_number_0 47 14 rfl) rfl
theorem dX7_number_59 : decode cX7_number 59 = .ok (.ireturn, 1) := dw_172 (kcX7_number_0 59 172 rfl)
theorem dX7_number_18 : decode cX7_number 18 = .ok (.aload_n 0, 1) := dw_42 (kcX7_number_0 18 42 rfl)
theorem dX7_number_19 : decode cX7_number 19 = .ok (.getfield 23, 3) := dw_180 (kcX7_number_0 19 180 rfl) (kcX7_number_0 20 0 rfl) (kcX7_number_0 21 23 rfl) rfl
theorem dX7_number_22 : decode cX7_number 22 = .ok (.iload_n 1, 1) := dw_27 (kcX7_number_0 22 27 rfl)
theorem dX7_number_23 : decode cX7_number 23 = .ok (.iload_n 2, 1) := dw_28 (kcX7_number_0 23 28 rfl)
theorem dX7_number_24 : decode cX7_number 24 = .ok (.iload_n 3, 1) := dw_29 (kcX7_number_0 24 29 rfl)
theorem dX7_number_25 : decode cX7_number 25 = .ok (.invokestatic 147, 3) := dw_184 (kcX7_number_0 25 184 rfl) (kcX7_number_0 26 0 rfl) (kcX7_number_0 27 147 rfl) rfl
theorem dX7_number_28 : decode cX7_number 28 = .ok (.iaload, 1) := dw_46 (kcX7_number_0 28 46 rfl)
theorem dX7_number_29 : decode cX7_number 29 = .ok (.ifCond .ne 8, 3) := dw_154 (kcX7_number_0 29 154 rfl) (kcX7_number_0 30 0 rfl) (kcX7_number_0 31 8 rfl) rfl
theorem dX7_number_48 : decode cX7_number 48 = .ok (.aload_n 0, 1) := dw_42 (kcX7_number_0 48 42 rfl)
theorem dX7_number_49 : decode cX7_number 49 = .ok (.getfield 26, 3) := dw_180 (kcX7_number_0 49 180 rfl) (kcX7_number_0 50 0 rfl) (kcX7_number_0 51 26 rfl) rfl
theorem dX7_number_52 : decode cX7_number 52 = .ok (.iload_n 1, 1) := dw_27 (kcX7_number_0 52 27 rfl)
theorem dX7_number_53 : decode cX7_number 53 = .ok (.iload_n 2, 1) := dw_28 (kcX7_number_0 53 28 rfl)
theorem dX7_number_54 : decode cX7_number 54 = .ok (.iload_n 3, 1) := dw_29 (kcX7_number_0 54 29 rfl)
theorem dX7_number_55 : decode cX7_number 55 = .ok (.invokestatic 147, 3) := dw_184 (kcX7_number_0 55 184 rfl) (kcX7_number_0 56 0 rfl) (kcX7_number_0 57 147 rfl) rfl
theorem dX7_number_58 : decode cX7_number 58 = .ok (.iaload, 1) := dw_46 (kcX7_number_0 58 46 rfl)
theorem dX7_number_32 : decode cX7_number 32 = .ok (.aload_n 0, 1) := dw_42 (kcX7_number_0 32 42 rfl)
theorem dX7_number_33 : decode cX7_number 33 = .ok (.iconst 5, 1) := dw_8 (kcX7_number_0 33 8 rfl)
theorem dX7_number_34 : decode cX7_number 34 = .ok (.putfield 116, 3) := dw_181 (kcX7_number_0 34 181 rfl) (kcX7_number_0 35 0 rfl) (kcX7_number_0 36 116 rfl) rfl
theorem kcX7_givers_0 : CHb cX7_givers 0 [42, 42, 27, 28, 29, 182, 0, 155, 181, 0, 116, 42, 180, 0, 116, 158, 0, 7, 2, 167, 0, 14, 42, 180, 0, 29, 27, 28, 29, 184, 0, 147, 46, 172] := CHb_of (by decide +kernel)
theorem dX7_givers_0 : decode cX7_givers 0 = .ok (.aload_n 0, 1) := dw_42 (kcX7_givers_0 0 42 rfl)
theorem dX7_givers_1 : decode cX7_givers 1 = .ok (.aload_n 0, 1) := dw_42 (kcX7_givers_0 1 42 rfl)
theorem dX7_givers_2 : decode cX7_givers 2 = .ok (.iload_n 1, 1) := dw_27 (kcX7_givers_0 2 27 rfl)
theorem dX7_givers_3 : decode cX7_givers 3 = .ok (.iload_n 2, 1) := dw_28 (kcX7_givers_0 3 28 rfl)
theorem dX7_givers_4 : decode cX7_givers 4 = .ok (.iload_n 3, 1) := dw_29 (kcX7_givers_0 4 29 rfl)
theorem dX7_givers_5 : decode cX7_givers 5 = .ok (.invokevirtual 155, 3) := dw_182 (kcX7_givers_0 5 182 rfl) (kcX7_givers_0 6 0 rfl) (kcX7_givers_0 7 155 rfl) rfl
theorem dX7_givers_8 : decode cX7_givers 8 = .ok (.putfield 116, 3) := dw_181 (kcX7_givers_0 8 181 rfl) (kcX7_givers_0 9 0 rfl) (kcX7_givers_0 10 116 rfl) rfl
theorem dX7_givers_11 : decode cX7_givers 11 = .ok (.aload_n 0, 1) := dw_42 (kcX7_givers_0 11 42 rfl)
theorem dX7_givers_12 : decode cX7_givers 12 = .ok (.getfield 116, 3) := dw_180 (kcX7_givers_0 12 180 rfl) (kcX7_givers_0 13 0 rfl) (kcX7_givers_0 14 116 rfl) rfl
theorem dX7_givers_15 : decode cX7_givers 15 = .ok (.ifCond .le 7, 3) := dw_158 (kcX7_givers_0 15 158 rfl) (kcX7_givers_0 16 0 rfl) (kcX7_givers_0 17 7 rfl) rfl
theorem dX7_givers_22 : decode cX7_givers 22 = .ok (.aload_n 0, 1) := dw_42 (kcX7_givers_0 22 42 rfl)
theorem dX7_givers_23 : decode cX7_givers 23 = .ok (.getfield 29, 3) := dw_180 (kcX7_givers_0 23 180 rfl) (kcX7_givers_0 24 0 rfl) (kcX7_givers_0 25 29 rfl) rfl
theorem dX7_givers_26 : decode cX7_givers 26 = .ok (.iload_n 1, 1) := dw_27 (kcX7_givers_0 26 27 rfl)
theorem dX7_givers_27 : decode cX7_givers 27 = .ok (.iload_n 2, 1) := dw_28 (kcX7_givers_0 27 28 rfl)
theorem dX7_givers_28 : decode cX7_givers 28 = .ok (.iload_n 3, 1) := dw_29 (kcX7_givers_0 28 29 rfl)
theorem dX7_givers_29 : decode cX7_givers 29 = .ok (.invokestatic 147, 3) := dw_184 (kcX7_givers_0 29 184 rfl) (kcX7_givers_0 30 0 rfl) (kcX7_givers_0 31 147 rfl) rfl
theorem dX7_givers_32 : decode cX7_givers 32 = .ok (.iaload, 1) := dw_46 (kcX7_givers_0 32 46 rfl)
theorem dX7_givers_33 : decode cX7_givers 33 = .ok (.ireturn, 1) := dw_172 (kcX7_givers_0 33 172 rfl)
theorem dX7_givers_18 : decode cX7_givers 18 = .ok (.iconst (-1), 1) := dw_2 (kcX7_givers_0 18 2 rfl)
theorem dX7_givers_19 : decode cX7_givers 19 = .ok (.goto 14, 3) := dw_167 (kcX7_givers_0 19 167 rfl) (kcX7_givers_0 20 0 rfl) (kcX7_givers_0 21 14 rfl) rfl
theorem kcX7_part_0 : CHb cX7_part 0 [42, 42, 27, 28, 29, 182, 0, 155, 181, 0, 116, 42, 180, 0, 116, 154, 0, 30, 21, 4, 155, 0, 19, 21, 4, 42, 180, 0, 29, 27, 28, 29, 184, 0, 147, 46, 161, 0, 9, 42, 16, 7, 181, 0, 116, 42, 180, 0, 116, 158, 0, 7, 2, 167, 0, 20, 42, 180, 0, 32, 16, 6, 27, 28] := CHb_of (by decide +kernel)
theorem dX7_part_0 : decode cX7_part 0 = .ok (.aload_n 0, 1) := dw_42 (kcX7_part_0 0 42 rfl)
theorem dX7_part_1 : decode cX7_part 1 = .ok (.aload_n 0, 1) := dw_42 (kcX7_part_0 1 42 rfl)
theorem dX7_part_2 : decode cX7_part 2 = .ok (.iload_n 1, 1) := dw_27 (kcX7_part_0 2 27 rfl)
theorem dX7_part_3 : decode cX7_part 3 = .ok (.iload_n 2, 1) := dw_28 (kcX7_part_0 3 28 rfl)
theorem dX7_part_4 : decode cX7_part 4 = .ok (.iload_n 3, 1) := dw_29 (kcX7_part_0 4 29 rfl)
theorem dX7_part_5 : decode cX7_part 5 = .ok (.invokevirtual 155, 3) := dw_182 (kcX7_part_0 5 182 rfl) (kcX7_part_0 6 0 rfl) (kcX7_part_0 7 155 rfl) rfl
theorem dX7_part_8 : decode cX7_part 8 = .ok (.putfield 116, 3) := dw_181 (kcX7_part_0 8 181 rfl) (kcX7_part_0 9 0 rfl) (kcX7_part_0 10 116 rfl) rfl
theorem dX7_part_11 : decode cX7_part 11 = .ok (.aload_n 0, 1) := dw_42 (kcX7_part_0 11 42 rfl)
theorem dX7_part_12 : decode cX7_part 12 = .ok (.getfield 116, 3) := dw_180 (kcX7_part_0 12 180 rfl) (kcX7_part_0 13 0 rfl) (kcX7_part_0 14 116 rfl) rfl
theorem dX7_part_15 : decode cX7_part 15 = .ok (.ifCond .ne 30, 3) := dw_154 (kcX7_part_0 15 154 rfl) (kcX7_part_0 16 0 rfl) (kcX7_part_0 17 30 rfl) rfl
theorem dX7_part_45 : decode cX7_part 45 = .ok (.aload_n 0, 1) := dw_42 (kcX7_part_0 45 42 rfl)
theorem dX7_part_46 : decode cX7_part 46 = .ok (.getfield 116, 3) := dw_180 (kcX7_part_0 46 180 rfl) (kcX7_part_0 47 0 rfl) (kcX7_part_0 48 116 rfl) rfl
theorem dX7_part_49 : decode cX7_part 49 = .ok (.ifCond .le 7, 3) := dw_158 (kcX7_part_0 49 158 rfl) (kcX7_part_0 50 0 rfl) (kcX7_part_0 51 7 rfl) rfl
theorem dX7_part_52 : decode cX7_part 52 = .ok (.iconst (-1), 1) := dw_2 (kcX7_part_0 52 2 rfl)
theorem dX7_part_53 : decode cX7_part 53 = .ok (.goto 20, 3) := dw_167 (kcX7_part_0 53 167 rfl) (kcX7_part_0 54 0 rfl) (kcX7_part_0 55 20 rfl) rfl
theorem kcX7_part_1 : CHb cX7_part 64 [29, 184, 0, 147, 104, 21, 4, 96, 46, 172] := CHb_of (by decide +kernel)
theorem dX7_part_73 : decode cX7_part 73 = .ok (.ireturn, 1) := dw_172 (kcX7_part_1 9 172 rfl)
theorem dX7_part_18 : decode cX7_part 18 = .ok (.iload 4, 2) := dw_21 (kcX7_part_0 18 21 rfl) (kcX7_part_0 19 4 rfl)
theorem dX7_part_20 : decode cX7_part 20 = .ok (.ifCond .lt 19, 3) := dw_155 (kcX7_part_0 20 155 rfl) (kcX7_part_0 21 0 rfl) (kcX7_part_0 22 19 rfl) rfl
theorem dX7_part_39 : decode cX7_part 39 = .ok (.aload_n 0, 1) := dw_42 (kcX7_part_0 39 42 rfl)
theorem dX7_part_40 : decode cX7_part 40 = .ok (.bipush 7, 2) := dw_16 (kcX7_part_0 40 16 rfl) (kcX7_part_0 41 7 rfl) rfl
theorem dX7_part_42 : decode cX7_part 42 = .ok (.putfield 116, 3) := dw_181 (kcX7_part_0 42 181 rfl) (kcX7_part_0 43 0 rfl) (kcX7_part_0 44 116 rfl) rfl
theorem dX7_part_23 : decode cX7_part 23 = .ok (.iload 4, 2) := dw_21 (kcX7_part_0 23 21 rfl) (kcX7_part_0 24 4 rfl)
theorem dX7_part_25 : decode cX7_part 25 = .ok (.aload_n 0, 1) := dw_42 (kcX7_part_0 25 42 rfl)
theorem dX7_part_26 : decode cX7_part 26 = .ok (.getfield 29, 3) := dw_180 (kcX7_part_0 26 180 rfl) (kcX7_part_0 27 0 rfl) (kcX7_part_0 28 29 rfl) rfl
theorem dX7_part_29 : decode cX7_part 29 = .ok (.iload_n 1, 1) := dw_27 (kcX7_part_0 29 27 rfl)
theorem dX7_part_30 : decode cX7_part 30 = .ok (.iload_n 2, 1) := dw_28 (kcX7_part_0 30 28 rfl)
theorem dX7_part_31 : decode cX7_part 31 = .ok (.iload_n 3, 1) := dw_29 (kcX7_part_0 31 29 rfl)
theorem dX7_part_32 : decode cX7_part 32 = .ok (.invokestatic 147, 3) := dw_184 (kcX7_part_0 32 184 rfl) (kcX7_part_0 33 0 rfl) (kcX7_part_0 34 147 rfl) rfl
theorem dX7_part_35 : decode cX7_part 35 = .ok (.iaload, 1) := dw_46 (kcX7_part_0 35 46 rfl)
theorem dX7_part_36 : decode cX7_part 36 = .ok (.if_icmp .lt 9, 3) := dw_161 (kcX7_part_0 36 161 rfl) (kcX7_part_0 37 0 rfl) (kcX7_part_0 38 9 rfl) rfl
theorem dX7_part_56 : decode cX7_part 56 = .ok (.aload_n 0, 1) := dw_42 (kcX7_part_0 56 42 rfl)
theorem dX7_part_57 : decode cX7_part 57 = .ok (.getfield 32, 3) := dw_180 (kcX7_part_0 57 180 rfl) (kcX7_part_0 58 0 rfl) (kcX7_part_0 59 32 rfl) rfl
theorem dX7_part_60 : decode cX7_part 60 = .ok (.bipush 6, 2) := dw_16 (kcX7_part_0 60 16 rfl) (kcX7_part_0 61 6 rfl) rfl
theorem dX7_part_62 : decode cX7_part 62 = .ok (.iload_n 1, 1) := dw_27 (kcX7_part_0 62 27 rfl)
theorem dX7_part_63 : decode cX7_part 63 = .ok (.iload_n 2, 1) := dw_28 (kcX7_part_0 63 28 rfl)
theorem dX7_part_64 : decode cX7_part 64 = .ok (.iload_n 3, 1) := dw_29 (kcX7_part_1 0 29 rfl)
theorem dX7_part_65 : decode cX7_part 65 = .ok (.invokestatic 147, 3) := dw_184 (kcX7_part_1 1 184 rfl) (kcX7_part_1 2 0 rfl) (kcX7_part_1 3 147 rfl) rfl
theorem dX7_part_68 : decode cX7_part 68 = .ok (.imul, 1) := dw_104 (kcX7_part_1 4 104 rfl)
theorem dX7_part_69 : decode cX7_part 69 = .ok (.iload 4, 2) := dw_21 (kcX7_part_1 5 21 rfl) (kcX7_part_1 6 4 rfl)
theorem dX7_part_71 : decode cX7_part 71 = .ok (.iadd, 1) := dw_96 (kcX7_part_1 7 96 rfl)
theorem dX7_part_72 : decode cX7_part 72 = .ok (.iaload, 1) := dw_46 (kcX7_part_1 8 46 rfl)
theorem kcX7_hand_0 : CHb cX7_hand 0 [42, 42, 27, 28, 29, 182, 0, 158, 181, 0, 116, 42, 180, 0, 116, 158, 0, 5, 3, 172, 42, 180, 0, 35, 27, 28, 29, 184, 0, 147, 21, 4, 84, 4, 172] := CHb_of (by decide +kernel)
theorem dX7_hand_0 : decode cX7_hand 0 = .ok (.aload_n 0, 1) := dw_42 (kcX7_hand_0 0 42 rfl)
theorem dX7_hand_1 : decode cX7_hand 1 = .ok (.aload_n 0, 1) := dw_42 (kcX7_hand_0 1 42 rfl)
theorem dX7_hand_2 : decode cX7_hand 2 = .ok (.iload_n 1, 1) := dw_27 (kcX7_hand_0 2 27 rfl)
theorem dX7_hand_3 : decode cX7_hand 3 = .ok (.iload_n 2, 1) := dw_28 (kcX7_hand_0 3 28 rfl)
theorem dX7_hand_4 : decode cX7_hand 4 = .ok (.iload_n 3, 1) := dw_29 (kcX7_hand_0 4 29 rfl)
theorem dX7_hand_5 : decode cX7_hand 5 = .ok (.invokevirtual 158, 3) := dw_182 (kcX7_hand_0 5 182 rfl) (kcX7_hand_0 6 0 rfl) (kcX7_hand_0 7 158 rfl) rfl
theorem dX7_hand_8 : decode cX7_hand 8 = .ok (.putfield 116, 3) := dw_181 (kcX7_hand_0 8 181 rfl) (kcX7_hand_0 9 0 rfl) (kcX7_hand_0 10 116 rfl) rfl
theorem dX7_hand_11 : decode cX7_hand 11 = .ok (.aload_n 0, 1) := dw_42 (kcX7_hand_0 11 42 rfl)
theorem dX7_hand_12 : decode cX7_hand 12 = .ok (.getfield 116, 3) := dw_180 (kcX7_hand_0 12 180 rfl) (kcX7_hand_0 13 0 rfl) (kcX7_hand_0 14 116 rfl) rfl
theorem dX7_hand_15 : decode cX7_hand 15 = .ok (.ifCond .le 5, 3) := dw_158 (kcX7_hand_0 15 158 rfl) (kcX7_hand_0 16 0 rfl) (kcX7_hand_0 17 5 rfl) rfl
theorem dX7_hand_20 : decode cX7_hand 20 = .ok (.aload_n 0, 1) := dw_42 (kcX7_hand_0 20 42 rfl)
theorem dX7_hand_21 : decode cX7_hand 21 = .ok (.getfield 35, 3) := dw_180 (kcX7_hand_0 21 180 rfl) (kcX7_hand_0 22 0 rfl) (kcX7_hand_0 23 35 rfl) rfl
theorem dX7_hand_24 : decode cX7_hand 24 = .ok (.iload_n 1, 1) := dw_27 (kcX7_hand_0 24 27 rfl)
theorem dX7_hand_25 : decode cX7_hand 25 = .ok (.iload_n 2, 1) := dw_28 (kcX7_hand_0 25 28 rfl)
theorem dX7_hand_26 : decode cX7_hand 26 = .ok (.iload_n 3, 1) := dw_29 (kcX7_hand_0 26 29 rfl)
theorem dX7_hand_27 : decode cX7_hand 27 = .ok (.invokestatic 147, 3) := dw_184 (kcX7_hand_0 27 184 rfl) (kcX7_hand_0 28 0 rfl) (kcX7_hand_0 29 147 rfl) rfl
theorem dX7_hand_30 : decode cX7_hand 30 = .ok (.iload 4, 2) := dw_21 (kcX7_hand_0 30 21 rfl) (kcX7_hand_0 31 4 rfl)
theorem dX7_hand_32 : decode cX7_hand 32 = .ok (.bastore, 1) := dw_84 (kcX7_hand_0 32 84 rfl)
theorem dX7_hand_33 : decode cX7_hand 33 = .ok (.iconst 1, 1) := dw_4 (kcX7_hand_0 33 4 rfl)
theorem dX7_hand_34 : decode cX7_hand 34 = .ok (.ireturn, 1) := dw_172 (kcX7_hand_0 34 172 rfl)
theorem dX7_hand_18 : decode cX7_hand 18 = .ok (.iconst 0, 1) := dw_3 (kcX7_hand_0 18 3 rfl)
theorem dX7_hand_19 : decode cX7_hand 19 = .ok (.ireturn, 1) := dw_172 (kcX7_hand_0 19 172 rfl)
theorem kcX7_keep_0 : CHb cX7_keep 0 [42, 42, 27, 28, 29, 182, 0, 158, 181, 0, 116, 42, 180, 0, 116, 158, 0, 5, 3, 172, 42, 180, 0, 38, 27, 28, 29, 184, 0, 147, 21, 4, 84, 4, 172] := CHb_of (by decide +kernel)
theorem dX7_keep_0 : decode cX7_keep 0 = .ok (.aload_n 0, 1) := dw_42 (kcX7_keep_0 0 42 rfl)
theorem dX7_keep_1 : decode cX7_keep 1 = .ok (.aload_n 0, 1) := dw_42 (kcX7_keep_0 1 42 rfl)
theorem dX7_keep_2 : decode cX7_keep 2 = .ok (.iload_n 1, 1) := dw_27 (kcX7_keep_0 2 27 rfl)
theorem dX7_keep_3 : decode cX7_keep 3 = .ok (.iload_n 2, 1) := dw_28 (kcX7_keep_0 3 28 rfl)
theorem dX7_keep_4 : decode cX7_keep 4 = .ok (.iload_n 3, 1) := dw_29 (kcX7_keep_0 4 29 rfl)
theorem dX7_keep_5 : decode cX7_keep 5 = .ok (.invokevirtual 158, 3) := dw_182 (kcX7_keep_0 5 182 rfl) (kcX7_keep_0 6 0 rfl) (kcX7_keep_0 7 158 rfl) rfl
theorem dX7_keep_8 : decode cX7_keep 8 = .ok (.putfield 116, 3) := dw_181 (kcX7_keep_0 8 181 rfl) (kcX7_keep_0 9 0 rfl) (kcX7_keep_0 10 116 rfl) rfl
theorem dX7_keep_11 : decode cX7_keep 11 = .ok (.aload_n 0, 1) := dw_42 (kcX7_keep_0 11 42 rfl)
theorem dX7_keep_12 : decode cX7_keep 12 = .ok (.getfield 116, 3) := dw_180 (kcX7_keep_0 12 180 rfl) (kcX7_keep_0 13 0 rfl) (kcX7_keep_0 14 116 rfl) rfl
theorem dX7_keep_15 : decode cX7_keep 15 = .ok (.ifCond .le 5, 3) := dw_158 (kcX7_keep_0 15 158 rfl) (kcX7_keep_0 16 0 rfl) (kcX7_keep_0 17 5 rfl) rfl
theorem dX7_keep_20 : decode cX7_keep 20 = .ok (.aload_n 0, 1) := dw_42 (kcX7_keep_0 20 42 rfl)
theorem dX7_keep_21 : decode cX7_keep 21 = .ok (.getfield 38, 3) := dw_180 (kcX7_keep_0 21 180 rfl) (kcX7_keep_0 22 0 rfl) (kcX7_keep_0 23 38 rfl) rfl
theorem dX7_keep_24 : decode cX7_keep 24 = .ok (.iload_n 1, 1) := dw_27 (kcX7_keep_0 24 27 rfl)
theorem dX7_keep_25 : decode cX7_keep 25 = .ok (.iload_n 2, 1) := dw_28 (kcX7_keep_0 25 28 rfl)
theorem dX7_keep_26 : decode cX7_keep 26 = .ok (.iload_n 3, 1) := dw_29 (kcX7_keep_0 26 29 rfl)
theorem dX7_keep_27 : decode cX7_keep 27 = .ok (.invokestatic 147, 3) := dw_184 (kcX7_keep_0 27 184 rfl) (kcX7_keep_0 28 0 rfl) (kcX7_keep_0 29 147 rfl) rfl
theorem dX7_keep_30 : decode cX7_keep 30 = .ok (.iload 4, 2) := dw_21 (kcX7_keep_0 30 21 rfl) (kcX7_keep_0 31 4 rfl)
theorem dX7_keep_32 : decode cX7_keep 32 = .ok (.bastore, 1) := dw_84 (kcX7_keep_0 32 84 rfl)
theorem dX7_keep_33 : decode cX7_keep 33 = .ok (.iconst 1, 1) := dw_4 (kcX7_keep_0 33 4 rfl)
theorem dX7_keep_34 : decode cX7_keep 34 = .ok (.ireturn, 1) := dw_172 (kcX7_keep_0 34 172 rfl)
theorem dX7_keep_18 : decode cX7_keep 18 = .ok (.iconst 0, 1) := dw_3 (kcX7_keep_0 18 3 rfl)
theorem dX7_keep_19 : decode cX7_keep 19 = .ok (.ireturn, 1) := dw_172 (kcX7_keep_0 19 172 rfl)
theorem kcX7_sound_0 : CHb cX7_sound 0 [42, 42, 27, 182, 0, 120, 154, 0, 7, 4, 167, 0, 17, 42, 27, 28, 182, 0, 124, 154, 0, 7, 5, 167, 0, 4, 3, 181, 0, 116, 42, 180, 0, 116, 158, 0, 7, 2, 167, 0, 17, 42, 27, 28, 182, 0, 161, 153, 0, 7, 4, 167, 0, 4, 3, 172] := CHb_of (by decide +kernel)
theorem dX7_sound_0 : decode cX7_sound 0 = .ok (.aload_n 0, 1) := dw_42 (kcX7_sound_0 0 42 rfl)
theorem dX7_sound_1 : decode cX7_sound 1 = .ok (.aload_n 0, 1) := dw_42 (kcX7_sound_0 1 42 rfl)
theorem dX7_sound_2 : decode cX7_sound 2 = .ok (.iload_n 1, 1) := dw_27 (kcX7_sound_0 2 27 rfl)
theorem dX7_sound_3 : decode cX7_sound 3 = .ok (.invokevirtual 120, 3) := dw_182 (kcX7_sound_0 3 182 rfl) (kcX7_sound_0 4 0 rfl) (kcX7_sound_0 5 120 rfl) rfl
theorem dX7_sound_6 : decode cX7_sound 6 = .ok (.ifCond .ne 7, 3) := dw_154 (kcX7_sound_0 6 154 rfl) (kcX7_sound_0 7 0 rfl) (kcX7_sound_0 8 7 rfl) rfl
theorem dX7_sound_13 : decode cX7_sound 13 = .ok (.aload_n 0, 1) := dw_42 (kcX7_sound_0 13 42 rfl)
theorem dX7_sound_14 : decode cX7_sound 14 = .ok (.iload_n 1, 1) := dw_27 (kcX7_sound_0 14 27 rfl)
theorem dX7_sound_15 : decode cX7_sound 15 = .ok (.iload_n 2, 1) := dw_28 (kcX7_sound_0 15 28 rfl)
theorem dX7_sound_16 : decode cX7_sound 16 = .ok (.invokevirtual 124, 3) := dw_182 (kcX7_sound_0 16 182 rfl) (kcX7_sound_0 17 0 rfl) (kcX7_sound_0 18 124 rfl) rfl
theorem dX7_sound_19 : decode cX7_sound 19 = .ok (.ifCond .ne 7, 3) := dw_154 (kcX7_sound_0 19 154 rfl) (kcX7_sound_0 20 0 rfl) (kcX7_sound_0 21 7 rfl) rfl
theorem dX7_sound_26 : decode cX7_sound 26 = .ok (.iconst 0, 1) := dw_3 (kcX7_sound_0 26 3 rfl)
theorem dX7_sound_27 : decode cX7_sound 27 = .ok (.putfield 116, 3) := dw_181 (kcX7_sound_0 27 181 rfl) (kcX7_sound_0 28 0 rfl) (kcX7_sound_0 29 116 rfl) rfl
theorem dX7_sound_30 : decode cX7_sound 30 = .ok (.aload_n 0, 1) := dw_42 (kcX7_sound_0 30 42 rfl)
theorem dX7_sound_31 : decode cX7_sound 31 = .ok (.getfield 116, 3) := dw_180 (kcX7_sound_0 31 180 rfl) (kcX7_sound_0 32 0 rfl) (kcX7_sound_0 33 116 rfl) rfl
theorem dX7_sound_34 : decode cX7_sound 34 = .ok (.ifCond .le 7, 3) := dw_158 (kcX7_sound_0 34 158 rfl) (kcX7_sound_0 35 0 rfl) (kcX7_sound_0 36 7 rfl) rfl
theorem dX7_sound_41 : decode cX7_sound 41 = .ok (.aload_n 0, 1) := dw_42 (kcX7_sound_0 41 42 rfl)
theorem dX7_sound_42 : decode cX7_sound 42 = .ok (.iload_n 1, 1) := dw_27 (kcX7_sound_0 42 27 rfl)
theorem dX7_sound_43 : decode cX7_sound 43 = .ok (.iload_n 2, 1) := dw_28 (kcX7_sound_0 43 28 rfl)
theorem dX7_sound_44 : decode cX7_sound 44 = .ok (.invokevirtual 161, 3) := dw_182 (kcX7_sound_0 44 182 rfl) (kcX7_sound_0 45 0 rfl) (kcX7_sound_0 46 161 rfl) rfl
theorem dX7_sound_47 : decode cX7_sound 47 = .ok (.ifCond .eq 7, 3) := dw_153 (kcX7_sound_0 47 153 rfl) (kcX7_sound_0 48 0 rfl) (kcX7_sound_0 49 7 rfl) rfl
theorem dX7_sound_54 : decode cX7_sound 54 = .ok (.iconst 0, 1) := dw_3 (kcX7_sound_0 54 3 rfl)
theorem dX7_sound_55 : decode cX7_sound 55 = .ok (.ireturn, 1) := dw_172 (kcX7_sound_0 55 172 rfl)
theorem dX7_sound_50 : decode cX7_sound 50 = .ok (.iconst 1, 1) := dw_4 (kcX7_sound_0 50 4 rfl)
theorem dX7_sound_51 : decode cX7_sound 51 = .ok (.goto 4, 3) := dw_167 (kcX7_sound_0 51 167 rfl) (kcX7_sound_0 52 0 rfl) (kcX7_sound_0 53 4 rfl) rfl
theorem dX7_sound_22 : decode cX7_sound 22 = .ok (.iconst 2, 1) := dw_5 (kcX7_sound_0 22 5 rfl)
theorem dX7_sound_23 : decode cX7_sound 23 = .ok (.goto 4, 3) := dw_167 (kcX7_sound_0 23 167 rfl) (kcX7_sound_0 24 0 rfl) (kcX7_sound_0 25 4 rfl) rfl
theorem dX7_sound_37 : decode cX7_sound 37 = .ok (.iconst (-1), 1) := dw_2 (kcX7_sound_0 37 2 rfl)
theorem dX7_sound_38 : decode cX7_sound 38 = .ok (.goto 17, 3) := dw_167 (kcX7_sound_0 38 167 rfl) (kcX7_sound_0 39 0 rfl) (kcX7_sound_0 40 17 rfl) rfl
theorem dX7_sound_9 : decode cX7_sound 9 = .ok (.iconst 1, 1) := dw_4 (kcX7_sound_0 9 4 rfl)
theorem dX7_sound_10 : decode cX7_sound 10 = .ok (.goto 17, 3) := dw_167 (kcX7_sound_0 10 167 rfl) (kcX7_sound_0 11 0 rfl) (kcX7_sound_0 12 17 rfl) rfl
theorem kcX7_sum_0 : CHb cX7_sum 0 [42, 42, 27, 182, 0, 120, 154, 0, 7, 4, 167, 0, 31, 42, 27, 28, 182, 0, 124, 154, 0, 7, 5, 167, 0, 18, 42, 27, 28, 182, 0, 161, 154, 0, 8, 16, 11, 167, 0, 4, 3, 181, 0, 116, 42, 180, 0, 116, 158, 0, 7, 2, 167, 0, 9, 42, 27, 28, 182, 0, 164, 172] := CHb_of (by decide +kernel)
theorem dX7_sum_0 : decode cX7_sum 0 = .ok (.aload_n 0, 1) := dw_42 (kcX7_sum_0 0 42 rfl)
theorem dX7_sum_1 : decode cX7_sum 1 = .ok (.aload_n 0, 1) := dw_42 (kcX7_sum_0 1 42 rfl)
theorem dX7_sum_2 : decode cX7_sum 2 = .ok (.iload_n 1, 1) := dw_27 (kcX7_sum_0 2 27 rfl)
theorem dX7_sum_3 : decode cX7_sum 3 = .ok (.invokevirtual 120, 3) := dw_182 (kcX7_sum_0 3 182 rfl) (kcX7_sum_0 4 0 rfl) (kcX7_sum_0 5 120 rfl) rfl
theorem dX7_sum_6 : decode cX7_sum 6 = .ok (.ifCond .ne 7, 3) := dw_154 (kcX7_sum_0 6 154 rfl) (kcX7_sum_0 7 0 rfl) (kcX7_sum_0 8 7 rfl) rfl
theorem dX7_sum_13 : decode cX7_sum 13 = .ok (.aload_n 0, 1) := dw_42 (kcX7_sum_0 13 42 rfl)
theorem dX7_sum_14 : decode cX7_sum 14 = .ok (.iload_n 1, 1) := dw_27 (kcX7_sum_0 14 27 rfl)
theorem dX7_sum_15 : decode cX7_sum 15 = .ok (.iload_n 2, 1) := dw_28 (kcX7_sum_0 15 28 rfl)
theorem dX7_sum_16 : decode cX7_sum 16 = .ok (.invokevirtual 124, 3) := dw_182 (kcX7_sum_0 16 182 rfl) (kcX7_sum_0 17 0 rfl) (kcX7_sum_0 18 124 rfl) rfl
theorem dX7_sum_19 : decode cX7_sum 19 = .ok (.ifCond .ne 7, 3) := dw_154 (kcX7_sum_0 19 154 rfl) (kcX7_sum_0 20 0 rfl) (kcX7_sum_0 21 7 rfl) rfl
theorem dX7_sum_26 : decode cX7_sum 26 = .ok (.aload_n 0, 1) := dw_42 (kcX7_sum_0 26 42 rfl)
theorem dX7_sum_27 : decode cX7_sum 27 = .ok (.iload_n 1, 1) := dw_27 (kcX7_sum_0 27 27 rfl)
theorem dX7_sum_28 : decode cX7_sum 28 = .ok (.iload_n 2, 1) := dw_28 (kcX7_sum_0 28 28 rfl)
theorem dX7_sum_29 : decode cX7_sum 29 = .ok (.invokevirtual 161, 3) := dw_182 (kcX7_sum_0 29 182 rfl) (kcX7_sum_0 30 0 rfl) (kcX7_sum_0 31 161 rfl) rfl
theorem dX7_sum_32 : decode cX7_sum 32 = .ok (.ifCond .ne 8, 3) := dw_154 (kcX7_sum_0 32 154 rfl) (kcX7_sum_0 33 0 rfl) (kcX7_sum_0 34 8 rfl) rfl
theorem dX7_sum_40 : decode cX7_sum 40 = .ok (.iconst 0, 1) := dw_3 (kcX7_sum_0 40 3 rfl)
theorem dX7_sum_41 : decode cX7_sum 41 = .ok (.putfield 116, 3) := dw_181 (kcX7_sum_0 41 181 rfl) (kcX7_sum_0 42 0 rfl) (kcX7_sum_0 43 116 rfl) rfl
theorem dX7_sum_44 : decode cX7_sum 44 = .ok (.aload_n 0, 1) := dw_42 (kcX7_sum_0 44 42 rfl)
theorem dX7_sum_45 : decode cX7_sum 45 = .ok (.getfield 116, 3) := dw_180 (kcX7_sum_0 45 180 rfl) (kcX7_sum_0 46 0 rfl) (kcX7_sum_0 47 116 rfl) rfl
theorem dX7_sum_48 : decode cX7_sum 48 = .ok (.ifCond .le 7, 3) := dw_158 (kcX7_sum_0 48 158 rfl) (kcX7_sum_0 49 0 rfl) (kcX7_sum_0 50 7 rfl) rfl
theorem dX7_sum_55 : decode cX7_sum 55 = .ok (.aload_n 0, 1) := dw_42 (kcX7_sum_0 55 42 rfl)
theorem dX7_sum_56 : decode cX7_sum 56 = .ok (.iload_n 1, 1) := dw_27 (kcX7_sum_0 56 27 rfl)
theorem dX7_sum_57 : decode cX7_sum 57 = .ok (.iload_n 2, 1) := dw_28 (kcX7_sum_0 57 28 rfl)
theorem dX7_sum_58 : decode cX7_sum 58 = .ok (.invokevirtual 164, 3) := dw_182 (kcX7_sum_0 58 182 rfl) (kcX7_sum_0 59 0 rfl) (kcX7_sum_0 60 164 rfl) rfl
theorem dX7_sum_61 : decode cX7_sum 61 = .ok (.ireturn, 1) := dw_172 (kcX7_sum_0 61 172 rfl)
theorem dX7_sum_35 : decode cX7_sum 35 = .ok (.bipush 11, 2) := dw_16 (kcX7_sum_0 35 16 rfl) (kcX7_sum_0 36 11 rfl) rfl
theorem dX7_sum_37 : decode cX7_sum 37 = .ok (.goto 4, 3) := dw_167 (kcX7_sum_0 37 167 rfl) (kcX7_sum_0 38 0 rfl) (kcX7_sum_0 39 4 rfl) rfl
theorem dX7_sum_51 : decode cX7_sum 51 = .ok (.iconst (-1), 1) := dw_2 (kcX7_sum_0 51 2 rfl)
theorem dX7_sum_52 : decode cX7_sum 52 = .ok (.goto 9, 3) := dw_167 (kcX7_sum_0 52 167 rfl) (kcX7_sum_0 53 0 rfl) (kcX7_sum_0 54 9 rfl) rfl
theorem dX7_sum_22 : decode cX7_sum 22 = .ok (.iconst 2, 1) := dw_5 (kcX7_sum_0 22 5 rfl)
theorem dX7_sum_23 : decode cX7_sum 23 = .ok (.goto 18, 3) := dw_167 (kcX7_sum_0 23 167 rfl) (kcX7_sum_0 24 0 rfl) (kcX7_sum_0 25 18 rfl) rfl
theorem dX7_sum_9 : decode cX7_sum 9 = .ok (.iconst 1, 1) := dw_4 (kcX7_sum_0 9 4 rfl)
theorem dX7_sum_10 : decode cX7_sum 10 = .ok (.goto 31, 3) := dw_167 (kcX7_sum_0 10 167 rfl) (kcX7_sum_0 11 0 rfl) (kcX7_sum_0 12 31 rfl) rfl
theorem kcX7_total_0 : CHb cX7_total 0 [42, 42, 27, 182, 0, 120, 154, 0, 7, 4, 167, 0, 40, 42, 27, 28, 182, 0, 124, 153, 0, 12, 42, 27, 29, 182, 0, 128, 154, 0, 7, 5, 167, 0, 18, 42, 27, 28, 182, 0, 161, 154, 0, 8, 16, 11, 167, 0, 4, 3, 181, 0, 116, 42, 180, 0, 116, 158, 0, 5, 2, 172, 42, 27] := CHb_of (by decide +kernel)
theorem dX7_total_0 : decode cX7_total 0 = .ok (.aload_n 0, 1) := dw_42 (kcX7_total_0 0 42 rfl)
theorem dX7_total_1 : decode cX7_total 1 = .ok (.aload_n 0, 1) := dw_42 (kcX7_total_0 1 42 rfl)
theorem dX7_total_2 : decode cX7_total 2 = .ok (.iload_n 1, 1) := dw_27 (kcX7_total_0 2 27 rfl)
theorem dX7_total_3 : decode cX7_total 3 = .ok (.invokevirtual 120, 3) := dw_182 (kcX7_total_0 3 182 rfl) (kcX7_total_0 4 0 rfl) (kcX7_total_0 5 120 rfl) rfl
theorem dX7_total_6 : decode cX7_total 6 = .ok (.ifCond .ne 7, 3) := dw_154 (kcX7_total_0 6 154 rfl) (kcX7_total_0 7 0 rfl) (kcX7_total_0 8 7 rfl) rfl
theorem dX7_total_13 : decode cX7_total 13 = .ok (.aload_n 0, 1) := dw_42 (kcX7_total_0 13 42 rfl)
theorem dX7_total_14 : decode cX7_total 14 = .ok (.iload_n 1, 1) := dw_27 (kcX7_total_0 14 27 rfl)
theorem dX7_total_15 : decode cX7_total 15 = .ok (.iload_n 2, 1) := dw_28 (kcX7_total_0 15 28 rfl)
theorem dX7_total_16 : decode cX7_total 16 = .ok (.invokevirtual 124, 3) := dw_182 (kcX7_total_0 16 182 rfl) (kcX7_total_0 17 0 rfl) (kcX7_total_0 18 124 rfl) rfl
theorem dX7_total_19 : decode cX7_total 19 = .ok (.ifCond .eq 12, 3) := dw_153 (kcX7_total_0 19 153 rfl) (kcX7_total_0 20 0 rfl) (kcX7_total_0 21 12 rfl) rfl
theorem dX7_total_31 : decode cX7_total 31 = .ok (.iconst 2, 1) := dw_5 (kcX7_total_0 31 5 rfl)
theorem dX7_total_32 : decode cX7_total 32 = .ok (.goto 18, 3) := dw_167 (kcX7_total_0 32 167 rfl) (kcX7_total_0 33 0 rfl) (kcX7_total_0 34 18 rfl) rfl
theorem dX7_total_50 : decode cX7_total 50 = .ok (.putfield 116, 3) := dw_181 (kcX7_total_0 50 181 rfl) (kcX7_total_0 51 0 rfl) (kcX7_total_0 52 116 rfl) rfl
theorem dX7_total_53 : decode cX7_total 53 = .ok (.aload_n 0, 1) := dw_42 (kcX7_total_0 53 42 rfl)
theorem dX7_total_54 : decode cX7_total 54 = .ok (.getfield 116, 3) := dw_180 (kcX7_total_0 54 180 rfl) (kcX7_total_0 55 0 rfl) (kcX7_total_0 56 116 rfl) rfl
theorem dX7_total_57 : decode cX7_total 57 = .ok (.ifCond .le 5, 3) := dw_158 (kcX7_total_0 57 158 rfl) (kcX7_total_0 58 0 rfl) (kcX7_total_0 59 5 rfl) rfl
theorem dX7_total_60 : decode cX7_total 60 = .ok (.iconst (-1), 1) := dw_2 (kcX7_total_0 60 2 rfl)
theorem dX7_total_61 : decode cX7_total 61 = .ok (.ireturn, 1) := dw_172 (kcX7_total_0 61 172 rfl)
theorem dX7_total_22 : decode cX7_total 22 = .ok (.aload_n 0, 1) := dw_42 (kcX7_total_0 22 42 rfl)
theorem dX7_total_23 : decode cX7_total 23 = .ok (.iload_n 1, 1) := dw_27 (kcX7_total_0 23 27 rfl)
theorem dX7_total_24 : decode cX7_total 24 = .ok (.iload_n 3, 1) := dw_29 (kcX7_total_0 24 29 rfl)
theorem dX7_total_25 : decode cX7_total 25 = .ok (.invokevirtual 128, 3) := dw_182 (kcX7_total_0 25 182 rfl) (kcX7_total_0 26 0 rfl) (kcX7_total_0 27 128 rfl) rfl
theorem dX7_total_28 : decode cX7_total 28 = .ok (.ifCond .ne 7, 3) := dw_154 (kcX7_total_0 28 154 rfl) (kcX7_total_0 29 0 rfl) (kcX7_total_0 30 7 rfl) rfl
theorem dX7_total_35 : decode cX7_total 35 = .ok (.aload_n 0, 1) := dw_42 (kcX7_total_0 35 42 rfl)
theorem dX7_total_36 : decode cX7_total 36 = .ok (.iload_n 1, 1) := dw_27 (kcX7_total_0 36 27 rfl)
theorem dX7_total_37 : decode cX7_total 37 = .ok (.iload_n 2, 1) := dw_28 (kcX7_total_0 37 28 rfl)
theorem dX7_total_38 : decode cX7_total 38 = .ok (.invokevirtual 161, 3) := dw_182 (kcX7_total_0 38 182 rfl) (kcX7_total_0 39 0 rfl) (kcX7_total_0 40 161 rfl) rfl
theorem dX7_total_41 : decode cX7_total 41 = .ok (.ifCond .ne 8, 3) := dw_154 (kcX7_total_0 41 154 rfl) (kcX7_total_0 42 0 rfl) (kcX7_total_0 43 8 rfl) rfl
theorem dX7_total_49 : decode cX7_total 49 = .ok (.iconst 0, 1) := dw_3 (kcX7_total_0 49 3 rfl)
theorem dX7_total_62 : decode cX7_total 62 = .ok (.aload_n 0, 1) := dw_42 (kcX7_total_0 62 42 rfl)
theorem dX7_total_63 : decode cX7_total 63 = .ok (.iload_n 1, 1) := dw_27 (kcX7_total_0 63 27 rfl)
theorem kcX7_total_1 : CHb cX7_total 64 [28, 182, 0, 168, 54, 4, 3, 54, 5, 3, 54, 6, 21, 6, 42, 180, 0, 13, 27, 46, 162, 0, 48, 42, 27, 21, 6, 182, 0, 161, 153, 0, 32, 42, 27, 21, 6, 182, 0, 168, 21, 4, 160, 0, 20, 21, 5, 42, 180, 0, 26, 27, 21, 6, 29, 184, 0, 147, 46, 96, 54, 5, 132, 6] := CHb_of (by decide +kernel)
theorem dX7_total_64 : decode cX7_total 64 = .ok (.iload_n 2, 1) := dw_28 (kcX7_total_1 0 28 rfl)
theorem dX7_total_65 : decode cX7_total 65 = .ok (.invokevirtual 168, 3) := dw_182 (kcX7_total_1 1 182 rfl) (kcX7_total_1 2 0 rfl) (kcX7_total_1 3 168 rfl) rfl
theorem dX7_total_68 : decode cX7_total 68 = .ok (.istore 4, 2) := dw_54 (kcX7_total_1 4 54 rfl) (kcX7_total_1 5 4 rfl)
theorem dX7_total_70 : decode cX7_total 70 = .ok (.iconst 0, 1) := dw_3 (kcX7_total_1 6 3 rfl)
theorem dX7_total_71 : decode cX7_total 71 = .ok (.istore 5, 2) := dw_54 (kcX7_total_1 7 54 rfl) (kcX7_total_1 8 5 rfl)
theorem dX7_total_73 : decode cX7_total 73 = .ok (.iconst 0, 1) := dw_3 (kcX7_total_1 9 3 rfl)
theorem dX7_total_74 : decode cX7_total 74 = .ok (.istore 6, 2) := dw_54 (kcX7_total_1 10 54 rfl) (kcX7_total_1 11 6 rfl)
theorem dX7_total_76 : decode cX7_total 76 = .ok (.iload 6, 2) := dw_21 (kcX7_total_1 12 21 rfl) (kcX7_total_1 13 6 rfl)
theorem dX7_total_78 : decode cX7_total 78 = .ok (.aload_n 0, 1) := dw_42 (kcX7_total_1 14 42 rfl)
theorem dX7_total_79 : decode cX7_total 79 = .ok (.getfield 13, 3) := dw_180 (kcX7_total_1 15 180 rfl) (kcX7_total_1 16 0 rfl) (kcX7_total_1 17 13 rfl) rfl
theorem dX7_total_82 : decode cX7_total 82 = .ok (.iload_n 1, 1) := dw_27 (kcX7_total_1 18 27 rfl)
theorem dX7_total_83 : decode cX7_total 83 = .ok (.iaload, 1) := dw_46 (kcX7_total_1 19 46 rfl)
theorem dX7_total_84 : decode cX7_total 84 = .ok (.if_icmp .ge 48, 3) := dw_162 (kcX7_total_1 20 162 rfl) (kcX7_total_1 21 0 rfl) (kcX7_total_1 22 48 rfl) rfl
theorem dX7_total_87 : decode cX7_total 87 = .ok (.aload_n 0, 1) := dw_42 (kcX7_total_1 23 42 rfl)
theorem dX7_total_88 : decode cX7_total 88 = .ok (.iload_n 1, 1) := dw_27 (kcX7_total_1 24 27 rfl)
theorem dX7_total_89 : decode cX7_total 89 = .ok (.iload 6, 2) := dw_21 (kcX7_total_1 25 21 rfl) (kcX7_total_1 26 6 rfl)
theorem dX7_total_91 : decode cX7_total 91 = .ok (.invokevirtual 161, 3) := dw_182 (kcX7_total_1 27 182 rfl) (kcX7_total_1 28 0 rfl) (kcX7_total_1 29 161 rfl) rfl
theorem dX7_total_94 : decode cX7_total 94 = .ok (.ifCond .eq 32, 3) := dw_153 (kcX7_total_1 30 153 rfl) (kcX7_total_1 31 0 rfl) (kcX7_total_1 32 32 rfl) rfl
theorem kcX7_total_2 : CHb cX7_total 128 [1, 167, 255, 203, 21, 5, 172] := CHb_of (by decide +kernel)
theorem dX7_total_126 : decode cX7_total 126 = .ok (.iinc 6 1, 3) := dw_132 (kcX7_total_1 62 132 rfl) (kcX7_total_1 63 6 rfl) (kcX7_total_2 0 1 rfl) rfl
theorem dX7_total_129 : decode cX7_total 129 = .ok (.goto (-53), 3) := dw_167 (kcX7_total_2 1 167 rfl) (kcX7_total_2 2 255 rfl) (kcX7_total_2 3 203 rfl) rfl
theorem dX7_total_97 : decode cX7_total 97 = .ok (.aload_n 0, 1) := dw_42 (kcX7_total_1 33 42 rfl)
theorem dX7_total_98 : decode cX7_total 98 = .ok (.iload_n 1, 1) := dw_27 (kcX7_total_1 34 27 rfl)
theorem dX7_total_99 : decode cX7_total 99 = .ok (.iload 6, 2) := dw_21 (kcX7_total_1 35 21 rfl) (kcX7_total_1 36 6 rfl)
theorem dX7_total_101 : decode cX7_total 101 = .ok (.invokevirtual 168, 3) := dw_182 (kcX7_total_1 37 182 rfl) (kcX7_total_1 38 0 rfl) (kcX7_total_1 39 168 rfl) rfl
theorem dX7_total_104 : decode cX7_total 104 = .ok (.iload 4, 2) := dw_21 (kcX7_total_1 40 21 rfl) (kcX7_total_1 41 4 rfl)
theorem dX7_total_106 : decode cX7_total 106 = .ok (.if_icmp .ne 20, 3) := dw_160 (kcX7_total_1 42 160 rfl) (kcX7_total_1 43 0 rfl) (kcX7_total_1 44 20 rfl) rfl
theorem dX7_total_109 : decode cX7_total 109 = .ok (.iload 5, 2) := dw_21 (kcX7_total_1 45 21 rfl) (kcX7_total_1 46 5 rfl)
theorem dX7_total_111 : decode cX7_total 111 = .ok (.aload_n 0, 1) := dw_42 (kcX7_total_1 47 42 rfl)
theorem dX7_total_112 : decode cX7_total 112 = .ok (.getfield 26, 3) := dw_180 (kcX7_total_1 48 180 rfl) (kcX7_total_1 49 0 rfl) (kcX7_total_1 50 26 rfl) rfl
theorem dX7_total_115 : decode cX7_total 115 = .ok (.iload_n 1, 1) := dw_27 (kcX7_total_1 51 27 rfl)
theorem dX7_total_116 : decode cX7_total 116 = .ok (.iload 6, 2) := dw_21 (kcX7_total_1 52 21 rfl) (kcX7_total_1 53 6 rfl)
theorem dX7_total_118 : decode cX7_total 118 = .ok (.iload_n 3, 1) := dw_29 (kcX7_total_1 54 29 rfl)
theorem dX7_total_119 : decode cX7_total 119 = .ok (.invokestatic 147, 3) := dw_184 (kcX7_total_1 55 184 rfl) (kcX7_total_1 56 0 rfl) (kcX7_total_1 57 147 rfl) rfl
theorem dX7_total_122 : decode cX7_total 122 = .ok (.iaload, 1) := dw_46 (kcX7_total_1 58 46 rfl)
theorem dX7_total_123 : decode cX7_total 123 = .ok (.iadd, 1) := dw_96 (kcX7_total_1 59 96 rfl)
theorem dX7_total_124 : decode cX7_total 124 = .ok (.istore 5, 2) := dw_54 (kcX7_total_1 60 54 rfl) (kcX7_total_1 61 5 rfl)
theorem dX7_total_132 : decode cX7_total 132 = .ok (.iload 5, 2) := dw_21 (kcX7_total_2 4 21 rfl) (kcX7_total_2 5 5 rfl)
theorem dX7_total_134 : decode cX7_total 134 = .ok (.ireturn, 1) := dw_172 (kcX7_total_2 6 172 rfl)
theorem dX7_total_44 : decode cX7_total 44 = .ok (.bipush 11, 2) := dw_16 (kcX7_total_0 44 16 rfl) (kcX7_total_0 45 11 rfl) rfl
theorem dX7_total_46 : decode cX7_total 46 = .ok (.goto 4, 3) := dw_167 (kcX7_total_0 46 167 rfl) (kcX7_total_0 47 0 rfl) (kcX7_total_0 48 4 rfl) rfl
theorem dX7_total_9 : decode cX7_total 9 = .ok (.iconst 1, 1) := dw_4 (kcX7_total_0 9 4 rfl)
theorem dX7_total_10 : decode cX7_total 10 = .ok (.goto 40, 3) := dw_167 (kcX7_total_0 10 167 rfl) (kcX7_total_0 11 0 rfl) (kcX7_total_0 12 40 rfl) rfl
theorem kcX7_secret_0 : CHb cX7_secret 0 [42, 42, 27, 28, 29, 182, 0, 178, 181, 0, 116, 42, 180, 0, 116, 158, 0, 7, 2, 167, 0, 14, 42, 27, 27, 28, 29, 184, 0, 147, 182, 0, 175, 172] := CHb_of (by decide +kernel)
theorem dX7_secret_0 : decode cX7_secret 0 = .ok (.aload_n 0, 1) := dw_42 (kcX7_secret_0 0 42 rfl)
theorem dX7_secret_1 : decode cX7_secret 1 = .ok (.aload_n 0, 1) := dw_42 (kcX7_secret_0 1 42 rfl)
theorem dX7_secret_2 : decode cX7_secret 2 = .ok (.iload_n 1, 1) := dw_27 (kcX7_secret_0 2 27 rfl)
theorem dX7_secret_3 : decode cX7_secret 3 = .ok (.iload_n 2, 1) := dw_28 (kcX7_secret_0 3 28 rfl)
theorem dX7_secret_4 : decode cX7_secret 4 = .ok (.iload_n 3, 1) := dw_29 (kcX7_secret_0 4 29 rfl)
theorem dX7_secret_5 : decode cX7_secret 5 = .ok (.invokevirtual 178, 3) := dw_182 (kcX7_secret_0 5 182 rfl) (kcX7_secret_0 6 0 rfl) (kcX7_secret_0 7 178 rfl) rfl
theorem dX7_secret_8 : decode cX7_secret 8 = .ok (.putfield 116, 3) := dw_181 (kcX7_secret_0 8 181 rfl) (kcX7_secret_0 9 0 rfl) (kcX7_secret_0 10 116 rfl) rfl
theorem dX7_secret_11 : decode cX7_secret 11 = .ok (.aload_n 0, 1) := dw_42 (kcX7_secret_0 11 42 rfl)
theorem dX7_secret_12 : decode cX7_secret 12 = .ok (.getfield 116, 3) := dw_180 (kcX7_secret_0 12 180 rfl) (kcX7_secret_0 13 0 rfl) (kcX7_secret_0 14 116 rfl) rfl
theorem dX7_secret_15 : decode cX7_secret 15 = .ok (.ifCond .le 7, 3) := dw_158 (kcX7_secret_0 15 158 rfl) (kcX7_secret_0 16 0 rfl) (kcX7_secret_0 17 7 rfl) rfl
theorem dX7_secret_22 : decode cX7_secret 22 = .ok (.aload_n 0, 1) := dw_42 (kcX7_secret_0 22 42 rfl)
theorem dX7_secret_23 : decode cX7_secret 23 = .ok (.iload_n 1, 1) := dw_27 (kcX7_secret_0 23 27 rfl)
theorem dX7_secret_24 : decode cX7_secret 24 = .ok (.iload_n 1, 1) := dw_27 (kcX7_secret_0 24 27 rfl)
theorem dX7_secret_25 : decode cX7_secret 25 = .ok (.iload_n 2, 1) := dw_28 (kcX7_secret_0 25 28 rfl)
theorem dX7_secret_26 : decode cX7_secret 26 = .ok (.iload_n 3, 1) := dw_29 (kcX7_secret_0 26 29 rfl)
theorem dX7_secret_27 : decode cX7_secret 27 = .ok (.invokestatic 147, 3) := dw_184 (kcX7_secret_0 27 184 rfl) (kcX7_secret_0 28 0 rfl) (kcX7_secret_0 29 147 rfl) rfl
theorem dX7_secret_30 : decode cX7_secret 30 = .ok (.invokevirtual 175, 3) := dw_182 (kcX7_secret_0 30 182 rfl) (kcX7_secret_0 31 0 rfl) (kcX7_secret_0 32 175 rfl) rfl
theorem dX7_secret_33 : decode cX7_secret 33 = .ok (.ireturn, 1) := dw_172 (kcX7_secret_0 33 172 rfl)
theorem dX7_secret_18 : decode cX7_secret 18 = .ok (.iconst (-1), 1) := dw_2 (kcX7_secret_0 18 2 rfl)
theorem dX7_secret_19 : decode cX7_secret 19 = .ok (.goto 14, 3) := dw_167 (kcX7_secret_0 19 167 rfl) (kcX7_secret_0 20 0 rfl) (kcX7_secret_0 21 14 rfl) rfl
theorem kcX7_kept_0 : CHb cX7_kept 0 [42, 42, 27, 28, 29, 182, 0, 178, 181, 0, 116, 42, 180, 0, 116, 158, 0, 7, 2, 167, 0, 22, 42, 27, 27, 28, 29, 184, 0, 147, 182, 0, 181, 153, 0, 7, 4, 167, 0, 4, 3, 172] := CHb_of (by decide +kernel)
theorem dX7_kept_0 : decode cX7_kept 0 = .ok (.aload_n 0, 1) := dw_42 (kcX7_kept_0 0 42 rfl)
theorem dX7_kept_1 : decode cX7_kept 1 = .ok (.aload_n 0, 1) := dw_42 (kcX7_kept_0 1 42 rfl)
theorem dX7_kept_2 : decode cX7_kept 2 = .ok (.iload_n 1, 1) := dw_27 (kcX7_kept_0 2 27 rfl)
theorem dX7_kept_3 : decode cX7_kept 3 = .ok (.iload_n 2, 1) := dw_28 (kcX7_kept_0 3 28 rfl)
theorem dX7_kept_4 : decode cX7_kept 4 = .ok (.iload_n 3, 1) := dw_29 (kcX7_kept_0 4 29 rfl)
theorem dX7_kept_5 : decode cX7_kept 5 = .ok (.invokevirtual 178, 3) := dw_182 (kcX7_kept_0 5 182 rfl) (kcX7_kept_0 6 0 rfl) (kcX7_kept_0 7 178 rfl) rfl
theorem dX7_kept_8 : decode cX7_kept 8 = .ok (.putfield 116, 3) := dw_181 (kcX7_kept_0 8 181 rfl) (kcX7_kept_0 9 0 rfl) (kcX7_kept_0 10 116 rfl) rfl
theorem dX7_kept_11 : decode cX7_kept 11 = .ok (.aload_n 0, 1) := dw_42 (kcX7_kept_0 11 42 rfl)
theorem dX7_kept_12 : decode cX7_kept 12 = .ok (.getfield 116, 3) := dw_180 (kcX7_kept_0 12 180 rfl) (kcX7_kept_0 13 0 rfl) (kcX7_kept_0 14 116 rfl) rfl
theorem dX7_kept_15 : decode cX7_kept 15 = .ok (.ifCond .le 7, 3) := dw_158 (kcX7_kept_0 15 158 rfl) (kcX7_kept_0 16 0 rfl) (kcX7_kept_0 17 7 rfl) rfl
theorem dX7_kept_22 : decode cX7_kept 22 = .ok (.aload_n 0, 1) := dw_42 (kcX7_kept_0 22 42 rfl)
theorem dX7_kept_23 : decode cX7_kept 23 = .ok (.iload_n 1, 1) := dw_27 (kcX7_kept_0 23 27 rfl)
theorem dX7_kept_24 : decode cX7_kept 24 = .ok (.iload_n 1, 1) := dw_27 (kcX7_kept_0 24 27 rfl)
theorem dX7_kept_25 : decode cX7_kept 25 = .ok (.iload_n 2, 1) := dw_28 (kcX7_kept_0 25 28 rfl)
theorem dX7_kept_26 : decode cX7_kept 26 = .ok (.iload_n 3, 1) := dw_29 (kcX7_kept_0 26 29 rfl)
theorem dX7_kept_27 : decode cX7_kept 27 = .ok (.invokestatic 147, 3) := dw_184 (kcX7_kept_0 27 184 rfl) (kcX7_kept_0 28 0 rfl) (kcX7_kept_0 29 147 rfl) rfl
theorem dX7_kept_30 : decode cX7_kept 30 = .ok (.invokevirtual 181, 3) := dw_182 (kcX7_kept_0 30 182 rfl) (kcX7_kept_0 31 0 rfl) (kcX7_kept_0 32 181 rfl) rfl
theorem dX7_kept_33 : decode cX7_kept 33 = .ok (.ifCond .eq 7, 3) := dw_153 (kcX7_kept_0 33 153 rfl) (kcX7_kept_0 34 0 rfl) (kcX7_kept_0 35 7 rfl) rfl
theorem dX7_kept_40 : decode cX7_kept 40 = .ok (.iconst 0, 1) := dw_3 (kcX7_kept_0 40 3 rfl)
theorem dX7_kept_41 : decode cX7_kept 41 = .ok (.ireturn, 1) := dw_172 (kcX7_kept_0 41 172 rfl)
theorem dX7_kept_36 : decode cX7_kept 36 = .ok (.iconst 1, 1) := dw_4 (kcX7_kept_0 36 4 rfl)
theorem dX7_kept_37 : decode cX7_kept 37 = .ok (.goto 4, 3) := dw_167 (kcX7_kept_0 37 167 rfl) (kcX7_kept_0 38 0 rfl) (kcX7_kept_0 39 4 rfl) rfl
theorem dX7_kept_18 : decode cX7_kept 18 = .ok (.iconst (-1), 1) := dw_2 (kcX7_kept_0 18 2 rfl)
theorem dX7_kept_19 : decode cX7_kept 19 = .ok (.goto 22, 3) := dw_167 (kcX7_kept_0 19 167 rfl) (kcX7_kept_0 20 0 rfl) (kcX7_kept_0 21 22 rfl) rfl
theorem kcX7_thousandthsOf_0 : CHb cX7_thousandthsOf 0 [42, 27, 28, 182, 0, 164, 54, 4, 21, 4, 154, 0, 7, 3, 167, 0, 24, 20, 0, 184, 42, 180, 0, 26, 27, 28, 29, 184, 0, 147, 46, 133, 105, 21, 4, 133, 109, 136, 172] := CHb_of (by decide +kernel)
theorem dX7_thousandthsOf_0 : decode cX7_thousandthsOf 0 = .ok (.aload_n 0, 1) := dw_42 (kcX7_thousandthsOf_0 0 42 rfl)
theorem dX7_thousandthsOf_1 : decode cX7_thousandthsOf 1 = .ok (.iload_n 1, 1) := dw_27 (kcX7_thousandthsOf_0 1 27 rfl)
theorem dX7_thousandthsOf_2 : decode cX7_thousandthsOf 2 = .ok (.iload_n 2, 1) := dw_28 (kcX7_thousandthsOf_0 2 28 rfl)
theorem dX7_thousandthsOf_3 : decode cX7_thousandthsOf 3 = .ok (.invokevirtual 164, 3) := dw_182 (kcX7_thousandthsOf_0 3 182 rfl) (kcX7_thousandthsOf_0 4 0 rfl) (kcX7_thousandthsOf_0 5 164 rfl) rfl
theorem dX7_thousandthsOf_6 : decode cX7_thousandthsOf 6 = .ok (.istore 4, 2) := dw_54 (kcX7_thousandthsOf_0 6 54 rfl) (kcX7_thousandthsOf_0 7 4 rfl)
theorem dX7_thousandthsOf_8 : decode cX7_thousandthsOf 8 = .ok (.iload 4, 2) := dw_21 (kcX7_thousandthsOf_0 8 21 rfl) (kcX7_thousandthsOf_0 9 4 rfl)
theorem dX7_thousandthsOf_10 : decode cX7_thousandthsOf 10 = .ok (.ifCond .ne 7, 3) := dw_154 (kcX7_thousandthsOf_0 10 154 rfl) (kcX7_thousandthsOf_0 11 0 rfl) (kcX7_thousandthsOf_0 12 7 rfl) rfl
theorem dX7_thousandthsOf_17 : decode cX7_thousandthsOf 17 = .ok (.ldc2_w 184, 3) := dw_20 (kcX7_thousandthsOf_0 17 20 rfl) (kcX7_thousandthsOf_0 18 0 rfl) (kcX7_thousandthsOf_0 19 184 rfl) rfl
theorem dX7_thousandthsOf_20 : decode cX7_thousandthsOf 20 = .ok (.aload_n 0, 1) := dw_42 (kcX7_thousandthsOf_0 20 42 rfl)
theorem dX7_thousandthsOf_21 : decode cX7_thousandthsOf 21 = .ok (.getfield 26, 3) := dw_180 (kcX7_thousandthsOf_0 21 180 rfl) (kcX7_thousandthsOf_0 22 0 rfl) (kcX7_thousandthsOf_0 23 26 rfl) rfl
theorem dX7_thousandthsOf_24 : decode cX7_thousandthsOf 24 = .ok (.iload_n 1, 1) := dw_27 (kcX7_thousandthsOf_0 24 27 rfl)
theorem dX7_thousandthsOf_25 : decode cX7_thousandthsOf 25 = .ok (.iload_n 2, 1) := dw_28 (kcX7_thousandthsOf_0 25 28 rfl)
theorem dX7_thousandthsOf_26 : decode cX7_thousandthsOf 26 = .ok (.iload_n 3, 1) := dw_29 (kcX7_thousandthsOf_0 26 29 rfl)
theorem dX7_thousandthsOf_27 : decode cX7_thousandthsOf 27 = .ok (.invokestatic 147, 3) := dw_184 (kcX7_thousandthsOf_0 27 184 rfl) (kcX7_thousandthsOf_0 28 0 rfl) (kcX7_thousandthsOf_0 29 147 rfl) rfl
theorem dX7_thousandthsOf_30 : decode cX7_thousandthsOf 30 = .ok (.iaload, 1) := dw_46 (kcX7_thousandthsOf_0 30 46 rfl)
theorem dX7_thousandthsOf_31 : decode cX7_thousandthsOf 31 = .ok (.i2l, 1) := dw_133 (kcX7_thousandthsOf_0 31 133 rfl)
theorem dX7_thousandthsOf_32 : decode cX7_thousandthsOf 32 = .ok (.lmul, 1) := dw_105 (kcX7_thousandthsOf_0 32 105 rfl)
theorem dX7_thousandthsOf_33 : decode cX7_thousandthsOf 33 = .ok (.iload 4, 2) := dw_21 (kcX7_thousandthsOf_0 33 21 rfl) (kcX7_thousandthsOf_0 34 4 rfl)
theorem dX7_thousandthsOf_35 : decode cX7_thousandthsOf 35 = .ok (.i2l, 1) := dw_133 (kcX7_thousandthsOf_0 35 133 rfl)
theorem dX7_thousandthsOf_36 : decode cX7_thousandthsOf 36 = .ok (.ldiv, 1) := dw_109 (kcX7_thousandthsOf_0 36 109 rfl)
theorem dX7_thousandthsOf_37 : decode cX7_thousandthsOf 37 = .ok (.l2i, 1) := dw_136 (kcX7_thousandthsOf_0 37 136 rfl)
theorem dX7_thousandthsOf_38 : decode cX7_thousandthsOf 38 = .ok (.ireturn, 1) := dw_172 (kcX7_thousandthsOf_0 38 172 rfl)
theorem dX7_thousandthsOf_13 : decode cX7_thousandthsOf 13 = .ok (.iconst 0, 1) := dw_3 (kcX7_thousandthsOf_0 13 3 rfl)
theorem dX7_thousandthsOf_14 : decode cX7_thousandthsOf 14 = .ok (.goto 24, 3) := dw_167 (kcX7_thousandthsOf_0 14 167 rfl) (kcX7_thousandthsOf_0 15 0 rfl) (kcX7_thousandthsOf_0 16 24 rfl) rfl
theorem kcX7_thousandths_0 : CHb cX7_thousandths 0 [42, 42, 27, 28, 29, 182, 0, 143, 181, 0, 116, 42, 180, 0, 116, 154, 0, 55, 42, 180, 0, 23, 27, 28, 29, 184, 0, 147, 46, 54, 4, 42, 21, 4, 154, 0, 7, 8, 167, 0, 29, 21, 4, 6, 159, 0, 8, 16, 6, 167, 0, 18, 42, 27, 28, 182, 0, 161, 154, 0, 8, 16, 11, 167] := CHb_of (by decide +kernel)
theorem dX7_thousandths_0 : decode cX7_thousandths 0 = .ok (.aload_n 0, 1) := dw_42 (kcX7_thousandths_0 0 42 rfl)
theorem dX7_thousandths_1 : decode cX7_thousandths 1 = .ok (.aload_n 0, 1) := dw_42 (kcX7_thousandths_0 1 42 rfl)
theorem dX7_thousandths_2 : decode cX7_thousandths 2 = .ok (.iload_n 1, 1) := dw_27 (kcX7_thousandths_0 2 27 rfl)
theorem dX7_thousandths_3 : decode cX7_thousandths 3 = .ok (.iload_n 2, 1) := dw_28 (kcX7_thousandths_0 3 28 rfl)
theorem dX7_thousandths_4 : decode cX7_thousandths 4 = .ok (.iload_n 3, 1) := dw_29 (kcX7_thousandths_0 4 29 rfl)
theorem dX7_thousandths_5 : decode cX7_thousandths 5 = .ok (.invokevirtual 143, 3) := dw_182 (kcX7_thousandths_0 5 182 rfl) (kcX7_thousandths_0 6 0 rfl) (kcX7_thousandths_0 7 143 rfl) rfl
theorem dX7_thousandths_8 : decode cX7_thousandths 8 = .ok (.putfield 116, 3) := dw_181 (kcX7_thousandths_0 8 181 rfl) (kcX7_thousandths_0 9 0 rfl) (kcX7_thousandths_0 10 116 rfl) rfl
theorem dX7_thousandths_11 : decode cX7_thousandths 11 = .ok (.aload_n 0, 1) := dw_42 (kcX7_thousandths_0 11 42 rfl)
theorem dX7_thousandths_12 : decode cX7_thousandths 12 = .ok (.getfield 116, 3) := dw_180 (kcX7_thousandths_0 12 180 rfl) (kcX7_thousandths_0 13 0 rfl) (kcX7_thousandths_0 14 116 rfl) rfl
theorem dX7_thousandths_15 : decode cX7_thousandths 15 = .ok (.ifCond .ne 55, 3) := dw_154 (kcX7_thousandths_0 15 154 rfl) (kcX7_thousandths_0 16 0 rfl) (kcX7_thousandths_0 17 55 rfl) rfl
theorem kcX7_thousandths_1 : CHb cX7_thousandths 64 [0, 4, 3, 181, 0, 116, 42, 180, 0, 116, 158, 0, 7, 2, 167, 0, 10, 42, 27, 28, 29, 182, 0, 186, 172] := CHb_of (by decide +kernel)
theorem dX7_thousandths_70 : decode cX7_thousandths 70 = .ok (.aload_n 0, 1) := dw_42 (kcX7_thousandths_1 6 42 rfl)
theorem dX7_thousandths_71 : decode cX7_thousandths 71 = .ok (.getfield 116, 3) := dw_180 (kcX7_thousandths_1 7 180 rfl) (kcX7_thousandths_1 8 0 rfl) (kcX7_thousandths_1 9 116 rfl) rfl
theorem dX7_thousandths_74 : decode cX7_thousandths 74 = .ok (.ifCond .le 7, 3) := dw_158 (kcX7_thousandths_1 10 158 rfl) (kcX7_thousandths_1 11 0 rfl) (kcX7_thousandths_1 12 7 rfl) rfl
theorem dX7_thousandths_77 : decode cX7_thousandths 77 = .ok (.iconst (-1), 1) := dw_2 (kcX7_thousandths_1 13 2 rfl)
theorem dX7_thousandths_78 : decode cX7_thousandths 78 = .ok (.goto 10, 3) := dw_167 (kcX7_thousandths_1 14 167 rfl) (kcX7_thousandths_1 15 0 rfl) (kcX7_thousandths_1 16 10 rfl) rfl
theorem dX7_thousandths_88 : decode cX7_thousandths 88 = .ok (.ireturn, 1) := dw_172 (kcX7_thousandths_1 24 172 rfl)
theorem dX7_thousandths_18 : decode cX7_thousandths 18 = .ok (.aload_n 0, 1) := dw_42 (kcX7_thousandths_0 18 42 rfl)
theorem dX7_thousandths_19 : decode cX7_thousandths 19 = .ok (.getfield 23, 3) := dw_180 (kcX7_thousandths_0 19 180 rfl) (kcX7_thousandths_0 20 0 rfl) (kcX7_thousandths_0 21 23 rfl) rfl
theorem dX7_thousandths_22 : decode cX7_thousandths 22 = .ok (.iload_n 1, 1) := dw_27 (kcX7_thousandths_0 22 27 rfl)
theorem dX7_thousandths_23 : decode cX7_thousandths 23 = .ok (.iload_n 2, 1) := dw_28 (kcX7_thousandths_0 23 28 rfl)
theorem dX7_thousandths_24 : decode cX7_thousandths 24 = .ok (.iload_n 3, 1) := dw_29 (kcX7_thousandths_0 24 29 rfl)
theorem dX7_thousandths_25 : decode cX7_thousandths 25 = .ok (.invokestatic 147, 3) := dw_184 (kcX7_thousandths_0 25 184 rfl) (kcX7_thousandths_0 26 0 rfl) (kcX7_thousandths_0 27 147 rfl) rfl
theorem dX7_thousandths_28 : decode cX7_thousandths 28 = .ok (.iaload, 1) := dw_46 (kcX7_thousandths_0 28 46 rfl)
theorem dX7_thousandths_29 : decode cX7_thousandths 29 = .ok (.istore 4, 2) := dw_54 (kcX7_thousandths_0 29 54 rfl) (kcX7_thousandths_0 30 4 rfl)
theorem dX7_thousandths_31 : decode cX7_thousandths 31 = .ok (.aload_n 0, 1) := dw_42 (kcX7_thousandths_0 31 42 rfl)
theorem dX7_thousandths_32 : decode cX7_thousandths 32 = .ok (.iload 4, 2) := dw_21 (kcX7_thousandths_0 32 21 rfl) (kcX7_thousandths_0 33 4 rfl)
theorem dX7_thousandths_34 : decode cX7_thousandths 34 = .ok (.ifCond .ne 7, 3) := dw_154 (kcX7_thousandths_0 34 154 rfl) (kcX7_thousandths_0 35 0 rfl) (kcX7_thousandths_0 36 7 rfl) rfl
theorem dX7_thousandths_41 : decode cX7_thousandths 41 = .ok (.iload 4, 2) := dw_21 (kcX7_thousandths_0 41 21 rfl) (kcX7_thousandths_0 42 4 rfl)
theorem dX7_thousandths_43 : decode cX7_thousandths 43 = .ok (.iconst 3, 1) := dw_6 (kcX7_thousandths_0 43 6 rfl)
theorem dX7_thousandths_44 : decode cX7_thousandths 44 = .ok (.if_icmp .eq 8, 3) := dw_159 (kcX7_thousandths_0 44 159 rfl) (kcX7_thousandths_0 45 0 rfl) (kcX7_thousandths_0 46 8 rfl) rfl
theorem dX7_thousandths_52 : decode cX7_thousandths 52 = .ok (.aload_n 0, 1) := dw_42 (kcX7_thousandths_0 52 42 rfl)
theorem dX7_thousandths_53 : decode cX7_thousandths 53 = .ok (.iload_n 1, 1) := dw_27 (kcX7_thousandths_0 53 27 rfl)
theorem dX7_thousandths_54 : decode cX7_thousandths 54 = .ok (.iload_n 2, 1) := dw_28 (kcX7_thousandths_0 54 28 rfl)
theorem dX7_thousandths_55 : decode cX7_thousandths 55 = .ok (.invokevirtual 161, 3) := dw_182 (kcX7_thousandths_0 55 182 rfl) (kcX7_thousandths_0 56 0 rfl) (kcX7_thousandths_0 57 161 rfl) rfl
theorem dX7_thousandths_58 : decode cX7_thousandths 58 = .ok (.ifCond .ne 8, 3) := dw_154 (kcX7_thousandths_0 58 154 rfl) (kcX7_thousandths_0 59 0 rfl) (kcX7_thousandths_0 60 8 rfl) rfl
theorem dX7_thousandths_66 : decode cX7_thousandths 66 = .ok (.iconst 0, 1) := dw_3 (kcX7_thousandths_1 2 3 rfl)
theorem dX7_thousandths_67 : decode cX7_thousandths 67 = .ok (.putfield 116, 3) := dw_181 (kcX7_thousandths_1 3 181 rfl) (kcX7_thousandths_1 4 0 rfl) (kcX7_thousandths_1 5 116 rfl) rfl
theorem dX7_thousandths_81 : decode cX7_thousandths 81 = .ok (.aload_n 0, 1) := dw_42 (kcX7_thousandths_1 17 42 rfl)
theorem dX7_thousandths_82 : decode cX7_thousandths 82 = .ok (.iload_n 1, 1) := dw_27 (kcX7_thousandths_1 18 27 rfl)
theorem dX7_thousandths_83 : decode cX7_thousandths 83 = .ok (.iload_n 2, 1) := dw_28 (kcX7_thousandths_1 19 28 rfl)
theorem dX7_thousandths_84 : decode cX7_thousandths 84 = .ok (.iload_n 3, 1) := dw_29 (kcX7_thousandths_1 20 29 rfl)
theorem dX7_thousandths_85 : decode cX7_thousandths 85 = .ok (.invokevirtual 186, 3) := dw_182 (kcX7_thousandths_1 21 182 rfl) (kcX7_thousandths_1 22 0 rfl) (kcX7_thousandths_1 23 186 rfl) rfl
theorem dX7_thousandths_61 : decode cX7_thousandths 61 = .ok (.bipush 11, 2) := dw_16 (kcX7_thousandths_0 61 16 rfl) (kcX7_thousandths_0 62 11 rfl) rfl
theorem dX7_thousandths_63 : decode cX7_thousandths 63 = .ok (.goto 4, 3) := dw_167 (kcX7_thousandths_0 63 167 rfl) (kcX7_thousandths_1 0 0 rfl) (kcX7_thousandths_1 1 4 rfl) rfl
theorem dX7_thousandths_47 : decode cX7_thousandths 47 = .ok (.bipush 6, 2) := dw_16 (kcX7_thousandths_0 47 16 rfl) (kcX7_thousandths_0 48 6 rfl) rfl
theorem dX7_thousandths_49 : decode cX7_thousandths 49 = .ok (.goto 18, 3) := dw_167 (kcX7_thousandths_0 49 167 rfl) (kcX7_thousandths_0 50 0 rfl) (kcX7_thousandths_0 51 18 rfl) rfl
theorem dX7_thousandths_37 : decode cX7_thousandths 37 = .ok (.iconst 5, 1) := dw_8 (kcX7_thousandths_0 37 8 rfl)
theorem dX7_thousandths_38 : decode cX7_thousandths 38 = .ok (.goto 29, 3) := dw_167 (kcX7_thousandths_0 38 167 rfl) (kcX7_thousandths_0 39 0 rfl) (kcX7_thousandths_0 40 29 rfl) rfl
theorem kcX7_status_0 : CHb cX7_status 0 [42, 180, 0, 116, 172] := CHb_of (by decide +kernel)
theorem dX7_status_0 : decode cX7_status 0 = .ok (.aload_n 0, 1) := dw_42 (kcX7_status_0 0 42 rfl)
theorem dX7_status_1 : decode cX7_status 1 = .ok (.getfield 116, 3) := dw_180 (kcX7_status_0 1 180 rfl) (kcX7_status_0 2 0 rfl) (kcX7_status_0 3 116 rfl) rfl
theorem dX7_status_4 : decode cX7_status 4 = .ok (.ireturn, 1) := dw_172 (kcX7_status_0 4 172 rfl)
theorem kcX7_costOf_0 : CHb cX7_costOf 0 [42, 180, 0, 20, 16, 6, 27, 104, 8, 96, 46, 154, 0, 7, 4, 167, 0, 11, 42, 180, 0, 26, 28, 46, 4, 96, 172] := CHb_of (by decide +kernel)
theorem dX7_costOf_0 : decode cX7_costOf 0 = .ok (.aload_n 0, 1) := dw_42 (kcX7_costOf_0 0 42 rfl)
theorem dX7_costOf_1 : decode cX7_costOf 1 = .ok (.getfield 20, 3) := dw_180 (kcX7_costOf_0 1 180 rfl) (kcX7_costOf_0 2 0 rfl) (kcX7_costOf_0 3 20 rfl) rfl
theorem dX7_costOf_4 : decode cX7_costOf 4 = .ok (.bipush 6, 2) := dw_16 (kcX7_costOf_0 4 16 rfl) (kcX7_costOf_0 5 6 rfl) rfl
theorem dX7_costOf_6 : decode cX7_costOf 6 = .ok (.iload_n 1, 1) := dw_27 (kcX7_costOf_0 6 27 rfl)
theorem dX7_costOf_7 : decode cX7_costOf 7 = .ok (.imul, 1) := dw_104 (kcX7_costOf_0 7 104 rfl)
theorem dX7_costOf_8 : decode cX7_costOf 8 = .ok (.iconst 5, 1) := dw_8 (kcX7_costOf_0 8 8 rfl)
theorem dX7_costOf_9 : decode cX7_costOf 9 = .ok (.iadd, 1) := dw_96 (kcX7_costOf_0 9 96 rfl)
theorem dX7_costOf_10 : decode cX7_costOf 10 = .ok (.iaload, 1) := dw_46 (kcX7_costOf_0 10 46 rfl)
theorem dX7_costOf_11 : decode cX7_costOf 11 = .ok (.ifCond .ne 7, 3) := dw_154 (kcX7_costOf_0 11 154 rfl) (kcX7_costOf_0 12 0 rfl) (kcX7_costOf_0 13 7 rfl) rfl
theorem dX7_costOf_18 : decode cX7_costOf 18 = .ok (.aload_n 0, 1) := dw_42 (kcX7_costOf_0 18 42 rfl)
theorem dX7_costOf_19 : decode cX7_costOf 19 = .ok (.getfield 26, 3) := dw_180 (kcX7_costOf_0 19 180 rfl) (kcX7_costOf_0 20 0 rfl) (kcX7_costOf_0 21 26 rfl) rfl
theorem dX7_costOf_22 : decode cX7_costOf 22 = .ok (.iload_n 2, 1) := dw_28 (kcX7_costOf_0 22 28 rfl)
theorem dX7_costOf_23 : decode cX7_costOf 23 = .ok (.iaload, 1) := dw_46 (kcX7_costOf_0 23 46 rfl)
theorem dX7_costOf_24 : decode cX7_costOf 24 = .ok (.iconst 1, 1) := dw_4 (kcX7_costOf_0 24 4 rfl)
theorem dX7_costOf_25 : decode cX7_costOf 25 = .ok (.iadd, 1) := dw_96 (kcX7_costOf_0 25 96 rfl)
theorem dX7_costOf_26 : decode cX7_costOf 26 = .ok (.ireturn, 1) := dw_172 (kcX7_costOf_0 26 172 rfl)
theorem dX7_costOf_14 : decode cX7_costOf 14 = .ok (.iconst 1, 1) := dw_4 (kcX7_costOf_0 14 4 rfl)
theorem dX7_costOf_15 : decode cX7_costOf 15 = .ok (.goto 11, 3) := dw_167 (kcX7_costOf_0 15 167 rfl) (kcX7_costOf_0 16 0 rfl) (kcX7_costOf_0 17 11 rfl) rfl
theorem kcX7_cost_0 : CHb cX7_cost 0 [42, 42, 27, 182, 0, 120, 153, 0, 7, 3, 167, 0, 4, 4, 181, 0, 116, 42, 180, 0, 116, 158, 0, 5, 2, 172, 3, 61, 3, 62, 29, 42, 180, 0, 13, 27, 46, 162, 0, 77, 3, 54, 4, 21, 4, 42, 180, 0, 17, 27, 46, 162, 0, 57, 42, 27, 29, 182, 0, 161, 153, 0, 48, 27] := CHb_of (by decide +kernel)
theorem dX7_cost_0 : decode cX7_cost 0 = .ok (.aload_n 0, 1) := dw_42 (kcX7_cost_0 0 42 rfl)
theorem dX7_cost_1 : decode cX7_cost 1 = .ok (.aload_n 0, 1) := dw_42 (kcX7_cost_0 1 42 rfl)
theorem dX7_cost_2 : decode cX7_cost 2 = .ok (.iload_n 1, 1) := dw_27 (kcX7_cost_0 2 27 rfl)
theorem dX7_cost_3 : decode cX7_cost 3 = .ok (.invokevirtual 120, 3) := dw_182 (kcX7_cost_0 3 182 rfl) (kcX7_cost_0 4 0 rfl) (kcX7_cost_0 5 120 rfl) rfl
theorem dX7_cost_6 : decode cX7_cost 6 = .ok (.ifCond .eq 7, 3) := dw_153 (kcX7_cost_0 6 153 rfl) (kcX7_cost_0 7 0 rfl) (kcX7_cost_0 8 7 rfl) rfl
theorem dX7_cost_13 : decode cX7_cost 13 = .ok (.iconst 1, 1) := dw_4 (kcX7_cost_0 13 4 rfl)
theorem dX7_cost_14 : decode cX7_cost 14 = .ok (.putfield 116, 3) := dw_181 (kcX7_cost_0 14 181 rfl) (kcX7_cost_0 15 0 rfl) (kcX7_cost_0 16 116 rfl) rfl
theorem dX7_cost_17 : decode cX7_cost 17 = .ok (.aload_n 0, 1) := dw_42 (kcX7_cost_0 17 42 rfl)
theorem dX7_cost_18 : decode cX7_cost 18 = .ok (.getfield 116, 3) := dw_180 (kcX7_cost_0 18 180 rfl) (kcX7_cost_0 19 0 rfl) (kcX7_cost_0 20 116 rfl) rfl
theorem dX7_cost_21 : decode cX7_cost 21 = .ok (.ifCond .le 5, 3) := dw_158 (kcX7_cost_0 21 158 rfl) (kcX7_cost_0 22 0 rfl) (kcX7_cost_0 23 5 rfl) rfl
theorem dX7_cost_24 : decode cX7_cost 24 = .ok (.iconst (-1), 1) := dw_2 (kcX7_cost_0 24 2 rfl)
theorem dX7_cost_25 : decode cX7_cost 25 = .ok (.ireturn, 1) := dw_172 (kcX7_cost_0 25 172 rfl)
theorem dX7_cost_9 : decode cX7_cost 9 = .ok (.iconst 0, 1) := dw_3 (kcX7_cost_0 9 3 rfl)
theorem dX7_cost_10 : decode cX7_cost 10 = .ok (.goto 4, 3) := dw_167 (kcX7_cost_0 10 167 rfl) (kcX7_cost_0 11 0 rfl) (kcX7_cost_0 12 4 rfl) rfl
theorem dX7_cost_26 : decode cX7_cost 26 = .ok (.iconst 0, 1) := dw_3 (kcX7_cost_0 26 3 rfl)
theorem dX7_cost_27 : decode cX7_cost 27 = .ok (.istore_n 2, 1) := dw_61 (kcX7_cost_0 27 61 rfl)
theorem dX7_cost_28 : decode cX7_cost 28 = .ok (.iconst 0, 1) := dw_3 (kcX7_cost_0 28 3 rfl)
theorem dX7_cost_29 : decode cX7_cost 29 = .ok (.istore_n 3, 1) := dw_62 (kcX7_cost_0 29 62 rfl)
theorem dX7_cost_30 : decode cX7_cost 30 = .ok (.iload_n 3, 1) := dw_29 (kcX7_cost_0 30 29 rfl)
theorem dX7_cost_31 : decode cX7_cost 31 = .ok (.aload_n 0, 1) := dw_42 (kcX7_cost_0 31 42 rfl)
theorem dX7_cost_32 : decode cX7_cost 32 = .ok (.getfield 13, 3) := dw_180 (kcX7_cost_0 32 180 rfl) (kcX7_cost_0 33 0 rfl) (kcX7_cost_0 34 13 rfl) rfl
theorem dX7_cost_35 : decode cX7_cost 35 = .ok (.iload_n 1, 1) := dw_27 (kcX7_cost_0 35 27 rfl)
theorem dX7_cost_36 : decode cX7_cost 36 = .ok (.iaload, 1) := dw_46 (kcX7_cost_0 36 46 rfl)
theorem dX7_cost_37 : decode cX7_cost 37 = .ok (.if_icmp .ge 77, 3) := dw_162 (kcX7_cost_0 37 162 rfl) (kcX7_cost_0 38 0 rfl) (kcX7_cost_0 39 77 rfl) rfl
theorem dX7_cost_40 : decode cX7_cost 40 = .ok (.iconst 0, 1) := dw_3 (kcX7_cost_0 40 3 rfl)
theorem dX7_cost_41 : decode cX7_cost 41 = .ok (.istore 4, 2) := dw_54 (kcX7_cost_0 41 54 rfl) (kcX7_cost_0 42 4 rfl)
theorem dX7_cost_43 : decode cX7_cost 43 = .ok (.iload 4, 2) := dw_21 (kcX7_cost_0 43 21 rfl) (kcX7_cost_0 44 4 rfl)
theorem dX7_cost_45 : decode cX7_cost 45 = .ok (.aload_n 0, 1) := dw_42 (kcX7_cost_0 45 42 rfl)
theorem dX7_cost_46 : decode cX7_cost 46 = .ok (.getfield 17, 3) := dw_180 (kcX7_cost_0 46 180 rfl) (kcX7_cost_0 47 0 rfl) (kcX7_cost_0 48 17 rfl) rfl
theorem dX7_cost_49 : decode cX7_cost 49 = .ok (.iload_n 1, 1) := dw_27 (kcX7_cost_0 49 27 rfl)
theorem dX7_cost_50 : decode cX7_cost 50 = .ok (.iaload, 1) := dw_46 (kcX7_cost_0 50 46 rfl)
theorem dX7_cost_51 : decode cX7_cost 51 = .ok (.if_icmp .ge 57, 3) := dw_162 (kcX7_cost_0 51 162 rfl) (kcX7_cost_0 52 0 rfl) (kcX7_cost_0 53 57 rfl) rfl
theorem dX7_cost_54 : decode cX7_cost 54 = .ok (.aload_n 0, 1) := dw_42 (kcX7_cost_0 54 42 rfl)
theorem dX7_cost_55 : decode cX7_cost 55 = .ok (.iload_n 1, 1) := dw_27 (kcX7_cost_0 55 27 rfl)
theorem dX7_cost_56 : decode cX7_cost 56 = .ok (.iload_n 3, 1) := dw_29 (kcX7_cost_0 56 29 rfl)
theorem dX7_cost_57 : decode cX7_cost 57 = .ok (.invokevirtual 161, 3) := dw_182 (kcX7_cost_0 57 182 rfl) (kcX7_cost_0 58 0 rfl) (kcX7_cost_0 59 161 rfl) rfl
theorem dX7_cost_60 : decode cX7_cost 60 = .ok (.ifCond .eq 48, 3) := dw_153 (kcX7_cost_0 60 153 rfl) (kcX7_cost_0 61 0 rfl) (kcX7_cost_0 62 48 rfl) rfl
theorem dX7_cost_63 : decode cX7_cost 63 = .ok (.iload_n 1, 1) := dw_27 (kcX7_cost_0 63 27 rfl)
theorem kcX7_cost_1 : CHb cX7_cost 64 [29, 21, 4, 184, 0, 147, 54, 5, 42, 27, 21, 5, 182, 0, 181, 153, 0, 23, 42, 27, 21, 5, 182, 0, 175, 154, 0, 13, 28, 42, 27, 21, 5, 182, 0, 242, 96, 61, 132, 4, 1, 167, 255, 194, 132, 3, 1, 167, 255, 175, 28, 172] := CHb_of (by decide +kernel)
theorem dX7_cost_64 : decode cX7_cost 64 = .ok (.iload_n 3, 1) := dw_29 (kcX7_cost_1 0 29 rfl)
theorem dX7_cost_65 : decode cX7_cost 65 = .ok (.iload 4, 2) := dw_21 (kcX7_cost_1 1 21 rfl) (kcX7_cost_1 2 4 rfl)
theorem dX7_cost_67 : decode cX7_cost 67 = .ok (.invokestatic 147, 3) := dw_184 (kcX7_cost_1 3 184 rfl) (kcX7_cost_1 4 0 rfl) (kcX7_cost_1 5 147 rfl) rfl
theorem dX7_cost_70 : decode cX7_cost 70 = .ok (.istore 5, 2) := dw_54 (kcX7_cost_1 6 54 rfl) (kcX7_cost_1 7 5 rfl)
theorem dX7_cost_72 : decode cX7_cost 72 = .ok (.aload_n 0, 1) := dw_42 (kcX7_cost_1 8 42 rfl)
theorem dX7_cost_73 : decode cX7_cost 73 = .ok (.iload_n 1, 1) := dw_27 (kcX7_cost_1 9 27 rfl)
theorem dX7_cost_74 : decode cX7_cost 74 = .ok (.iload 5, 2) := dw_21 (kcX7_cost_1 10 21 rfl) (kcX7_cost_1 11 5 rfl)
theorem dX7_cost_76 : decode cX7_cost 76 = .ok (.invokevirtual 181, 3) := dw_182 (kcX7_cost_1 12 182 rfl) (kcX7_cost_1 13 0 rfl) (kcX7_cost_1 14 181 rfl) rfl
theorem dX7_cost_79 : decode cX7_cost 79 = .ok (.ifCond .eq 23, 3) := dw_153 (kcX7_cost_1 15 153 rfl) (kcX7_cost_1 16 0 rfl) (kcX7_cost_1 17 23 rfl) rfl
theorem dX7_cost_82 : decode cX7_cost 82 = .ok (.aload_n 0, 1) := dw_42 (kcX7_cost_1 18 42 rfl)
theorem dX7_cost_83 : decode cX7_cost 83 = .ok (.iload_n 1, 1) := dw_27 (kcX7_cost_1 19 27 rfl)
theorem dX7_cost_84 : decode cX7_cost 84 = .ok (.iload 5, 2) := dw_21 (kcX7_cost_1 20 21 rfl) (kcX7_cost_1 21 5 rfl)
theorem dX7_cost_86 : decode cX7_cost 86 = .ok (.invokevirtual 175, 3) := dw_182 (kcX7_cost_1 22 182 rfl) (kcX7_cost_1 23 0 rfl) (kcX7_cost_1 24 175 rfl) rfl
theorem dX7_cost_89 : decode cX7_cost 89 = .ok (.ifCond .ne 13, 3) := dw_154 (kcX7_cost_1 25 154 rfl) (kcX7_cost_1 26 0 rfl) (kcX7_cost_1 27 13 rfl) rfl
theorem dX7_cost_92 : decode cX7_cost 92 = .ok (.iload_n 2, 1) := dw_28 (kcX7_cost_1 28 28 rfl)
theorem dX7_cost_93 : decode cX7_cost 93 = .ok (.aload_n 0, 1) := dw_42 (kcX7_cost_1 29 42 rfl)
theorem dX7_cost_94 : decode cX7_cost 94 = .ok (.iload_n 1, 1) := dw_27 (kcX7_cost_1 30 27 rfl)
theorem dX7_cost_95 : decode cX7_cost 95 = .ok (.iload 5, 2) := dw_21 (kcX7_cost_1 31 21 rfl) (kcX7_cost_1 32 5 rfl)
theorem dX7_cost_97 : decode cX7_cost 97 = .ok (.invokevirtual 242, 3) := dw_182 (kcX7_cost_1 33 182 rfl) (kcX7_cost_1 34 0 rfl) (kcX7_cost_1 35 242 rfl) rfl
theorem dX7_cost_100 : decode cX7_cost 100 = .ok (.iadd, 1) := dw_96 (kcX7_cost_1 36 96 rfl)
theorem dX7_cost_101 : decode cX7_cost 101 = .ok (.istore_n 2, 1) := dw_61 (kcX7_cost_1 37 61 rfl)
theorem dX7_cost_102 : decode cX7_cost 102 = .ok (.iinc 4 1, 3) := dw_132 (kcX7_cost_1 38 132 rfl) (kcX7_cost_1 39 4 rfl) (kcX7_cost_1 40 1 rfl) rfl
theorem dX7_cost_105 : decode cX7_cost 105 = .ok (.goto (-62), 3) := dw_167 (kcX7_cost_1 41 167 rfl) (kcX7_cost_1 42 255 rfl) (kcX7_cost_1 43 194 rfl) rfl
theorem dX7_cost_108 : decode cX7_cost 108 = .ok (.iinc 3 1, 3) := dw_132 (kcX7_cost_1 44 132 rfl) (kcX7_cost_1 45 3 rfl) (kcX7_cost_1 46 1 rfl) rfl
theorem dX7_cost_111 : decode cX7_cost 111 = .ok (.goto (-81), 3) := dw_167 (kcX7_cost_1 47 167 rfl) (kcX7_cost_1 48 255 rfl) (kcX7_cost_1 49 175 rfl) rfl
theorem dX7_cost_114 : decode cX7_cost 114 = .ok (.iload_n 2, 1) := dw_28 (kcX7_cost_1 50 28 rfl)
theorem dX7_cost_115 : decode cX7_cost 115 = .ok (.ireturn, 1) := dw_172 (kcX7_cost_1 51 172 rfl)
def kdA (kd : Nat → Int32) (t i n : Nat) : Prop := ∀ c, c < n → ¬ kd (144 * t + 12 * i + c) < 1 ∧ ¬ 4 < kd (144 * t + 12 * i + c)
def sndN (cl : Int32) (pl kd : Nat → Int32) (t i : Nat) : Prop := pl (12 * t + i) = cl ∧ ∀ c, c < 12 → nI c < cl → ¬ kd (144 * t + 12 * i + c) < 1 ∧ ¬ 4 < kd (144 * t + 12 * i + c)
theorem sndN_i {c3 : Int32} {cl t i : Nat} {pl kd : Nat → Int32} (h3 : c3 = nI cl) (hcl : cl ≤ 12) : sndN c3 pl kd t i ↔ (pl (12 * t + i) = nI cl ∧ kdA kd t i cl) := by
  subst h3
  constructor
  · rintro ⟨a, b⟩
    exact ⟨a, fun c hc => b c (by omega) (nI_lt hc (by omega))⟩
  · rintro ⟨a, b⟩
    exact ⟨a, fun c h12 hc => b c ((nI_ltI (by omega) (by omega)).mp hc)⟩
theorem sd_s {z z2 : Int32} {pl kd : Nat → Int32} {t i j cl : Nat} {S : Prop} (h : (z = 1 ∧ (pl (12 * t + i) = nI cl ∧ kdA kd t i j)) ∨ (z = 0 ∧ ¬ S)) (hz : ¬ z = 0) (g : (z2 = 1 ∧ (¬ kd (144 * t + 12 * i + j) < 1 ∧ ¬ 4 < kd (144 * t + 12 * i + j))) ∨ (z2 = 0 ∧ ¬ (¬ kd (144 * t + 12 * i + j) < 1 ∧ ¬ 4 < kd (144 * t + 12 * i + j)))) (hs : S ↔ (pl (12 * t + i) = nI cl ∧ kdA kd t i cl)) (hj : j < cl) : (z2 = 1 ∧ (pl (12 * t + i) = nI cl ∧ kdA kd t i (j + 1))) ∨ (z2 = 0 ∧ ¬ S) := by
  rcases h with ⟨_, a, b⟩ | ⟨e, _⟩
  · rcases g with ⟨e2, k⟩ | ⟨e2, k⟩
    · refine Or.inl ⟨e2, a, fun c hc => ?_⟩
      rcases Nat.lt_or_ge c j with h | h
      · exact b c h
      · obtain rfl : c = j := by omega
        exact k
    · exact Or.inr ⟨e2, fun q => k ((hs.mp q).2 j hj)⟩
  · exact absurd e hz
def smM (nu : Nat → Int32) (t i : Nat) : Nat → Int32
  | 0 => 0
  | n + 1 => smM nu t i n + nu (144 * t + 12 * i + n)
def roC (op rs : Nat → Int32) (tb row : Int32) (t i : Nat) : Prop := t < 6 ∧ i < 12 ∧ tb = nI t ∧ row = nI i ∧ ¬ op t = 0 ∧ inR (rs t) row
def roM (op rs : Nat → Int32) (tb row : Int32) (B : Nat → Nat → Prop) (N : Prop) : Prop := ((¬ ∃ t i, roC op rs tb row t i) ∧ N) ∨ ∃ t i, roC op rs tb row t i ∧ B t i
def svE (C A : Nat → Prop) (N : Prop) : Prop := (∃ k, C k ∧ A k) ∨ ((¬ ∃ k, C k) ∧ N)
noncomputable def kfS (x : Int32) (P : Prop) : Int32 := if x = 0 then 5 else if x = 5 then 6 else @ite _ P (Classical.propDecidable P) 0 11
theorem kfS_0 {x : Int32} {P : Prop} (h : x = 0) : kfS x P = 5 := if_pos h
theorem kfS_5 {x : Int32} {P : Prop} (a : ¬ x = 0) (h : x = 5) : kfS x P = 6 := by unfold kfS; rw [if_neg a, if_pos h]
theorem kfS_g {x : Int32} {P : Prop} (a : ¬ x = 0) (b : ¬ x = 5) (h : P) : kfS x P = 0 := by unfold kfS; rw [if_neg a, if_neg b]; exact if_pos h
theorem kfS_n {x : Int32} {P : Prop} (a : ¬ x = 0) (b : ¬ x = 5) (h : ¬ P) : kfS x P = 11 := by unfold kfS; rw [if_neg a, if_neg b]; exact if_neg h
theorem kfS_i {x : Int32} {P : Prop} (h : kfS x P = 0) : (¬ x = 0 ∧ ¬ x = 5) ∧ P := by
  by_cases a : x = 0
  · rw [kfS_0 a] at h; exact absurd h (by decide)
  by_cases b : x = 5
  · rw [kfS_5 a b] at h; exact absurd h (by decide)
  by_cases c : P
  · exact ⟨⟨a, b⟩, c⟩
  · rw [kfS_n a b c] at h; exact absurd h (by decide)
theorem kfS_p (x : Int32) (P : Prop) : ¬ kfS x P < 0 := by
  by_cases a : x = 0
  · rw [kfS_0 a]; decide
  by_cases b : x = 5
  · rw [kfS_5 a b]; decide
  by_cases c : P
  · rw [kfS_g a b c]; decide
  · rw [kfS_n a b c]; decide
def twM (q : Nat → Int32) : Nat → Int32 × Int32
  | 0 => (0, 0)
  | k + 1 => if (twM q k).1 < q k then (q k, (twM q k).1) else if (twM q k).2 < q k then ((twM q k).1, q k) else twM q k
theorem tw_a {q : Nat → Int32} {k : Nat} (h : (twM q k).1 < q k) : twM q (k + 1) = (q k, (twM q k).1) := if_pos h
theorem tw_b {q : Nat → Int32} {k : Nat} (h : ¬ (twM q k).1 < q k) (g : (twM q k).2 < q k) : twM q (k + 1) = ((twM q k).1, q k) := (if_neg h).trans (if_pos g)
theorem tw_c {q : Nat → Int32} {k : Nat} (h : ¬ (twM q k).1 < q k) (g : ¬ (twM q k).2 < q k) : twM q (k + 1) = twM q k := (if_neg h).trans (if_neg g)
def whB (h : Int32) : Int32 := if h = 0 then 0 else 8
def wh1 (k n h u0 : Int32) : Int32 := if k = 1 ∧ ¬ n < 1 ∧ ¬ u0 < n then whB h + 1 else whB h
def wh2 (k n h u0 u1 gm : Int32) : Int32 := if k = 2 ∧ ¬ n ≤ 0 ∧ ¬ u1 ≤ gm then wh1 k n h u0 + 2 else wh1 k n h u0
def wh4 (k n h u0 u1 u2 gm tw : Int32) : Int32 := if k = 2 ∧ ¬ n ≤ 0 ∧ ¬ u2 * n ≤ 100 * (n - tw) then wh2 k n h u0 u1 gm + 4 else wh2 k n h u0 u1 gm
def whM (k n h u0 u1 u2 gm tw : Int32) : Int32 := if k = 4 ∨ k = 5 ∨ k = 0 then 0 else wh4 k n h u0 u1 u2 gm tw
theorem whB_0 {h : Int32} (e : h = 0) : 0 = whB h := (if_pos e).symm
theorem whB_8 {h : Int32} (e : ¬ h = 0) : 8 = whB h := (if_neg e).symm
theorem wh1_n {k n h u0 z : Int32} (e : z = whB h) (c : ¬ (k = 1 ∧ ¬ n < 1 ∧ ¬ u0 < n)) : z = wh1 k n h u0 := e.trans (if_neg c).symm
theorem wh1_p {k n h u0 z v : Int32} (e : z = whB h) (g : v = z + Int32.ofInt (1)) (c : k = 1 ∧ ¬ n < 1 ∧ ¬ u0 < n) : v = wh1 k n h u0 := by
  rw [g, e, show Int32.ofInt (1) = (1 : Int32) from by decide]; exact (if_pos c).symm
theorem wh2_n {k n h u0 u1 gm z : Int32} (e : z = wh1 k n h u0) (c : ¬ (k = 2 ∧ ¬ n ≤ 0 ∧ ¬ u1 ≤ gm)) : z = wh2 k n h u0 u1 gm := e.trans (if_neg c).symm
theorem wh2_p {k n h u0 u1 gm z v : Int32} (e : z = wh1 k n h u0) (g : v = z + Int32.ofInt (2)) (c : k = 2 ∧ ¬ n ≤ 0 ∧ ¬ u1 ≤ gm) : v = wh2 k n h u0 u1 gm := by
  rw [g, e, show Int32.ofInt (2) = (2 : Int32) from by decide]; exact (if_pos c).symm
theorem wh4_n {k n h u0 u1 u2 gm tw z : Int32} (e : z = wh2 k n h u0 u1 gm) (c : ¬ (k = 2 ∧ ¬ n ≤ 0 ∧ ¬ u2 * n ≤ 100 * (n - tw))) : z = wh4 k n h u0 u1 u2 gm tw := e.trans (if_neg c).symm
theorem wh4_p {k n h u0 u1 u2 gm tw z v : Int32} (e : z = wh2 k n h u0 u1 gm) (g : v = z + Int32.ofInt (4)) (c : k = 2 ∧ ¬ n ≤ 0 ∧ ¬ u2 * n ≤ 100 * (n - tw)) : v = wh4 k n h u0 u1 u2 gm tw := by
  rw [g, e, show Int32.ofInt (4) = (4 : Int32) from by decide]; exact (if_pos c).symm
theorem whM_0 {k n h u0 u1 u2 gm tw : Int32} (c : k = 4 ∨ k = 5 ∨ k = 0) : 0 = whM k n h u0 u1 u2 gm tw := (if_pos c).symm
theorem whM_n {k n h u0 u1 u2 gm tw z : Int32} (c : ¬ (k = 4 ∨ k = 5 ∨ k = 0)) (e : z = wh4 k n h u0 u1 u2 gm tw) : z = whM k n h u0 u1 u2 gm tw := e.trans (if_neg c).symm
def thM (n w : Int32) : Int32 := if w = 0 then 0 else ((1000 : Int64) * n.toInt64 / w.toInt64).toInt32
theorem thM_0 {n w : Int32} (h : w = 0) : 0 = thM n w := (if_pos h).symm
theorem thM_n {n w v : Int32} (h : ¬ w = 0) (e : v = ((1000 : Int64) * n.toInt64 / w.toInt64).toInt32) : v = thM n w := e.trans (if_neg h).symm
noncomputable def ttM (cl : Int32) (pl kd nu bf bl : Nat → Int32) (bk t k : Nat) (its : Int32) : Nat → Int32
  | 0 => 0
  | n + 1 => @ite _ (sndN cl pl kd t n ∧ (clM bf bl t (nI n) bk).1 = its) (Classical.propDecidable _) (ttM cl pl kd nu bf bl bk t k its n + nu (144 * t + 12 * n + k)) (ttM cl pl kd nu bf bl bk t k its n)
theorem ttM_p {cl its : Int32} {pl kd nu bf bl : Nat → Int32} {bk t k n : Nat} (h : sndN cl pl kd t n ∧ (clM bf bl t (nI n) bk).1 = its) : ttM cl pl kd nu bf bl bk t k its (n + 1) = ttM cl pl kd nu bf bl bk t k its n + nu (144 * t + 12 * n + k) := if_pos h
theorem ttM_n {cl its : Int32} {pl kd nu bf bl : Nat → Int32} {bk t k n : Nat} (h : ¬ (sndN cl pl kd t n ∧ (clM bf bl t (nI n) bk).1 = its)) : ttM cl pl kd nu bf bl bk t k its (n + 1) = ttM cl pl kd nu bf bl bk t k its n := if_neg h
set_option maxHeartbeats 4000000 in
set_option maxRecDepth 100000 in
theorem m_X7_isSound (l : Launch) (G : GG) (y : Nat) (b : Nat → Nat) (f : Nat → Int32) (r : Nat → Nat → Int32) (t : Nat) (i : Nat) (rw : Nat) (cl : Nat) (bk : Nat) (ht : t < 6) (hrw : rw ≤ 12) (hcl : cl ≤ 12) (hbk : bk ≤ 12) (h2 : (r 2) t = nI rw) (h3 : (r 3) t = nI cl) (h12 : (r 12) t = nI bk) (hi : i < 12) : RdI l yX7_isSound cX7_isSound 5 (some .boolean) ({ frames := 1, cells := 0, slots := 0, locals := 22 }) G (mM G y b f r) [.ref y, .int (nI t), .int (nI i)] (fun q => ((q = 1 ∧ (sndN ((r 3) t) (r 11) (r 5) t i)) ∨ (q = 0 ∧ ¬ (sndN ((r 3) t) (r 11) (r 5) t i)))) := by
  refine rd_entry (by decide +kernel) (Nat.le_of_ble_eq_true rfl) ?_
  intro p e s m below meth c C0 hP hK ls hl
  have hS : va_S (fun q => s.heap.size ≤ q) s.heap s.heap [] := va_S.rf
  have hA : ∀ q, s.heap.size ≤ q → (fun q => s.heap.size ≤ q) q := fun _ h => h
  obtain ⟨hx, hb, hml, hown, hts, hr, hlocks, hin⟩ := C0
  have hown : s.vm.findClass RX7 = some m.cls := hown
  have hl : lv_has ls 5 [(0, .ref y), (1, .int (nI t)), (2, .int (nI i))] := hl
  have hsi := sndN_i (pl := r 11) (kd := r 5) (t := t) (i := i) h3 hcl
  refine lv_aload_n hx hb dX7_isSound_0 rfl (lv_at hl 0 rfl) ?_
  refine va_get (D := G.1) (ci := 7) (v := .ref (b 11)) (C := RX7) (T := TX7) (N := 43) hx hb hts inX7 hown hK.1 hP 0 rfl rfl 11 (by decide) (hts _ mf_X7_41) (fun _ h9 => h9) rfl dX7_isSound_1 ?_
  refine lv_bipush (v := 12) hx hb dX7_isSound_4 (by decide) ?_
  refine lv_iload_n hx hb dX7_isSound_6 rfl (lv_at hl 1 rfl) ?_
  refine lv_imul hx hb dX7_isSound_7 ?_
  refine lv_topi (fun v1 ev1 => ?_)
  obtain rfl : v1 = nI (12 * t) := nI_times ev1 rfl rfl
  refine lv_iload_n hx hb dX7_isSound_8 rfl (lv_at hl 2 rfl) ?_
  refine lv_iadd hx hb dX7_isSound_9 ?_
  refine lv_topi (fun v2 ev2 => ?_)
  obtain rfl : v2 = nI ((12 * t) + i) := nI_plus ev2 rfl rfl
  refine xiald (f := (r 11)) hx hb hK hP 11 (((12 * t) + i)) (rfl) (by omega) (by decide) rfl dX7_isSound_10 ?_
  refine lv_topi (fun v3 ev3 => ?_)
  refine lv_aload_n hx hb dX7_isSound_11 rfl (lv_at hl 0 rfl) ?_
  refine va_get (D := G.1) (ci := 7) (v := .ref (b 3)) (C := RX7) (T := TX7) (N := 43) hx hb hts inX7 hown hK.1 hP 0 rfl rfl 3 (by decide) (hts _ mf_X7_17) (fun _ h9 => h9) rfl dX7_isSound_12 ?_
  refine lv_iload_n hx hb dX7_isSound_15 rfl (lv_at hl 1 rfl) ?_
  refine xiald (f := (r 3)) hx hb hK hP 3 (t) (rfl) (by omega) (by decide) rfl dX7_isSound_16 ?_
  refine lv_topi (fun v4 ev4 => ?_)
  obtain rfl : v4 = nI (cl) := ev4.trans (h3)
  have j25_5 : ∀ (z5 : Int32) (gz5 : z5 = 0 ∨ z5 = 1) (hz3 : ((z5 = 1 ∧ (v3 = nI cl)) ∨ (z5 = 0 ∧ ¬ (v3 = nI cl)))) (H : Heap) (locs : List Loc) (ls : Array Slot), PP G (mM G y b f r) H → va_S (fun q => s.heap.size ≤ q) s.heap H locs → lv_has ls 5 [(0, .ref y), (1, .int (nI t)), (2, .int (nI i))] → W p l e ({ frames := 1, cells := 0, slots := 0, locals := 22 }) s m ([.ref y, .int (nI t), .int (nI i)] : List Value).toArray below meth c H locs 0 0 (MQ below (QrI (fun q => ((q = 1 ∧ (sndN ((r 3) t) (r 11) (r 5) t i)) ∨ (q = 0 ∧ ¬ (sndN ((r 3) t) (r 11) (r 5) t i)))) (fun q => s.heap.size ≤ q)) ([.ref y, .int (nI t), .int (nI i)] : List Value).toArray s 0 0 (fun q => s.heap.size ≤ q)) (F0 m 25 ls [.int z5]) := by
    intro z5 gz5 hz3 H locs ls hP hS hl
    refine lv_istore_n (lv' := [(3, .int z5), (0, .ref y), (1, .int (nI t)), (2, .int (nI i))]) hx hb dX7_isSound_25 rfl hl (by decide) rfl (fun ls hl => ?_)
    refine lv_iconst (v := 0) hx hb dX7_isSound_26 (by decide) ?_
    refine lv_istore (lv' := [(4, .int 0), (3, .int z5), (0, .ref y), (1, .int (nI t)), (2, .int (nI i))]) hx hb dX7_isSound_27 hl (by decide) rfl (fun ls hl => ?_)
    have loop29 : ∀ (k6 j : Nat) (z7 : Int32), j ≤ cl → cl < j + k6 → (z7 = 0 ∨ z7 = 1) → (((z7 = 1 ∧ (r 11 (12 * t + i) = nI cl ∧ kdA (r 5) t i j)) ∨ (z7 = 0 ∧ ¬ sndN (r 3 t) (r 11) (r 5) t i))) → ∀ (H : Heap) (locs : List Loc) (ls : Array Slot), PP G (mM G y b f r) H → va_S (fun q => s.heap.size ≤ q) s.heap H locs → lv_has ls 5 [(4, .int (nI j)), (3, .int z7), (0, .ref y), (1, .int (nI t)), (2, .int (nI i))] → W p l e ({ frames := 1, cells := 0, slots := 0, locals := 22 }) s m ([.ref y, .int (nI t), .int (nI i)] : List Value).toArray below meth c H locs 0 0 (MQ below (QrI (fun q => ((q = 1 ∧ (sndN ((r 3) t) (r 11) (r 5) t i)) ∨ (q = 0 ∧ ¬ (sndN ((r 3) t) (r 11) (r 5) t i)))) (fun q => s.heap.size ≤ q)) ([.ref y, .int (nI t), .int (nI i)] : List Value).toArray s 0 0 (fun q => s.heap.size ≤ q)) (F0 m 29 ls []) := by
      intro k6
      induction k6 with
      | zero => intro j z7 h1 h2; exact absurd h1 (by omega)
      | succ k6 ih29k6 =>
        intro j z7 hi_j hk_j gz7 hsd H locs ls hP hS hl
        refine lv_iload hx hb dX7_isSound_29 (lv_at hl 0 rfl) ?_
        refine lv_aload_n hx hb dX7_isSound_31 rfl (lv_at hl 2 rfl) ?_
        refine va_get (D := G.1) (ci := 7) (v := .ref (b 3)) (C := RX7) (T := TX7) (N := 43) hx hb hts inX7 hown hK.1 hP 0 rfl rfl 3 (by decide) (hts _ mf_X7_17) (fun _ h9 => h9) rfl dX7_isSound_32 ?_
        refine lv_iload_n hx hb dX7_isSound_35 rfl (lv_at hl 3 rfl) ?_
        refine xiald (f := (r 3)) hx hb hK hP 3 (t) (rfl) (by omega) (by decide) rfl dX7_isSound_36 ?_
        refine lv_topi (fun v8 ev8 => ?_)
        obtain rfl : v8 = nI (cl) := ev8.trans (h3)
        refine lv_icmp_ge (tgt := 88) hx hb dX7_isSound_37 (by decide) (fun c9 => ?_) (fun c9 => ?_)
        · have b37 := qge_t (a := j) (b := (cl)) (by omega) (by omega) c9
          refine lv_iload_n hx hb dX7_isSound_88 rfl (lv_at hl 1 rfl) ?_
          exact rd_zret hx hb hr hlocks (gz7) hS (hsd.elim (fun z9 => Or.inl ⟨z9.1, hsi.mpr ⟨z9.2.1, fun c hc => z9.2.2 c (by omega)⟩⟩) Or.inr) dX7_isSound_89
        · have b37 := qge_f (a := j) (b := (cl)) (by omega) (by omega) c9
          refine lv_iload_n hx hb dX7_isSound_40 rfl (lv_at hl 1 rfl) ?_
          refine lv_if_eq (tgt := 88) hx hb dX7_isSound_41 (by decide) (fun c10 => ?_) (fun c10 => ?_)
          · refine lv_iload_n hx hb dX7_isSound_88 rfl (lv_at hl 1 rfl) ?_
            exact rd_zret hx hb hr hlocks (gz7) hS (hsd.elim (fun z9 => absurd (c10.symm.trans z9.1) (by decide)) Or.inr) dX7_isSound_89
          · refine lv_aload_n hx hb dX7_isSound_44 rfl (lv_at hl 2 rfl) ?_
            refine va_get (D := G.1) (ci := 7) (v := .ref (b 5)) (C := RX7) (T := TX7) (N := 43) hx hb hts inX7 hown hK.1 hP 0 rfl rfl 5 (by decide) (hts _ mf_X7_23) (fun _ h9 => h9) rfl dX7_isSound_45 ?_
            refine lv_iload_n hx hb dX7_isSound_48 rfl (lv_at hl 3 rfl) ?_
            refine lv_iload_n hx hb dX7_isSound_49 rfl (lv_at hl 4 rfl) ?_
            refine lv_iload hx hb dX7_isSound_50 (lv_at hl 0 rfl) ?_
            refine rdS (rest := [.ref (b 5)]) ⟨hx, hb, hml, hown, hts⟩ (m_X7_at l G y b f r t i j  ) mi_yX7_at mst_yX7_at ml_X7_147 ⟨rfl, rfl, Nat.le_of_ble_eq_true rfl, Nat.le_of_ble_eq_true rfl⟩ hK (hP) rfl hl.1 rfl (Nat.le_of_ble_eq_true rfl) dX7_isSound_52 ⟨Nat.zero_le _, Nat.zero_le _⟩ hS hA hP (fun r11 H locs hr11 hP hS => ?_)
            obtain rfl := hr11
            refine xiald (f := (r 5)) hx hb hK hP 5 ((144 * t + 12 * i + j)) (rfl) (by omega) (by decide) rfl dX7_isSound_55 ?_
            refine lv_topi (fun v12 ev12 => ?_)
            refine lv_iconst (v := 1) hx hb dX7_isSound_56 (by decide) ?_
            have j81_13 : ∀ (z13 : Int32) (gz13 : z13 = 0 ∨ z13 = 1) (hz81 : ((z13 = 1 ∧ (¬ r 5 (144 * t + 12 * i + j) < 1 ∧ ¬ 4 < r 5 (144 * t + 12 * i + j))) ∨ (z13 = 0 ∧ ¬ (¬ r 5 (144 * t + 12 * i + j) < 1 ∧ ¬ 4 < r 5 (144 * t + 12 * i + j))))) (H : Heap) (locs : List Loc) (ls : Array Slot), PP G (mM G y b f r) H → va_S (fun q => s.heap.size ≤ q) s.heap H locs → lv_has ls 5 [(4, .int (nI j)), (0, .ref y), (1, .int (nI t)), (2, .int (nI i))] → W p l e ({ frames := 1, cells := 0, slots := 0, locals := 22 }) s m ([.ref y, .int (nI t), .int (nI i)] : List Value).toArray below meth c H locs 0 0 (MQ below (QrI (fun q => ((q = 1 ∧ (sndN ((r 3) t) (r 11) (r 5) t i)) ∨ (q = 0 ∧ ¬ (sndN ((r 3) t) (r 11) (r 5) t i)))) (fun q => s.heap.size ≤ q)) ([.ref y, .int (nI t), .int (nI i)] : List Value).toArray s 0 0 (fun q => s.heap.size ≤ q)) (F0 m 81 ls [.int z13]) := by
              intro z13 gz13 hz81 H locs ls hP hS hl
              refine lv_istore_n (lv' := [(3, .int z13), (4, .int (nI j)), (0, .ref y), (1, .int (nI t)), (2, .int (nI i))]) hx hb dX7_isSound_81 rfl hl (by decide) rfl (fun ls hl => ?_)
              obtain ⟨v14, ev14⟩ : ∃ y9 : Int32, y9 = (nI j) + Int32.ofInt (1) := ⟨_, rfl⟩
              refine lv_iinc (v := v14) (lv' := [(4, .int v14), (3, .int z13), (0, .ref y), (1, .int (nI t)), (2, .int (nI i))]) hx hb dX7_isSound_82 hl (k := 1) rfl ev14.symm (by decide) rfl (fun ls hl => ?_)
              obtain rfl : v14 = nI (j + 1) := nI_plus (i := j) (j := 1) ev14 rfl (by decide)
              refine lv_goto (tgt := 29) hx hb dX7_isSound_85 (by decide) ?_
              exact ih29k6 (j + 1) z13 (by omega) (by omega) gz13 (sd_s hsd c10 hz81 hsi (by omega)) _ _ _ hP hS (lv_sub hl [0, 1, 2, 3, 4] rfl)
            refine lv_icmp_lt (tgt := 80) hx hb dX7_isSound_57 (by decide) (fun c15 => ?_) (fun c15 => ?_)
            · refine lv_iconst (v := 0) hx hb dX7_isSound_80 (by decide) ?_
              exact j81_13 0 (Or.inl rfl) (Or.inr ⟨rfl, fun h9 => h9.1 (by rw [← ev12]; exact c15)⟩) _ _ _ hP hS (lv_sub hl [0, 2, 3, 4] rfl)
            · refine lv_aload_n hx hb dX7_isSound_60 rfl (lv_at hl 2 rfl) ?_
              refine va_get (D := G.1) (ci := 7) (v := .ref (b 5)) (C := RX7) (T := TX7) (N := 43) hx hb hts inX7 hown hK.1 hP 0 rfl rfl 5 (by decide) (hts _ mf_X7_23) (fun _ h9 => h9) rfl dX7_isSound_61 ?_
              refine lv_iload_n hx hb dX7_isSound_64 rfl (lv_at hl 3 rfl) ?_
              refine lv_iload_n hx hb dX7_isSound_65 rfl (lv_at hl 4 rfl) ?_
              refine lv_iload hx hb dX7_isSound_66 (lv_at hl 0 rfl) ?_
              refine rdS (rest := [.ref (b 5)]) ⟨hx, hb, hml, hown, hts⟩ (m_X7_at l G y b f r t i j  ) mi_yX7_at mst_yX7_at ml_X7_147 ⟨rfl, rfl, Nat.le_of_ble_eq_true rfl, Nat.le_of_ble_eq_true rfl⟩ hK (hP) rfl hl.1 rfl (Nat.le_of_ble_eq_true rfl) dX7_isSound_68 ⟨Nat.zero_le _, Nat.zero_le _⟩ hS hA hP (fun r16 H locs hr16 hP hS => ?_)
              obtain rfl := hr16
              refine xiald (f := (r 5)) hx hb hK hP 5 ((144 * t + 12 * i + j)) (rfl) (by omega) (by decide) rfl dX7_isSound_71 ?_
              refine lv_topi (fun v17 ev17 => ?_)
              refine lv_iconst (v := 4) hx hb dX7_isSound_72 (by decide) ?_
              refine lv_icmp_gt (tgt := 80) hx hb dX7_isSound_73 (by decide) (fun c18 => ?_) (fun c18 => ?_)
              · refine lv_iconst (v := 0) hx hb dX7_isSound_80 (by decide) ?_
                exact j81_13 0 (Or.inl rfl) (Or.inr ⟨rfl, fun h9 => h9.2 (by rw [← ev17]; exact c18)⟩) _ _ _ hP hS (lv_sub hl [0, 2, 3, 4] rfl)
              · refine lv_iconst (v := 1) hx hb dX7_isSound_76 (by decide) ?_
                refine lv_goto (tgt := 81) hx hb dX7_isSound_77 (by decide) ?_
                exact j81_13 1 (Or.inr rfl) (Or.inl ⟨rfl, by rw [← ev12]; exact c15, by rw [← ev17]; exact c18⟩) _ _ _ hP hS (lv_sub hl [0, 2, 3, 4] rfl)
    exact loop29 (cl + 1) 0 z5 (by omega) (by omega) gz5 (hz3.elim (fun z9 => Or.inl ⟨z9.1, ev3.symm.trans z9.2, fun c h9 => absurd h9 (by omega)⟩) (fun z9 => Or.inr ⟨z9.1, fun h9 => z9.2 (ev3.trans (hsi.mp h9).1)⟩)) _ _ _ hP hS (lv_sub hl [0, 1, 2, 3, 4] rfl)
  refine lv_icmp_ne (tgt := 24) hx hb dX7_isSound_17 (by decide) (fun c19 => ?_) (fun c19 => ?_)
  · refine lv_iconst (v := 0) hx hb dX7_isSound_24 (by decide) ?_
    exact j25_5 0 (Or.inl rfl) (Or.inr ⟨rfl, c19⟩) _ _ _ hP hS (lv_sub hl [0, 1, 2] rfl)
  · refine lv_iconst (v := 1) hx hb dX7_isSound_20 (by decide) ?_
    refine lv_goto (tgt := 25) hx hb dX7_isSound_21 (by decide) ?_
    exact j25_5 1 (Or.inr rfl) (Or.inl ⟨rfl, c19⟩) _ _ _ hP hS (lv_sub hl [0, 1, 2] rfl)
set_option maxHeartbeats 4000000 in
set_option maxRecDepth 100000 in
theorem m_X7_sumOf (l : Launch) (G : GG) (y : Nat) (b : Nat → Nat) (f : Nat → Int32) (r : Nat → Nat → Int32) (t : Nat) (i : Nat) (rw : Nat) (cl : Nat) (bk : Nat) (ht : t < 6) (hrw : rw ≤ 12) (hcl : cl ≤ 12) (hbk : bk ≤ 12) (h2 : (r 2) t = nI rw) (h3 : (r 3) t = nI cl) (h12 : (r 12) t = nI bk) (hi : i < 12) : RdI l yX7_sumOf cX7_sumOf 5 (some .int) ({ frames := 1, cells := 0, slots := 0, locals := 22 }) G (mM G y b f r) [.ref y, .int (nI t), .int (nI i)] (fun q => q = smM (r 6) t i ((r 3) t).toNatClampNeg) := by
  refine rd_entry (by decide +kernel) (Nat.le_of_ble_eq_true rfl) ?_
  intro p e s m below meth c C0 hP hK ls hl
  have hS : va_S (fun q => s.heap.size ≤ q) s.heap s.heap [] := va_S.rf
  have hA : ∀ q, s.heap.size ≤ q → (fun q => s.heap.size ≤ q) q := fun _ h => h
  obtain ⟨hx, hb, hml, hown, hts, hr, hlocks, hin⟩ := C0
  have hown : s.vm.findClass RX7 = some m.cls := hown
  have hl : lv_has ls 5 [(0, .ref y), (1, .int (nI t)), (2, .int (nI i))] := hl
  refine lv_iconst (v := 0) hx hb dX7_sumOf_0 (by decide) ?_
  refine lv_istore_n (lv' := [(3, .int 0), (0, .ref y), (1, .int (nI t)), (2, .int (nI i))]) hx hb dX7_sumOf_1 rfl hl (by decide) rfl (fun ls hl => ?_)
  refine lv_iconst (v := 0) hx hb dX7_sumOf_2 (by decide) ?_
  refine lv_istore (lv' := [(4, .int 0), (3, .int 0), (0, .ref y), (1, .int (nI t)), (2, .int (nI i))]) hx hb dX7_sumOf_3 hl (by decide) rfl (fun ls hl => ?_)
  have loop5 : ∀ (k1 j : Nat) (z2 : Int32), j ≤ cl → cl < j + k1 → (z2 = smM (r 6) t i j) → ∀ (H : Heap) (locs : List Loc) (ls : Array Slot), PP G (mM G y b f r) H → va_S (fun q => s.heap.size ≤ q) s.heap H locs → lv_has ls 5 [(4, .int (nI j)), (3, .int z2), (0, .ref y), (1, .int (nI t)), (2, .int (nI i))] → W p l e ({ frames := 1, cells := 0, slots := 0, locals := 22 }) s m ([.ref y, .int (nI t), .int (nI i)] : List Value).toArray below meth c H locs 0 0 (MQ below (QrI (fun q => q = smM (r 6) t i ((r 3) t).toNatClampNeg) (fun q => s.heap.size ≤ q)) ([.ref y, .int (nI t), .int (nI i)] : List Value).toArray s 0 0 (fun q => s.heap.size ≤ q)) (F0 m 5 ls []) := by
    intro k1
    induction k1 with
    | zero => intro j z2 h1 h2; exact absurd h1 (by omega)
    | succ k1 ih5k1 =>
      intro j z2 hi_j hk_j hsm H locs ls hP hS hl
      refine lv_iload hx hb dX7_sumOf_5 (lv_at hl 0 rfl) ?_
      refine lv_aload_n hx hb dX7_sumOf_7 rfl (lv_at hl 2 rfl) ?_
      refine va_get (D := G.1) (ci := 7) (v := .ref (b 3)) (C := RX7) (T := TX7) (N := 43) hx hb hts inX7 hown hK.1 hP 0 rfl rfl 3 (by decide) (hts _ mf_X7_17) (fun _ h9 => h9) rfl dX7_sumOf_8 ?_
      refine lv_iload_n hx hb dX7_sumOf_11 rfl (lv_at hl 3 rfl) ?_
      refine xiald (f := (r 3)) hx hb hK hP 3 (t) (rfl) (by omega) (by decide) rfl dX7_sumOf_12 ?_
      refine lv_topi (fun v3 ev3 => ?_)
      obtain rfl : v3 = nI (cl) := ev3.trans (h3)
      refine lv_icmp_ge (tgt := 37) hx hb dX7_sumOf_13 (by decide) (fun c4 => ?_) (fun c4 => ?_)
      · have b13 := qge_t (a := j) (b := (cl)) (by omega) (by omega) c4
        refine lv_iload_n hx hb dX7_sumOf_37 rfl (lv_at hl 1 rfl) ?_
        exact rd_iret hx hb hr hlocks hS ((by rw [hsm, h3, nI_clamp (by omega), show j = cl by omega])) dX7_sumOf_38
      · have b13 := qge_f (a := j) (b := (cl)) (by omega) (by omega) c4
        refine lv_iload_n hx hb dX7_sumOf_16 rfl (lv_at hl 1 rfl) ?_
        refine lv_aload_n hx hb dX7_sumOf_17 rfl (lv_at hl 2 rfl) ?_
        refine va_get (D := G.1) (ci := 7) (v := .ref (b 6)) (C := RX7) (T := TX7) (N := 43) hx hb hts inX7 hown hK.1 hP 0 rfl rfl 6 (by decide) (hts _ mf_X7_26) (fun _ h9 => h9) rfl dX7_sumOf_18 ?_
        refine lv_iload_n hx hb dX7_sumOf_21 rfl (lv_at hl 3 rfl) ?_
        refine lv_iload_n hx hb dX7_sumOf_22 rfl (lv_at hl 4 rfl) ?_
        refine lv_iload hx hb dX7_sumOf_23 (lv_at hl 0 rfl) ?_
        refine rdS (rest := [.ref (b 6), .int z2]) ⟨hx, hb, hml, hown, hts⟩ (m_X7_at l G y b f r t i j  ) mi_yX7_at mst_yX7_at ml_X7_147 ⟨rfl, rfl, Nat.le_of_ble_eq_true rfl, Nat.le_of_ble_eq_true rfl⟩ hK (hP) rfl hl.1 rfl (Nat.le_of_ble_eq_true rfl) dX7_sumOf_25 ⟨Nat.zero_le _, Nat.zero_le _⟩ hS hA hP (fun r5 H locs hr5 hP hS => ?_)
        obtain rfl := hr5
        refine xiald (f := (r 6)) hx hb hK hP 6 ((144 * t + 12 * i + j)) (rfl) (by omega) (by decide) rfl dX7_sumOf_28 ?_
        refine lv_topi (fun v6 ev6 => ?_)
        refine lv_iadd hx hb dX7_sumOf_29 ?_
        refine lv_topi (fun v7 ev7 => ?_)
        refine lv_istore_n (lv' := [(3, .int v7), (4, .int (nI j)), (0, .ref y), (1, .int (nI t)), (2, .int (nI i))]) hx hb dX7_sumOf_30 rfl hl (by decide) rfl (fun ls hl => ?_)
        obtain ⟨v8, ev8⟩ : ∃ y9 : Int32, y9 = (nI j) + Int32.ofInt (1) := ⟨_, rfl⟩
        refine lv_iinc (v := v8) (lv' := [(4, .int v8), (3, .int v7), (0, .ref y), (1, .int (nI t)), (2, .int (nI i))]) hx hb dX7_sumOf_31 hl (k := 1) rfl ev8.symm (by decide) rfl (fun ls hl => ?_)
        obtain rfl : v8 = nI (j + 1) := nI_plus (i := j) (j := 1) ev8 rfl (by decide)
        refine lv_goto (tgt := 5) hx hb dX7_sumOf_34 (by decide) ?_
        exact ih5k1 (j + 1) v7 (by omega) (by omega) (ev7.trans (by rw [hsm, ev6]; rfl)) _ _ _ hP hS (lv_sub hl [0, 1, 2, 3, 4] rfl)
  exact loop5 (cl + 1) 0 0 (by omega) (by omega) (rfl) _ _ _ hP hS (lv_sub hl [0, 1, 2, 3, 4] rfl)
set_option maxHeartbeats 4000000 in
set_option maxRecDepth 100000 in
theorem m_X7_twoGreatest (l : Launch) (G : GG) (y : Nat) (b : Nat → Nat) (f : Nat → Int32) (r : Nat → Nat → Int32) (pa : Nat) (hp : pa < 864) (hG : nOK 864 6 (r 7)) : RdI l yX7_twoGreatest cX7_twoGreatest 6 (some .int) ({ frames := 0, cells := 0, slots := 0, locals := 0 }) G (mM G y b f r) [.ref y, .int (nI pa)] (fun q => q = ((twM (fun m => (r 8) (6 * pa + m)) ((r 7) pa).toNatClampNeg).1 + (twM (fun m => (r 8) (6 * pa + m)) ((r 7) pa).toNatClampNeg).2)) := by
  refine rd_entry (by decide +kernel) (Nat.le_of_ble_eq_true rfl) ?_
  intro p e s m below meth c C0 hP hK ls hl
  have hS : va_S (fun q => s.heap.size ≤ q) s.heap s.heap [] := va_S.rf
  have hA : ∀ q, s.heap.size ≤ q → (fun q => s.heap.size ≤ q) q := fun _ h => h
  obtain ⟨hx, hb, hml, hown, hts, hr, hlocks, hin⟩ := C0
  have hown : s.vm.findClass RX7 = some m.cls := hown
  have hl : lv_has ls 6 [(0, .ref y), (1, .int (nI pa))] := hl
  obtain ⟨gm, hgm, eg⟩ := hG pa hp
  refine lv_iconst (v := 0) hx hb dX7_twoGreatest_0 (by decide) ?_
  refine lv_istore_n (lv' := [(2, .int 0), (0, .ref y), (1, .int (nI pa))]) hx hb dX7_twoGreatest_1 rfl hl (by decide) rfl (fun ls hl => ?_)
  refine lv_iconst (v := 0) hx hb dX7_twoGreatest_2 (by decide) ?_
  refine lv_istore_n (lv' := [(3, .int 0), (2, .int 0), (0, .ref y), (1, .int (nI pa))]) hx hb dX7_twoGreatest_3 rfl hl (by decide) rfl (fun ls hl => ?_)
  refine lv_iconst (v := 0) hx hb dX7_twoGreatest_4 (by decide) ?_
  refine lv_istore (lv' := [(4, .int 0), (3, .int 0), (2, .int 0), (0, .ref y), (1, .int (nI pa))]) hx hb dX7_twoGreatest_5 hl (by decide) rfl (fun ls hl => ?_)
  have loop7 : ∀ (k1 j : Nat) (z2 : Int32) (z3 : Int32), j ≤ gm → gm < j + k1 → (z3 = (twM (fun m => r 8 (6 * pa + m)) j).1) → (z2 = (twM (fun m => r 8 (6 * pa + m)) j).2) → ∀ (H : Heap) (locs : List Loc) (ls : Array Slot), PP G (mM G y b f r) H → va_S (fun q => s.heap.size ≤ q) s.heap H locs → lv_has ls 6 [(4, .int (nI j)), (3, .int z2), (2, .int z3), (0, .ref y), (1, .int (nI pa))] → W p l e ({ frames := 0, cells := 0, slots := 0, locals := 0 }) s m ([.ref y, .int (nI pa)] : List Value).toArray below meth c H locs 0 0 (MQ below (QrI (fun q => q = ((twM (fun m => (r 8) (6 * pa + m)) ((r 7) pa).toNatClampNeg).1 + (twM (fun m => (r 8) (6 * pa + m)) ((r 7) pa).toNatClampNeg).2)) (fun q => s.heap.size ≤ q)) ([.ref y, .int (nI pa)] : List Value).toArray s 0 0 (fun q => s.heap.size ≤ q)) (F0 m 7 ls []) := by
    intro k1
    induction k1 with
    | zero => intro j z2 z3 h1 h2; exact absurd h1 (by omega)
    | succ k1 ih7k1 =>
      intro j z2 z3 hi_j hk_j ht2 ht3 H locs ls hP hS hl
      refine lv_iload hx hb dX7_twoGreatest_7 (lv_at hl 0 rfl) ?_
      refine lv_aload_n hx hb dX7_twoGreatest_9 rfl (lv_at hl 3 rfl) ?_
      refine va_get (D := G.1) (ci := 7) (v := .ref (b 7)) (C := RX7) (T := TX7) (N := 43) hx hb hts inX7 hown hK.1 hP 0 rfl rfl 7 (by decide) (hts _ mf_X7_29) (fun _ h9 => h9) rfl dX7_twoGreatest_10 ?_
      refine lv_iload_n hx hb dX7_twoGreatest_13 rfl (lv_at hl 4 rfl) ?_
      refine xiald (f := (r 7)) hx hb hK hP 7 (pa) (rfl) (by omega) (by decide) rfl dX7_twoGreatest_14 ?_
      refine lv_topi (fun v4 ev4 => ?_)
      obtain rfl : v4 = nI (gm) := ev4.trans (eg)
      refine lv_icmp_ge (tgt := 61) hx hb dX7_twoGreatest_15 (by decide) (fun c5 => ?_) (fun c5 => ?_)
      · have b15 := qge_t (a := j) (b := (gm)) (by omega) (by omega) c5
        refine lv_iload_n hx hb dX7_twoGreatest_61 rfl (lv_at hl 2 rfl) ?_
        refine lv_iload_n hx hb dX7_twoGreatest_62 rfl (lv_at hl 1 rfl) ?_
        refine lv_iadd hx hb dX7_twoGreatest_63 ?_
        refine lv_topi (fun v6 ev6 => ?_)
        exact rd_iret hx hb hr hlocks hS ((by rw [ev6, ht2, ht3, eg, nI_clamp (by omega), show j = gm by omega])) dX7_twoGreatest_64
      · have b15 := qge_f (a := j) (b := (gm)) (by omega) (by omega) c5
        refine lv_aload_n hx hb dX7_twoGreatest_18 rfl (lv_at hl 3 rfl) ?_
        refine va_get (D := G.1) (ci := 7) (v := .ref (b 8)) (C := RX7) (T := TX7) (N := 43) hx hb hts inX7 hown hK.1 hP 0 rfl rfl 8 (by decide) (hts _ mf_X7_32) (fun _ h9 => h9) rfl dX7_twoGreatest_19 ?_
        refine lv_bipush (v := 6) hx hb dX7_twoGreatest_22 (by decide) ?_
        refine lv_iload_n hx hb dX7_twoGreatest_24 rfl (lv_at hl 4 rfl) ?_
        refine lv_imul hx hb dX7_twoGreatest_25 ?_
        refine lv_topi (fun v7 ev7 => ?_)
        obtain rfl : v7 = nI (6 * pa) := nI_times ev7 rfl rfl
        refine lv_iload hx hb dX7_twoGreatest_26 (lv_at hl 0 rfl) ?_
        refine lv_iadd hx hb dX7_twoGreatest_28 ?_
        refine lv_topi (fun v8 ev8 => ?_)
        obtain rfl : v8 = nI ((6 * pa) + j) := nI_plus ev8 rfl rfl
        refine xiald (f := (r 8)) hx hb hK hP 8 (((6 * pa) + j)) (rfl) (by omega) (by decide) rfl dX7_twoGreatest_29 ?_
        refine lv_topi (fun v9 ev9 => ?_)
        refine lv_istore (lv' := [(5, .int v9), (4, .int (nI j)), (3, .int z2), (2, .int z3), (0, .ref y), (1, .int (nI pa))]) hx hb dX7_twoGreatest_30 hl (by decide) rfl (fun ls hl => ?_)
        refine lv_iload hx hb dX7_twoGreatest_32 (lv_at hl 0 rfl) ?_
        refine lv_iload_n hx hb dX7_twoGreatest_34 rfl (lv_at hl 3 rfl) ?_
        refine lv_icmp_le (tgt := 46) hx hb dX7_twoGreatest_35 (by decide) (fun c10 => ?_) (fun c10 => ?_)
        · refine lv_iload hx hb dX7_twoGreatest_46 (lv_at hl 0 rfl) ?_
          refine lv_iload_n hx hb dX7_twoGreatest_48 rfl (lv_at hl 2 rfl) ?_
          refine lv_icmp_le (tgt := 55) hx hb dX7_twoGreatest_49 (by decide) (fun c11 => ?_) (fun c11 => ?_)
          · obtain ⟨v12, ev12⟩ : ∃ y9 : Int32, y9 = (nI j) + Int32.ofInt (1) := ⟨_, rfl⟩
            refine lv_iinc (v := v12) (lv' := [(4, .int v12), (5, .int v9), (3, .int z2), (2, .int z3), (0, .ref y), (1, .int (nI pa))]) hx hb dX7_twoGreatest_55 hl (k := 1) rfl ev12.symm (by decide) rfl (fun ls hl => ?_)
            obtain rfl : v12 = nI (j + 1) := nI_plus (i := j) (j := 1) ev12 rfl (by decide)
            refine lv_goto (tgt := 7) hx hb dX7_twoGreatest_58 (by decide) ?_
            exact ih7k1 (j + 1) z2 z3 (by omega) (by omega) (ht2.trans (congrArg Prod.fst (tw_c (q := (fun m => r 8 (6 * pa + m))) (show ¬ (twM (fun m => r 8 (6 * pa + m)) j).1 < r 8 (6 * pa + j) by rw [← ht2, ← ev9]; exact le_n c10) (show ¬ (twM (fun m => r 8 (6 * pa + m)) j).2 < r 8 (6 * pa + j) by rw [← ht3, ← ev9]; exact le_n c11))).symm) (ht3.trans (congrArg Prod.snd (tw_c (q := (fun m => r 8 (6 * pa + m))) (show ¬ (twM (fun m => r 8 (6 * pa + m)) j).1 < r 8 (6 * pa + j) by rw [← ht2, ← ev9]; exact le_n c10) (show ¬ (twM (fun m => r 8 (6 * pa + m)) j).2 < r 8 (6 * pa + j) by rw [← ht3, ← ev9]; exact le_n c11))).symm) _ _ _ hP hS (lv_sub hl [0, 2, 3, 4, 5] rfl)
          · refine lv_iload hx hb dX7_twoGreatest_52 (lv_at hl 0 rfl) ?_
            refine lv_istore_n (lv' := [(3, .int v9), (5, .int v9), (4, .int (nI j)), (2, .int z3), (0, .ref y), (1, .int (nI pa))]) hx hb dX7_twoGreatest_54 rfl hl (by decide) rfl (fun ls hl => ?_)
            obtain ⟨v13, ev13⟩ : ∃ y9 : Int32, y9 = (nI j) + Int32.ofInt (1) := ⟨_, rfl⟩
            refine lv_iinc (v := v13) (lv' := [(4, .int v13), (3, .int v9), (5, .int v9), (2, .int z3), (0, .ref y), (1, .int (nI pa))]) hx hb dX7_twoGreatest_55 hl (k := 2) rfl ev13.symm (by decide) rfl (fun ls hl => ?_)
            obtain rfl : v13 = nI (j + 1) := nI_plus (i := j) (j := 1) ev13 rfl (by decide)
            refine lv_goto (tgt := 7) hx hb dX7_twoGreatest_58 (by decide) ?_
            exact ih7k1 (j + 1) v9 z3 (by omega) (by omega) (ht2.trans (congrArg Prod.fst (tw_b (q := (fun m => r 8 (6 * pa + m))) (show ¬ (twM (fun m => r 8 (6 * pa + m)) j).1 < r 8 (6 * pa + j) by rw [← ht2, ← ev9]; exact le_n c10) (show  (twM (fun m => r 8 (6 * pa + m)) j).2 < r 8 (6 * pa + j) by rw [← ht3, ← ev9]; exact n_le c11))).symm) (ev9.trans (congrArg Prod.snd (tw_b (q := (fun m => r 8 (6 * pa + m))) (show ¬ (twM (fun m => r 8 (6 * pa + m)) j).1 < r 8 (6 * pa + j) by rw [← ht2, ← ev9]; exact le_n c10) (show  (twM (fun m => r 8 (6 * pa + m)) j).2 < r 8 (6 * pa + j) by rw [← ht3, ← ev9]; exact n_le c11))).symm) _ _ _ hP hS (lv_sub hl [0, 1, 3, 4, 5] rfl)
        · refine lv_iload_n hx hb dX7_twoGreatest_38 rfl (lv_at hl 3 rfl) ?_
          refine lv_istore_n (lv' := [(3, .int z3), (5, .int v9), (4, .int (nI j)), (2, .int z3), (0, .ref y), (1, .int (nI pa))]) hx hb dX7_twoGreatest_39 rfl hl (by decide) rfl (fun ls hl => ?_)
          refine lv_iload hx hb dX7_twoGreatest_40 (lv_at hl 1 rfl) ?_
          refine lv_istore_n (lv' := [(2, .int v9), (3, .int z3), (5, .int v9), (4, .int (nI j)), (0, .ref y), (1, .int (nI pa))]) hx hb dX7_twoGreatest_42 rfl hl (by decide) rfl (fun ls hl => ?_)
          refine lv_goto (tgt := 55) hx hb dX7_twoGreatest_43 (by decide) ?_
          obtain ⟨v14, ev14⟩ : ∃ y9 : Int32, y9 = (nI j) + Int32.ofInt (1) := ⟨_, rfl⟩
          refine lv_iinc (v := v14) (lv' := [(4, .int v14), (2, .int v9), (3, .int z3), (5, .int v9), (0, .ref y), (1, .int (nI pa))]) hx hb dX7_twoGreatest_55 hl (k := 3) rfl ev14.symm (by decide) rfl (fun ls hl => ?_)
          obtain rfl : v14 = nI (j + 1) := nI_plus (i := j) (j := 1) ev14 rfl (by decide)
          refine lv_goto (tgt := 7) hx hb dX7_twoGreatest_58 (by decide) ?_
          exact ih7k1 (j + 1) z3 v9 (by omega) (by omega) (ev9.trans (congrArg Prod.fst (tw_a (q := (fun m => r 8 (6 * pa + m))) (show  (twM (fun m => r 8 (6 * pa + m)) j).1 < r 8 (6 * pa + j) by rw [← ht2, ← ev9]; exact n_le c10))).symm) (ht2.trans (congrArg Prod.snd (tw_a (q := (fun m => r 8 (6 * pa + m))) (show  (twM (fun m => r 8 (6 * pa + m)) j).1 < r 8 (6 * pa + j) by rw [← ht2, ← ev9]; exact n_le c10))).symm) _ _ _ hP hS (lv_sub hl [0, 2, 1, 4, 5] rfl)
  exact loop7 (gm + 1) 0 0 0 (by omega) (by omega) (rfl) (rfl) _ _ _ hP hS (lv_sub hl [0, 1, 2, 3, 4] rfl)
set_option maxHeartbeats 4000000 in
set_option maxRecDepth 100000 in
theorem m_X7_why (l : Launch) (G : GG) (y : Nat) (b : Nat → Nat) (f : Nat → Int32) (r : Nat → Nat → Int32) (t : Nat) (pa : Nat) (ht : t < 6) (hp : pa < 864) (hG : nOK 864 6 (r 7)) : RdI l yX7_why cX7_why 6 (some .int) ({ frames := 1, cells := 0, slots := 0, locals := 25 }) G (mM G y b f r) [.ref y, .int (nI t), .int (nI pa)] (fun q => q = whM ((r 5) pa) ((r 6) pa) ((r 9) pa) ((r 4) (6 * t)) ((r 4) (6 * t + 1)) ((r 4) (6 * t + 2)) ((r 7) pa) ((twM (fun m => (r 8) (6 * pa + m)) ((r 7) pa).toNatClampNeg).1 + (twM (fun m => (r 8) (6 * pa + m)) ((r 7) pa).toNatClampNeg).2)) := by
  refine rd_entry (by decide +kernel) (Nat.le_of_ble_eq_true rfl) ?_
  intro p e s m below meth c C0 hP hK ls hl
  have hS : va_S (fun q => s.heap.size ≤ q) s.heap s.heap [] := va_S.rf
  have hA : ∀ q, s.heap.size ≤ q → (fun q => s.heap.size ≤ q) q := fun _ h => h
  obtain ⟨hx, hb, hml, hown, hts, hr, hlocks, hin⟩ := C0
  have hown : s.vm.findClass RX7 = some m.cls := hown
  have hl : lv_has ls 6 [(0, .ref y), (1, .int (nI t)), (2, .int (nI pa))] := hl
  refine lv_aload_n hx hb dX7_why_0 rfl (lv_at hl 0 rfl) ?_
  refine va_get (D := G.1) (ci := 7) (v := .ref (b 5)) (C := RX7) (T := TX7) (N := 43) hx hb hts inX7 hown hK.1 hP 0 rfl rfl 5 (by decide) (hts _ mf_X7_23) (fun _ h9 => h9) rfl dX7_why_1 ?_
  refine lv_iload_n hx hb dX7_why_4 rfl (lv_at hl 2 rfl) ?_
  refine xiald (f := (r 5)) hx hb hK hP 5 (pa) (rfl) (by omega) (by decide) rfl dX7_why_5 ?_
  refine lv_topi (fun v1 ev1 => ?_)
  refine lv_istore_n (lv' := [(3, .int v1), (0, .ref y), (1, .int (nI t)), (2, .int (nI pa))]) hx hb dX7_why_6 rfl hl (by decide) rfl (fun ls hl => ?_)
  refine lv_iload_n hx hb dX7_why_7 rfl (lv_at hl 0 rfl) ?_
  refine lv_iconst (v := 4) hx hb dX7_why_8 (by decide) ?_
  refine lv_icmp_eq (tgt := 21) hx hb dX7_why_9 (by decide) (fun c2 => ?_) (fun c2 => ?_)
  · refine lv_iconst (v := 0) hx hb dX7_why_21 (by decide) ?_
    exact rd_iret hx hb hr hlocks hS (whM_0 (Or.inl (ev1.symm.trans c2))) dX7_why_22
  · refine lv_iload_n hx hb dX7_why_12 rfl (lv_at hl 0 rfl) ?_
    refine lv_iconst (v := 5) hx hb dX7_why_13 (by decide) ?_
    refine lv_icmp_eq (tgt := 21) hx hb dX7_why_14 (by decide) (fun c3 => ?_) (fun c3 => ?_)
    · refine lv_iconst (v := 0) hx hb dX7_why_21 (by decide) ?_
      exact rd_iret hx hb hr hlocks hS (whM_0 (Or.inr (Or.inl (ev1.symm.trans c3)))) dX7_why_22
    · refine lv_iload_n hx hb dX7_why_17 rfl (lv_at hl 0 rfl) ?_
      refine lv_if_ne (tgt := 23) hx hb dX7_why_18 (by decide) (fun c4 => ?_) (fun c4 => ?_)
      · refine lv_aload_n hx hb dX7_why_23 rfl (lv_at hl 1 rfl) ?_
        refine va_get (D := G.1) (ci := 7) (v := .ref (b 6)) (C := RX7) (T := TX7) (N := 43) hx hb hts inX7 hown hK.1 hP 0 rfl rfl 6 (by decide) (hts _ mf_X7_26) (fun _ h9 => h9) rfl dX7_why_24 ?_
        refine lv_iload_n hx hb dX7_why_27 rfl (lv_at hl 3 rfl) ?_
        refine xiald (f := (r 6)) hx hb hK hP 6 (pa) (rfl) (by omega) (by decide) rfl dX7_why_28 ?_
        refine lv_topi (fun v5 ev5 => ?_)
        refine lv_istore (lv' := [(4, .int v5), (3, .int v1), (0, .ref y), (1, .int (nI t)), (2, .int (nI pa))]) hx hb dX7_why_29 hl (by decide) rfl (fun ls hl => ?_)
        refine lv_aload_n hx hb dX7_why_31 rfl (lv_at hl 2 rfl) ?_
        refine va_get (D := G.1) (ci := 7) (v := .ref (b 9)) (C := RX7) (T := TX7) (N := 43) hx hb hts inX7 hown hK.1 hP 0 rfl rfl 9 (by decide) (hts _ mf_X7_35) (fun _ h9 => h9) rfl dX7_why_32 ?_
        refine lv_iload_n hx hb dX7_why_35 rfl (lv_at hl 4 rfl) ?_
        refine xzald (f := (r 9)) hx hb hK hP 9 (pa) (rfl) (by omega) (by decide) rfl dX7_why_36 ?_
        refine lv_topi (fun v6 ev6 => ?_)
        have j46_7 : ∀ (z7 : Int32) (hw0 : z7 = whB (r 9 pa)) (H : Heap) (locs : List Loc) (ls : Array Slot), PP G (mM G y b f r) H → va_S (fun q => s.heap.size ≤ q) s.heap H locs → lv_has ls 6 [(4, .int v5), (3, .int v1), (0, .ref y), (1, .int (nI t)), (2, .int (nI pa))] → W p l e ({ frames := 1, cells := 0, slots := 0, locals := 25 }) s m ([.ref y, .int (nI t), .int (nI pa)] : List Value).toArray below meth c H locs 0 0 (MQ below (QrI (fun q => q = whM ((r 5) pa) ((r 6) pa) ((r 9) pa) ((r 4) (6 * t)) ((r 4) (6 * t + 1)) ((r 4) (6 * t + 2)) ((r 7) pa) ((twM (fun m => (r 8) (6 * pa + m)) ((r 7) pa).toNatClampNeg).1 + (twM (fun m => (r 8) (6 * pa + m)) ((r 7) pa).toNatClampNeg).2)) (fun q => s.heap.size ≤ q)) ([.ref y, .int (nI t), .int (nI pa)] : List Value).toArray s 0 0 (fun q => s.heap.size ≤ q)) (F0 m 46 ls [.int z7]) := by
          intro z7 hw0 H locs ls hP hS hl
          refine lv_istore (lv' := [(5, .int z7), (4, .int v5), (3, .int v1), (0, .ref y), (1, .int (nI t)), (2, .int (nI pa))]) hx hb dX7_why_46 hl (by decide) rfl (fun ls hl => ?_)
          refine lv_iload_n hx hb dX7_why_48 rfl (lv_at hl 2 rfl) ?_
          refine lv_iconst (v := 1) hx hb dX7_why_49 (by decide) ?_
          have j76_8 : ∀ (z8 : Int32) (hw1 : z8 = wh1 (r 5 pa) (r 6 pa) (r 9 pa) (r 4 (6 * t))) (H : Heap) (locs : List Loc) (ls : Array Slot), PP G (mM G y b f r) H → va_S (fun q => s.heap.size ≤ q) s.heap H locs → lv_has ls 6 [(5, .int z8), (4, .int v5), (3, .int v1), (0, .ref y), (1, .int (nI t)), (2, .int (nI pa))] → W p l e ({ frames := 1, cells := 0, slots := 0, locals := 25 }) s m ([.ref y, .int (nI t), .int (nI pa)] : List Value).toArray below meth c H locs 0 0 (MQ below (QrI (fun q => q = whM ((r 5) pa) ((r 6) pa) ((r 9) pa) ((r 4) (6 * t)) ((r 4) (6 * t + 1)) ((r 4) (6 * t + 2)) ((r 7) pa) ((twM (fun m => (r 8) (6 * pa + m)) ((r 7) pa).toNatClampNeg).1 + (twM (fun m => (r 8) (6 * pa + m)) ((r 7) pa).toNatClampNeg).2)) (fun q => s.heap.size ≤ q)) ([.ref y, .int (nI t), .int (nI pa)] : List Value).toArray s 0 0 (fun q => s.heap.size ≤ q)) (F0 m 76 ls []) := by
            intro z8 hw1 H locs ls hP hS hl
            refine lv_iload_n hx hb dX7_why_76 rfl (lv_at hl 2 rfl) ?_
            refine lv_iconst (v := 2) hx hb dX7_why_77 (by decide) ?_
            have j109_9 : ∀ (z9 : Int32) (hw2 : z9 = wh2 (r 5 pa) (r 6 pa) (r 9 pa) (r 4 (6 * t)) (r 4 (6 * t + 1)) (r 7 pa)) (H : Heap) (locs : List Loc) (ls : Array Slot), PP G (mM G y b f r) H → va_S (fun q => s.heap.size ≤ q) s.heap H locs → lv_has ls 6 [(5, .int z9), (4, .int v5), (3, .int v1), (0, .ref y), (1, .int (nI t)), (2, .int (nI pa))] → W p l e ({ frames := 1, cells := 0, slots := 0, locals := 25 }) s m ([.ref y, .int (nI t), .int (nI pa)] : List Value).toArray below meth c H locs 0 0 (MQ below (QrI (fun q => q = whM ((r 5) pa) ((r 6) pa) ((r 9) pa) ((r 4) (6 * t)) ((r 4) (6 * t + 1)) ((r 4) (6 * t + 2)) ((r 7) pa) ((twM (fun m => (r 8) (6 * pa + m)) ((r 7) pa).toNatClampNeg).1 + (twM (fun m => (r 8) (6 * pa + m)) ((r 7) pa).toNatClampNeg).2)) (fun q => s.heap.size ≤ q)) ([.ref y, .int (nI t), .int (nI pa)] : List Value).toArray s 0 0 (fun q => s.heap.size ≤ q)) (F0 m 109 ls []) := by
              intro z9 hw2 H locs ls hP hS hl
              refine lv_iload_n hx hb dX7_why_109 rfl (lv_at hl 2 rfl) ?_
              refine lv_iconst (v := 2) hx hb dX7_why_110 (by decide) ?_
              have j150_10 : ∀ (z10 : Int32) (hw4 : z10 = wh4 (r 5 pa) (r 6 pa) (r 9 pa) (r 4 (6 * t)) (r 4 (6 * t + 1)) (r 4 (6 * t + 2)) (r 7 pa) ((twM (fun m => r 8 (6 * pa + m)) (r 7 pa).toNatClampNeg).1 + (twM (fun m => r 8 (6 * pa + m)) (r 7 pa).toNatClampNeg).2)) (H : Heap) (locs : List Loc) (ls : Array Slot), PP G (mM G y b f r) H → va_S (fun q => s.heap.size ≤ q) s.heap H locs → lv_has ls 6 [(5, .int z10)] → W p l e ({ frames := 1, cells := 0, slots := 0, locals := 25 }) s m ([.ref y, .int (nI t), .int (nI pa)] : List Value).toArray below meth c H locs 0 0 (MQ below (QrI (fun q => q = whM ((r 5) pa) ((r 6) pa) ((r 9) pa) ((r 4) (6 * t)) ((r 4) (6 * t + 1)) ((r 4) (6 * t + 2)) ((r 7) pa) ((twM (fun m => (r 8) (6 * pa + m)) ((r 7) pa).toNatClampNeg).1 + (twM (fun m => (r 8) (6 * pa + m)) ((r 7) pa).toNatClampNeg).2)) (fun q => s.heap.size ≤ q)) ([.ref y, .int (nI t), .int (nI pa)] : List Value).toArray s 0 0 (fun q => s.heap.size ≤ q)) (F0 m 150 ls []) := by
                intro z10 hw4 H locs ls hP hS hl
                refine lv_iload hx hb dX7_why_150 (lv_at hl 0 rfl) ?_
                exact rd_iret hx hb hr hlocks hS (whM_n (fun h9 => h9.elim (fun z9 => c2 (ev1.trans z9)) (fun h8 => h8.elim (fun z9 => c3 (ev1.trans z9)) (fun z9 => c4 (ev1.trans z9)))) hw4) dX7_why_152
              refine lv_icmp_ne (tgt := 150) hx hb dX7_why_111 (by decide) (fun c11 => ?_) (fun c11 => ?_)
              · exact j150_10 z9 (wh4_n hw2 (fun h9 => c11 (ev1.trans h9.1))) _ _ _ hP hS (lv_sub hl [0] rfl)
              · refine lv_iload hx hb dX7_why_114 (lv_at hl 1 rfl) ?_
                refine lv_if_le (tgt := 150) hx hb dX7_why_116 (by decide) (fun c12 => ?_) (fun c12 => ?_)
                · exact j150_10 z9 (wh4_n hw2 (fun h9 => h9.2.1 (by rw [← ev5]; exact c12))) _ _ _ hP hS (lv_sub hl [0] rfl)
                · refine lv_bipush (v := 100) hx hb dX7_why_119 (by decide) ?_
                  refine lv_iload hx hb dX7_why_121 (lv_at hl 1 rfl) ?_
                  refine lv_aload_n hx hb dX7_why_123 rfl (lv_at hl 3 rfl) ?_
                  refine lv_iload_n hx hb dX7_why_124 rfl (lv_at hl 5 rfl) ?_
                  refine rdV (rest := [.int v5, .int 100]) (q0 := 0) ⟨hx, hb, hml, hown, hts⟩ (m_X7_twoGreatest l G y b f r pa  (by omega) hG) mi_yX7_twoGreatest mv_yX7_twoGreatest ml_X7_171 ⟨rfl, rfl, Nat.le_of_ble_eq_true rfl, Nat.le_of_ble_eq_true rfl⟩ hK (hP) rfl rfl rfl hl.1 rfl (Nat.le_of_ble_eq_true rfl) dX7_why_125 ⟨Nat.zero_le _, Nat.zero_le _⟩ hS hA hP (fun r13 H locs hr13 hP hS => ?_)
                  obtain rfl := hr13
                  refine lv_isub hx hb dX7_why_128 ?_
                  refine lv_topi (fun v14 ev14 => ?_)
                  refine lv_imul hx hb dX7_why_129 ?_
                  refine lv_topi (fun v15 ev15 => ?_)
                  refine lv_aload_n hx hb dX7_why_130 rfl (lv_at hl 3 rfl) ?_
                  refine va_get (D := G.1) (ci := 7) (v := .ref (b 4)) (C := RX7) (T := TX7) (N := 43) hx hb hts inX7 hown hK.1 hP 0 rfl rfl 4 (by decide) (hts _ mf_X7_20) (fun _ h9 => h9) rfl dX7_why_131 ?_
                  refine lv_bipush (v := 6) hx hb dX7_why_134 (by decide) ?_
                  refine lv_iload_n hx hb dX7_why_136 rfl (lv_at hl 4 rfl) ?_
                  refine lv_imul hx hb dX7_why_137 ?_
                  refine lv_topi (fun v16 ev16 => ?_)
                  obtain rfl : v16 = nI (6 * t) := nI_times ev16 rfl rfl
                  refine lv_iconst (v := 2) hx hb dX7_why_138 (by decide) ?_
                  refine lv_iadd hx hb dX7_why_139 ?_
                  refine lv_topi (fun v17 ev17 => ?_)
                  obtain rfl : v17 = nI ((6 * t) + 2) := nI_plus ev17 rfl rfl
                  refine xiald (f := (r 4)) hx hb hK hP 4 (((6 * t) + 2)) (rfl) (by omega) (by decide) rfl dX7_why_140 ?_
                  refine lv_topi (fun v18 ev18 => ?_)
                  refine lv_iload hx hb dX7_why_141 (lv_at hl 1 rfl) ?_
                  refine lv_imul hx hb dX7_why_143 ?_
                  refine lv_topi (fun v19 ev19 => ?_)
                  refine lv_icmp_ge (tgt := 150) hx hb dX7_why_144 (by decide) (fun c20 => ?_) (fun c20 => ?_)
                  · exact j150_10 z9 (wh4_n hw2 (fun h9 => h9.2.2 (by rw [← ev5, ← ev18, ← ev19, ← ev14, ← ev15]; exact c20))) _ _ _ hP hS (lv_sub hl [0] rfl)
                  · obtain ⟨v21, ev21⟩ : ∃ y9 : Int32, y9 = z9 + Int32.ofInt (4) := ⟨_, rfl⟩
                    refine lv_iinc (v := v21) (lv' := [(5, .int v21), (4, .int v5), (3, .int v1), (0, .ref y), (1, .int (nI t)), (2, .int (nI pa))]) hx hb dX7_why_147 hl (k := 0) rfl ev21.symm (by decide) rfl (fun ls hl => ?_)
                    exact j150_10 v21 (wh4_p hw2 ev21 ⟨ev1.symm.trans c11, by rw [← ev5]; exact c12, by rw [← ev5, ← ev18, ← ev19, ← ev14, ← ev15]; exact c20⟩) _ _ _ hP hS (lv_sub hl [0] rfl)
            refine lv_icmp_ne (tgt := 109) hx hb dX7_why_78 (by decide) (fun c22 => ?_) (fun c22 => ?_)
            · exact j109_9 z8 (wh2_n hw1 (fun h9 => c22 (ev1.trans h9.1))) _ _ _ hP hS (lv_sub hl [0, 1, 2, 3, 4, 5] rfl)
            · refine lv_iload hx hb dX7_why_81 (lv_at hl 1 rfl) ?_
              refine lv_if_le (tgt := 109) hx hb dX7_why_83 (by decide) (fun c23 => ?_) (fun c23 => ?_)
              · exact j109_9 z8 (wh2_n hw1 (fun h9 => h9.2.1 (by rw [← ev5]; exact c23))) _ _ _ hP hS (lv_sub hl [0, 1, 2, 3, 4, 5] rfl)
              · refine lv_aload_n hx hb dX7_why_86 rfl (lv_at hl 3 rfl) ?_
                refine va_get (D := G.1) (ci := 7) (v := .ref (b 7)) (C := RX7) (T := TX7) (N := 43) hx hb hts inX7 hown hK.1 hP 0 rfl rfl 7 (by decide) (hts _ mf_X7_29) (fun _ h9 => h9) rfl dX7_why_87 ?_
                refine lv_iload_n hx hb dX7_why_90 rfl (lv_at hl 5 rfl) ?_
                refine xiald (f := (r 7)) hx hb hK hP 7 (pa) (rfl) (by omega) (by decide) rfl dX7_why_91 ?_
                refine lv_topi (fun v24 ev24 => ?_)
                refine lv_aload_n hx hb dX7_why_92 rfl (lv_at hl 3 rfl) ?_
                refine va_get (D := G.1) (ci := 7) (v := .ref (b 4)) (C := RX7) (T := TX7) (N := 43) hx hb hts inX7 hown hK.1 hP 0 rfl rfl 4 (by decide) (hts _ mf_X7_20) (fun _ h9 => h9) rfl dX7_why_93 ?_
                refine lv_bipush (v := 6) hx hb dX7_why_96 (by decide) ?_
                refine lv_iload_n hx hb dX7_why_98 rfl (lv_at hl 4 rfl) ?_
                refine lv_imul hx hb dX7_why_99 ?_
                refine lv_topi (fun v25 ev25 => ?_)
                obtain rfl : v25 = nI (6 * t) := nI_times ev25 rfl rfl
                refine lv_iconst (v := 1) hx hb dX7_why_100 (by decide) ?_
                refine lv_iadd hx hb dX7_why_101 ?_
                refine lv_topi (fun v26 ev26 => ?_)
                obtain rfl : v26 = nI ((6 * t) + 1) := nI_plus ev26 rfl rfl
                refine xiald (f := (r 4)) hx hb hK hP 4 (((6 * t) + 1)) (rfl) (by omega) (by decide) rfl dX7_why_102 ?_
                refine lv_topi (fun v27 ev27 => ?_)
                refine lv_icmp_ge (tgt := 109) hx hb dX7_why_103 (by decide) (fun c28 => ?_) (fun c28 => ?_)
                · exact j109_9 z8 (wh2_n hw1 (fun h9 => h9.2.2 (by rw [← ev27, ← ev24]; exact c28))) _ _ _ hP hS (lv_sub hl [0, 1, 2, 3, 4, 5] rfl)
                · obtain ⟨v29, ev29⟩ : ∃ y9 : Int32, y9 = z8 + Int32.ofInt (2) := ⟨_, rfl⟩
                  refine lv_iinc (v := v29) (lv' := [(5, .int v29), (4, .int v5), (3, .int v1), (0, .ref y), (1, .int (nI t)), (2, .int (nI pa))]) hx hb dX7_why_106 hl (k := 0) rfl ev29.symm (by decide) rfl (fun ls hl => ?_)
                  exact j109_9 v29 (wh2_p hw1 ev29 ⟨ev1.symm.trans c22, by rw [← ev5]; exact c23, by rw [← ev27, ← ev24]; exact c28⟩) _ _ _ hP hS (lv_sub hl [0, 1, 2, 3, 4, 5] rfl)
          refine lv_icmp_ne (tgt := 76) hx hb dX7_why_50 (by decide) (fun c30 => ?_) (fun c30 => ?_)
          · exact j76_8 z7 (wh1_n hw0 (fun h9 => c30 (ev1.trans h9.1))) _ _ _ hP hS (lv_sub hl [0, 1, 2, 3, 4, 5] rfl)
          · refine lv_iload hx hb dX7_why_53 (lv_at hl 1 rfl) ?_
            refine lv_iconst (v := 1) hx hb dX7_why_55 (by decide) ?_
            refine lv_icmp_lt (tgt := 76) hx hb dX7_why_56 (by decide) (fun c31 => ?_) (fun c31 => ?_)
            · exact j76_8 z7 (wh1_n hw0 (fun h9 => h9.2.1 (by rw [← ev5]; exact c31))) _ _ _ hP hS (lv_sub hl [0, 1, 2, 3, 4, 5] rfl)
            · refine lv_iload hx hb dX7_why_59 (lv_at hl 1 rfl) ?_
              refine lv_aload_n hx hb dX7_why_61 rfl (lv_at hl 3 rfl) ?_
              refine va_get (D := G.1) (ci := 7) (v := .ref (b 4)) (C := RX7) (T := TX7) (N := 43) hx hb hts inX7 hown hK.1 hP 0 rfl rfl 4 (by decide) (hts _ mf_X7_20) (fun _ h9 => h9) rfl dX7_why_62 ?_
              refine lv_bipush (v := 6) hx hb dX7_why_65 (by decide) ?_
              refine lv_iload_n hx hb dX7_why_67 rfl (lv_at hl 4 rfl) ?_
              refine lv_imul hx hb dX7_why_68 ?_
              refine lv_topi (fun v32 ev32 => ?_)
              obtain rfl : v32 = nI (6 * t) := nI_times ev32 rfl rfl
              refine xiald (f := (r 4)) hx hb hK hP 4 ((6 * t)) (rfl) (by omega) (by decide) rfl dX7_why_69 ?_
              refine lv_topi (fun v33 ev33 => ?_)
              refine lv_icmp_gt (tgt := 76) hx hb dX7_why_70 (by decide) (fun c34 => ?_) (fun c34 => ?_)
              · exact j76_8 z7 (wh1_n hw0 (fun h9 => h9.2.2 (by rw [← ev33, ← ev5]; exact c34))) _ _ _ hP hS (lv_sub hl [0, 1, 2, 3, 4, 5] rfl)
              · obtain ⟨v35, ev35⟩ : ∃ y9 : Int32, y9 = z7 + Int32.ofInt (1) := ⟨_, rfl⟩
                refine lv_iinc (v := v35) (lv' := [(5, .int v35), (4, .int v5), (3, .int v1), (0, .ref y), (1, .int (nI t)), (2, .int (nI pa))]) hx hb dX7_why_73 hl (k := 0) rfl ev35.symm (by decide) rfl (fun ls hl => ?_)
                exact j76_8 v35 (wh1_p hw0 ev35 ⟨ev1.symm.trans c30, by rw [← ev5]; exact c31, by rw [← ev33, ← ev5]; exact c34⟩) _ _ _ hP hS (lv_sub hl [0, 1, 2, 3, 4, 5] rfl)
        refine lv_if_eq (tgt := 45) hx hb dX7_why_37 (by decide) (fun c36 => ?_) (fun c36 => ?_)
        · refine lv_iconst (v := 0) hx hb dX7_why_45 (by decide) ?_
          exact j46_7 0 (whB_0 (ev6.symm.trans c36)) _ _ _ hP hS (lv_sub hl [0, 1, 2, 3, 4] rfl)
        · refine lv_bipush (v := 8) hx hb dX7_why_40 (by decide) ?_
          refine lv_goto (tgt := 46) hx hb dX7_why_42 (by decide) ?_
          exact j46_7 8 (whB_8 (fun h9 => c36 (ev6.trans h9))) _ _ _ hP hS (lv_sub hl [0, 1, 2, 3, 4] rfl)
      · refine lv_iconst (v := 0) hx hb dX7_why_21 (by decide) ?_
        exact rd_iret hx hb hr hlocks hS (whM_0 (Or.inr (Or.inr (ev1.symm.trans c4)))) dX7_why_22
set_option maxHeartbeats 4000000 in
set_option maxRecDepth 100000 in
theorem m_X7_isKept (l : Launch) (G : GG) (y : Nat) (b : Nat → Nat) (f : Nat → Int32) (r : Nat → Nat → Int32) (t : Nat) (pa : Nat) (ht : t < 6) (hp : pa < 864) (hG : nOK 864 6 (r 7)) : RdI l yX7_isKept cX7_isKept 3 (some .boolean) ({ frames := 2, cells := 0, slots := 0, locals := 50 }) G (mM G y b f r) [.ref y, .int (nI t), .int (nI pa)] (fun q => ((q = 0 ∨ q = 1) ∧ (q = 0 → (r 5) pa = 4 ∨ (r 10) pa = 0))) := by
  refine rd_entry (by decide +kernel) (Nat.le_of_ble_eq_true rfl) ?_
  intro p e s m below meth c C0 hP hK ls hl
  have hS : va_S (fun q => s.heap.size ≤ q) s.heap s.heap [] := va_S.rf
  have hA : ∀ q, s.heap.size ≤ q → (fun q => s.heap.size ≤ q) q := fun _ h => h
  obtain ⟨hx, hb, hml, hown, hts, hr, hlocks, hin⟩ := C0
  have hown : s.vm.findClass RX7 = some m.cls := hown
  have hl : lv_has ls 3 [(0, .ref y), (1, .int (nI t)), (2, .int (nI pa))] := hl
  refine lv_aload_n hx hb dX7_isKept_0 rfl (lv_at hl 0 rfl) ?_
  refine va_get (D := G.1) (ci := 7) (v := .ref (b 5)) (C := RX7) (T := TX7) (N := 43) hx hb hts inX7 hown hK.1 hP 0 rfl rfl 5 (by decide) (hts _ mf_X7_23) (fun _ h9 => h9) rfl dX7_isKept_1 ?_
  refine lv_iload_n hx hb dX7_isKept_4 rfl (lv_at hl 2 rfl) ?_
  refine xiald (f := (r 5)) hx hb hK hP 5 (pa) (rfl) (by omega) (by decide) rfl dX7_isKept_5 ?_
  refine lv_topi (fun v1 ev1 => ?_)
  refine lv_iconst (v := 4) hx hb dX7_isKept_6 (by decide) ?_
  refine lv_icmp_eq (tgt := 32) hx hb dX7_isKept_7 (by decide) (fun c2 => ?_) (fun c2 => ?_)
  · refine lv_iconst (v := 0) hx hb dX7_isKept_32 (by decide) ?_
    exact rd_zret hx hb hr hlocks (Or.inl rfl) hS (⟨Or.inl rfl, fun _ => Or.inl (ev1.symm.trans c2)⟩) dX7_isKept_33
  · refine lv_aload_n hx hb dX7_isKept_10 rfl (lv_at hl 0 rfl) ?_
    refine va_get (D := G.1) (ci := 7) (v := .ref (b 10)) (C := RX7) (T := TX7) (N := 43) hx hb hts inX7 hown hK.1 hP 0 rfl rfl 10 (by decide) (hts _ mf_X7_38) (fun _ h9 => h9) rfl dX7_isKept_11 ?_
    refine lv_iload_n hx hb dX7_isKept_14 rfl (lv_at hl 2 rfl) ?_
    refine xzald (f := (r 10)) hx hb hK hP 10 (pa) (rfl) (by omega) (by decide) rfl dX7_isKept_15 ?_
    refine lv_topi (fun v3 ev3 => ?_)
    refine lv_if_ne (tgt := 28) hx hb dX7_isKept_16 (by decide) (fun c4 => ?_) (fun c4 => ?_)
    · refine lv_iconst (v := 1) hx hb dX7_isKept_28 (by decide) ?_
      refine lv_goto (tgt := 33) hx hb dX7_isKept_29 (by decide) ?_
      exact rd_zret hx hb hr hlocks (Or.inr rfl) hS (⟨Or.inr rfl, fun h => absurd h (by decide)⟩) dX7_isKept_33
    · refine lv_aload_n hx hb dX7_isKept_19 rfl (lv_at hl 0 rfl) ?_
      refine lv_iload_n hx hb dX7_isKept_20 rfl (lv_at hl 1 rfl) ?_
      refine lv_iload_n hx hb dX7_isKept_21 rfl (lv_at hl 2 rfl) ?_
      refine rdV (rest := []) (q0 := 0) ⟨hx, hb, hml, hown, hts⟩ (m_X7_why l G y b f r t pa  (by omega) (by omega) hG) mi_yX7_why mv_yX7_why ml_X7_175 ⟨rfl, rfl, Nat.le_of_ble_eq_true rfl, Nat.le_of_ble_eq_true rfl⟩ hK (hP) rfl rfl rfl hl.1 rfl (Nat.le_of_ble_eq_true rfl) dX7_isKept_22 ⟨Nat.zero_le _, Nat.zero_le _⟩ hS hA hP (fun r5 H locs hr5 hP hS => ?_)
      obtain rfl := hr5
      refine lv_if_le (tgt := 32) hx hb dX7_isKept_25 (by decide) (fun c6 => ?_) (fun c6 => ?_)
      · refine lv_iconst (v := 0) hx hb dX7_isKept_32 (by decide) ?_
        exact rd_zret hx hb hr hlocks (Or.inl rfl) hS (⟨Or.inl rfl, fun _ => Or.inr (ev3.symm.trans c4)⟩) dX7_isKept_33
      · refine lv_iconst (v := 1) hx hb dX7_isKept_28 (by decide) ?_
        refine lv_goto (tgt := 33) hx hb dX7_isKept_29 (by decide) ?_
        exact rd_zret hx hb hr hlocks (Or.inr rfl) hS (⟨Or.inr rfl, fun h => absurd h (by decide)⟩) dX7_isKept_33
set_option maxHeartbeats 4000000 in
set_option maxRecDepth 100000 in
theorem m_X7_wrongAmount (l : Launch) (G : GG) (y : Nat) (b : Nat → Nat) (f : Nat → Int32) (r : Nat → Nat → Int32) (tb : Int32) (row : Int32) (col : Int32) (hM2 : nOK 6 12 (r 2)) (hM3 : nOK 6 12 (r 3)) (hM12 : nOK 6 12 (r 12)) : RdI l yX7_wrongAmount cX7_wrongAmount 6 (some .int) ({ frames := 2, cells := 0, slots := 0, locals := 45 }) G (mM G y b f r) [.ref y, .int tb, .int row, .int col] (fun q => stM (r 1) (r 2) (r 3) (r 11) tb row col (fun t i k => kf4 ((r 5) (144 * t + 12 * i + k))) q) := by
  refine rd_entry (by decide +kernel) (Nat.le_of_ble_eq_true rfl) ?_
  intro p e s m below meth c C0 hP hK ls hl
  have hS : va_S (fun q => s.heap.size ≤ q) s.heap s.heap [] := va_S.rf
  have hA : ∀ q, s.heap.size ≤ q → (fun q => s.heap.size ≤ q) q := fun _ h => h
  obtain ⟨hx, hb, hml, hown, hts, hr, hlocks, hin⟩ := C0
  have hown : s.vm.findClass RX7 = some m.cls := hown
  have hl : lv_has ls 6 [(0, .ref y), (1, .int tb), (2, .int row), (3, .int col)] := hl
  refine lv_aload_n hx hb dX7_wrongAmount_0 rfl (lv_at hl 0 rfl) ?_
  refine lv_iload_n hx hb dX7_wrongAmount_1 rfl (lv_at hl 1 rfl) ?_
  refine lv_iload_n hx hb dX7_wrongAmount_2 rfl (lv_at hl 2 rfl) ?_
  refine lv_iload_n hx hb dX7_wrongAmount_3 rfl (lv_at hl 3 rfl) ?_
  refine rdV (rest := []) (q0 := 0) ⟨hx, hb, hml, hown, hts⟩ (m_X7_wrongPlace l G y b f r tb row col  hM2 hM3 hM12) mi_yX7_wrongPlace mv_yX7_wrongPlace ml_X7_143 ⟨rfl, rfl, Nat.le_of_ble_eq_true rfl, Nat.le_of_ble_eq_true rfl⟩ hK (hP) rfl rfl rfl hl.1 rfl (Nat.le_of_ble_eq_true rfl) dX7_wrongAmount_4 ⟨Nat.zero_le _, Nat.zero_le _⟩ hS hA hP (fun r1 H locs hr1 hP hS => ?_)
  have hr1 : plS (r 1) (r 2) (r 3) (r 11) tb row col r1 := hr1
  refine lv_istore (lv' := [(4, .int r1), (0, .ref y), (1, .int tb), (2, .int row), (3, .int col)]) hx hb dX7_wrongAmount_7 hl (by decide) rfl (fun ls hl => ?_)
  refine lv_iload hx hb dX7_wrongAmount_9 (lv_at hl 0 rfl) ?_
  refine lv_if_le (tgt := 17) hx hb dX7_wrongAmount_11 (by decide) (fun c2 => ?_) (fun c2 => ?_)
  · have hp0 := pl_le0 hM2 hM3 hr1 c2
    obtain ⟨t, i, k, rw, cl, ht, hi, hk, hrw, hcl, rfl, rfl, rfl, h2, h3⟩ := wS_ok (wS_of hM2 hM3 hr1) (npos_of_le c2)
    obtain ⟨bk, hbk, h12⟩ := hM12 t ht
    refine lv_aload_n hx hb dX7_wrongAmount_17 rfl (lv_at hl 1 rfl) ?_
    refine va_get (D := G.1) (ci := 7) (v := .ref (b 5)) (C := RX7) (T := TX7) (N := 43) hx hb hts inX7 hown hK.1 hP 0 rfl rfl 5 (by decide) (hts _ mf_X7_23) (fun _ h9 => h9) rfl dX7_wrongAmount_18 ?_
    refine lv_iload_n hx hb dX7_wrongAmount_21 rfl (lv_at hl 2 rfl) ?_
    refine lv_iload_n hx hb dX7_wrongAmount_22 rfl (lv_at hl 3 rfl) ?_
    refine lv_iload_n hx hb dX7_wrongAmount_23 rfl (lv_at hl 4 rfl) ?_
    refine rdS (rest := [.ref (b 5)]) ⟨hx, hb, hml, hown, hts⟩ (m_X7_at l G y b f r t i k  ) mi_yX7_at mst_yX7_at ml_X7_147 ⟨rfl, rfl, Nat.le_of_ble_eq_true rfl, Nat.le_of_ble_eq_true rfl⟩ hK (hP) rfl hl.1 rfl (Nat.le_of_ble_eq_true rfl) dX7_wrongAmount_24 ⟨Nat.zero_le _, Nat.zero_le _⟩ hS hA hP (fun r3 H locs hr3 hP hS => ?_)
    obtain rfl := hr3
    refine xiald (f := (r 5)) hx hb hK hP 5 ((144 * t + 12 * i + k)) (rfl) (by omega) (by decide) rfl dX7_wrongAmount_27 ?_
    refine lv_topi (fun v4 ev4 => ?_)
    refine lv_istore (lv' := [(5, .int v4), (4, .int r1), (0, .ref y), (1, .int (nI t)), (2, .int (nI i)), (3, .int (nI k))]) hx hb dX7_wrongAmount_28 hl (by decide) rfl (fun ls hl => ?_)
    refine lv_iload hx hb dX7_wrongAmount_30 (lv_at hl 0 rfl) ?_
    refine lv_if_ne (tgt := 39) hx hb dX7_wrongAmount_32 (by decide) (fun c5 => ?_) (fun c5 => ?_)
    · refine lv_iload hx hb dX7_wrongAmount_39 (lv_at hl 0 rfl) ?_
      refine lv_iconst (v := 2) hx hb dX7_wrongAmount_41 (by decide) ?_
      refine lv_icmp_eq (tgt := 50) hx hb dX7_wrongAmount_42 (by decide) (fun c6 => ?_) (fun c6 => ?_)
      · refine lv_iconst (v := 0) hx hb dX7_wrongAmount_50 (by decide) ?_
        exact rd_iret hx hb hr hlocks hS (Or.inr ⟨hp0, t, i, k, ht, by omega, by omega, rfl, rfl, rfl, (kf4_g (ev4.symm.trans c6)).symm⟩) dX7_wrongAmount_51
      · refine lv_bipush (v := 6) hx hb dX7_wrongAmount_45 (by decide) ?_
        refine lv_goto (tgt := 51) hx hb dX7_wrongAmount_47 (by decide) ?_
        exact rd_iret hx hb hr hlocks hS (Or.inr ⟨hp0, t, i, k, ht, by omega, by omega, rfl, rfl, rfl, (kf4_6 (fun h9 => c5 (ev4.trans h9)) (fun h9 => c6 (ev4.trans h9))).symm⟩) dX7_wrongAmount_51
    · refine lv_iconst (v := 5) hx hb dX7_wrongAmount_35 (by decide) ?_
      refine lv_goto (tgt := 51) hx hb dX7_wrongAmount_36 (by decide) ?_
      exact rd_iret hx hb hr hlocks hS (Or.inr ⟨hp0, t, i, k, ht, by omega, by omega, rfl, rfl, rfl, (kf4_0 (ev4.symm.trans c5)).symm⟩) dX7_wrongAmount_51
  · refine lv_iload hx hb dX7_wrongAmount_14 (lv_at hl 0 rfl) ?_
    exact rd_iret hx hb hr hlocks hS (Or.inl ⟨fun e9 => c2 (le_of_0 e9), hr1⟩) dX7_wrongAmount_16
set_option maxHeartbeats 4000000 in
set_option maxRecDepth 100000 in
theorem m_X7_wrongToTell (l : Launch) (G : GG) (y : Nat) (b : Nat → Nat) (f : Nat → Int32) (r : Nat → Nat → Int32) (tb : Int32) (row : Int32) (col : Int32) (hM2 : nOK 6 12 (r 2)) (hM3 : nOK 6 12 (r 3)) (hM12 : nOK 6 12 (r 12)) : RdI l yX7_wrongToTell cX7_wrongToTell 6 (some .int) ({ frames := 2, cells := 0, slots := 0, locals := 45 }) G (mM G y b f r) [.ref y, .int tb, .int row, .int col] (fun q => stM (r 1) (r 2) (r 3) (r 11) tb row col (fun t i k => kf3 ((r 5) (144 * t + 12 * i + k))) q) := by
  refine rd_entry (by decide +kernel) (Nat.le_of_ble_eq_true rfl) ?_
  intro p e s m below meth c C0 hP hK ls hl
  have hS : va_S (fun q => s.heap.size ≤ q) s.heap s.heap [] := va_S.rf
  have hA : ∀ q, s.heap.size ≤ q → (fun q => s.heap.size ≤ q) q := fun _ h => h
  obtain ⟨hx, hb, hml, hown, hts, hr, hlocks, hin⟩ := C0
  have hown : s.vm.findClass RX7 = some m.cls := hown
  have hl : lv_has ls 6 [(0, .ref y), (1, .int tb), (2, .int row), (3, .int col)] := hl
  refine lv_aload_n hx hb dX7_wrongToTell_0 rfl (lv_at hl 0 rfl) ?_
  refine lv_iload_n hx hb dX7_wrongToTell_1 rfl (lv_at hl 1 rfl) ?_
  refine lv_iload_n hx hb dX7_wrongToTell_2 rfl (lv_at hl 2 rfl) ?_
  refine lv_iload_n hx hb dX7_wrongToTell_3 rfl (lv_at hl 3 rfl) ?_
  refine rdV (rest := []) (q0 := 0) ⟨hx, hb, hml, hown, hts⟩ (m_X7_wrongPlace l G y b f r tb row col  hM2 hM3 hM12) mi_yX7_wrongPlace mv_yX7_wrongPlace ml_X7_143 ⟨rfl, rfl, Nat.le_of_ble_eq_true rfl, Nat.le_of_ble_eq_true rfl⟩ hK (hP) rfl rfl rfl hl.1 rfl (Nat.le_of_ble_eq_true rfl) dX7_wrongToTell_4 ⟨Nat.zero_le _, Nat.zero_le _⟩ hS hA hP (fun r1 H locs hr1 hP hS => ?_)
  have hr1 : plS (r 1) (r 2) (r 3) (r 11) tb row col r1 := hr1
  refine lv_istore (lv' := [(4, .int r1), (0, .ref y), (1, .int tb), (2, .int row), (3, .int col)]) hx hb dX7_wrongToTell_7 hl (by decide) rfl (fun ls hl => ?_)
  refine lv_iload hx hb dX7_wrongToTell_9 (lv_at hl 0 rfl) ?_
  refine lv_if_le (tgt := 17) hx hb dX7_wrongToTell_11 (by decide) (fun c2 => ?_) (fun c2 => ?_)
  · have hp0 := pl_le0 hM2 hM3 hr1 c2
    obtain ⟨t, i, k, rw, cl, ht, hi, hk, hrw, hcl, rfl, rfl, rfl, h2, h3⟩ := wS_ok (wS_of hM2 hM3 hr1) (npos_of_le c2)
    obtain ⟨bk, hbk, h12⟩ := hM12 t ht
    refine lv_aload_n hx hb dX7_wrongToTell_17 rfl (lv_at hl 1 rfl) ?_
    refine va_get (D := G.1) (ci := 7) (v := .ref (b 5)) (C := RX7) (T := TX7) (N := 43) hx hb hts inX7 hown hK.1 hP 0 rfl rfl 5 (by decide) (hts _ mf_X7_23) (fun _ h9 => h9) rfl dX7_wrongToTell_18 ?_
    refine lv_iload_n hx hb dX7_wrongToTell_21 rfl (lv_at hl 2 rfl) ?_
    refine lv_iload_n hx hb dX7_wrongToTell_22 rfl (lv_at hl 3 rfl) ?_
    refine lv_iload_n hx hb dX7_wrongToTell_23 rfl (lv_at hl 4 rfl) ?_
    refine rdS (rest := [.ref (b 5)]) ⟨hx, hb, hml, hown, hts⟩ (m_X7_at l G y b f r t i k  ) mi_yX7_at mst_yX7_at ml_X7_147 ⟨rfl, rfl, Nat.le_of_ble_eq_true rfl, Nat.le_of_ble_eq_true rfl⟩ hK (hP) rfl hl.1 rfl (Nat.le_of_ble_eq_true rfl) dX7_wrongToTell_24 ⟨Nat.zero_le _, Nat.zero_le _⟩ hS hA hP (fun r3 H locs hr3 hP hS => ?_)
    obtain rfl := hr3
    refine xiald (f := (r 5)) hx hb hK hP 5 ((144 * t + 12 * i + k)) (rfl) (by omega) (by decide) rfl dX7_wrongToTell_27 ?_
    refine lv_topi (fun v4 ev4 => ?_)
    refine lv_istore (lv' := [(5, .int v4), (4, .int r1), (0, .ref y), (1, .int (nI t)), (2, .int (nI i)), (3, .int (nI k))]) hx hb dX7_wrongToTell_28 hl (by decide) rfl (fun ls hl => ?_)
    refine lv_iload hx hb dX7_wrongToTell_30 (lv_at hl 0 rfl) ?_
    refine lv_if_ne (tgt := 39) hx hb dX7_wrongToTell_32 (by decide) (fun c5 => ?_) (fun c5 => ?_)
    · refine lv_iload hx hb dX7_wrongToTell_39 (lv_at hl 0 rfl) ?_
      refine lv_iconst (v := 5) hx hb dX7_wrongToTell_41 (by decide) ?_
      refine lv_icmp_eq (tgt := 51) hx hb dX7_wrongToTell_42 (by decide) (fun c6 => ?_) (fun c6 => ?_)
      · refine lv_bipush (v := 6) hx hb dX7_wrongToTell_51 (by decide) ?_
        refine lv_goto (tgt := 57) hx hb dX7_wrongToTell_53 (by decide) ?_
        exact rd_iret hx hb hr hlocks hS (Or.inr ⟨hp0, t, i, k, ht, by omega, by omega, rfl, rfl, rfl, (kf3_5 (fun h9 => c5 (ev4.trans h9)) (ev4.symm.trans c6)).symm⟩) dX7_wrongToTell_57
      · refine lv_iload hx hb dX7_wrongToTell_45 (lv_at hl 0 rfl) ?_
        refine lv_iconst (v := 4) hx hb dX7_wrongToTell_47 (by decide) ?_
        refine lv_icmp_ne (tgt := 56) hx hb dX7_wrongToTell_48 (by decide) (fun c7 => ?_) (fun c7 => ?_)
        · refine lv_iconst (v := 0) hx hb dX7_wrongToTell_56 (by decide) ?_
          exact rd_iret hx hb hr hlocks hS (Or.inr ⟨hp0, t, i, k, ht, by omega, by omega, rfl, rfl, rfl, (kf3_g ⟨(fun h9 => c5 (ev4.trans h9)), (fun h9 => c6 (ev4.trans h9)), (fun h9 => c7 (ev4.trans h9))⟩).symm⟩) dX7_wrongToTell_57
        · refine lv_bipush (v := 6) hx hb dX7_wrongToTell_51 (by decide) ?_
          refine lv_goto (tgt := 57) hx hb dX7_wrongToTell_53 (by decide) ?_
          exact rd_iret hx hb hr hlocks hS (Or.inr ⟨hp0, t, i, k, ht, by omega, by omega, rfl, rfl, rfl, (kf3_4 (fun h9 => c5 (ev4.trans h9)) (fun h9 => c6 (ev4.trans h9)) (ev4.symm.trans c7)).symm⟩) dX7_wrongToTell_57
    · refine lv_iconst (v := 5) hx hb dX7_wrongToTell_35 (by decide) ?_
      refine lv_goto (tgt := 57) hx hb dX7_wrongToTell_36 (by decide) ?_
      exact rd_iret hx hb hr hlocks hS (Or.inr ⟨hp0, t, i, k, ht, by omega, by omega, rfl, rfl, rfl, (kf3_0 (ev4.symm.trans c5)).symm⟩) dX7_wrongToTell_57
  · refine lv_iload hx hb dX7_wrongToTell_14 (lv_at hl 0 rfl) ?_
    exact rd_iret hx hb hr hlocks hS (Or.inl ⟨fun e9 => c2 (le_of_0 e9), hr1⟩) dX7_wrongToTell_16
set_option maxHeartbeats 4000000 in
set_option maxRecDepth 100000 in
theorem m_X7_wrongSound (l : Launch) (G : GG) (y : Nat) (b : Nat → Nat) (f : Nat → Int32) (r : Nat → Nat → Int32) (tb : Int32) (row : Int32) (col : Int32) (hM2 : nOK 6 12 (r 2)) (hM3 : nOK 6 12 (r 3)) (hM12 : nOK 6 12 (r 12)) : RdI l yX7_wrongSound cX7_wrongSound 6 (some .int) ({ frames := 2, cells := 0, slots := 0, locals := 46 }) G (mM G y b f r) [.ref y, .int tb, .int row, .int col] (fun q => stM (r 1) (r 2) (r 3) (r 11) tb row col (fun t i k => kfS ((r 5) (144 * t + 12 * i + k)) (sndN ((r 3) t) (r 11) (r 5) t i)) q) := by
  refine rd_entry (by decide +kernel) (Nat.le_of_ble_eq_true rfl) ?_
  intro p e s m below meth c C0 hP hK ls hl
  have hS : va_S (fun q => s.heap.size ≤ q) s.heap s.heap [] := va_S.rf
  have hA : ∀ q, s.heap.size ≤ q → (fun q => s.heap.size ≤ q) q := fun _ h => h
  obtain ⟨hx, hb, hml, hown, hts, hr, hlocks, hin⟩ := C0
  have hown : s.vm.findClass RX7 = some m.cls := hown
  have hl : lv_has ls 6 [(0, .ref y), (1, .int tb), (2, .int row), (3, .int col)] := hl
  refine lv_aload_n hx hb dX7_wrongSound_0 rfl (lv_at hl 0 rfl) ?_
  refine lv_iload_n hx hb dX7_wrongSound_1 rfl (lv_at hl 1 rfl) ?_
  refine lv_iload_n hx hb dX7_wrongSound_2 rfl (lv_at hl 2 rfl) ?_
  refine lv_iload_n hx hb dX7_wrongSound_3 rfl (lv_at hl 3 rfl) ?_
  refine rdV (rest := []) (q0 := 0) ⟨hx, hb, hml, hown, hts⟩ (m_X7_wrongPlace l G y b f r tb row col  hM2 hM3 hM12) mi_yX7_wrongPlace mv_yX7_wrongPlace ml_X7_143 ⟨rfl, rfl, Nat.le_of_ble_eq_true rfl, Nat.le_of_ble_eq_true rfl⟩ hK (hP) rfl rfl rfl hl.1 rfl (Nat.le_of_ble_eq_true rfl) dX7_wrongSound_4 ⟨Nat.zero_le _, Nat.zero_le _⟩ hS hA hP (fun r1 H locs hr1 hP hS => ?_)
  have hr1 : plS (r 1) (r 2) (r 3) (r 11) tb row col r1 := hr1
  refine lv_istore (lv' := [(4, .int r1), (0, .ref y), (1, .int tb), (2, .int row), (3, .int col)]) hx hb dX7_wrongSound_7 hl (by decide) rfl (fun ls hl => ?_)
  refine lv_iload hx hb dX7_wrongSound_9 (lv_at hl 0 rfl) ?_
  refine lv_if_le (tgt := 17) hx hb dX7_wrongSound_11 (by decide) (fun c2 => ?_) (fun c2 => ?_)
  · have hp0 := pl_le0 hM2 hM3 hr1 c2
    obtain ⟨t, i, k, rw, cl, ht, hi, hk, hrw, hcl, rfl, rfl, rfl, h2, h3⟩ := wS_ok (wS_of hM2 hM3 hr1) (npos_of_le c2)
    obtain ⟨bk, hbk, h12⟩ := hM12 t ht
    refine lv_aload_n hx hb dX7_wrongSound_17 rfl (lv_at hl 1 rfl) ?_
    refine va_get (D := G.1) (ci := 7) (v := .ref (b 5)) (C := RX7) (T := TX7) (N := 43) hx hb hts inX7 hown hK.1 hP 0 rfl rfl 5 (by decide) (hts _ mf_X7_23) (fun _ h9 => h9) rfl dX7_wrongSound_18 ?_
    refine lv_iload_n hx hb dX7_wrongSound_21 rfl (lv_at hl 2 rfl) ?_
    refine lv_iload_n hx hb dX7_wrongSound_22 rfl (lv_at hl 3 rfl) ?_
    refine lv_iload_n hx hb dX7_wrongSound_23 rfl (lv_at hl 4 rfl) ?_
    refine rdS (rest := [.ref (b 5)]) ⟨hx, hb, hml, hown, hts⟩ (m_X7_at l G y b f r t i k  ) mi_yX7_at mst_yX7_at ml_X7_147 ⟨rfl, rfl, Nat.le_of_ble_eq_true rfl, Nat.le_of_ble_eq_true rfl⟩ hK (hP) rfl hl.1 rfl (Nat.le_of_ble_eq_true rfl) dX7_wrongSound_24 ⟨Nat.zero_le _, Nat.zero_le _⟩ hS hA hP (fun r3 H locs hr3 hP hS => ?_)
    obtain rfl := hr3
    refine xiald (f := (r 5)) hx hb hK hP 5 ((144 * t + 12 * i + k)) (rfl) (by omega) (by decide) rfl dX7_wrongSound_27 ?_
    refine lv_topi (fun v4 ev4 => ?_)
    refine lv_istore (lv' := [(5, .int v4), (4, .int r1), (0, .ref y), (1, .int (nI t)), (2, .int (nI i)), (3, .int (nI k))]) hx hb dX7_wrongSound_28 hl (by decide) rfl (fun ls hl => ?_)
    refine lv_iload hx hb dX7_wrongSound_30 (lv_at hl 0 rfl) ?_
    refine lv_if_ne (tgt := 39) hx hb dX7_wrongSound_32 (by decide) (fun c5 => ?_) (fun c5 => ?_)
    · refine lv_iload hx hb dX7_wrongSound_39 (lv_at hl 0 rfl) ?_
      refine lv_iconst (v := 5) hx hb dX7_wrongSound_41 (by decide) ?_
      refine lv_icmp_ne (tgt := 50) hx hb dX7_wrongSound_42 (by decide) (fun c6 => ?_) (fun c6 => ?_)
      · refine lv_aload_n hx hb dX7_wrongSound_50 rfl (lv_at hl 2 rfl) ?_
        refine lv_iload_n hx hb dX7_wrongSound_51 rfl (lv_at hl 3 rfl) ?_
        refine lv_iload_n hx hb dX7_wrongSound_52 rfl (lv_at hl 4 rfl) ?_
        refine rdV (rest := []) (q0 := 0) ⟨hx, hb, hml, hown, hts⟩ (m_X7_isSound l G y b f r t i rw cl bk (by omega) (by omega) (by omega) (by omega) h2 h3 h12 (by omega)) mi_yX7_isSound mv_yX7_isSound ml_X7_161 ⟨rfl, rfl, Nat.le_of_ble_eq_true rfl, Nat.le_of_ble_eq_true rfl⟩ hK (hP) rfl rfl rfl hl.1 rfl (Nat.le_of_ble_eq_true rfl) dX7_wrongSound_53 ⟨Nat.zero_le _, Nat.zero_le _⟩ hS hA hP (fun r7 H locs hr7 hP hS => ?_)
        have hr7 : ((r7 = 1 ∧ (sndN ((r 3) t) (r 11) (r 5) t i)) ∨ (r7 = 0 ∧ ¬ (sndN ((r 3) t) (r 11) (r 5) t i))) := hr7
        refine lv_if_ne (tgt := 64) hx hb dX7_wrongSound_56 (by decide) (fun c8 => ?_) (fun c8 => ?_)
        · have b56 := bT hr7 c8
          refine lv_iconst (v := 0) hx hb dX7_wrongSound_64 (by decide) ?_
          exact rd_iret hx hb hr hlocks hS (Or.inr ⟨hp0, t, i, k, ht, by omega, by omega, rfl, rfl, rfl, (kfS_g (fun h9 => c5 (ev4.trans h9)) (fun h9 => c6 (ev4.trans h9)) b56).symm⟩) dX7_wrongSound_65
        · have b56 := bF hr7 c8
          refine lv_bipush (v := 11) hx hb dX7_wrongSound_59 (by decide) ?_
          refine lv_goto (tgt := 65) hx hb dX7_wrongSound_61 (by decide) ?_
          exact rd_iret hx hb hr hlocks hS (Or.inr ⟨hp0, t, i, k, ht, by omega, by omega, rfl, rfl, rfl, (kfS_n (fun h9 => c5 (ev4.trans h9)) (fun h9 => c6 (ev4.trans h9)) b56).symm⟩) dX7_wrongSound_65
      · refine lv_bipush (v := 6) hx hb dX7_wrongSound_45 (by decide) ?_
        refine lv_goto (tgt := 65) hx hb dX7_wrongSound_47 (by decide) ?_
        exact rd_iret hx hb hr hlocks hS (Or.inr ⟨hp0, t, i, k, ht, by omega, by omega, rfl, rfl, rfl, (kfS_5 (fun h9 => c5 (ev4.trans h9)) (ev4.symm.trans c6)).symm⟩) dX7_wrongSound_65
    · refine lv_iconst (v := 5) hx hb dX7_wrongSound_35 (by decide) ?_
      refine lv_goto (tgt := 65) hx hb dX7_wrongSound_36 (by decide) ?_
      exact rd_iret hx hb hr hlocks hS (Or.inr ⟨hp0, t, i, k, ht, by omega, by omega, rfl, rfl, rfl, (kfS_0 (ev4.symm.trans c5)).symm⟩) dX7_wrongSound_65
  · refine lv_iload hx hb dX7_wrongSound_14 (lv_at hl 0 rfl) ?_
    exact rd_iret hx hb hr hlocks hS (Or.inl ⟨fun e9 => c2 (le_of_0 e9), hr1⟩) dX7_wrongSound_16
set_option maxHeartbeats 4000000 in
set_option maxRecDepth 100000 in
theorem m_X7_kind (l : Launch) (G : GG) (y : Nat) (b : Nat → Nat) (f : Nat → Int32) (r : Nat → Nat → Int32) (tb : Int32) (row : Int32) (col : Int32) (hM2 : nOK 6 12 (r 2)) (hM3 : nOK 6 12 (r 3)) (hM12 : nOK 6 12 (r 12)) : WrI l yX7_kind cX7_kind 4 (some .int) ({ frames := 2, cells := 0, slots := 0, locals := 45 }) G (mM G y b f r) [.ref y, .int tb, .int row, .int col] (fun q w => ∃ (n_f_0 : Int32), w = mM G y b (upd f 0 n_f_0) r ∧ atM (r 1) (r 2) (r 3) (r 11) tb row col (fun t i k => q = (r 5) (144 * t + 12 * i + k)) (q = -1)) := by
  refine wr_entryI (by decide +kernel) (Nat.le_of_ble_eq_true rfl) ?_
  intro p e s m below meth c A C0 hP hK hD hA ls hl
  have hS : va_S A s.heap s.heap [] := va_S.rf
  obtain ⟨hx, hb, hml, hown, hts, hr, hlocks, hin⟩ := C0
  have hown : s.vm.findClass RX7 = some m.cls := hown
  have hDD : ∀ f' r', va_D A (mM G y b f' r') := fun f' r' => D_same hD rfl
  have hl : lv_has ls 4 [(0, .ref y), (1, .int tb), (2, .int row), (3, .int col)] := hl
  refine lv_aload_n hx hb dX7_kind_0 rfl (lv_at hl 0 rfl) ?_
  refine lv_aload_n hx hb dX7_kind_1 rfl (lv_at hl 0 rfl) ?_
  refine lv_iload_n hx hb dX7_kind_2 rfl (lv_at hl 1 rfl) ?_
  refine lv_iload_n hx hb dX7_kind_3 rfl (lv_at hl 2 rfl) ?_
  refine lv_iload_n hx hb dX7_kind_4 rfl (lv_at hl 3 rfl) ?_
  refine rdV (rest := [.ref y]) (q0 := 0) ⟨hx, hb, hml, hown, hts⟩ (m_X7_wrongPlace l G y b f r tb row col  hM2 hM3 hM12) mi_yX7_wrongPlace mv_yX7_wrongPlace ml_X7_143 ⟨rfl, rfl, Nat.le_of_ble_eq_true rfl, Nat.le_of_ble_eq_true rfl⟩ hK (hP) rfl rfl rfl hl.1 rfl (Nat.le_of_ble_eq_true rfl) dX7_kind_5 ⟨Nat.zero_le _, Nat.zero_le _⟩ hS hA hP (fun r1 H locs hr1 hP hS => ?_)
  have hr1 : plS (r 1) (r 2) (r 3) (r 11) tb row col r1 := hr1
  refine va_put (D := G.1) (ci := 7) (v := .int r1) (C := RX7) (T := TX7) (N := 43) hx hb hts inX7 tyX7 tyX7_ok nmX7 hown hK.1 hP (hDD _ _) hS 0 rfl rfl 0 (by decide) (hts _ mf_X7_116) (fun _ h9 => h9) rfl (tyX7_ok 0 (by decide)) (rfl) (rfl) (Nat.le_of_ble_eq_true rfl) dX7_kind_8 (fun H locs hP _ hS => ?_)
  have hP : PP G (mM G y b (upd f 0 r1) r) H := hP
  refine lv_aload_n hx hb dX7_kind_11 rfl (lv_at hl 0 rfl) ?_
  refine va_get (D := G.1) (ci := 7) (v := .int r1) (C := RX7) (T := TX7) (N := 43) hx hb hts inX7 hown hK.1 hP 0 rfl rfl 0 (by decide) (hts _ mf_X7_116) (fun _ h9 => h9) rfl dX7_kind_12 ?_
  refine lv_if_le (tgt := 22) hx hb dX7_kind_15 (by decide) (fun c2 => ?_) (fun c2 => ?_)
  · have hp0 := pl_le0 hM2 hM3 hr1 c2
    obtain ⟨t, i, k, rw, cl, ht, hi, hk, hrw, hcl, rfl, rfl, rfl, h2, h3⟩ := wS_ok (wS_of hM2 hM3 hr1) (npos_of_le c2)
    obtain ⟨bk, hbk, h12⟩ := hM12 t ht
    refine lv_aload_n hx hb dX7_kind_22 rfl (lv_at hl 0 rfl) ?_
    refine va_get (D := G.1) (ci := 7) (v := .ref (b 5)) (C := RX7) (T := TX7) (N := 43) hx hb hts inX7 hown hK.1 hP 0 rfl rfl 5 (by decide) (hts _ mf_X7_23) (fun _ h9 => h9) rfl dX7_kind_23 ?_
    refine lv_iload_n hx hb dX7_kind_26 rfl (lv_at hl 1 rfl) ?_
    refine lv_iload_n hx hb dX7_kind_27 rfl (lv_at hl 2 rfl) ?_
    refine lv_iload_n hx hb dX7_kind_28 rfl (lv_at hl 3 rfl) ?_
    refine rdS (rest := [.ref (b 5)]) ⟨hx, hb, hml, hown, hts⟩ (m_X7_at l G y b (upd f 0 r1) r t i k  ) mi_yX7_at mst_yX7_at ml_X7_147 ⟨rfl, rfl, Nat.le_of_ble_eq_true rfl, Nat.le_of_ble_eq_true rfl⟩ hK (hP) rfl hl.1 rfl (Nat.le_of_ble_eq_true rfl) dX7_kind_29 ⟨Nat.zero_le _, Nat.zero_le _⟩ hS hA hP (fun r3 H locs hr3 hP hS => ?_)
    obtain rfl := hr3
    refine xiald (f := (r 5)) hx hb hK hP 5 ((144 * t + 12 * i + k)) (rfl) (by omega) (by decide) rfl dX7_kind_32 ?_
    refine lv_topi (fun v4 ev4 => ?_)
    exact wr_iret hx hb hr hlocks hS hP ⟨r1, rfl, Or.inr ⟨hp0, t, i, k, ht, by omega, by omega, rfl, rfl, rfl, ev4⟩⟩ dX7_kind_33
  · refine lv_iconst (v := -1) hx hb dX7_kind_18 (by decide) ?_
    refine lv_goto (tgt := 33) hx hb dX7_kind_19 (by decide) ?_
    exact wr_iret hx hb hr hlocks hS hP ⟨r1, rfl, Or.inl ⟨_, fun e9 => c2 (le_of_0 e9), hr1, rfl⟩⟩ dX7_kind_33
set_option maxHeartbeats 4000000 in
set_option maxRecDepth 100000 in
theorem m_X7_number (l : Launch) (G : GG) (y : Nat) (b : Nat → Nat) (f : Nat → Int32) (r : Nat → Nat → Int32) (tb : Int32) (row : Int32) (col : Int32) (hM2 : nOK 6 12 (r 2)) (hM3 : nOK 6 12 (r 3)) (hM12 : nOK 6 12 (r 12)) : WrI l yX7_number cX7_number 4 (some .int) ({ frames := 2, cells := 0, slots := 0, locals := 45 }) G (mM G y b f r) [.ref y, .int tb, .int row, .int col] (fun q w => ∃ (n_f_0 : Int32), w = mM G y b (upd f 0 n_f_0) r ∧ atM (r 1) (r 2) (r 3) (r 11) tb row col (fun t i k => sv (¬ (r 5) (144 * t + 12 * i + k) = 0) (q = (r 6) (144 * t + 12 * i + k)) (q = -1)) (q = -1)) := by
  refine wr_entryI (by decide +kernel) (Nat.le_of_ble_eq_true rfl) ?_
  intro p e s m below meth c A C0 hP hK hD hA ls hl
  have hS : va_S A s.heap s.heap [] := va_S.rf
  obtain ⟨hx, hb, hml, hown, hts, hr, hlocks, hin⟩ := C0
  have hown : s.vm.findClass RX7 = some m.cls := hown
  have hDD : ∀ f' r', va_D A (mM G y b f' r') := fun f' r' => D_same hD rfl
  have hl : lv_has ls 4 [(0, .ref y), (1, .int tb), (2, .int row), (3, .int col)] := hl
  refine lv_aload_n hx hb dX7_number_0 rfl (lv_at hl 0 rfl) ?_
  refine lv_aload_n hx hb dX7_number_1 rfl (lv_at hl 0 rfl) ?_
  refine lv_iload_n hx hb dX7_number_2 rfl (lv_at hl 1 rfl) ?_
  refine lv_iload_n hx hb dX7_number_3 rfl (lv_at hl 2 rfl) ?_
  refine lv_iload_n hx hb dX7_number_4 rfl (lv_at hl 3 rfl) ?_
  refine rdV (rest := [.ref y]) (q0 := 0) ⟨hx, hb, hml, hown, hts⟩ (m_X7_wrongPlace l G y b f r tb row col  hM2 hM3 hM12) mi_yX7_wrongPlace mv_yX7_wrongPlace ml_X7_143 ⟨rfl, rfl, Nat.le_of_ble_eq_true rfl, Nat.le_of_ble_eq_true rfl⟩ hK (hP) rfl rfl rfl hl.1 rfl (Nat.le_of_ble_eq_true rfl) dX7_number_5 ⟨Nat.zero_le _, Nat.zero_le _⟩ hS hA hP (fun r1 H locs hr1 hP hS => ?_)
  have hr1 : plS (r 1) (r 2) (r 3) (r 11) tb row col r1 := hr1
  refine va_put (D := G.1) (ci := 7) (v := .int r1) (C := RX7) (T := TX7) (N := 43) hx hb hts inX7 tyX7 tyX7_ok nmX7 hown hK.1 hP (hDD _ _) hS 0 rfl rfl 0 (by decide) (hts _ mf_X7_116) (fun _ h9 => h9) rfl (tyX7_ok 0 (by decide)) (rfl) (rfl) (Nat.le_of_ble_eq_true rfl) dX7_number_8 (fun H locs hP _ hS => ?_)
  have hP : PP G (mM G y b (upd f 0 r1) r) H := hP
  refine lv_aload_n hx hb dX7_number_11 rfl (lv_at hl 0 rfl) ?_
  refine va_get (D := G.1) (ci := 7) (v := .int r1) (C := RX7) (T := TX7) (N := 43) hx hb hts inX7 hown hK.1 hP 0 rfl rfl 0 (by decide) (hts _ mf_X7_116) (fun _ h9 => h9) rfl dX7_number_12 ?_
  refine lv_if_ne (tgt := 37) hx hb dX7_number_15 (by decide) (fun c2 => ?_) (fun c2 => ?_)
  · have hps := wS_pos (wS_of hM2 hM3 hr1) c2
    refine lv_aload_n hx hb dX7_number_37 rfl (lv_at hl 0 rfl) ?_
    refine va_get (D := G.1) (ci := 7) (v := .int r1) (C := RX7) (T := TX7) (N := 43) hx hb hts inX7 hown hK.1 hP 0 rfl rfl 0 (by decide) (hts _ mf_X7_116) (fun _ h9 => h9) rfl dX7_number_38 ?_
    refine lv_if_le (tgt := 48) hx hb dX7_number_41 (by decide) (fun c3 => ?_) (fun c3 => ?_)
    · exact absurd hps (npos_of_le c3)
    · refine lv_iconst (v := -1) hx hb dX7_number_44 (by decide) ?_
      refine lv_goto (tgt := 59) hx hb dX7_number_45 (by decide) ?_
      exact wr_iret hx hb hr hlocks hS hP ⟨r1, rfl, Or.inl ⟨_, c2, hr1, rfl⟩⟩ dX7_number_59
  · have hp0 := pl_le0 hM2 hM3 hr1 (le_of_0 c2)
    obtain ⟨t, i, k, rw, cl, ht, hi, hk, hrw, hcl, rfl, rfl, rfl, h2, h3⟩ := wS_ok (wS_of hM2 hM3 hr1) (npos_of_eq c2)
    obtain ⟨bk, hbk, h12⟩ := hM12 t ht
    refine lv_aload_n hx hb dX7_number_18 rfl (lv_at hl 0 rfl) ?_
    refine va_get (D := G.1) (ci := 7) (v := .ref (b 5)) (C := RX7) (T := TX7) (N := 43) hx hb hts inX7 hown hK.1 hP 0 rfl rfl 5 (by decide) (hts _ mf_X7_23) (fun _ h9 => h9) rfl dX7_number_19 ?_
    refine lv_iload_n hx hb dX7_number_22 rfl (lv_at hl 1 rfl) ?_
    refine lv_iload_n hx hb dX7_number_23 rfl (lv_at hl 2 rfl) ?_
    refine lv_iload_n hx hb dX7_number_24 rfl (lv_at hl 3 rfl) ?_
    refine rdS (rest := [.ref (b 5)]) ⟨hx, hb, hml, hown, hts⟩ (m_X7_at l G y b (upd f 0 r1) r t i k  ) mi_yX7_at mst_yX7_at ml_X7_147 ⟨rfl, rfl, Nat.le_of_ble_eq_true rfl, Nat.le_of_ble_eq_true rfl⟩ hK (hP) rfl hl.1 rfl (Nat.le_of_ble_eq_true rfl) dX7_number_25 ⟨Nat.zero_le _, Nat.zero_le _⟩ hS hA hP (fun r4 H locs hr4 hP hS => ?_)
    obtain rfl := hr4
    refine xiald (f := (r 5)) hx hb hK hP 5 ((144 * t + 12 * i + k)) (rfl) (by omega) (by decide) rfl dX7_number_28 ?_
    refine lv_topi (fun v5 ev5 => ?_)
    refine lv_if_ne (tgt := 37) hx hb dX7_number_29 (by decide) (fun c6 => ?_) (fun c6 => ?_)
    · refine lv_aload_n hx hb dX7_number_37 rfl (lv_at hl 0 rfl) ?_
      refine va_get (D := G.1) (ci := 7) (v := .int r1) (C := RX7) (T := TX7) (N := 43) hx hb hts inX7 hown hK.1 hP 0 rfl rfl 0 (by decide) (hts _ mf_X7_116) (fun _ h9 => h9) rfl dX7_number_38 ?_
      refine lv_if_le (tgt := 48) hx hb dX7_number_41 (by decide) (fun c7 => ?_) (fun c7 => ?_)
      · refine lv_aload_n hx hb dX7_number_48 rfl (lv_at hl 0 rfl) ?_
        refine va_get (D := G.1) (ci := 7) (v := .ref (b 6)) (C := RX7) (T := TX7) (N := 43) hx hb hts inX7 hown hK.1 hP 0 rfl rfl 6 (by decide) (hts _ mf_X7_26) (fun _ h9 => h9) rfl dX7_number_49 ?_
        refine lv_iload_n hx hb dX7_number_52 rfl (lv_at hl 1 rfl) ?_
        refine lv_iload_n hx hb dX7_number_53 rfl (lv_at hl 2 rfl) ?_
        refine lv_iload_n hx hb dX7_number_54 rfl (lv_at hl 3 rfl) ?_
        refine rdS (rest := [.ref (b 6)]) ⟨hx, hb, hml, hown, hts⟩ (m_X7_at l G y b (upd f 0 r1) r t i k  ) mi_yX7_at mst_yX7_at ml_X7_147 ⟨rfl, rfl, Nat.le_of_ble_eq_true rfl, Nat.le_of_ble_eq_true rfl⟩ hK (hP) rfl hl.1 rfl (Nat.le_of_ble_eq_true rfl) dX7_number_55 ⟨Nat.zero_le _, Nat.zero_le _⟩ hS hA hP (fun r8 H locs hr8 hP hS => ?_)
        obtain rfl := hr8
        refine xiald (f := (r 6)) hx hb hK hP 6 ((144 * t + 12 * i + k)) (rfl) (by omega) (by decide) rfl dX7_number_58 ?_
        refine lv_topi (fun v9 ev9 => ?_)
        exact wr_iret hx hb hr hlocks hS hP ⟨r1, rfl, Or.inr ⟨hp0, t, i, k, ht, by omega, by omega, rfl, rfl, rfl, Or.inl ⟨fun h9 => c6 (ev5.trans h9), ev9⟩⟩⟩ dX7_number_59
      · exact absurd (le_of_0 c2) c7
    · refine lv_aload_n hx hb dX7_number_32 rfl (lv_at hl 0 rfl) ?_
      refine lv_iconst (v := 5) hx hb dX7_number_33 (by decide) ?_
      refine va_put (D := G.1) (ci := 7) (v := .int 5) (C := RX7) (T := TX7) (N := 43) hx hb hts inX7 tyX7 tyX7_ok nmX7 hown hK.1 hP (hDD _ _) hS 0 rfl rfl 0 (by decide) (hts _ mf_X7_116) (fun _ h9 => h9) rfl (tyX7_ok 0 (by decide)) (rfl) (rfl) (Nat.le_of_ble_eq_true rfl) dX7_number_34 (fun H locs hP _ hS => ?_)
      have hP : PP G (mM G y b (upd f 0 5) r) H := hP
      refine lv_aload_n hx hb dX7_number_37 rfl (lv_at hl 0 rfl) ?_
      refine va_get (D := G.1) (ci := 7) (v := .int 5) (C := RX7) (T := TX7) (N := 43) hx hb hts inX7 hown hK.1 hP 0 rfl rfl 0 (by decide) (hts _ mf_X7_116) (fun _ h9 => h9) rfl dX7_number_38 ?_
      refine lv_if_le (tgt := 48) hx hb dX7_number_41 (by decide) (fun c10 => absurd c10 (by decide)) (fun c10 => ?_)
      refine lv_iconst (v := -1) hx hb dX7_number_44 (by decide) ?_
      refine lv_goto (tgt := 59) hx hb dX7_number_45 (by decide) ?_
      exact wr_iret hx hb hr hlocks hS hP ⟨5, rfl, Or.inr ⟨hp0, t, i, k, ht, by omega, by omega, rfl, rfl, rfl, Or.inr ⟨fun h => h (ev5.symm.trans c6), rfl⟩⟩⟩ dX7_number_59
set_option maxHeartbeats 4000000 in
set_option maxRecDepth 100000 in
theorem m_X7_givers (l : Launch) (G : GG) (y : Nat) (b : Nat → Nat) (f : Nat → Int32) (r : Nat → Nat → Int32) (tb : Int32) (row : Int32) (col : Int32) (hM2 : nOK 6 12 (r 2)) (hM3 : nOK 6 12 (r 3)) (hM12 : nOK 6 12 (r 12)) : WrI l yX7_givers cX7_givers 4 (some .int) ({ frames := 3, cells := 0, slots := 0, locals := 70 }) G (mM G y b f r) [.ref y, .int tb, .int row, .int col] (fun q w => ∃ (n_f_0 : Int32), w = mM G y b (upd f 0 n_f_0) r ∧ atM (r 1) (r 2) (r 3) (r 11) tb row col (fun t i k => sv ((r 5) (144 * t + 12 * i + k) = 2) (q = (r 7) (144 * t + 12 * i + k)) (q = -1)) (q = -1)) := by
  refine wr_entryI (by decide +kernel) (Nat.le_of_ble_eq_true rfl) ?_
  intro p e s m below meth c A C0 hP hK hD hA ls hl
  have hS : va_S A s.heap s.heap [] := va_S.rf
  obtain ⟨hx, hb, hml, hown, hts, hr, hlocks, hin⟩ := C0
  have hown : s.vm.findClass RX7 = some m.cls := hown
  have hDD : ∀ f' r', va_D A (mM G y b f' r') := fun f' r' => D_same hD rfl
  have hl : lv_has ls 4 [(0, .ref y), (1, .int tb), (2, .int row), (3, .int col)] := hl
  refine lv_aload_n hx hb dX7_givers_0 rfl (lv_at hl 0 rfl) ?_
  refine lv_aload_n hx hb dX7_givers_1 rfl (lv_at hl 0 rfl) ?_
  refine lv_iload_n hx hb dX7_givers_2 rfl (lv_at hl 1 rfl) ?_
  refine lv_iload_n hx hb dX7_givers_3 rfl (lv_at hl 2 rfl) ?_
  refine lv_iload_n hx hb dX7_givers_4 rfl (lv_at hl 3 rfl) ?_
  refine rdV (rest := [.ref y]) (q0 := 0) ⟨hx, hb, hml, hown, hts⟩ (m_X7_wrongAmount l G y b f r tb row col  hM2 hM3 hM12) mi_yX7_wrongAmount mv_yX7_wrongAmount ml_X7_155 ⟨rfl, rfl, Nat.le_of_ble_eq_true rfl, Nat.le_of_ble_eq_true rfl⟩ hK (hP) rfl rfl rfl hl.1 rfl (Nat.le_of_ble_eq_true rfl) dX7_givers_5 ⟨Nat.zero_le _, Nat.zero_le _⟩ hS hA hP (fun r1 H locs hr1 hP hS => ?_)
  have hr1 : stM (r 1) (r 2) (r 3) (r 11) tb row col (fun t i k => kf4 ((r 5) (144 * t + 12 * i + k))) r1 := hr1
  refine va_put (D := G.1) (ci := 7) (v := .int r1) (C := RX7) (T := TX7) (N := 43) hx hb hts inX7 tyX7 tyX7_ok nmX7 hown hK.1 hP (hDD _ _) hS 0 rfl rfl 0 (by decide) (hts _ mf_X7_116) (fun _ h9 => h9) rfl (tyX7_ok 0 (by decide)) (rfl) (rfl) (Nat.le_of_ble_eq_true rfl) dX7_givers_8 (fun H locs hP _ hS => ?_)
  have hP : PP G (mM G y b (upd f 0 r1) r) H := hP
  refine lv_aload_n hx hb dX7_givers_11 rfl (lv_at hl 0 rfl) ?_
  refine va_get (D := G.1) (ci := 7) (v := .int r1) (C := RX7) (T := TX7) (N := 43) hx hb hts inX7 hown hK.1 hP 0 rfl rfl 0 (by decide) (hts _ mf_X7_116) (fun _ h9 => h9) rfl dX7_givers_12 ?_
  refine lv_if_le (tgt := 22) hx hb dX7_givers_15 (by decide) (fun c2 => ?_) (fun c2 => ?_)
  · have hp0 := (stM_0 hM2 hM3 (fun _ _ _ => kf4_p _) hr1 c2).1
    obtain ⟨t, i, k, rw, cl, ht, hi, hk, hrw, hcl, rfl, rfl, rfl, h2, h3⟩ := wS_ok (stM_w hM2 hM3 (fun _ _ _ => kf4_p _) hr1) (npos_of_le c2)
    obtain ⟨bk, hbk, h12⟩ := hM12 t ht
    have hkk := stM_k hM2 hM3 (fun _ _ _ => kf4_p _) hr1 c2 ht (show i < 12 by omega) (show k < 12 by omega) rfl rfl rfl
    refine lv_aload_n hx hb dX7_givers_22 rfl (lv_at hl 0 rfl) ?_
    refine va_get (D := G.1) (ci := 7) (v := .ref (b 7)) (C := RX7) (T := TX7) (N := 43) hx hb hts inX7 hown hK.1 hP 0 rfl rfl 7 (by decide) (hts _ mf_X7_29) (fun _ h9 => h9) rfl dX7_givers_23 ?_
    refine lv_iload_n hx hb dX7_givers_26 rfl (lv_at hl 1 rfl) ?_
    refine lv_iload_n hx hb dX7_givers_27 rfl (lv_at hl 2 rfl) ?_
    refine lv_iload_n hx hb dX7_givers_28 rfl (lv_at hl 3 rfl) ?_
    refine rdS (rest := [.ref (b 7)]) ⟨hx, hb, hml, hown, hts⟩ (m_X7_at l G y b (upd f 0 r1) r t i k  ) mi_yX7_at mst_yX7_at ml_X7_147 ⟨rfl, rfl, Nat.le_of_ble_eq_true rfl, Nat.le_of_ble_eq_true rfl⟩ hK (hP) rfl hl.1 rfl (Nat.le_of_ble_eq_true rfl) dX7_givers_29 ⟨Nat.zero_le _, Nat.zero_le _⟩ hS hA hP (fun r3 H locs hr3 hP hS => ?_)
    obtain rfl := hr3
    refine xiald (f := (r 7)) hx hb hK hP 7 ((144 * t + 12 * i + k)) (rfl) (by omega) (by decide) rfl dX7_givers_32 ?_
    refine lv_topi (fun v4 ev4 => ?_)
    exact wr_iret hx hb hr hlocks hS hP ⟨r1, rfl, Or.inr ⟨hp0, t, i, k, ht, by omega, by omega, rfl, rfl, rfl, Or.inl ⟨kf4_i hkk, ev4⟩⟩⟩ dX7_givers_33
  · refine lv_iconst (v := -1) hx hb dX7_givers_18 (by decide) ?_
    refine lv_goto (tgt := 33) hx hb dX7_givers_19 (by decide) ?_
    exact wr_iret hx hb hr hlocks hS hP ⟨r1, rfl, atM_n hr1 c2 rfl (fun t i k h => Or.inr ⟨fun z => h (kf4_g z), rfl⟩)⟩ dX7_givers_33
theorem stM_e {op rs cs pl : Nat → Int32} {tb row col q : Int32} {K : Nat → Nat → Nat → Int32} (h1 : nOK 6 12 rs) (h2 : nOK 6 12 cs) (hn : ∀ t i k, ¬ K t i k < 0) (h : stM op rs cs pl tb row col K q) (hq : q ≤ 0) : q = 0 := (stM_w h1 h2 hn h).elim (fun z => absurd z (npos_of_le hq)) (fun z => z.1)
theorem n_le2 {x y : Int32} (h : ¬ x < y) : y ≤ x := Int32.not_lt.mp h
set_option maxHeartbeats 4000000 in
set_option maxRecDepth 100000 in
theorem m_X7_part (l : Launch) (G : GG) (y : Nat) (b : Nat → Nat) (f : Nat → Int32) (r : Nat → Nat → Int32) (tb : Int32) (row : Int32) (col : Int32) (x : Int32) (hM2 : nOK 6 12 (r 2)) (hM3 : nOK 6 12 (r 3)) (hM12 : nOK 6 12 (r 12)) (hG : nOK 864 6 (r 7)) : WrI l yX7_part cX7_part 5 (some .int) ({ frames := 3, cells := 0, slots := 0, locals := 70 }) G (mM G y b f r) [.ref y, .int tb, .int row, .int col, .int x] (fun q w => ∃ (n_f_0 : Int32), w = mM G y b (upd f 0 n_f_0) r ∧ atM (r 1) (r 2) (r 3) (r 11) tb row col (fun t i k => sv ((r 5) (144 * t + 12 * i + k) = 2) (sv (inR ((r 7) (144 * t + 12 * i + k)) x) (∃ n, n < 6 ∧ x = nI n ∧ q = (r 8) (6 * (144 * t + 12 * i + k) + n)) (q = -1)) (q = -1)) (q = -1)) := by
  refine wr_entryI (by decide +kernel) (Nat.le_of_ble_eq_true rfl) ?_
  intro p e s m below meth c A C0 hP hK hD hA ls hl
  have hS : va_S A s.heap s.heap [] := va_S.rf
  obtain ⟨hx, hb, hml, hown, hts, hr, hlocks, hin⟩ := C0
  have hown : s.vm.findClass RX7 = some m.cls := hown
  have hDD : ∀ f' r', va_D A (mM G y b f' r') := fun f' r' => D_same hD rfl
  have hl : lv_has ls 5 [(0, .ref y), (1, .int tb), (2, .int row), (3, .int col), (4, .int x)] := hl
  refine lv_aload_n hx hb dX7_part_0 rfl (lv_at hl 0 rfl) ?_
  refine lv_aload_n hx hb dX7_part_1 rfl (lv_at hl 0 rfl) ?_
  refine lv_iload_n hx hb dX7_part_2 rfl (lv_at hl 1 rfl) ?_
  refine lv_iload_n hx hb dX7_part_3 rfl (lv_at hl 2 rfl) ?_
  refine lv_iload_n hx hb dX7_part_4 rfl (lv_at hl 3 rfl) ?_
  refine rdV (rest := [.ref y]) (q0 := 0) ⟨hx, hb, hml, hown, hts⟩ (m_X7_wrongAmount l G y b f r tb row col  hM2 hM3 hM12) mi_yX7_wrongAmount mv_yX7_wrongAmount ml_X7_155 ⟨rfl, rfl, Nat.le_of_ble_eq_true rfl, Nat.le_of_ble_eq_true rfl⟩ hK (hP) rfl rfl rfl hl.1 rfl (Nat.le_of_ble_eq_true rfl) dX7_part_5 ⟨Nat.zero_le _, Nat.zero_le _⟩ hS hA hP (fun r1 H locs hr1 hP hS => ?_)
  have hr1 : stM (r 1) (r 2) (r 3) (r 11) tb row col (fun t i k => kf4 ((r 5) (144 * t + 12 * i + k))) r1 := hr1
  refine va_put (D := G.1) (ci := 7) (v := .int r1) (C := RX7) (T := TX7) (N := 43) hx hb hts inX7 tyX7 tyX7_ok nmX7 hown hK.1 hP (hDD _ _) hS 0 rfl rfl 0 (by decide) (hts _ mf_X7_116) (fun _ h9 => h9) rfl (tyX7_ok 0 (by decide)) (rfl) (rfl) (Nat.le_of_ble_eq_true rfl) dX7_part_8 (fun H locs hP _ hS => ?_)
  have hP : PP G (mM G y b (upd f 0 r1) r) H := hP
  refine lv_aload_n hx hb dX7_part_11 rfl (lv_at hl 0 rfl) ?_
  refine va_get (D := G.1) (ci := 7) (v := .int r1) (C := RX7) (T := TX7) (N := 43) hx hb hts inX7 hown hK.1 hP 0 rfl rfl 0 (by decide) (hts _ mf_X7_116) (fun _ h9 => h9) rfl dX7_part_12 ?_
  refine lv_if_ne (tgt := 45) hx hb dX7_part_15 (by decide) (fun c2 => ?_) (fun c2 => ?_)
  · have hps := wS_pos (stM_w hM2 hM3 (fun _ _ _ => kf4_p _) hr1) c2
    refine lv_aload_n hx hb dX7_part_45 rfl (lv_at hl 0 rfl) ?_
    refine va_get (D := G.1) (ci := 7) (v := .int r1) (C := RX7) (T := TX7) (N := 43) hx hb hts inX7 hown hK.1 hP 0 rfl rfl 0 (by decide) (hts _ mf_X7_116) (fun _ h9 => h9) rfl dX7_part_46 ?_
    refine lv_if_le (tgt := 56) hx hb dX7_part_49 (by decide) (fun c3 => ?_) (fun c3 => ?_)
    · exact absurd hps (npos_of_le c3)
    · refine lv_iconst (v := -1) hx hb dX7_part_52 (by decide) ?_
      refine lv_goto (tgt := 73) hx hb dX7_part_53 (by decide) ?_
      exact wr_iret hx hb hr hlocks hS hP ⟨r1, rfl, atM_n hr1 (fun z9 => c2 (stM_e hM2 hM3 (fun _ _ _ => kf4_p _) hr1 z9)) rfl (fun t i k h => Or.inr ⟨fun z => h (kf4_g z), rfl⟩)⟩ dX7_part_73
  · have hp0 := (stM_0 hM2 hM3 (fun _ _ _ => kf4_p _) hr1 (le_of_0 c2)).1
    obtain ⟨t, i, k, rw, cl, ht, hi, hk, hrw, hcl, rfl, rfl, rfl, h2, h3⟩ := wS_ok (stM_w hM2 hM3 (fun _ _ _ => kf4_p _) hr1) (npos_of_eq c2)
    obtain ⟨bk, hbk, h12⟩ := hM12 t ht
    have hkk := stM_k hM2 hM3 (fun _ _ _ => kf4_p _) hr1 (le_of_0 c2) ht (show i < 12 by omega) (show k < 12 by omega) rfl rfl rfl
    obtain ⟨gm, hgm, eg⟩ := hG (144 * t + 12 * i + k) (by omega)
    refine lv_iload hx hb dX7_part_18 (lv_at hl 4 rfl) ?_
    refine lv_if_lt (tgt := 39) hx hb dX7_part_20 (by decide) (fun c4 => ?_) (fun c4 => ?_)
    · refine lv_aload_n hx hb dX7_part_39 rfl (lv_at hl 0 rfl) ?_
      refine lv_bipush (v := 7) hx hb dX7_part_40 (by decide) ?_
      refine va_put (D := G.1) (ci := 7) (v := .int 7) (C := RX7) (T := TX7) (N := 43) hx hb hts inX7 tyX7 tyX7_ok nmX7 hown hK.1 hP (hDD _ _) hS 0 rfl rfl 0 (by decide) (hts _ mf_X7_116) (fun _ h9 => h9) rfl (tyX7_ok 0 (by decide)) (rfl) (rfl) (Nat.le_of_ble_eq_true rfl) dX7_part_42 (fun H locs hP _ hS => ?_)
      have hP : PP G (mM G y b (upd f 0 7) r) H := hP
      refine lv_aload_n hx hb dX7_part_45 rfl (lv_at hl 0 rfl) ?_
      refine va_get (D := G.1) (ci := 7) (v := .int 7) (C := RX7) (T := TX7) (N := 43) hx hb hts inX7 hown hK.1 hP 0 rfl rfl 0 (by decide) (hts _ mf_X7_116) (fun _ h9 => h9) rfl dX7_part_46 ?_
      refine lv_if_le (tgt := 56) hx hb dX7_part_49 (by decide) (fun c5 => absurd c5 (by decide)) (fun c5 => ?_)
      refine lv_iconst (v := -1) hx hb dX7_part_52 (by decide) ?_
      refine lv_goto (tgt := 73) hx hb dX7_part_53 (by decide) ?_
      exact wr_iret hx hb hr hlocks hS hP ⟨7, rfl, Or.inr ⟨hp0, t, i, k, ht, by omega, by omega, rfl, rfl, rfl, Or.inl ⟨kf4_i hkk, Or.inr ⟨fun h => h.1 c4, rfl⟩⟩⟩⟩ dX7_part_73
    · refine lv_iload hx hb dX7_part_23 (lv_at hl 4 rfl) ?_
      refine lv_aload_n hx hb dX7_part_25 rfl (lv_at hl 0 rfl) ?_
      refine va_get (D := G.1) (ci := 7) (v := .ref (b 7)) (C := RX7) (T := TX7) (N := 43) hx hb hts inX7 hown hK.1 hP 0 rfl rfl 7 (by decide) (hts _ mf_X7_29) (fun _ h9 => h9) rfl dX7_part_26 ?_
      refine lv_iload_n hx hb dX7_part_29 rfl (lv_at hl 1 rfl) ?_
      refine lv_iload_n hx hb dX7_part_30 rfl (lv_at hl 2 rfl) ?_
      refine lv_iload_n hx hb dX7_part_31 rfl (lv_at hl 3 rfl) ?_
      refine rdS (rest := [.ref (b 7), .int x]) ⟨hx, hb, hml, hown, hts⟩ (m_X7_at l G y b (upd f 0 r1) r t i k  ) mi_yX7_at mst_yX7_at ml_X7_147 ⟨rfl, rfl, Nat.le_of_ble_eq_true rfl, Nat.le_of_ble_eq_true rfl⟩ hK (hP) rfl hl.1 rfl (Nat.le_of_ble_eq_true rfl) dX7_part_32 ⟨Nat.zero_le _, Nat.zero_le _⟩ hS hA hP (fun r6 H locs hr6 hP hS => ?_)
      obtain rfl := hr6
      refine xiald (f := (r 7)) hx hb hK hP 7 ((144 * t + 12 * i + k)) (rfl) (by omega) (by decide) rfl dX7_part_35 ?_
      refine lv_topi (fun v7 ev7 => ?_)
      obtain rfl : v7 = nI (gm) := ev7.trans (eg)
      refine lv_icmp_lt (tgt := 45) hx hb dX7_part_36 (by decide) (fun c8 => ?_) (fun c8 => ?_)
      · obtain ⟨n, hn, rfl⟩ := lt_ix (x := x) (n := gm) (by omega) c4 (Int32.not_le.mpr c8)
        refine lv_aload_n hx hb dX7_part_45 rfl (lv_at hl 0 rfl) ?_
        refine va_get (D := G.1) (ci := 7) (v := .int r1) (C := RX7) (T := TX7) (N := 43) hx hb hts inX7 hown hK.1 hP 0 rfl rfl 0 (by decide) (hts _ mf_X7_116) (fun _ h9 => h9) rfl dX7_part_46 ?_
        refine lv_if_le (tgt := 56) hx hb dX7_part_49 (by decide) (fun c9 => ?_) (fun c9 => ?_)
        · refine lv_aload_n hx hb dX7_part_56 rfl (lv_at hl 0 rfl) ?_
          refine va_get (D := G.1) (ci := 7) (v := .ref (b 8)) (C := RX7) (T := TX7) (N := 43) hx hb hts inX7 hown hK.1 hP 0 rfl rfl 8 (by decide) (hts _ mf_X7_32) (fun _ h9 => h9) rfl dX7_part_57 ?_
          refine lv_bipush (v := 6) hx hb dX7_part_60 (by decide) ?_
          refine lv_iload_n hx hb dX7_part_62 rfl (lv_at hl 1 rfl) ?_
          refine lv_iload_n hx hb dX7_part_63 rfl (lv_at hl 2 rfl) ?_
          refine lv_iload_n hx hb dX7_part_64 rfl (lv_at hl 3 rfl) ?_
          refine rdS (rest := [.int 6, .ref (b 8)]) ⟨hx, hb, hml, hown, hts⟩ (m_X7_at l G y b (upd f 0 r1) r t i k  ) mi_yX7_at mst_yX7_at ml_X7_147 ⟨rfl, rfl, Nat.le_of_ble_eq_true rfl, Nat.le_of_ble_eq_true rfl⟩ hK (hP) rfl hl.1 rfl (Nat.le_of_ble_eq_true rfl) dX7_part_65 ⟨Nat.zero_le _, Nat.zero_le _⟩ hS hA hP (fun r10 H locs hr10 hP hS => ?_)
          obtain rfl := hr10
          refine lv_imul hx hb dX7_part_68 ?_
          refine lv_topi (fun v11 ev11 => ?_)
          obtain rfl : v11 = nI (6 * (144 * t + 12 * i + k)) := nI_times ev11 rfl rfl
          refine lv_iload hx hb dX7_part_69 (lv_at hl 4 rfl) ?_
          refine lv_iadd hx hb dX7_part_71 ?_
          refine lv_topi (fun v12 ev12 => ?_)
          obtain rfl : v12 = nI ((6 * (144 * t + 12 * i + k)) + n) := nI_plus ev12 rfl rfl
          refine xiald (f := (r 8)) hx hb hK hP 8 (((6 * (144 * t + 12 * i + k)) + n)) (rfl) (by omega) (by decide) rfl dX7_part_72 ?_
          refine lv_topi (fun v13 ev13 => ?_)
          exact wr_iret hx hb hr hlocks hS hP ⟨r1, rfl, Or.inr ⟨hp0, t, i, k, ht, by omega, by omega, rfl, rfl, rfl, Or.inl ⟨kf4_i hkk, Or.inl ⟨⟨c4, by rw [eg]; exact Int32.not_le.mpr c8⟩, n, by omega, rfl, ev13⟩⟩⟩⟩ dX7_part_73
        · exact absurd (le_of_0 c2) c9
      · refine lv_aload_n hx hb dX7_part_39 rfl (lv_at hl 0 rfl) ?_
        refine lv_bipush (v := 7) hx hb dX7_part_40 (by decide) ?_
        refine va_put (D := G.1) (ci := 7) (v := .int 7) (C := RX7) (T := TX7) (N := 43) hx hb hts inX7 tyX7 tyX7_ok nmX7 hown hK.1 hP (hDD _ _) hS 0 rfl rfl 0 (by decide) (hts _ mf_X7_116) (fun _ h9 => h9) rfl (tyX7_ok 0 (by decide)) (rfl) (rfl) (Nat.le_of_ble_eq_true rfl) dX7_part_42 (fun H locs hP _ hS => ?_)
        have hP : PP G (mM G y b (upd f 0 7) r) H := hP
        refine lv_aload_n hx hb dX7_part_45 rfl (lv_at hl 0 rfl) ?_
        refine va_get (D := G.1) (ci := 7) (v := .int 7) (C := RX7) (T := TX7) (N := 43) hx hb hts inX7 hown hK.1 hP 0 rfl rfl 0 (by decide) (hts _ mf_X7_116) (fun _ h9 => h9) rfl dX7_part_46 ?_
        refine lv_if_le (tgt := 56) hx hb dX7_part_49 (by decide) (fun c14 => absurd c14 (by decide)) (fun c14 => ?_)
        refine lv_iconst (v := -1) hx hb dX7_part_52 (by decide) ?_
        refine lv_goto (tgt := 73) hx hb dX7_part_53 (by decide) ?_
        exact wr_iret hx hb hr hlocks hS hP ⟨7, rfl, Or.inr ⟨hp0, t, i, k, ht, by omega, by omega, rfl, rfl, rfl, Or.inl ⟨kf4_i hkk, Or.inr ⟨fun h => h.2 (by rw [eg]; exact n_le2 c8), rfl⟩⟩⟩⟩ dX7_part_73
set_option maxHeartbeats 4000000 in
set_option maxRecDepth 100000 in
theorem m_X7_hand (l : Launch) (G : GG) (y : Nat) (b : Nat → Nat) (f : Nat → Int32) (r : Nat → Nat → Int32) (tb : Int32) (row : Int32) (col : Int32) (on : Int32) (hM2 : nOK 6 12 (r 2)) (hM3 : nOK 6 12 (r 3)) (hM12 : nOK 6 12 (r 12)) : WrI l yX7_hand cX7_hand 5 (some .boolean) ({ frames := 3, cells := 0, slots := 0, locals := 70 }) G (mM G y b f r) [.ref y, .int tb, .int row, .int col, .int on] (fun q w => ∃ (n_f_0 : Int32) (n_r_9 : Nat → Int32), w = mM G y b (upd f 0 n_f_0) (up2 r 9 n_r_9) ∧ atM (r 1) (r 2) (r 3) (r 11) tb row col (fun t i k => sv (gdK ((r 5) (144 * t + 12 * i + k))) (q = 1 ∧ n_r_9 = upd (r 9) (144 * t + 12 * i + k) (vp_nar .boolean on)) (q = 0 ∧ n_r_9 = (r 9))) (q = 0 ∧ n_r_9 = (r 9))) := by
  refine wr_entryI (by decide +kernel) (Nat.le_of_ble_eq_true rfl) ?_
  intro p e s m below meth c A C0 hP hK hD hA ls hl
  have hS : va_S A s.heap s.heap [] := va_S.rf
  obtain ⟨hx, hb, hml, hown, hts, hr, hlocks, hin⟩ := C0
  have hown : s.vm.findClass RX7 = some m.cls := hown
  have hDD : ∀ f' r', va_D A (mM G y b f' r') := fun f' r' => D_same hD rfl
  have hl : lv_has ls 5 [(0, .ref y), (1, .int tb), (2, .int row), (3, .int col), (4, .int on)] := hl
  refine lv_aload_n hx hb dX7_hand_0 rfl (lv_at hl 0 rfl) ?_
  refine lv_aload_n hx hb dX7_hand_1 rfl (lv_at hl 0 rfl) ?_
  refine lv_iload_n hx hb dX7_hand_2 rfl (lv_at hl 1 rfl) ?_
  refine lv_iload_n hx hb dX7_hand_3 rfl (lv_at hl 2 rfl) ?_
  refine lv_iload_n hx hb dX7_hand_4 rfl (lv_at hl 3 rfl) ?_
  refine rdV (rest := [.ref y]) (q0 := 0) ⟨hx, hb, hml, hown, hts⟩ (m_X7_wrongToTell l G y b f r tb row col  hM2 hM3 hM12) mi_yX7_wrongToTell mv_yX7_wrongToTell ml_X7_158 ⟨rfl, rfl, Nat.le_of_ble_eq_true rfl, Nat.le_of_ble_eq_true rfl⟩ hK (hP) rfl rfl rfl hl.1 rfl (Nat.le_of_ble_eq_true rfl) dX7_hand_5 ⟨Nat.zero_le _, Nat.zero_le _⟩ hS hA hP (fun r1 H locs hr1 hP hS => ?_)
  have hr1 : stM (r 1) (r 2) (r 3) (r 11) tb row col (fun t i k => kf3 ((r 5) (144 * t + 12 * i + k))) r1 := hr1
  refine va_put (D := G.1) (ci := 7) (v := .int r1) (C := RX7) (T := TX7) (N := 43) hx hb hts inX7 tyX7 tyX7_ok nmX7 hown hK.1 hP (hDD _ _) hS 0 rfl rfl 0 (by decide) (hts _ mf_X7_116) (fun _ h9 => h9) rfl (tyX7_ok 0 (by decide)) (rfl) (rfl) (Nat.le_of_ble_eq_true rfl) dX7_hand_8 (fun H locs hP _ hS => ?_)
  have hP : PP G (mM G y b (upd f 0 r1) r) H := hP
  refine lv_aload_n hx hb dX7_hand_11 rfl (lv_at hl 0 rfl) ?_
  refine va_get (D := G.1) (ci := 7) (v := .int r1) (C := RX7) (T := TX7) (N := 43) hx hb hts inX7 hown hK.1 hP 0 rfl rfl 0 (by decide) (hts _ mf_X7_116) (fun _ h9 => h9) rfl dX7_hand_12 ?_
  refine lv_if_le (tgt := 20) hx hb dX7_hand_15 (by decide) (fun c2 => ?_) (fun c2 => ?_)
  · have hp0 := (stM_0 hM2 hM3 (fun _ _ _ => kf3_p _) hr1 c2).1
    obtain ⟨t, i, k, rw, cl, ht, hi, hk, hrw, hcl, rfl, rfl, rfl, h2, h3⟩ := wS_ok (stM_w hM2 hM3 (fun _ _ _ => kf3_p _) hr1) (npos_of_le c2)
    obtain ⟨bk, hbk, h12⟩ := hM12 t ht
    have hkk := stM_k hM2 hM3 (fun _ _ _ => kf3_p _) hr1 c2 ht (show i < 12 by omega) (show k < 12 by omega) rfl rfl rfl
    refine lv_aload_n hx hb dX7_hand_20 rfl (lv_at hl 0 rfl) ?_
    refine va_get (D := G.1) (ci := 7) (v := .ref (b 9)) (C := RX7) (T := TX7) (N := 43) hx hb hts inX7 hown hK.1 hP 0 rfl rfl 9 (by decide) (hts _ mf_X7_35) (fun _ h9 => h9) rfl dX7_hand_21 ?_
    refine lv_iload_n hx hb dX7_hand_24 rfl (lv_at hl 1 rfl) ?_
    refine lv_iload_n hx hb dX7_hand_25 rfl (lv_at hl 2 rfl) ?_
    refine lv_iload_n hx hb dX7_hand_26 rfl (lv_at hl 3 rfl) ?_
    refine rdS (rest := [.ref (b 9)]) ⟨hx, hb, hml, hown, hts⟩ (m_X7_at l G y b (upd f 0 r1) r t i k  ) mi_yX7_at mst_yX7_at ml_X7_147 ⟨rfl, rfl, Nat.le_of_ble_eq_true rfl, Nat.le_of_ble_eq_true rfl⟩ hK (hP) rfl hl.1 rfl (Nat.le_of_ble_eq_true rfl) dX7_hand_27 ⟨Nat.zero_le _, Nat.zero_le _⟩ hS hA hP (fun r3 H locs hr3 hP hS => ?_)
    obtain rfl := hr3
    refine lv_iload hx hb dX7_hand_30 (lv_at hl 4 rfl) ?_
    refine xzastn (f := (r 9)) (x := on) hx hb hK hP (hDD _ _) hS 9 ((144 * t + 12 * i + k)) (rfl) (by omega) (by decide) rfl dX7_hand_32 (fun H locs hP _ hS => ?_)
    have hP : PP G (mM G y b (upd f 0 r1) (up2 r 9 (upd (r 9) ((144 * t + 12 * i + k)) ((vp_nar .boolean on))))) H := hP
    refine lv_iconst (v := 1) hx hb dX7_hand_33 (by decide) ?_
    exact wr_zret hx hb hr hlocks (Or.inr rfl) hS hP ⟨r1, (upd (r 9) ((144 * t + 12 * i + k)) ((vp_nar .boolean on))), rfl, Or.inr ⟨hp0, t, i, k, ht, by omega, by omega, rfl, rfl, rfl, Or.inl ⟨kf3_i hkk, rfl, rfl⟩⟩⟩ dX7_hand_34
  · refine lv_iconst (v := 0) hx hb dX7_hand_18 (by decide) ?_
    exact wr_zret hx hb hr hlocks (Or.inl rfl) hS hP ⟨r1, (r 9), rfl, atM_n hr1 c2 ⟨rfl, rfl⟩ (fun t i k h => Or.inr ⟨fun z => h (kf3_g z), rfl, rfl⟩)⟩ dX7_hand_19
set_option maxHeartbeats 4000000 in
set_option maxRecDepth 100000 in
theorem m_X7_keep (l : Launch) (G : GG) (y : Nat) (b : Nat → Nat) (f : Nat → Int32) (r : Nat → Nat → Int32) (tb : Int32) (row : Int32) (col : Int32) (on : Int32) (hM2 : nOK 6 12 (r 2)) (hM3 : nOK 6 12 (r 3)) (hM12 : nOK 6 12 (r 12)) : WrI l yX7_keep cX7_keep 5 (some .boolean) ({ frames := 3, cells := 0, slots := 0, locals := 70 }) G (mM G y b f r) [.ref y, .int tb, .int row, .int col, .int on] (fun q w => ∃ (n_f_0 : Int32) (n_r_10 : Nat → Int32), w = mM G y b (upd f 0 n_f_0) (up2 r 10 n_r_10) ∧ atM (r 1) (r 2) (r 3) (r 11) tb row col (fun t i k => sv (gdK ((r 5) (144 * t + 12 * i + k))) (q = 1) (q = 0)) (q = 0)) := by
  refine wr_entryI (by decide +kernel) (Nat.le_of_ble_eq_true rfl) ?_
  intro p e s m below meth c A C0 hP hK hD hA ls hl
  have hS : va_S A s.heap s.heap [] := va_S.rf
  obtain ⟨hx, hb, hml, hown, hts, hr, hlocks, hin⟩ := C0
  have hown : s.vm.findClass RX7 = some m.cls := hown
  have hDD : ∀ f' r', va_D A (mM G y b f' r') := fun f' r' => D_same hD rfl
  have hl : lv_has ls 5 [(0, .ref y), (1, .int tb), (2, .int row), (3, .int col), (4, .int on)] := hl
  refine lv_aload_n hx hb dX7_keep_0 rfl (lv_at hl 0 rfl) ?_
  refine lv_aload_n hx hb dX7_keep_1 rfl (lv_at hl 0 rfl) ?_
  refine lv_iload_n hx hb dX7_keep_2 rfl (lv_at hl 1 rfl) ?_
  refine lv_iload_n hx hb dX7_keep_3 rfl (lv_at hl 2 rfl) ?_
  refine lv_iload_n hx hb dX7_keep_4 rfl (lv_at hl 3 rfl) ?_
  refine rdV (rest := [.ref y]) (q0 := 0) ⟨hx, hb, hml, hown, hts⟩ (m_X7_wrongToTell l G y b f r tb row col  hM2 hM3 hM12) mi_yX7_wrongToTell mv_yX7_wrongToTell ml_X7_158 ⟨rfl, rfl, Nat.le_of_ble_eq_true rfl, Nat.le_of_ble_eq_true rfl⟩ hK (hP) rfl rfl rfl hl.1 rfl (Nat.le_of_ble_eq_true rfl) dX7_keep_5 ⟨Nat.zero_le _, Nat.zero_le _⟩ hS hA hP (fun r1 H locs hr1 hP hS => ?_)
  have hr1 : stM (r 1) (r 2) (r 3) (r 11) tb row col (fun t i k => kf3 ((r 5) (144 * t + 12 * i + k))) r1 := hr1
  refine va_put (D := G.1) (ci := 7) (v := .int r1) (C := RX7) (T := TX7) (N := 43) hx hb hts inX7 tyX7 tyX7_ok nmX7 hown hK.1 hP (hDD _ _) hS 0 rfl rfl 0 (by decide) (hts _ mf_X7_116) (fun _ h9 => h9) rfl (tyX7_ok 0 (by decide)) (rfl) (rfl) (Nat.le_of_ble_eq_true rfl) dX7_keep_8 (fun H locs hP _ hS => ?_)
  have hP : PP G (mM G y b (upd f 0 r1) r) H := hP
  refine lv_aload_n hx hb dX7_keep_11 rfl (lv_at hl 0 rfl) ?_
  refine va_get (D := G.1) (ci := 7) (v := .int r1) (C := RX7) (T := TX7) (N := 43) hx hb hts inX7 hown hK.1 hP 0 rfl rfl 0 (by decide) (hts _ mf_X7_116) (fun _ h9 => h9) rfl dX7_keep_12 ?_
  refine lv_if_le (tgt := 20) hx hb dX7_keep_15 (by decide) (fun c2 => ?_) (fun c2 => ?_)
  · have hp0 := (stM_0 hM2 hM3 (fun _ _ _ => kf3_p _) hr1 c2).1
    obtain ⟨t, i, k, rw, cl, ht, hi, hk, hrw, hcl, rfl, rfl, rfl, h2, h3⟩ := wS_ok (stM_w hM2 hM3 (fun _ _ _ => kf3_p _) hr1) (npos_of_le c2)
    obtain ⟨bk, hbk, h12⟩ := hM12 t ht
    have hkk := stM_k hM2 hM3 (fun _ _ _ => kf3_p _) hr1 c2 ht (show i < 12 by omega) (show k < 12 by omega) rfl rfl rfl
    refine lv_aload_n hx hb dX7_keep_20 rfl (lv_at hl 0 rfl) ?_
    refine va_get (D := G.1) (ci := 7) (v := .ref (b 10)) (C := RX7) (T := TX7) (N := 43) hx hb hts inX7 hown hK.1 hP 0 rfl rfl 10 (by decide) (hts _ mf_X7_38) (fun _ h9 => h9) rfl dX7_keep_21 ?_
    refine lv_iload_n hx hb dX7_keep_24 rfl (lv_at hl 1 rfl) ?_
    refine lv_iload_n hx hb dX7_keep_25 rfl (lv_at hl 2 rfl) ?_
    refine lv_iload_n hx hb dX7_keep_26 rfl (lv_at hl 3 rfl) ?_
    refine rdS (rest := [.ref (b 10)]) ⟨hx, hb, hml, hown, hts⟩ (m_X7_at l G y b (upd f 0 r1) r t i k  ) mi_yX7_at mst_yX7_at ml_X7_147 ⟨rfl, rfl, Nat.le_of_ble_eq_true rfl, Nat.le_of_ble_eq_true rfl⟩ hK (hP) rfl hl.1 rfl (Nat.le_of_ble_eq_true rfl) dX7_keep_27 ⟨Nat.zero_le _, Nat.zero_le _⟩ hS hA hP (fun r3 H locs hr3 hP hS => ?_)
    obtain rfl := hr3
    refine lv_iload hx hb dX7_keep_30 (lv_at hl 4 rfl) ?_
    refine xzastn (f := (r 10)) (x := on) hx hb hK hP (hDD _ _) hS 10 ((144 * t + 12 * i + k)) (rfl) (by omega) (by decide) rfl dX7_keep_32 (fun H locs hP _ hS => ?_)
    have hP : PP G (mM G y b (upd f 0 r1) (up2 r 10 (upd (r 10) ((144 * t + 12 * i + k)) ((vp_nar .boolean on))))) H := hP
    refine lv_iconst (v := 1) hx hb dX7_keep_33 (by decide) ?_
    exact wr_zret hx hb hr hlocks (Or.inr rfl) hS hP ⟨r1, (upd (r 10) ((144 * t + 12 * i + k)) ((vp_nar .boolean on))), rfl, Or.inr ⟨hp0, t, i, k, ht, by omega, by omega, rfl, rfl, rfl, Or.inl ⟨kf3_i hkk, rfl⟩⟩⟩ dX7_keep_34
  · refine lv_iconst (v := 0) hx hb dX7_keep_18 (by decide) ?_
    exact wr_zret hx hb hr hlocks (Or.inl rfl) hS hP ⟨r1, (r 10), rfl, atM_n hr1 c2 rfl (fun t i k h => Or.inr ⟨fun z => h (kf3_g z), rfl⟩)⟩ dX7_keep_19
set_option maxHeartbeats 4000000 in
set_option maxRecDepth 100000 in
theorem m_X7_sound (l : Launch) (G : GG) (y : Nat) (b : Nat → Nat) (f : Nat → Int32) (r : Nat → Nat → Int32) (tb : Int32) (row : Int32) (hM2 : nOK 6 12 (r 2)) (hM3 : nOK 6 12 (r 3)) (hM12 : nOK 6 12 (r 12)) : WrI l yX7_sound cX7_sound 3 (some .int) ({ frames := 2, cells := 0, slots := 0, locals := 46 }) G (mM G y b f r) [.ref y, .int tb, .int row] (fun q w => ∃ (n_f_0 : Int32), w = mM G y b (upd f 0 n_f_0) r ∧ roM (r 1) (r 2) tb row (fun t i => sv (sndN ((r 3) t) (r 11) (r 5) t i) (q = 1) (q = 0)) (q = -1)) := by
  refine wr_entryI (by decide +kernel) (Nat.le_of_ble_eq_true rfl) ?_
  intro p e s m below meth c A C0 hP hK hD hA ls hl
  have hS : va_S A s.heap s.heap [] := va_S.rf
  obtain ⟨hx, hb, hml, hown, hts, hr, hlocks, hin⟩ := C0
  have hown : s.vm.findClass RX7 = some m.cls := hown
  have hDD : ∀ f' r', va_D A (mM G y b f' r') := fun f' r' => D_same hD rfl
  have hl : lv_has ls 3 [(0, .ref y), (1, .int tb), (2, .int row)] := hl
  refine lv_aload_n hx hb dX7_sound_0 rfl (lv_at hl 0 rfl) ?_
  refine lv_aload_n hx hb dX7_sound_1 rfl (lv_at hl 0 rfl) ?_
  refine lv_iload_n hx hb dX7_sound_2 rfl (lv_at hl 1 rfl) ?_
  refine rdV (rest := [.ref y]) (q0 := 0) ⟨hx, hb, hml, hown, hts⟩ (m_X7_isTable l G y b f r tb  ) mi_yX7_isTable mv_yX7_isTable ml_X7_120 ⟨rfl, rfl, Nat.le_of_ble_eq_true rfl, Nat.le_of_ble_eq_true rfl⟩ hK (hP) rfl rfl rfl hl.1 rfl (Nat.le_of_ble_eq_true rfl) dX7_sound_3 ⟨Nat.zero_le _, Nat.zero_le _⟩ hS hA hP (fun r1 H locs hr1 hP hS => ?_)
  have hr1 : ((r1 = 1 ∧ (opn (r 1) tb)) ∨ (r1 = 0 ∧ ¬ (opn (r 1) tb))) := hr1
  refine lv_if_ne (tgt := 13) hx hb dX7_sound_6 (by decide) (fun c2 => ?_) (fun c2 => ?_)
  · have b6 := bT hr1 c2
    obtain ⟨t, ht, rfl, hop⟩ := b6
    obtain ⟨rw, hrw, h2⟩ := hM2 t ht
    obtain ⟨cl, hcl, h3⟩ := hM3 t ht
    obtain ⟨bk, hbk, h12⟩ := hM12 t ht
    refine lv_aload_n hx hb dX7_sound_13 rfl (lv_at hl 0 rfl) ?_
    refine lv_iload_n hx hb dX7_sound_14 rfl (lv_at hl 1 rfl) ?_
    refine lv_iload_n hx hb dX7_sound_15 rfl (lv_at hl 2 rfl) ?_
    refine rdV (rest := [.ref y]) (q0 := 0) ⟨hx, hb, hml, hown, hts⟩ (m_X7_isRow l G y b f r t row  (by omega)) mi_yX7_isRow mv_yX7_isRow ml_X7_124 ⟨rfl, rfl, Nat.le_of_ble_eq_true rfl, Nat.le_of_ble_eq_true rfl⟩ hK (hP) rfl rfl rfl hl.1 rfl (Nat.le_of_ble_eq_true rfl) dX7_sound_16 ⟨Nat.zero_le _, Nat.zero_le _⟩ hS hA hP (fun r3 H locs hr3 hP hS => ?_)
    have hr3 : ((r3 = 1 ∧ (inR ((r 2) t) row)) ∨ (r3 = 0 ∧ ¬ (inR ((r 2) t) row))) := hr3
    refine lv_if_ne (tgt := 26) hx hb dX7_sound_19 (by decide) (fun c4 => ?_) (fun c4 => ?_)
    · have b19 := bT hr3 c4
      have q_i := b19
      rw [h2] at q_i
      obtain ⟨i, hi, rfl⟩ := inR_n (by omega) q_i
      refine lv_iconst (v := 0) hx hb dX7_sound_26 (by decide) ?_
      refine va_put (D := G.1) (ci := 7) (v := .int 0) (C := RX7) (T := TX7) (N := 43) hx hb hts inX7 tyX7 tyX7_ok nmX7 hown hK.1 hP (hDD _ _) hS 0 rfl rfl 0 (by decide) (hts _ mf_X7_116) (fun _ h9 => h9) rfl (tyX7_ok 0 (by decide)) (rfl) (rfl) (Nat.le_of_ble_eq_true rfl) dX7_sound_27 (fun H locs hP _ hS => ?_)
      have hP : PP G (mM G y b (upd f 0 0) r) H := hP
      refine lv_aload_n hx hb dX7_sound_30 rfl (lv_at hl 0 rfl) ?_
      refine va_get (D := G.1) (ci := 7) (v := .int 0) (C := RX7) (T := TX7) (N := 43) hx hb hts inX7 hown hK.1 hP 0 rfl rfl 0 (by decide) (hts _ mf_X7_116) (fun _ h9 => h9) rfl dX7_sound_31 ?_
      refine lv_if_le (tgt := 41) hx hb dX7_sound_34 (by decide) (fun c5 => ?_) (fun c5 => absurd (by decide) c5)
      refine lv_aload_n hx hb dX7_sound_41 rfl (lv_at hl 0 rfl) ?_
      refine lv_iload_n hx hb dX7_sound_42 rfl (lv_at hl 1 rfl) ?_
      refine lv_iload_n hx hb dX7_sound_43 rfl (lv_at hl 2 rfl) ?_
      refine rdV (rest := []) (q0 := 0) ⟨hx, hb, hml, hown, hts⟩ (m_X7_isSound l G y b (upd f 0 0) r t i rw cl bk (by omega) (by omega) (by omega) (by omega) h2 h3 h12 (by omega)) mi_yX7_isSound mv_yX7_isSound ml_X7_161 ⟨rfl, rfl, Nat.le_of_ble_eq_true rfl, Nat.le_of_ble_eq_true rfl⟩ hK (hP) rfl rfl rfl hl.1 rfl (Nat.le_of_ble_eq_true rfl) dX7_sound_44 ⟨Nat.zero_le _, Nat.zero_le _⟩ hS hA hP (fun r6 H locs hr6 hP hS => ?_)
      have hr6 : ((r6 = 1 ∧ (sndN ((r 3) t) (r 11) (r 5) t i)) ∨ (r6 = 0 ∧ ¬ (sndN ((r 3) t) (r 11) (r 5) t i))) := hr6
      refine lv_if_eq (tgt := 54) hx hb dX7_sound_47 (by decide) (fun c7 => ?_) (fun c7 => ?_)
      · have b47 := bF hr6 c7
        refine lv_iconst (v := 0) hx hb dX7_sound_54 (by decide) ?_
        exact wr_iret hx hb hr hlocks hS hP ⟨0, rfl, Or.inr ⟨t, i, ⟨ht, by omega, rfl, rfl, hop, b19⟩, Or.inr ⟨b47, rfl⟩⟩⟩ dX7_sound_55
      · have b47 := bT hr6 c7
        refine lv_iconst (v := 1) hx hb dX7_sound_50 (by decide) ?_
        refine lv_goto (tgt := 55) hx hb dX7_sound_51 (by decide) ?_
        exact wr_iret hx hb hr hlocks hS hP ⟨0, rfl, Or.inr ⟨t, i, ⟨ht, by omega, rfl, rfl, hop, b19⟩, Or.inl ⟨b47, rfl⟩⟩⟩ dX7_sound_55
    · have b19 := bF hr3 c4
      refine lv_iconst (v := 2) hx hb dX7_sound_22 (by decide) ?_
      refine lv_goto (tgt := 27) hx hb dX7_sound_23 (by decide) ?_
      refine va_put (D := G.1) (ci := 7) (v := .int 2) (C := RX7) (T := TX7) (N := 43) hx hb hts inX7 tyX7 tyX7_ok nmX7 hown hK.1 hP (hDD _ _) hS 0 rfl rfl 0 (by decide) (hts _ mf_X7_116) (fun _ h9 => h9) rfl (tyX7_ok 0 (by decide)) (rfl) (rfl) (Nat.le_of_ble_eq_true rfl) dX7_sound_27 (fun H locs hP _ hS => ?_)
      have hP : PP G (mM G y b (upd f 0 2) r) H := hP
      refine lv_aload_n hx hb dX7_sound_30 rfl (lv_at hl 0 rfl) ?_
      refine va_get (D := G.1) (ci := 7) (v := .int 2) (C := RX7) (T := TX7) (N := 43) hx hb hts inX7 hown hK.1 hP 0 rfl rfl 0 (by decide) (hts _ mf_X7_116) (fun _ h9 => h9) rfl dX7_sound_31 ?_
      refine lv_if_le (tgt := 41) hx hb dX7_sound_34 (by decide) (fun c8 => absurd c8 (by decide)) (fun c8 => ?_)
      refine lv_iconst (v := -1) hx hb dX7_sound_37 (by decide) ?_
      refine lv_goto (tgt := 55) hx hb dX7_sound_38 (by decide) ?_
      exact wr_iret hx hb hr hlocks hS hP ⟨2, rfl, Or.inl ⟨fun ⟨t2, i2, h9⟩ => (by have e1 := (nI_eq (by omega) (by have := h9.1; omega)).mp h9.2.2.1; subst e1; exact b19 h9.2.2.2.2.2), rfl⟩⟩ dX7_sound_55
  · have b6 := bF hr1 c2
    refine lv_iconst (v := 1) hx hb dX7_sound_9 (by decide) ?_
    refine lv_goto (tgt := 27) hx hb dX7_sound_10 (by decide) ?_
    refine va_put (D := G.1) (ci := 7) (v := .int 1) (C := RX7) (T := TX7) (N := 43) hx hb hts inX7 tyX7 tyX7_ok nmX7 hown hK.1 hP (hDD _ _) hS 0 rfl rfl 0 (by decide) (hts _ mf_X7_116) (fun _ h9 => h9) rfl (tyX7_ok 0 (by decide)) (rfl) (rfl) (Nat.le_of_ble_eq_true rfl) dX7_sound_27 (fun H locs hP _ hS => ?_)
    have hP : PP G (mM G y b (upd f 0 1) r) H := hP
    refine lv_aload_n hx hb dX7_sound_30 rfl (lv_at hl 0 rfl) ?_
    refine va_get (D := G.1) (ci := 7) (v := .int 1) (C := RX7) (T := TX7) (N := 43) hx hb hts inX7 hown hK.1 hP 0 rfl rfl 0 (by decide) (hts _ mf_X7_116) (fun _ h9 => h9) rfl dX7_sound_31 ?_
    refine lv_if_le (tgt := 41) hx hb dX7_sound_34 (by decide) (fun c9 => absurd c9 (by decide)) (fun c9 => ?_)
    refine lv_iconst (v := -1) hx hb dX7_sound_37 (by decide) ?_
    refine lv_goto (tgt := 55) hx hb dX7_sound_38 (by decide) ?_
    exact wr_iret hx hb hr hlocks hS hP ⟨1, rfl, Or.inl ⟨fun ⟨t2, i2, h9⟩ => b6 ⟨t2, h9.1, h9.2.2.1, h9.2.2.2.2.1⟩, rfl⟩⟩ dX7_sound_55
set_option maxHeartbeats 4000000 in
set_option maxRecDepth 100000 in
theorem m_X7_sum (l : Launch) (G : GG) (y : Nat) (b : Nat → Nat) (f : Nat → Int32) (r : Nat → Nat → Int32) (tb : Int32) (row : Int32) (hM2 : nOK 6 12 (r 2)) (hM3 : nOK 6 12 (r 3)) (hM12 : nOK 6 12 (r 12)) : WrI l yX7_sum cX7_sum 3 (some .int) ({ frames := 2, cells := 0, slots := 0, locals := 46 }) G (mM G y b f r) [.ref y, .int tb, .int row] (fun q w => ∃ (n_f_0 : Int32), w = mM G y b (upd f 0 n_f_0) r ∧ roM (r 1) (r 2) tb row (fun t i => sv (sndN ((r 3) t) (r 11) (r 5) t i) (q = smM (r 6) t i ((r 3) t).toNatClampNeg) (q = -1)) (q = -1)) := by
  refine wr_entryI (by decide +kernel) (Nat.le_of_ble_eq_true rfl) ?_
  intro p e s m below meth c A C0 hP hK hD hA ls hl
  have hS : va_S A s.heap s.heap [] := va_S.rf
  obtain ⟨hx, hb, hml, hown, hts, hr, hlocks, hin⟩ := C0
  have hown : s.vm.findClass RX7 = some m.cls := hown
  have hDD : ∀ f' r', va_D A (mM G y b f' r') := fun f' r' => D_same hD rfl
  have hl : lv_has ls 3 [(0, .ref y), (1, .int tb), (2, .int row)] := hl
  refine lv_aload_n hx hb dX7_sum_0 rfl (lv_at hl 0 rfl) ?_
  refine lv_aload_n hx hb dX7_sum_1 rfl (lv_at hl 0 rfl) ?_
  refine lv_iload_n hx hb dX7_sum_2 rfl (lv_at hl 1 rfl) ?_
  refine rdV (rest := [.ref y]) (q0 := 0) ⟨hx, hb, hml, hown, hts⟩ (m_X7_isTable l G y b f r tb  ) mi_yX7_isTable mv_yX7_isTable ml_X7_120 ⟨rfl, rfl, Nat.le_of_ble_eq_true rfl, Nat.le_of_ble_eq_true rfl⟩ hK (hP) rfl rfl rfl hl.1 rfl (Nat.le_of_ble_eq_true rfl) dX7_sum_3 ⟨Nat.zero_le _, Nat.zero_le _⟩ hS hA hP (fun r1 H locs hr1 hP hS => ?_)
  have hr1 : ((r1 = 1 ∧ (opn (r 1) tb)) ∨ (r1 = 0 ∧ ¬ (opn (r 1) tb))) := hr1
  refine lv_if_ne (tgt := 13) hx hb dX7_sum_6 (by decide) (fun c2 => ?_) (fun c2 => ?_)
  · have b6 := bT hr1 c2
    obtain ⟨t, ht, rfl, hop⟩ := b6
    obtain ⟨rw, hrw, h2⟩ := hM2 t ht
    obtain ⟨cl, hcl, h3⟩ := hM3 t ht
    obtain ⟨bk, hbk, h12⟩ := hM12 t ht
    refine lv_aload_n hx hb dX7_sum_13 rfl (lv_at hl 0 rfl) ?_
    refine lv_iload_n hx hb dX7_sum_14 rfl (lv_at hl 1 rfl) ?_
    refine lv_iload_n hx hb dX7_sum_15 rfl (lv_at hl 2 rfl) ?_
    refine rdV (rest := [.ref y]) (q0 := 0) ⟨hx, hb, hml, hown, hts⟩ (m_X7_isRow l G y b f r t row  (by omega)) mi_yX7_isRow mv_yX7_isRow ml_X7_124 ⟨rfl, rfl, Nat.le_of_ble_eq_true rfl, Nat.le_of_ble_eq_true rfl⟩ hK (hP) rfl rfl rfl hl.1 rfl (Nat.le_of_ble_eq_true rfl) dX7_sum_16 ⟨Nat.zero_le _, Nat.zero_le _⟩ hS hA hP (fun r3 H locs hr3 hP hS => ?_)
    have hr3 : ((r3 = 1 ∧ (inR ((r 2) t) row)) ∨ (r3 = 0 ∧ ¬ (inR ((r 2) t) row))) := hr3
    refine lv_if_ne (tgt := 26) hx hb dX7_sum_19 (by decide) (fun c4 => ?_) (fun c4 => ?_)
    · have b19 := bT hr3 c4
      have q_i := b19
      rw [h2] at q_i
      obtain ⟨i, hi, rfl⟩ := inR_n (by omega) q_i
      refine lv_aload_n hx hb dX7_sum_26 rfl (lv_at hl 0 rfl) ?_
      refine lv_iload_n hx hb dX7_sum_27 rfl (lv_at hl 1 rfl) ?_
      refine lv_iload_n hx hb dX7_sum_28 rfl (lv_at hl 2 rfl) ?_
      refine rdV (rest := [.ref y]) (q0 := 0) ⟨hx, hb, hml, hown, hts⟩ (m_X7_isSound l G y b f r t i rw cl bk (by omega) (by omega) (by omega) (by omega) h2 h3 h12 (by omega)) mi_yX7_isSound mv_yX7_isSound ml_X7_161 ⟨rfl, rfl, Nat.le_of_ble_eq_true rfl, Nat.le_of_ble_eq_true rfl⟩ hK (hP) rfl rfl rfl hl.1 rfl (Nat.le_of_ble_eq_true rfl) dX7_sum_29 ⟨Nat.zero_le _, Nat.zero_le _⟩ hS hA hP (fun r5 H locs hr5 hP hS => ?_)
      have hr5 : ((r5 = 1 ∧ (sndN ((r 3) t) (r 11) (r 5) t i)) ∨ (r5 = 0 ∧ ¬ (sndN ((r 3) t) (r 11) (r 5) t i))) := hr5
      refine lv_if_ne (tgt := 40) hx hb dX7_sum_32 (by decide) (fun c6 => ?_) (fun c6 => ?_)
      · have b32 := bT hr5 c6
        refine lv_iconst (v := 0) hx hb dX7_sum_40 (by decide) ?_
        refine va_put (D := G.1) (ci := 7) (v := .int 0) (C := RX7) (T := TX7) (N := 43) hx hb hts inX7 tyX7 tyX7_ok nmX7 hown hK.1 hP (hDD _ _) hS 0 rfl rfl 0 (by decide) (hts _ mf_X7_116) (fun _ h9 => h9) rfl (tyX7_ok 0 (by decide)) (rfl) (rfl) (Nat.le_of_ble_eq_true rfl) dX7_sum_41 (fun H locs hP _ hS => ?_)
        have hP : PP G (mM G y b (upd f 0 0) r) H := hP
        refine lv_aload_n hx hb dX7_sum_44 rfl (lv_at hl 0 rfl) ?_
        refine va_get (D := G.1) (ci := 7) (v := .int 0) (C := RX7) (T := TX7) (N := 43) hx hb hts inX7 hown hK.1 hP 0 rfl rfl 0 (by decide) (hts _ mf_X7_116) (fun _ h9 => h9) rfl dX7_sum_45 ?_
        refine lv_if_le (tgt := 55) hx hb dX7_sum_48 (by decide) (fun c7 => ?_) (fun c7 => absurd (by decide) c7)
        refine lv_aload_n hx hb dX7_sum_55 rfl (lv_at hl 0 rfl) ?_
        refine lv_iload_n hx hb dX7_sum_56 rfl (lv_at hl 1 rfl) ?_
        refine lv_iload_n hx hb dX7_sum_57 rfl (lv_at hl 2 rfl) ?_
        refine rdV (rest := []) (q0 := 0) ⟨hx, hb, hml, hown, hts⟩ (m_X7_sumOf l G y b (upd f 0 0) r t i rw cl bk (by omega) (by omega) (by omega) (by omega) h2 h3 h12 (by omega)) mi_yX7_sumOf mv_yX7_sumOf ml_X7_164 ⟨rfl, rfl, Nat.le_of_ble_eq_true rfl, Nat.le_of_ble_eq_true rfl⟩ hK (hP) rfl rfl rfl hl.1 rfl (Nat.le_of_ble_eq_true rfl) dX7_sum_58 ⟨Nat.zero_le _, Nat.zero_le _⟩ hS hA hP (fun r8 H locs hr8 hP hS => ?_)
        obtain rfl := hr8
        exact wr_iret hx hb hr hlocks hS hP ⟨0, rfl, Or.inr ⟨t, i, ⟨ht, by omega, rfl, rfl, hop, b19⟩, Or.inl ⟨b32, rfl⟩⟩⟩ dX7_sum_61
      · have b32 := bF hr5 c6
        refine lv_bipush (v := 11) hx hb dX7_sum_35 (by decide) ?_
        refine lv_goto (tgt := 41) hx hb dX7_sum_37 (by decide) ?_
        refine va_put (D := G.1) (ci := 7) (v := .int 11) (C := RX7) (T := TX7) (N := 43) hx hb hts inX7 tyX7 tyX7_ok nmX7 hown hK.1 hP (hDD _ _) hS 0 rfl rfl 0 (by decide) (hts _ mf_X7_116) (fun _ h9 => h9) rfl (tyX7_ok 0 (by decide)) (rfl) (rfl) (Nat.le_of_ble_eq_true rfl) dX7_sum_41 (fun H locs hP _ hS => ?_)
        have hP : PP G (mM G y b (upd f 0 11) r) H := hP
        refine lv_aload_n hx hb dX7_sum_44 rfl (lv_at hl 0 rfl) ?_
        refine va_get (D := G.1) (ci := 7) (v := .int 11) (C := RX7) (T := TX7) (N := 43) hx hb hts inX7 hown hK.1 hP 0 rfl rfl 0 (by decide) (hts _ mf_X7_116) (fun _ h9 => h9) rfl dX7_sum_45 ?_
        refine lv_if_le (tgt := 55) hx hb dX7_sum_48 (by decide) (fun c9 => absurd c9 (by decide)) (fun c9 => ?_)
        refine lv_iconst (v := -1) hx hb dX7_sum_51 (by decide) ?_
        refine lv_goto (tgt := 61) hx hb dX7_sum_52 (by decide) ?_
        exact wr_iret hx hb hr hlocks hS hP ⟨11, rfl, Or.inr ⟨t, i, ⟨ht, by omega, rfl, rfl, hop, b19⟩, Or.inr ⟨b32, rfl⟩⟩⟩ dX7_sum_61
    · have b19 := bF hr3 c4
      refine lv_iconst (v := 2) hx hb dX7_sum_22 (by decide) ?_
      refine lv_goto (tgt := 41) hx hb dX7_sum_23 (by decide) ?_
      refine va_put (D := G.1) (ci := 7) (v := .int 2) (C := RX7) (T := TX7) (N := 43) hx hb hts inX7 tyX7 tyX7_ok nmX7 hown hK.1 hP (hDD _ _) hS 0 rfl rfl 0 (by decide) (hts _ mf_X7_116) (fun _ h9 => h9) rfl (tyX7_ok 0 (by decide)) (rfl) (rfl) (Nat.le_of_ble_eq_true rfl) dX7_sum_41 (fun H locs hP _ hS => ?_)
      have hP : PP G (mM G y b (upd f 0 2) r) H := hP
      refine lv_aload_n hx hb dX7_sum_44 rfl (lv_at hl 0 rfl) ?_
      refine va_get (D := G.1) (ci := 7) (v := .int 2) (C := RX7) (T := TX7) (N := 43) hx hb hts inX7 hown hK.1 hP 0 rfl rfl 0 (by decide) (hts _ mf_X7_116) (fun _ h9 => h9) rfl dX7_sum_45 ?_
      refine lv_if_le (tgt := 55) hx hb dX7_sum_48 (by decide) (fun c10 => absurd c10 (by decide)) (fun c10 => ?_)
      refine lv_iconst (v := -1) hx hb dX7_sum_51 (by decide) ?_
      refine lv_goto (tgt := 61) hx hb dX7_sum_52 (by decide) ?_
      exact wr_iret hx hb hr hlocks hS hP ⟨2, rfl, Or.inl ⟨fun ⟨t2, i2, h9⟩ => (by have e1 := (nI_eq (by omega) (by have := h9.1; omega)).mp h9.2.2.1; subst e1; exact b19 h9.2.2.2.2.2), rfl⟩⟩ dX7_sum_61
  · have b6 := bF hr1 c2
    refine lv_iconst (v := 1) hx hb dX7_sum_9 (by decide) ?_
    refine lv_goto (tgt := 41) hx hb dX7_sum_10 (by decide) ?_
    refine va_put (D := G.1) (ci := 7) (v := .int 1) (C := RX7) (T := TX7) (N := 43) hx hb hts inX7 tyX7 tyX7_ok nmX7 hown hK.1 hP (hDD _ _) hS 0 rfl rfl 0 (by decide) (hts _ mf_X7_116) (fun _ h9 => h9) rfl (tyX7_ok 0 (by decide)) (rfl) (rfl) (Nat.le_of_ble_eq_true rfl) dX7_sum_41 (fun H locs hP _ hS => ?_)
    have hP : PP G (mM G y b (upd f 0 1) r) H := hP
    refine lv_aload_n hx hb dX7_sum_44 rfl (lv_at hl 0 rfl) ?_
    refine va_get (D := G.1) (ci := 7) (v := .int 1) (C := RX7) (T := TX7) (N := 43) hx hb hts inX7 hown hK.1 hP 0 rfl rfl 0 (by decide) (hts _ mf_X7_116) (fun _ h9 => h9) rfl dX7_sum_45 ?_
    refine lv_if_le (tgt := 55) hx hb dX7_sum_48 (by decide) (fun c11 => absurd c11 (by decide)) (fun c11 => ?_)
    refine lv_iconst (v := -1) hx hb dX7_sum_51 (by decide) ?_
    refine lv_goto (tgt := 61) hx hb dX7_sum_52 (by decide) ?_
    exact wr_iret hx hb hr hlocks hS hP ⟨1, rfl, Or.inl ⟨fun ⟨t2, i2, h9⟩ => b6 ⟨t2, h9.1, h9.2.2.1, h9.2.2.2.2.1⟩, rfl⟩⟩ dX7_sum_61
set_option maxHeartbeats 4000000 in
set_option maxRecDepth 100000 in
theorem m_X7_total (l : Launch) (G : GG) (y : Nat) (b : Nat → Nat) (f : Nat → Int32) (r : Nat → Nat → Int32) (tb : Int32) (row : Int32) (col : Int32) (hM2 : nOK 6 12 (r 2)) (hM3 : nOK 6 12 (r 3)) (hM12 : nOK 6 12 (r 12)) : WrI l yX7_total cX7_total 7 (some .int) ({ frames := 2, cells := 0, slots := 0, locals := 46 }) G (mM G y b f r) [.ref y, .int tb, .int row, .int col] (fun q w => ∃ (n_f_0 : Int32), w = mM G y b (upd f 0 n_f_0) r ∧ roM (r 1) (r 2) tb row (fun t i => svE (fun kk => kk < 12 ∧ col = nI kk ∧ inR ((r 3) t) col ∧ sndN ((r 3) t) (r 11) (r 5) t i) (fun kk => q = ttM ((r 3) t) (r 11) (r 5) (r 6) (r 13) (r 14) ((r 12) t).toNatClampNeg t kk (clM (r 13) (r 14) t (nI i) ((r 12) t).toNatClampNeg).1 ((r 2) t).toNatClampNeg) (q = -1)) (q = -1)) := by
  refine wr_entryI (by decide +kernel) (Nat.le_of_ble_eq_true rfl) ?_
  intro p e s m below meth c A C0 hP hK hD hA ls hl
  have hS : va_S A s.heap s.heap [] := va_S.rf
  obtain ⟨hx, hb, hml, hown, hts, hr, hlocks, hin⟩ := C0
  have hown : s.vm.findClass RX7 = some m.cls := hown
  have hDD : ∀ f' r', va_D A (mM G y b f' r') := fun f' r' => D_same hD rfl
  have hl : lv_has ls 7 [(0, .ref y), (1, .int tb), (2, .int row), (3, .int col)] := hl
  refine lv_aload_n hx hb dX7_total_0 rfl (lv_at hl 0 rfl) ?_
  refine lv_aload_n hx hb dX7_total_1 rfl (lv_at hl 0 rfl) ?_
  refine lv_iload_n hx hb dX7_total_2 rfl (lv_at hl 1 rfl) ?_
  refine rdV (rest := [.ref y]) (q0 := 0) ⟨hx, hb, hml, hown, hts⟩ (m_X7_isTable l G y b f r tb  ) mi_yX7_isTable mv_yX7_isTable ml_X7_120 ⟨rfl, rfl, Nat.le_of_ble_eq_true rfl, Nat.le_of_ble_eq_true rfl⟩ hK (hP) rfl rfl rfl hl.1 rfl (Nat.le_of_ble_eq_true rfl) dX7_total_3 ⟨Nat.zero_le _, Nat.zero_le _⟩ hS hA hP (fun r1 H locs hr1 hP hS => ?_)
  have hr1 : ((r1 = 1 ∧ (opn (r 1) tb)) ∨ (r1 = 0 ∧ ¬ (opn (r 1) tb))) := hr1
  refine lv_if_ne (tgt := 13) hx hb dX7_total_6 (by decide) (fun c2 => ?_) (fun c2 => ?_)
  · have b6 := bT hr1 c2
    obtain ⟨t, ht, rfl, hop⟩ := b6
    obtain ⟨rw, hrw, h2⟩ := hM2 t ht
    obtain ⟨cl, hcl, h3⟩ := hM3 t ht
    obtain ⟨bk, hbk, h12⟩ := hM12 t ht
    refine lv_aload_n hx hb dX7_total_13 rfl (lv_at hl 0 rfl) ?_
    refine lv_iload_n hx hb dX7_total_14 rfl (lv_at hl 1 rfl) ?_
    refine lv_iload_n hx hb dX7_total_15 rfl (lv_at hl 2 rfl) ?_
    refine rdV (rest := [.ref y]) (q0 := 0) ⟨hx, hb, hml, hown, hts⟩ (m_X7_isRow l G y b f r t row  (by omega)) mi_yX7_isRow mv_yX7_isRow ml_X7_124 ⟨rfl, rfl, Nat.le_of_ble_eq_true rfl, Nat.le_of_ble_eq_true rfl⟩ hK (hP) rfl rfl rfl hl.1 rfl (Nat.le_of_ble_eq_true rfl) dX7_total_16 ⟨Nat.zero_le _, Nat.zero_le _⟩ hS hA hP (fun r3 H locs hr3 hP hS => ?_)
    have hr3 : ((r3 = 1 ∧ (inR ((r 2) t) row)) ∨ (r3 = 0 ∧ ¬ (inR ((r 2) t) row))) := hr3
    refine lv_if_eq (tgt := 31) hx hb dX7_total_19 (by decide) (fun c4 => ?_) (fun c4 => ?_)
    · have b19 := bF hr3 c4
      refine lv_iconst (v := 2) hx hb dX7_total_31 (by decide) ?_
      refine lv_goto (tgt := 50) hx hb dX7_total_32 (by decide) ?_
      refine va_put (D := G.1) (ci := 7) (v := .int 2) (C := RX7) (T := TX7) (N := 43) hx hb hts inX7 tyX7 tyX7_ok nmX7 hown hK.1 hP (hDD _ _) hS 0 rfl rfl 0 (by decide) (hts _ mf_X7_116) (fun _ h9 => h9) rfl (tyX7_ok 0 (by decide)) (rfl) (rfl) (Nat.le_of_ble_eq_true rfl) dX7_total_50 (fun H locs hP _ hS => ?_)
      have hP : PP G (mM G y b (upd f 0 2) r) H := hP
      refine lv_aload_n hx hb dX7_total_53 rfl (lv_at hl 0 rfl) ?_
      refine va_get (D := G.1) (ci := 7) (v := .int 2) (C := RX7) (T := TX7) (N := 43) hx hb hts inX7 hown hK.1 hP 0 rfl rfl 0 (by decide) (hts _ mf_X7_116) (fun _ h9 => h9) rfl dX7_total_54 ?_
      refine lv_if_le (tgt := 62) hx hb dX7_total_57 (by decide) (fun c5 => absurd c5 (by decide)) (fun c5 => ?_)
      refine lv_iconst (v := -1) hx hb dX7_total_60 (by decide) ?_
      exact wr_iret hx hb hr hlocks hS hP ⟨2, rfl, Or.inl ⟨fun ⟨t2, i2, h9⟩ => (by have e1 := (nI_eq (by omega) (by have := h9.1; omega)).mp h9.2.2.1; subst e1; exact b19 h9.2.2.2.2.2), rfl⟩⟩ dX7_total_61
    · have b19 := bT hr3 c4
      have q_i := b19
      rw [h2] at q_i
      obtain ⟨i, hi, rfl⟩ := inR_n (by omega) q_i
      refine lv_aload_n hx hb dX7_total_22 rfl (lv_at hl 0 rfl) ?_
      refine lv_iload_n hx hb dX7_total_23 rfl (lv_at hl 1 rfl) ?_
      refine lv_iload_n hx hb dX7_total_24 rfl (lv_at hl 3 rfl) ?_
      refine rdV (rest := [.ref y]) (q0 := 0) ⟨hx, hb, hml, hown, hts⟩ (m_X7_isColumn l G y b f r t col  (by omega)) mi_yX7_isColumn mv_yX7_isColumn ml_X7_128 ⟨rfl, rfl, Nat.le_of_ble_eq_true rfl, Nat.le_of_ble_eq_true rfl⟩ hK (hP) rfl rfl rfl hl.1 rfl (Nat.le_of_ble_eq_true rfl) dX7_total_25 ⟨Nat.zero_le _, Nat.zero_le _⟩ hS hA hP (fun r6 H locs hr6 hP hS => ?_)
      have hr6 : ((r6 = 1 ∧ (inR ((r 3) t) col)) ∨ (r6 = 0 ∧ ¬ (inR ((r 3) t) col))) := hr6
      refine lv_if_ne (tgt := 35) hx hb dX7_total_28 (by decide) (fun c7 => ?_) (fun c7 => ?_)
      · have b28 := bT hr6 c7
        have q_k := b28
        rw [h3] at q_k
        obtain ⟨k, hk, rfl⟩ := inR_n (by omega) q_k
        refine lv_aload_n hx hb dX7_total_35 rfl (lv_at hl 0 rfl) ?_
        refine lv_iload_n hx hb dX7_total_36 rfl (lv_at hl 1 rfl) ?_
        refine lv_iload_n hx hb dX7_total_37 rfl (lv_at hl 2 rfl) ?_
        refine rdV (rest := [.ref y]) (q0 := 0) ⟨hx, hb, hml, hown, hts⟩ (m_X7_isSound l G y b f r t i rw cl bk (by omega) (by omega) (by omega) (by omega) h2 h3 h12 (by omega)) mi_yX7_isSound mv_yX7_isSound ml_X7_161 ⟨rfl, rfl, Nat.le_of_ble_eq_true rfl, Nat.le_of_ble_eq_true rfl⟩ hK (hP) rfl rfl rfl hl.1 rfl (Nat.le_of_ble_eq_true rfl) dX7_total_38 ⟨Nat.zero_le _, Nat.zero_le _⟩ hS hA hP (fun r8 H locs hr8 hP hS => ?_)
        have hr8 : ((r8 = 1 ∧ (sndN ((r 3) t) (r 11) (r 5) t i)) ∨ (r8 = 0 ∧ ¬ (sndN ((r 3) t) (r 11) (r 5) t i))) := hr8
        refine lv_if_ne (tgt := 49) hx hb dX7_total_41 (by decide) (fun c9 => ?_) (fun c9 => ?_)
        · have b41 := bT hr8 c9
          refine lv_iconst (v := 0) hx hb dX7_total_49 (by decide) ?_
          refine va_put (D := G.1) (ci := 7) (v := .int 0) (C := RX7) (T := TX7) (N := 43) hx hb hts inX7 tyX7 tyX7_ok nmX7 hown hK.1 hP (hDD _ _) hS 0 rfl rfl 0 (by decide) (hts _ mf_X7_116) (fun _ h9 => h9) rfl (tyX7_ok 0 (by decide)) (rfl) (rfl) (Nat.le_of_ble_eq_true rfl) dX7_total_50 (fun H locs hP _ hS => ?_)
          have hP : PP G (mM G y b (upd f 0 0) r) H := hP
          refine lv_aload_n hx hb dX7_total_53 rfl (lv_at hl 0 rfl) ?_
          refine va_get (D := G.1) (ci := 7) (v := .int 0) (C := RX7) (T := TX7) (N := 43) hx hb hts inX7 hown hK.1 hP 0 rfl rfl 0 (by decide) (hts _ mf_X7_116) (fun _ h9 => h9) rfl dX7_total_54 ?_
          refine lv_if_le (tgt := 62) hx hb dX7_total_57 (by decide) (fun c10 => ?_) (fun c10 => absurd (by decide) c10)
          refine lv_aload_n hx hb dX7_total_62 rfl (lv_at hl 0 rfl) ?_
          refine lv_iload_n hx hb dX7_total_63 rfl (lv_at hl 1 rfl) ?_
          refine lv_iload_n hx hb dX7_total_64 rfl (lv_at hl 2 rfl) ?_
          refine rdV (rest := []) (q0 := 0) ⟨hx, hb, hml, hown, hts⟩ (m_X7_classOf l G y b (upd f 0 0) r t (nI i) rw cl bk (by omega) (by omega) (by omega) (by omega) h2 h3 h12) mi_yX7_classOf mv_yX7_classOf ml_X7_168 ⟨rfl, rfl, Nat.le_of_ble_eq_true rfl, Nat.le_of_ble_eq_true rfl⟩ hK (hP) rfl rfl rfl hl.1 rfl (Nat.le_of_ble_eq_true rfl) dX7_total_65 ⟨Nat.zero_le _, Nat.zero_le _⟩ hS hA hP (fun r11 H locs hr11 hP hS => ?_)
          obtain rfl := hr11
          refine lv_istore (lv' := [(4, .int ((clM (r 13) (r 14) t (nI i) ((r 12) t).toNatClampNeg).1)), (0, .ref y), (1, .int (nI t)), (2, .int (nI i)), (3, .int (nI k))]) hx hb dX7_total_68 hl (by decide) rfl (fun ls hl => ?_)
          refine lv_iconst (v := 0) hx hb dX7_total_70 (by decide) ?_
          refine lv_istore (lv' := [(5, .int 0), (4, .int ((clM (r 13) (r 14) t (nI i) ((r 12) t).toNatClampNeg).1)), (0, .ref y), (1, .int (nI t)), (2, .int (nI i)), (3, .int (nI k))]) hx hb dX7_total_71 hl (by decide) rfl (fun ls hl => ?_)
          refine lv_iconst (v := 0) hx hb dX7_total_73 (by decide) ?_
          refine lv_istore (lv' := [(6, .int 0), (5, .int 0), (4, .int ((clM (r 13) (r 14) t (nI i) ((r 12) t).toNatClampNeg).1)), (0, .ref y), (1, .int (nI t)), (2, .int (nI i)), (3, .int (nI k))]) hx hb dX7_total_74 hl (by decide) rfl (fun ls hl => ?_)
          have loop76 : ∀ (k12 j : Nat) (z13 : Int32), j ≤ rw → rw < j + k12 → (z13 = ttM (r 3 t) (r 11) (r 5) (r 6) (r 13) (r 14) (r 12 t).toNatClampNeg t k (clM (r 13) (r 14) t (nI i) (r 12 t).toNatClampNeg).1 j) → ∀ (H : Heap) (locs : List Loc) (ls : Array Slot), PP G (mM G y b (upd f 0 0) r) H → va_S A s.heap H locs → lv_has ls 7 [(6, .int (nI j)), (5, .int z13), (4, .int ((clM (r 13) (r 14) t (nI i) ((r 12) t).toNatClampNeg).1)), (0, .ref y), (1, .int (nI t)), (3, .int (nI k))] → W p l e ({ frames := 2, cells := 0, slots := 0, locals := 46 }) s m ([.ref y, .int (nI t), .int (nI i), .int (nI k)] : List Value).toArray below meth c H locs 0 0 (MQ below (QwI G (fun q w => ∃ (n_f_0 : Int32), w = mM G y b (upd f 0 n_f_0) r ∧ roM (r 1) (r 2) (nI t) (nI i) (fun t i => svE (fun kk => kk < 12 ∧ (nI k) = nI kk ∧ inR ((r 3) t) (nI k) ∧ sndN ((r 3) t) (r 11) (r 5) t i) (fun kk => q = ttM ((r 3) t) (r 11) (r 5) (r 6) (r 13) (r 14) ((r 12) t).toNatClampNeg t kk (clM (r 13) (r 14) t (nI i) ((r 12) t).toNatClampNeg).1 ((r 2) t).toNatClampNeg) (q = -1)) (q = -1)) A) ([.ref y, .int (nI t), .int (nI i), .int (nI k)] : List Value).toArray s 0 0 A) (F0 m 76 ls []) := by
            intro k12
            induction k12 with
            | zero => intro j z13 h1 h2; exact absurd h1 (by omega)
            | succ k12 ih76k12 =>
              intro j z13 hi_j hk_j htt H locs ls hP hS hl
              refine lv_iload hx hb dX7_total_76 (lv_at hl 0 rfl) ?_
              refine lv_aload_n hx hb dX7_total_78 rfl (lv_at hl 3 rfl) ?_
              refine va_get (D := G.1) (ci := 7) (v := .ref (b 2)) (C := RX7) (T := TX7) (N := 43) hx hb hts inX7 hown hK.1 hP 0 rfl rfl 2 (by decide) (hts _ mf_X7_13) (fun _ h9 => h9) rfl dX7_total_79 ?_
              refine lv_iload_n hx hb dX7_total_82 rfl (lv_at hl 4 rfl) ?_
              refine xiald (f := (r 2)) hx hb hK hP 2 (t) (rfl) (by omega) (by decide) rfl dX7_total_83 ?_
              refine lv_topi (fun v14 ev14 => ?_)
              obtain rfl : v14 = nI (rw) := ev14.trans (h2)
              refine lv_icmp_ge (tgt := 132) hx hb dX7_total_84 (by decide) (fun c15 => ?_) (fun c15 => ?_)
              · have b84 := qge_t (a := j) (b := (rw)) (by omega) (by omega) c15
                refine lv_iload hx hb dX7_total_132 (lv_at hl 1 rfl) ?_
                exact wr_iret hx hb hr hlocks hS hP ⟨0, rfl, Or.inr ⟨t, i, ⟨ht, by omega, rfl, rfl, hop, b19⟩, Or.inl ⟨k, ⟨by omega, rfl, b28, b41⟩, by rw [htt, h2, nI_clamp (by omega), show j = rw by omega]⟩⟩⟩ dX7_total_134
              · have b84 := qge_f (a := j) (b := (rw)) (by omega) (by omega) c15
                refine lv_aload_n hx hb dX7_total_87 rfl (lv_at hl 3 rfl) ?_
                refine lv_iload_n hx hb dX7_total_88 rfl (lv_at hl 4 rfl) ?_
                refine lv_iload hx hb dX7_total_89 (lv_at hl 0 rfl) ?_
                refine rdV (rest := []) (q0 := 0) ⟨hx, hb, hml, hown, hts⟩ (m_X7_isSound l G y b (upd f 0 0) r t j rw cl bk (by omega) (by omega) (by omega) (by omega) h2 h3 h12 (by omega)) mi_yX7_isSound mv_yX7_isSound ml_X7_161 ⟨rfl, rfl, Nat.le_of_ble_eq_true rfl, Nat.le_of_ble_eq_true rfl⟩ hK (hP) rfl rfl rfl hl.1 rfl (Nat.le_of_ble_eq_true rfl) dX7_total_91 ⟨Nat.zero_le _, Nat.zero_le _⟩ hS hA hP (fun r16 H locs hr16 hP hS => ?_)
                have hr16 : ((r16 = 1 ∧ (sndN ((r 3) t) (r 11) (r 5) t j)) ∨ (r16 = 0 ∧ ¬ (sndN ((r 3) t) (r 11) (r 5) t j))) := hr16
                refine lv_if_eq (tgt := 126) hx hb dX7_total_94 (by decide) (fun c17 => ?_) (fun c17 => ?_)
                · have b94 := bF hr16 c17
                  obtain ⟨v18, ev18⟩ : ∃ y9 : Int32, y9 = (nI j) + Int32.ofInt (1) := ⟨_, rfl⟩
                  refine lv_iinc (v := v18) (lv' := [(6, .int v18), (5, .int z13), (4, .int ((clM (r 13) (r 14) t (nI i) ((r 12) t).toNatClampNeg).1)), (0, .ref y), (1, .int (nI t)), (3, .int (nI k))]) hx hb dX7_total_126 hl (k := 0) rfl ev18.symm (by decide) rfl (fun ls hl => ?_)
                  obtain rfl : v18 = nI (j + 1) := nI_plus (i := j) (j := 1) ev18 rfl (by decide)
                  refine lv_goto (tgt := 76) hx hb dX7_total_129 (by decide) ?_
                  exact ih76k12 (j + 1) z13 (by omega) (by omega) (htt.trans (ttM_n (fun h9 => b94 h9.1)).symm) _ _ _ hP hS (lv_sub hl [0, 1, 2, 3, 4, 5] rfl)
                · have b94 := bT hr16 c17
                  refine lv_aload_n hx hb dX7_total_97 rfl (lv_at hl 3 rfl) ?_
                  refine lv_iload_n hx hb dX7_total_98 rfl (lv_at hl 4 rfl) ?_
                  refine lv_iload hx hb dX7_total_99 (lv_at hl 0 rfl) ?_
                  refine rdV (rest := []) (q0 := 0) ⟨hx, hb, hml, hown, hts⟩ (m_X7_classOf l G y b (upd f 0 0) r t (nI j) rw cl bk (by omega) (by omega) (by omega) (by omega) h2 h3 h12) mi_yX7_classOf mv_yX7_classOf ml_X7_168 ⟨rfl, rfl, Nat.le_of_ble_eq_true rfl, Nat.le_of_ble_eq_true rfl⟩ hK (hP) rfl rfl rfl hl.1 rfl (Nat.le_of_ble_eq_true rfl) dX7_total_101 ⟨Nat.zero_le _, Nat.zero_le _⟩ hS hA hP (fun r19 H locs hr19 hP hS => ?_)
                  obtain rfl := hr19
                  refine lv_iload hx hb dX7_total_104 (lv_at hl 2 rfl) ?_
                  refine lv_icmp_ne (tgt := 126) hx hb dX7_total_106 (by decide) (fun c20 => ?_) (fun c20 => ?_)
                  · obtain ⟨v21, ev21⟩ : ∃ y9 : Int32, y9 = (nI j) + Int32.ofInt (1) := ⟨_, rfl⟩
                    refine lv_iinc (v := v21) (lv' := [(6, .int v21), (5, .int z13), (4, .int ((clM (r 13) (r 14) t (nI i) ((r 12) t).toNatClampNeg).1)), (0, .ref y), (1, .int (nI t)), (3, .int (nI k))]) hx hb dX7_total_126 hl (k := 0) rfl ev21.symm (by decide) rfl (fun ls hl => ?_)
                    obtain rfl : v21 = nI (j + 1) := nI_plus (i := j) (j := 1) ev21 rfl (by decide)
                    refine lv_goto (tgt := 76) hx hb dX7_total_129 (by decide) ?_
                    exact ih76k12 (j + 1) z13 (by omega) (by omega) (htt.trans (ttM_n (fun h9 => c20 h9.2)).symm) _ _ _ hP hS (lv_sub hl [0, 1, 2, 3, 4, 5] rfl)
                  · refine lv_iload hx hb dX7_total_109 (lv_at hl 1 rfl) ?_
                    refine lv_aload_n hx hb dX7_total_111 rfl (lv_at hl 3 rfl) ?_
                    refine va_get (D := G.1) (ci := 7) (v := .ref (b 6)) (C := RX7) (T := TX7) (N := 43) hx hb hts inX7 hown hK.1 hP 0 rfl rfl 6 (by decide) (hts _ mf_X7_26) (fun _ h9 => h9) rfl dX7_total_112 ?_
                    refine lv_iload_n hx hb dX7_total_115 rfl (lv_at hl 4 rfl) ?_
                    refine lv_iload hx hb dX7_total_116 (lv_at hl 0 rfl) ?_
                    refine lv_iload_n hx hb dX7_total_118 rfl (lv_at hl 5 rfl) ?_
                    refine rdS (rest := [.ref (b 6), .int z13]) ⟨hx, hb, hml, hown, hts⟩ (m_X7_at l G y b (upd f 0 0) r t j k  ) mi_yX7_at mst_yX7_at ml_X7_147 ⟨rfl, rfl, Nat.le_of_ble_eq_true rfl, Nat.le_of_ble_eq_true rfl⟩ hK (hP) rfl hl.1 rfl (Nat.le_of_ble_eq_true rfl) dX7_total_119 ⟨Nat.zero_le _, Nat.zero_le _⟩ hS hA hP (fun r22 H locs hr22 hP hS => ?_)
                    obtain rfl := hr22
                    refine xiald (f := (r 6)) hx hb hK hP 6 ((144 * t + 12 * j + k)) (rfl) (by omega) (by decide) rfl dX7_total_122 ?_
                    refine lv_topi (fun v23 ev23 => ?_)
                    refine lv_iadd hx hb dX7_total_123 ?_
                    refine lv_topi (fun v24 ev24 => ?_)
                    refine lv_istore (lv' := [(5, .int v24), (6, .int (nI j)), (4, .int ((clM (r 13) (r 14) t (nI i) ((r 12) t).toNatClampNeg).1)), (0, .ref y), (1, .int (nI t)), (3, .int (nI k))]) hx hb dX7_total_124 hl (by decide) rfl (fun ls hl => ?_)
                    obtain ⟨v25, ev25⟩ : ∃ y9 : Int32, y9 = (nI j) + Int32.ofInt (1) := ⟨_, rfl⟩
                    refine lv_iinc (v := v25) (lv' := [(6, .int v25), (5, .int v24), (4, .int ((clM (r 13) (r 14) t (nI i) ((r 12) t).toNatClampNeg).1)), (0, .ref y), (1, .int (nI t)), (3, .int (nI k))]) hx hb dX7_total_126 hl (k := 1) rfl ev25.symm (by decide) rfl (fun ls hl => ?_)
                    obtain rfl : v25 = nI (j + 1) := nI_plus (i := j) (j := 1) ev25 rfl (by decide)
                    refine lv_goto (tgt := 76) hx hb dX7_total_129 (by decide) ?_
                    exact ih76k12 (j + 1) v24 (by omega) (by omega) (ev24.trans (by rw [htt, ev23]; exact (ttM_p ⟨b94, c20⟩).symm)) _ _ _ hP hS (lv_sub hl [0, 1, 2, 3, 4, 5] rfl)
          exact loop76 (rw + 1) 0 0 (by omega) (by omega) (rfl) _ _ _ hP hS (lv_sub hl [0, 1, 2, 3, 4, 6] rfl)
        · have b41 := bF hr8 c9
          refine lv_bipush (v := 11) hx hb dX7_total_44 (by decide) ?_
          refine lv_goto (tgt := 50) hx hb dX7_total_46 (by decide) ?_
          refine va_put (D := G.1) (ci := 7) (v := .int 11) (C := RX7) (T := TX7) (N := 43) hx hb hts inX7 tyX7 tyX7_ok nmX7 hown hK.1 hP (hDD _ _) hS 0 rfl rfl 0 (by decide) (hts _ mf_X7_116) (fun _ h9 => h9) rfl (tyX7_ok 0 (by decide)) (rfl) (rfl) (Nat.le_of_ble_eq_true rfl) dX7_total_50 (fun H locs hP _ hS => ?_)
          have hP : PP G (mM G y b (upd f 0 11) r) H := hP
          refine lv_aload_n hx hb dX7_total_53 rfl (lv_at hl 0 rfl) ?_
          refine va_get (D := G.1) (ci := 7) (v := .int 11) (C := RX7) (T := TX7) (N := 43) hx hb hts inX7 hown hK.1 hP 0 rfl rfl 0 (by decide) (hts _ mf_X7_116) (fun _ h9 => h9) rfl dX7_total_54 ?_
          refine lv_if_le (tgt := 62) hx hb dX7_total_57 (by decide) (fun c26 => absurd c26 (by decide)) (fun c26 => ?_)
          refine lv_iconst (v := -1) hx hb dX7_total_60 (by decide) ?_
          exact wr_iret hx hb hr hlocks hS hP ⟨11, rfl, Or.inr ⟨t, i, ⟨ht, by omega, rfl, rfl, hop, b19⟩, Or.inr ⟨fun ⟨k9, h9⟩ => b41 h9.2.2.2, rfl⟩⟩⟩ dX7_total_61
      · have b28 := bF hr6 c7
        refine lv_iconst (v := 2) hx hb dX7_total_31 (by decide) ?_
        refine lv_goto (tgt := 50) hx hb dX7_total_32 (by decide) ?_
        refine va_put (D := G.1) (ci := 7) (v := .int 2) (C := RX7) (T := TX7) (N := 43) hx hb hts inX7 tyX7 tyX7_ok nmX7 hown hK.1 hP (hDD _ _) hS 0 rfl rfl 0 (by decide) (hts _ mf_X7_116) (fun _ h9 => h9) rfl (tyX7_ok 0 (by decide)) (rfl) (rfl) (Nat.le_of_ble_eq_true rfl) dX7_total_50 (fun H locs hP _ hS => ?_)
        have hP : PP G (mM G y b (upd f 0 2) r) H := hP
        refine lv_aload_n hx hb dX7_total_53 rfl (lv_at hl 0 rfl) ?_
        refine va_get (D := G.1) (ci := 7) (v := .int 2) (C := RX7) (T := TX7) (N := 43) hx hb hts inX7 hown hK.1 hP 0 rfl rfl 0 (by decide) (hts _ mf_X7_116) (fun _ h9 => h9) rfl dX7_total_54 ?_
        refine lv_if_le (tgt := 62) hx hb dX7_total_57 (by decide) (fun c27 => absurd c27 (by decide)) (fun c27 => ?_)
        refine lv_iconst (v := -1) hx hb dX7_total_60 (by decide) ?_
        exact wr_iret hx hb hr hlocks hS hP ⟨2, rfl, Or.inr ⟨t, i, ⟨ht, by omega, rfl, rfl, hop, b19⟩, Or.inr ⟨fun ⟨k9, h9⟩ => b28 h9.2.2.1, rfl⟩⟩⟩ dX7_total_61
  · have b6 := bF hr1 c2
    refine lv_iconst (v := 1) hx hb dX7_total_9 (by decide) ?_
    refine lv_goto (tgt := 50) hx hb dX7_total_10 (by decide) ?_
    refine va_put (D := G.1) (ci := 7) (v := .int 1) (C := RX7) (T := TX7) (N := 43) hx hb hts inX7 tyX7 tyX7_ok nmX7 hown hK.1 hP (hDD _ _) hS 0 rfl rfl 0 (by decide) (hts _ mf_X7_116) (fun _ h9 => h9) rfl (tyX7_ok 0 (by decide)) (rfl) (rfl) (Nat.le_of_ble_eq_true rfl) dX7_total_50 (fun H locs hP _ hS => ?_)
    have hP : PP G (mM G y b (upd f 0 1) r) H := hP
    refine lv_aload_n hx hb dX7_total_53 rfl (lv_at hl 0 rfl) ?_
    refine va_get (D := G.1) (ci := 7) (v := .int 1) (C := RX7) (T := TX7) (N := 43) hx hb hts inX7 hown hK.1 hP 0 rfl rfl 0 (by decide) (hts _ mf_X7_116) (fun _ h9 => h9) rfl dX7_total_54 ?_
    refine lv_if_le (tgt := 62) hx hb dX7_total_57 (by decide) (fun c28 => absurd c28 (by decide)) (fun c28 => ?_)
    refine lv_iconst (v := -1) hx hb dX7_total_60 (by decide) ?_
    exact wr_iret hx hb hr hlocks hS hP ⟨1, rfl, Or.inl ⟨fun ⟨t2, i2, h9⟩ => b6 ⟨t2, h9.1, h9.2.2.1, h9.2.2.2.2.1⟩, rfl⟩⟩ dX7_total_61
set_option maxHeartbeats 4000000 in
set_option maxRecDepth 100000 in
theorem m_X7_secret (l : Launch) (G : GG) (y : Nat) (b : Nat → Nat) (f : Nat → Int32) (r : Nat → Nat → Int32) (tb : Int32) (row : Int32) (col : Int32) (hM2 : nOK 6 12 (r 2)) (hM3 : nOK 6 12 (r 3)) (hM12 : nOK 6 12 (r 12)) (hG : nOK 864 6 (r 7)) : WrI l yX7_secret cX7_secret 4 (some .int) ({ frames := 3, cells := 0, slots := 0, locals := 71 }) G (mM G y b f r) [.ref y, .int tb, .int row, .int col] (fun q w => ∃ (n_f_0 : Int32), w = mM G y b (upd f 0 n_f_0) r ∧ atM (r 1) (r 2) (r 3) (r 11) tb row col (fun t i k => sv ((¬ (r 5) (144 * t + 12 * i + k) = 0 ∧ ¬ (r 5) (144 * t + 12 * i + k) = 5) ∧ sndN ((r 3) t) (r 11) (r 5) t i) (q = whM ((r 5) (144 * t + 12 * i + k)) ((r 6) (144 * t + 12 * i + k)) ((r 9) (144 * t + 12 * i + k)) ((r 4) (6 * t)) ((r 4) (6 * t + 1)) ((r 4) (6 * t + 2)) ((r 7) (144 * t + 12 * i + k)) ((twM (fun m => (r 8) (6 * (144 * t + 12 * i + k) + m)) ((r 7) (144 * t + 12 * i + k)).toNatClampNeg).1 + (twM (fun m => (r 8) (6 * (144 * t + 12 * i + k) + m)) ((r 7) (144 * t + 12 * i + k)).toNatClampNeg).2)) (q = -1)) (q = -1)) := by
  refine wr_entryI (by decide +kernel) (Nat.le_of_ble_eq_true rfl) ?_
  intro p e s m below meth c A C0 hP hK hD hA ls hl
  have hS : va_S A s.heap s.heap [] := va_S.rf
  obtain ⟨hx, hb, hml, hown, hts, hr, hlocks, hin⟩ := C0
  have hown : s.vm.findClass RX7 = some m.cls := hown
  have hDD : ∀ f' r', va_D A (mM G y b f' r') := fun f' r' => D_same hD rfl
  have hl : lv_has ls 4 [(0, .ref y), (1, .int tb), (2, .int row), (3, .int col)] := hl
  refine lv_aload_n hx hb dX7_secret_0 rfl (lv_at hl 0 rfl) ?_
  refine lv_aload_n hx hb dX7_secret_1 rfl (lv_at hl 0 rfl) ?_
  refine lv_iload_n hx hb dX7_secret_2 rfl (lv_at hl 1 rfl) ?_
  refine lv_iload_n hx hb dX7_secret_3 rfl (lv_at hl 2 rfl) ?_
  refine lv_iload_n hx hb dX7_secret_4 rfl (lv_at hl 3 rfl) ?_
  refine rdV (rest := [.ref y]) (q0 := 0) ⟨hx, hb, hml, hown, hts⟩ (m_X7_wrongSound l G y b f r tb row col  hM2 hM3 hM12) mi_yX7_wrongSound mv_yX7_wrongSound ml_X7_178 ⟨rfl, rfl, Nat.le_of_ble_eq_true rfl, Nat.le_of_ble_eq_true rfl⟩ hK (hP) rfl rfl rfl hl.1 rfl (Nat.le_of_ble_eq_true rfl) dX7_secret_5 ⟨Nat.zero_le _, Nat.zero_le _⟩ hS hA hP (fun r1 H locs hr1 hP hS => ?_)
  have hr1 : stM (r 1) (r 2) (r 3) (r 11) tb row col (fun t i k => kfS ((r 5) (144 * t + 12 * i + k)) (sndN ((r 3) t) (r 11) (r 5) t i)) r1 := hr1
  refine va_put (D := G.1) (ci := 7) (v := .int r1) (C := RX7) (T := TX7) (N := 43) hx hb hts inX7 tyX7 tyX7_ok nmX7 hown hK.1 hP (hDD _ _) hS 0 rfl rfl 0 (by decide) (hts _ mf_X7_116) (fun _ h9 => h9) rfl (tyX7_ok 0 (by decide)) (rfl) (rfl) (Nat.le_of_ble_eq_true rfl) dX7_secret_8 (fun H locs hP _ hS => ?_)
  have hP : PP G (mM G y b (upd f 0 r1) r) H := hP
  refine lv_aload_n hx hb dX7_secret_11 rfl (lv_at hl 0 rfl) ?_
  refine va_get (D := G.1) (ci := 7) (v := .int r1) (C := RX7) (T := TX7) (N := 43) hx hb hts inX7 hown hK.1 hP 0 rfl rfl 0 (by decide) (hts _ mf_X7_116) (fun _ h9 => h9) rfl dX7_secret_12 ?_
  refine lv_if_le (tgt := 22) hx hb dX7_secret_15 (by decide) (fun c2 => ?_) (fun c2 => ?_)
  · have hp0 := (stM_0 hM2 hM3 (fun _ _ _ => kfS_p _ _) hr1 c2).1
    obtain ⟨t, i, k, rw, cl, ht, hi, hk, hrw, hcl, rfl, rfl, rfl, h2, h3⟩ := wS_ok (stM_w hM2 hM3 (fun _ _ _ => kfS_p _ _) hr1) (npos_of_le c2)
    obtain ⟨bk, hbk, h12⟩ := hM12 t ht
    have hkk := stM_k hM2 hM3 (fun _ _ _ => kfS_p _ _) hr1 c2 ht (show i < 12 by omega) (show k < 12 by omega) rfl rfl rfl
    refine lv_aload_n hx hb dX7_secret_22 rfl (lv_at hl 0 rfl) ?_
    refine lv_iload_n hx hb dX7_secret_23 rfl (lv_at hl 1 rfl) ?_
    refine lv_iload_n hx hb dX7_secret_24 rfl (lv_at hl 1 rfl) ?_
    refine lv_iload_n hx hb dX7_secret_25 rfl (lv_at hl 2 rfl) ?_
    refine lv_iload_n hx hb dX7_secret_26 rfl (lv_at hl 3 rfl) ?_
    refine rdS (rest := [.int (nI t), .ref y]) ⟨hx, hb, hml, hown, hts⟩ (m_X7_at l G y b (upd f 0 r1) r t i k  ) mi_yX7_at mst_yX7_at ml_X7_147 ⟨rfl, rfl, Nat.le_of_ble_eq_true rfl, Nat.le_of_ble_eq_true rfl⟩ hK (hP) rfl hl.1 rfl (Nat.le_of_ble_eq_true rfl) dX7_secret_27 ⟨Nat.zero_le _, Nat.zero_le _⟩ hS hA hP (fun r3 H locs hr3 hP hS => ?_)
    obtain rfl := hr3
    refine rdV (rest := []) (q0 := 0) ⟨hx, hb, hml, hown, hts⟩ (m_X7_why l G y b (upd f 0 r1) r t (144 * t + 12 * i + k)  (by omega) (by omega) hG) mi_yX7_why mv_yX7_why ml_X7_175 ⟨rfl, rfl, Nat.le_of_ble_eq_true rfl, Nat.le_of_ble_eq_true rfl⟩ hK (hP) rfl rfl rfl hl.1 rfl (Nat.le_of_ble_eq_true rfl) dX7_secret_30 ⟨Nat.zero_le _, Nat.zero_le _⟩ hS hA hP (fun r4 H locs hr4 hP hS => ?_)
    obtain rfl := hr4
    exact wr_iret hx hb hr hlocks hS hP ⟨r1, rfl, Or.inr ⟨hp0, t, i, k, ht, by omega, by omega, rfl, rfl, rfl, Or.inl ⟨kfS_i hkk, rfl⟩⟩⟩ dX7_secret_33
  · refine lv_iconst (v := -1) hx hb dX7_secret_18 (by decide) ?_
    refine lv_goto (tgt := 33) hx hb dX7_secret_19 (by decide) ?_
    exact wr_iret hx hb hr hlocks hS hP ⟨r1, rfl, atM_n hr1 c2 rfl (fun t i k h => Or.inr ⟨fun z => h (kfS_g z.1.1 z.1.2 z.2), rfl⟩)⟩ dX7_secret_33
set_option maxHeartbeats 4000000 in
set_option maxRecDepth 100000 in
theorem m_X7_kept (l : Launch) (G : GG) (y : Nat) (b : Nat → Nat) (f : Nat → Int32) (r : Nat → Nat → Int32) (tb : Int32) (row : Int32) (col : Int32) (hM2 : nOK 6 12 (r 2)) (hM3 : nOK 6 12 (r 3)) (hM12 : nOK 6 12 (r 12)) (hG : nOK 864 6 (r 7)) : WrI l yX7_kept cX7_kept 4 (some .int) ({ frames := 3, cells := 0, slots := 0, locals := 72 }) G (mM G y b f r) [.ref y, .int tb, .int row, .int col] (fun q w => ∃ (n_f_0 : Int32), w = mM G y b (upd f 0 n_f_0) r) := by
  refine wr_entryI (by decide +kernel) (Nat.le_of_ble_eq_true rfl) ?_
  intro p e s m below meth c A C0 hP hK hD hA ls hl
  have hS : va_S A s.heap s.heap [] := va_S.rf
  obtain ⟨hx, hb, hml, hown, hts, hr, hlocks, hin⟩ := C0
  have hown : s.vm.findClass RX7 = some m.cls := hown
  have hDD : ∀ f' r', va_D A (mM G y b f' r') := fun f' r' => D_same hD rfl
  have hl : lv_has ls 4 [(0, .ref y), (1, .int tb), (2, .int row), (3, .int col)] := hl
  refine lv_aload_n hx hb dX7_kept_0 rfl (lv_at hl 0 rfl) ?_
  refine lv_aload_n hx hb dX7_kept_1 rfl (lv_at hl 0 rfl) ?_
  refine lv_iload_n hx hb dX7_kept_2 rfl (lv_at hl 1 rfl) ?_
  refine lv_iload_n hx hb dX7_kept_3 rfl (lv_at hl 2 rfl) ?_
  refine lv_iload_n hx hb dX7_kept_4 rfl (lv_at hl 3 rfl) ?_
  refine rdV (rest := [.ref y]) (q0 := 0) ⟨hx, hb, hml, hown, hts⟩ (m_X7_wrongSound l G y b f r tb row col  hM2 hM3 hM12) mi_yX7_wrongSound mv_yX7_wrongSound ml_X7_178 ⟨rfl, rfl, Nat.le_of_ble_eq_true rfl, Nat.le_of_ble_eq_true rfl⟩ hK (hP) rfl rfl rfl hl.1 rfl (Nat.le_of_ble_eq_true rfl) dX7_kept_5 ⟨Nat.zero_le _, Nat.zero_le _⟩ hS hA hP (fun r1 H locs hr1 hP hS => ?_)
  have hr1 : stM (r 1) (r 2) (r 3) (r 11) tb row col (fun t i k => kfS ((r 5) (144 * t + 12 * i + k)) (sndN ((r 3) t) (r 11) (r 5) t i)) r1 := hr1
  refine va_put (D := G.1) (ci := 7) (v := .int r1) (C := RX7) (T := TX7) (N := 43) hx hb hts inX7 tyX7 tyX7_ok nmX7 hown hK.1 hP (hDD _ _) hS 0 rfl rfl 0 (by decide) (hts _ mf_X7_116) (fun _ h9 => h9) rfl (tyX7_ok 0 (by decide)) (rfl) (rfl) (Nat.le_of_ble_eq_true rfl) dX7_kept_8 (fun H locs hP _ hS => ?_)
  have hP : PP G (mM G y b (upd f 0 r1) r) H := hP
  refine lv_aload_n hx hb dX7_kept_11 rfl (lv_at hl 0 rfl) ?_
  refine va_get (D := G.1) (ci := 7) (v := .int r1) (C := RX7) (T := TX7) (N := 43) hx hb hts inX7 hown hK.1 hP 0 rfl rfl 0 (by decide) (hts _ mf_X7_116) (fun _ h9 => h9) rfl dX7_kept_12 ?_
  refine lv_if_le (tgt := 22) hx hb dX7_kept_15 (by decide) (fun c2 => ?_) (fun c2 => ?_)
  · have hp0 := (stM_0 hM2 hM3 (fun _ _ _ => kfS_p _ _) hr1 c2).1
    obtain ⟨t, i, k, rw, cl, ht, hi, hk, hrw, hcl, rfl, rfl, rfl, h2, h3⟩ := wS_ok (stM_w hM2 hM3 (fun _ _ _ => kfS_p _ _) hr1) (npos_of_le c2)
    obtain ⟨bk, hbk, h12⟩ := hM12 t ht
    have hkk := stM_k hM2 hM3 (fun _ _ _ => kfS_p _ _) hr1 c2 ht (show i < 12 by omega) (show k < 12 by omega) rfl rfl rfl
    refine lv_aload_n hx hb dX7_kept_22 rfl (lv_at hl 0 rfl) ?_
    refine lv_iload_n hx hb dX7_kept_23 rfl (lv_at hl 1 rfl) ?_
    refine lv_iload_n hx hb dX7_kept_24 rfl (lv_at hl 1 rfl) ?_
    refine lv_iload_n hx hb dX7_kept_25 rfl (lv_at hl 2 rfl) ?_
    refine lv_iload_n hx hb dX7_kept_26 rfl (lv_at hl 3 rfl) ?_
    refine rdS (rest := [.int (nI t), .ref y]) ⟨hx, hb, hml, hown, hts⟩ (m_X7_at l G y b (upd f 0 r1) r t i k  ) mi_yX7_at mst_yX7_at ml_X7_147 ⟨rfl, rfl, Nat.le_of_ble_eq_true rfl, Nat.le_of_ble_eq_true rfl⟩ hK (hP) rfl hl.1 rfl (Nat.le_of_ble_eq_true rfl) dX7_kept_27 ⟨Nat.zero_le _, Nat.zero_le _⟩ hS hA hP (fun r3 H locs hr3 hP hS => ?_)
    obtain rfl := hr3
    refine rdV (rest := []) (q0 := 0) ⟨hx, hb, hml, hown, hts⟩ (m_X7_isKept l G y b (upd f 0 r1) r t (144 * t + 12 * i + k)  (by omega) (by omega) hG) mi_yX7_isKept mv_yX7_isKept ml_X7_181 ⟨rfl, rfl, Nat.le_of_ble_eq_true rfl, Nat.le_of_ble_eq_true rfl⟩ hK (hP) rfl rfl rfl hl.1 rfl (Nat.le_of_ble_eq_true rfl) dX7_kept_30 ⟨Nat.zero_le _, Nat.zero_le _⟩ hS hA hP (fun r4 H locs hr4 hP hS => ?_)
    have hr4 : ((r4 = 0 ∨ r4 = 1) ∧ (r4 = 0 → (r 5) (144 * t + 12 * i + k) = 4 ∨ (r 10) (144 * t + 12 * i + k) = 0)) := hr4
    refine lv_if_eq (tgt := 40) hx hb dX7_kept_33 (by decide) (fun c5 => ?_) (fun c5 => ?_)
    · refine lv_iconst (v := 0) hx hb dX7_kept_40 (by decide) ?_
      exact wr_iret hx hb hr hlocks hS hP ⟨r1, rfl⟩ dX7_kept_41
    · refine lv_iconst (v := 1) hx hb dX7_kept_36 (by decide) ?_
      refine lv_goto (tgt := 41) hx hb dX7_kept_37 (by decide) ?_
      exact wr_iret hx hb hr hlocks hS hP ⟨r1, rfl⟩ dX7_kept_41
  · refine lv_iconst (v := -1) hx hb dX7_kept_18 (by decide) ?_
    refine lv_goto (tgt := 41) hx hb dX7_kept_19 (by decide) ?_
    exact wr_iret hx hb hr hlocks hS hP ⟨r1, rfl⟩ dX7_kept_41
theorem i2l0 {x : Int32} (h : x.toInt64 = 0) : x = 0 := by
  have h2 := congrArg Int64.toInt h
  rw [Int32.toInt_toInt64] at h2
  exact Int32.toInt_inj.mp h2
set_option maxHeartbeats 4000000 in
set_option maxRecDepth 100000 in
theorem m_X7_thousandthsOf (l : Launch) (G : GG) (y : Nat) (b : Nat → Nat) (f : Nat → Int32) (r : Nat → Nat → Int32) (t : Nat) (i : Nat) (k : Nat) (rw : Nat) (cl : Nat) (bk : Nat) (ht : t < 6) (hrw : rw ≤ 12) (hcl : cl ≤ 12) (hbk : bk ≤ 12) (h2 : (r 2) t = nI rw) (h3 : (r 3) t = nI cl) (h12 : (r 12) t = nI bk) (hi : i < 12) (hk : k < 12) : RdI l yX7_thousandthsOf cX7_thousandthsOf 5 (some .int) ({ frames := 2, cells := 0, slots := 0, locals := 46 }) G (mM G y b f r) [.ref y, .int (nI t), .int (nI i), .int (nI k)] (fun q => q = thM ((r 6) (144 * t + 12 * i + k)) (smM (r 6) t i ((r 3) t).toNatClampNeg)) := by
  refine rd_entry (by decide +kernel) (Nat.le_of_ble_eq_true rfl) ?_
  intro p e s m below meth c C0 hP hK ls hl
  have hS : va_S (fun q => s.heap.size ≤ q) s.heap s.heap [] := va_S.rf
  have hA : ∀ q, s.heap.size ≤ q → (fun q => s.heap.size ≤ q) q := fun _ h => h
  obtain ⟨hx, hb, hml, hown, hts, hr, hlocks, hin⟩ := C0
  have hown : s.vm.findClass RX7 = some m.cls := hown
  have hl : lv_has ls 5 [(0, .ref y), (1, .int (nI t)), (2, .int (nI i)), (3, .int (nI k))] := hl
  refine lv_aload_n hx hb dX7_thousandthsOf_0 rfl (lv_at hl 0 rfl) ?_
  refine lv_iload_n hx hb dX7_thousandthsOf_1 rfl (lv_at hl 1 rfl) ?_
  refine lv_iload_n hx hb dX7_thousandthsOf_2 rfl (lv_at hl 2 rfl) ?_
  refine rdV (rest := []) (q0 := 0) ⟨hx, hb, hml, hown, hts⟩ (m_X7_sumOf l G y b f r t i rw cl bk (by omega) (by omega) (by omega) (by omega) h2 h3 h12 (by omega)) mi_yX7_sumOf mv_yX7_sumOf ml_X7_164 ⟨rfl, rfl, Nat.le_of_ble_eq_true rfl, Nat.le_of_ble_eq_true rfl⟩ hK (hP) rfl rfl rfl hl.1 rfl (Nat.le_of_ble_eq_true rfl) dX7_thousandthsOf_3 ⟨Nat.zero_le _, Nat.zero_le _⟩ hS hA hP (fun r1 H locs hr1 hP hS => ?_)
  obtain rfl := hr1
  refine lv_istore (lv' := [(4, .int (smM (r 6) t i ((r 3) t).toNatClampNeg)), (0, .ref y), (1, .int (nI t)), (2, .int (nI i)), (3, .int (nI k))]) hx hb dX7_thousandthsOf_6 hl (by decide) rfl (fun ls hl => ?_)
  refine lv_iload hx hb dX7_thousandthsOf_8 (lv_at hl 0 rfl) ?_
  refine lv_if_ne (tgt := 17) hx hb dX7_thousandthsOf_10 (by decide) (fun c2 => ?_) (fun c2 => ?_)
  · refine lv_ldc2 hx hb hown (hts _ mkl_X7_184) dX7_thousandthsOf_17 ?_
    refine lv_aload_n hx hb dX7_thousandthsOf_20 rfl (lv_at hl 1 rfl) ?_
    refine va_get (D := G.1) (ci := 7) (v := .ref (b 6)) (C := RX7) (T := TX7) (N := 43) hx hb hts inX7 hown hK.1 hP 0 rfl rfl 6 (by decide) (hts _ mf_X7_26) (fun _ h9 => h9) rfl dX7_thousandthsOf_21 ?_
    refine lv_iload_n hx hb dX7_thousandthsOf_24 rfl (lv_at hl 2 rfl) ?_
    refine lv_iload_n hx hb dX7_thousandthsOf_25 rfl (lv_at hl 3 rfl) ?_
    refine lv_iload_n hx hb dX7_thousandthsOf_26 rfl (lv_at hl 4 rfl) ?_
    refine rdS (rest := [.ref (b 6), .long 1000]) ⟨hx, hb, hml, hown, hts⟩ (m_X7_at l G y b f r t i k  ) mi_yX7_at mst_yX7_at ml_X7_147 ⟨rfl, rfl, Nat.le_of_ble_eq_true rfl, Nat.le_of_ble_eq_true rfl⟩ hK (hP) rfl hl.1 rfl (Nat.le_of_ble_eq_true rfl) dX7_thousandthsOf_27 ⟨Nat.zero_le _, Nat.zero_le _⟩ hS hA hP (fun r3 H locs hr3 hP hS => ?_)
    obtain rfl := hr3
    refine xiald (f := (r 6)) hx hb hK hP 6 ((144 * t + 12 * i + k)) (rfl) (by omega) (by decide) rfl dX7_thousandthsOf_30 ?_
    refine lv_topi (fun v4 ev4 => ?_)
    refine lv_i2l hx hb dX7_thousandthsOf_31 rfl ?_
    refine lv_topl (fun v5 ev5 => ?_)
    refine lv_lmul hx hb dX7_thousandthsOf_32 ?_
    refine lv_topl (fun v6 ev6 => ?_)
    refine lv_iload hx hb dX7_thousandthsOf_33 (lv_at hl 0 rfl) ?_
    refine lv_i2l hx hb dX7_thousandthsOf_35 rfl ?_
    refine lv_topl (fun v7 ev7 => ?_)
    have hln : ¬ v7 = 0 := fun h => c2 (i2l0 (ev7.symm.trans h))
    refine lv_ldiv hx hb dX7_thousandthsOf_36 (hln) ?_
    refine lv_topl (fun v8 ev8 => ?_)
    refine lv_l2i hx hb dX7_thousandthsOf_37 rfl ?_
    refine lv_topi (fun v9 ev9 => ?_)
    exact rd_iret hx hb hr hlocks hS (thM_n c2 (ev9.trans (by rw [ev8, ev6, ev5, ev7, ev4]))) dX7_thousandthsOf_38
  · refine lv_iconst (v := 0) hx hb dX7_thousandthsOf_13 (by decide) ?_
    refine lv_goto (tgt := 38) hx hb dX7_thousandthsOf_14 (by decide) ?_
    exact rd_iret hx hb hr hlocks hS (thM_0 c2) dX7_thousandthsOf_38
set_option maxHeartbeats 4000000 in
set_option maxRecDepth 100000 in
theorem m_X7_thousandths (l : Launch) (G : GG) (y : Nat) (b : Nat → Nat) (f : Nat → Int32) (r : Nat → Nat → Int32) (tb : Int32) (row : Int32) (col : Int32) (hM2 : nOK 6 12 (r 2)) (hM3 : nOK 6 12 (r 3)) (hM12 : nOK 6 12 (r 12)) : WrI l yX7_thousandths cX7_thousandths 5 (some .int) ({ frames := 3, cells := 0, slots := 0, locals := 70 }) G (mM G y b f r) [.ref y, .int tb, .int row, .int col] (fun q w => ∃ (n_f_0 : Int32), w = mM G y b (upd f 0 n_f_0) r ∧ atM (r 1) (r 2) (r 3) (r 11) tb row col (fun t i k => sv ((r 5) (144 * t + 12 * i + k) = 3 ∧ sndN ((r 3) t) (r 11) (r 5) t i) (q = thM ((r 6) (144 * t + 12 * i + k)) (smM (r 6) t i ((r 3) t).toNatClampNeg)) (q = -1)) (q = -1)) := by
  refine wr_entryI (by decide +kernel) (Nat.le_of_ble_eq_true rfl) ?_
  intro p e s m below meth c A C0 hP hK hD hA ls hl
  have hS : va_S A s.heap s.heap [] := va_S.rf
  obtain ⟨hx, hb, hml, hown, hts, hr, hlocks, hin⟩ := C0
  have hown : s.vm.findClass RX7 = some m.cls := hown
  have hDD : ∀ f' r', va_D A (mM G y b f' r') := fun f' r' => D_same hD rfl
  have hl : lv_has ls 5 [(0, .ref y), (1, .int tb), (2, .int row), (3, .int col)] := hl
  refine lv_aload_n hx hb dX7_thousandths_0 rfl (lv_at hl 0 rfl) ?_
  refine lv_aload_n hx hb dX7_thousandths_1 rfl (lv_at hl 0 rfl) ?_
  refine lv_iload_n hx hb dX7_thousandths_2 rfl (lv_at hl 1 rfl) ?_
  refine lv_iload_n hx hb dX7_thousandths_3 rfl (lv_at hl 2 rfl) ?_
  refine lv_iload_n hx hb dX7_thousandths_4 rfl (lv_at hl 3 rfl) ?_
  refine rdV (rest := [.ref y]) (q0 := 0) ⟨hx, hb, hml, hown, hts⟩ (m_X7_wrongPlace l G y b f r tb row col  hM2 hM3 hM12) mi_yX7_wrongPlace mv_yX7_wrongPlace ml_X7_143 ⟨rfl, rfl, Nat.le_of_ble_eq_true rfl, Nat.le_of_ble_eq_true rfl⟩ hK (hP) rfl rfl rfl hl.1 rfl (Nat.le_of_ble_eq_true rfl) dX7_thousandths_5 ⟨Nat.zero_le _, Nat.zero_le _⟩ hS hA hP (fun r1 H locs hr1 hP hS => ?_)
  have hr1 : plS (r 1) (r 2) (r 3) (r 11) tb row col r1 := hr1
  refine va_put (D := G.1) (ci := 7) (v := .int r1) (C := RX7) (T := TX7) (N := 43) hx hb hts inX7 tyX7 tyX7_ok nmX7 hown hK.1 hP (hDD _ _) hS 0 rfl rfl 0 (by decide) (hts _ mf_X7_116) (fun _ h9 => h9) rfl (tyX7_ok 0 (by decide)) (rfl) (rfl) (Nat.le_of_ble_eq_true rfl) dX7_thousandths_8 (fun H locs hP _ hS => ?_)
  have hP : PP G (mM G y b (upd f 0 r1) r) H := hP
  refine lv_aload_n hx hb dX7_thousandths_11 rfl (lv_at hl 0 rfl) ?_
  refine va_get (D := G.1) (ci := 7) (v := .int r1) (C := RX7) (T := TX7) (N := 43) hx hb hts inX7 hown hK.1 hP 0 rfl rfl 0 (by decide) (hts _ mf_X7_116) (fun _ h9 => h9) rfl dX7_thousandths_12 ?_
  refine lv_if_ne (tgt := 70) hx hb dX7_thousandths_15 (by decide) (fun c2 => ?_) (fun c2 => ?_)
  · have hps := wS_pos (wS_of hM2 hM3 hr1) c2
    refine lv_aload_n hx hb dX7_thousandths_70 rfl (lv_at hl 0 rfl) ?_
    refine va_get (D := G.1) (ci := 7) (v := .int r1) (C := RX7) (T := TX7) (N := 43) hx hb hts inX7 hown hK.1 hP 0 rfl rfl 0 (by decide) (hts _ mf_X7_116) (fun _ h9 => h9) rfl dX7_thousandths_71 ?_
    refine lv_if_le (tgt := 81) hx hb dX7_thousandths_74 (by decide) (fun c3 => ?_) (fun c3 => ?_)
    · exact absurd hps (npos_of_le c3)
    · refine lv_iconst (v := -1) hx hb dX7_thousandths_77 (by decide) ?_
      refine lv_goto (tgt := 88) hx hb dX7_thousandths_78 (by decide) ?_
      exact wr_iret hx hb hr hlocks hS hP ⟨r1, rfl, Or.inl ⟨_, c2, hr1, rfl⟩⟩ dX7_thousandths_88
  · have hp0 := pl_le0 hM2 hM3 hr1 (le_of_0 c2)
    obtain ⟨t, i, k, rw, cl, ht, hi, hk, hrw, hcl, rfl, rfl, rfl, h2, h3⟩ := wS_ok (wS_of hM2 hM3 hr1) (npos_of_eq c2)
    obtain ⟨bk, hbk, h12⟩ := hM12 t ht
    refine lv_aload_n hx hb dX7_thousandths_18 rfl (lv_at hl 0 rfl) ?_
    refine va_get (D := G.1) (ci := 7) (v := .ref (b 5)) (C := RX7) (T := TX7) (N := 43) hx hb hts inX7 hown hK.1 hP 0 rfl rfl 5 (by decide) (hts _ mf_X7_23) (fun _ h9 => h9) rfl dX7_thousandths_19 ?_
    refine lv_iload_n hx hb dX7_thousandths_22 rfl (lv_at hl 1 rfl) ?_
    refine lv_iload_n hx hb dX7_thousandths_23 rfl (lv_at hl 2 rfl) ?_
    refine lv_iload_n hx hb dX7_thousandths_24 rfl (lv_at hl 3 rfl) ?_
    refine rdS (rest := [.ref (b 5)]) ⟨hx, hb, hml, hown, hts⟩ (m_X7_at l G y b (upd f 0 r1) r t i k  ) mi_yX7_at mst_yX7_at ml_X7_147 ⟨rfl, rfl, Nat.le_of_ble_eq_true rfl, Nat.le_of_ble_eq_true rfl⟩ hK (hP) rfl hl.1 rfl (Nat.le_of_ble_eq_true rfl) dX7_thousandths_25 ⟨Nat.zero_le _, Nat.zero_le _⟩ hS hA hP (fun r4 H locs hr4 hP hS => ?_)
    obtain rfl := hr4
    refine xiald (f := (r 5)) hx hb hK hP 5 ((144 * t + 12 * i + k)) (rfl) (by omega) (by decide) rfl dX7_thousandths_28 ?_
    refine lv_topi (fun v5 ev5 => ?_)
    refine lv_istore (lv' := [(4, .int v5), (0, .ref y), (1, .int (nI t)), (2, .int (nI i)), (3, .int (nI k))]) hx hb dX7_thousandths_29 hl (by decide) rfl (fun ls hl => ?_)
    refine lv_aload_n hx hb dX7_thousandths_31 rfl (lv_at hl 1 rfl) ?_
    refine lv_iload hx hb dX7_thousandths_32 (lv_at hl 0 rfl) ?_
    refine lv_if_ne (tgt := 41) hx hb dX7_thousandths_34 (by decide) (fun c6 => ?_) (fun c6 => ?_)
    · refine lv_iload hx hb dX7_thousandths_41 (lv_at hl 0 rfl) ?_
      refine lv_iconst (v := 3) hx hb dX7_thousandths_43 (by decide) ?_
      refine lv_icmp_eq (tgt := 52) hx hb dX7_thousandths_44 (by decide) (fun c7 => ?_) (fun c7 => ?_)
      · refine lv_aload_n hx hb dX7_thousandths_52 rfl (lv_at hl 1 rfl) ?_
        refine lv_iload_n hx hb dX7_thousandths_53 rfl (lv_at hl 2 rfl) ?_
        refine lv_iload_n hx hb dX7_thousandths_54 rfl (lv_at hl 3 rfl) ?_
        refine rdV (rest := [.ref y]) (q0 := 0) ⟨hx, hb, hml, hown, hts⟩ (m_X7_isSound l G y b (upd f 0 r1) r t i rw cl bk (by omega) (by omega) (by omega) (by omega) h2 h3 h12 (by omega)) mi_yX7_isSound mv_yX7_isSound ml_X7_161 ⟨rfl, rfl, Nat.le_of_ble_eq_true rfl, Nat.le_of_ble_eq_true rfl⟩ hK (hP) rfl rfl rfl hl.1 rfl (Nat.le_of_ble_eq_true rfl) dX7_thousandths_55 ⟨Nat.zero_le _, Nat.zero_le _⟩ hS hA hP (fun r8 H locs hr8 hP hS => ?_)
        have hr8 : ((r8 = 1 ∧ (sndN ((r 3) t) (r 11) (r 5) t i)) ∨ (r8 = 0 ∧ ¬ (sndN ((r 3) t) (r 11) (r 5) t i))) := hr8
        refine lv_if_ne (tgt := 66) hx hb dX7_thousandths_58 (by decide) (fun c9 => ?_) (fun c9 => ?_)
        · have b58 := bT hr8 c9
          refine lv_iconst (v := 0) hx hb dX7_thousandths_66 (by decide) ?_
          refine va_put (D := G.1) (ci := 7) (v := .int 0) (C := RX7) (T := TX7) (N := 43) hx hb hts inX7 tyX7 tyX7_ok nmX7 hown hK.1 hP (hDD _ _) hS 0 rfl rfl 0 (by decide) (hts _ mf_X7_116) (fun _ h9 => h9) rfl (tyX7_ok 0 (by decide)) (rfl) (rfl) (Nat.le_of_ble_eq_true rfl) dX7_thousandths_67 (fun H locs hP _ hS => ?_)
          have hP : PP G (mM G y b (upd f 0 0) r) H := hP
          refine lv_aload_n hx hb dX7_thousandths_70 rfl (lv_at hl 1 rfl) ?_
          refine va_get (D := G.1) (ci := 7) (v := .int 0) (C := RX7) (T := TX7) (N := 43) hx hb hts inX7 hown hK.1 hP 0 rfl rfl 0 (by decide) (hts _ mf_X7_116) (fun _ h9 => h9) rfl dX7_thousandths_71 ?_
          refine lv_if_le (tgt := 81) hx hb dX7_thousandths_74 (by decide) (fun c10 => ?_) (fun c10 => absurd (by decide) c10)
          refine lv_aload_n hx hb dX7_thousandths_81 rfl (lv_at hl 1 rfl) ?_
          refine lv_iload_n hx hb dX7_thousandths_82 rfl (lv_at hl 2 rfl) ?_
          refine lv_iload_n hx hb dX7_thousandths_83 rfl (lv_at hl 3 rfl) ?_
          refine lv_iload_n hx hb dX7_thousandths_84 rfl (lv_at hl 4 rfl) ?_
          refine rdV (rest := []) (q0 := 0) ⟨hx, hb, hml, hown, hts⟩ (m_X7_thousandthsOf l G y b (upd f 0 0) r t i k rw cl bk (by omega) (by omega) (by omega) (by omega) h2 h3 h12 (by omega) (by omega)) mi_yX7_thousandthsOf mv_yX7_thousandthsOf ml_X7_186 ⟨rfl, rfl, Nat.le_of_ble_eq_true rfl, Nat.le_of_ble_eq_true rfl⟩ hK (hP) rfl rfl rfl hl.1 rfl (Nat.le_of_ble_eq_true rfl) dX7_thousandths_85 ⟨Nat.zero_le _, Nat.zero_le _⟩ hS hA hP (fun r11 H locs hr11 hP hS => ?_)
          obtain rfl := hr11
          exact wr_iret hx hb hr hlocks hS hP ⟨0, rfl, Or.inr ⟨hp0, t, i, k, ht, by omega, by omega, rfl, rfl, rfl, Or.inl ⟨⟨ev5.symm.trans c7, b58⟩, rfl⟩⟩⟩ dX7_thousandths_88
        · have b58 := bF hr8 c9
          refine lv_bipush (v := 11) hx hb dX7_thousandths_61 (by decide) ?_
          refine lv_goto (tgt := 67) hx hb dX7_thousandths_63 (by decide) ?_
          refine va_put (D := G.1) (ci := 7) (v := .int 11) (C := RX7) (T := TX7) (N := 43) hx hb hts inX7 tyX7 tyX7_ok nmX7 hown hK.1 hP (hDD _ _) hS 0 rfl rfl 0 (by decide) (hts _ mf_X7_116) (fun _ h9 => h9) rfl (tyX7_ok 0 (by decide)) (rfl) (rfl) (Nat.le_of_ble_eq_true rfl) dX7_thousandths_67 (fun H locs hP _ hS => ?_)
          have hP : PP G (mM G y b (upd f 0 11) r) H := hP
          refine lv_aload_n hx hb dX7_thousandths_70 rfl (lv_at hl 1 rfl) ?_
          refine va_get (D := G.1) (ci := 7) (v := .int 11) (C := RX7) (T := TX7) (N := 43) hx hb hts inX7 hown hK.1 hP 0 rfl rfl 0 (by decide) (hts _ mf_X7_116) (fun _ h9 => h9) rfl dX7_thousandths_71 ?_
          refine lv_if_le (tgt := 81) hx hb dX7_thousandths_74 (by decide) (fun c12 => absurd c12 (by decide)) (fun c12 => ?_)
          refine lv_iconst (v := -1) hx hb dX7_thousandths_77 (by decide) ?_
          refine lv_goto (tgt := 88) hx hb dX7_thousandths_78 (by decide) ?_
          exact wr_iret hx hb hr hlocks hS hP ⟨11, rfl, Or.inr ⟨hp0, t, i, k, ht, by omega, by omega, rfl, rfl, rfl, Or.inr ⟨fun h9 => b58 h9.2, rfl⟩⟩⟩ dX7_thousandths_88
      · refine lv_bipush (v := 6) hx hb dX7_thousandths_47 (by decide) ?_
        refine lv_goto (tgt := 67) hx hb dX7_thousandths_49 (by decide) ?_
        refine va_put (D := G.1) (ci := 7) (v := .int 6) (C := RX7) (T := TX7) (N := 43) hx hb hts inX7 tyX7 tyX7_ok nmX7 hown hK.1 hP (hDD _ _) hS 0 rfl rfl 0 (by decide) (hts _ mf_X7_116) (fun _ h9 => h9) rfl (tyX7_ok 0 (by decide)) (rfl) (rfl) (Nat.le_of_ble_eq_true rfl) dX7_thousandths_67 (fun H locs hP _ hS => ?_)
        have hP : PP G (mM G y b (upd f 0 6) r) H := hP
        refine lv_aload_n hx hb dX7_thousandths_70 rfl (lv_at hl 1 rfl) ?_
        refine va_get (D := G.1) (ci := 7) (v := .int 6) (C := RX7) (T := TX7) (N := 43) hx hb hts inX7 hown hK.1 hP 0 rfl rfl 0 (by decide) (hts _ mf_X7_116) (fun _ h9 => h9) rfl dX7_thousandths_71 ?_
        refine lv_if_le (tgt := 81) hx hb dX7_thousandths_74 (by decide) (fun c13 => absurd c13 (by decide)) (fun c13 => ?_)
        refine lv_iconst (v := -1) hx hb dX7_thousandths_77 (by decide) ?_
        refine lv_goto (tgt := 88) hx hb dX7_thousandths_78 (by decide) ?_
        exact wr_iret hx hb hr hlocks hS hP ⟨6, rfl, Or.inr ⟨hp0, t, i, k, ht, by omega, by omega, rfl, rfl, rfl, Or.inr ⟨fun h9 => c7 (ev5.trans h9.1), rfl⟩⟩⟩ dX7_thousandths_88
    · refine lv_iconst (v := 5) hx hb dX7_thousandths_37 (by decide) ?_
      refine lv_goto (tgt := 67) hx hb dX7_thousandths_38 (by decide) ?_
      refine va_put (D := G.1) (ci := 7) (v := .int 5) (C := RX7) (T := TX7) (N := 43) hx hb hts inX7 tyX7 tyX7_ok nmX7 hown hK.1 hP (hDD _ _) hS 0 rfl rfl 0 (by decide) (hts _ mf_X7_116) (fun _ h9 => h9) rfl (tyX7_ok 0 (by decide)) (rfl) (rfl) (Nat.le_of_ble_eq_true rfl) dX7_thousandths_67 (fun H locs hP _ hS => ?_)
      have hP : PP G (mM G y b (upd f 0 5) r) H := hP
      refine lv_aload_n hx hb dX7_thousandths_70 rfl (lv_at hl 1 rfl) ?_
      refine va_get (D := G.1) (ci := 7) (v := .int 5) (C := RX7) (T := TX7) (N := 43) hx hb hts inX7 hown hK.1 hP 0 rfl rfl 0 (by decide) (hts _ mf_X7_116) (fun _ h9 => h9) rfl dX7_thousandths_71 ?_
      refine lv_if_le (tgt := 81) hx hb dX7_thousandths_74 (by decide) (fun c14 => absurd c14 (by decide)) (fun c14 => ?_)
      refine lv_iconst (v := -1) hx hb dX7_thousandths_77 (by decide) ?_
      refine lv_goto (tgt := 88) hx hb dX7_thousandths_78 (by decide) ?_
      exact wr_iret hx hb hr hlocks hS hP ⟨5, rfl, Or.inr ⟨hp0, t, i, k, ht, by omega, by omega, rfl, rfl, rfl, Or.inr ⟨fun h9 => absurd (h9.1.symm.trans (ev5.symm.trans c6)) (by decide), rfl⟩⟩⟩ dX7_thousandths_88
set_option maxHeartbeats 4000000 in
set_option maxRecDepth 100000 in
theorem m_X7_status (l : Launch) (G : GG) (y : Nat) (b : Nat → Nat) (f : Nat → Int32) (r : Nat → Nat → Int32) : RdI l yX7_status cX7_status 1 (some .int) ({ frames := 0, cells := 0, slots := 0, locals := 0 }) G (mM G y b f r) [.ref y] (fun q => True) := by
  refine rd_entry (by decide +kernel) (Nat.le_of_ble_eq_true rfl) ?_
  intro p e s m below meth c C0 hP hK ls hl
  have hS : va_S (fun q => s.heap.size ≤ q) s.heap s.heap [] := va_S.rf
  have hA : ∀ q, s.heap.size ≤ q → (fun q => s.heap.size ≤ q) q := fun _ h => h
  obtain ⟨hx, hb, hml, hown, hts, hr, hlocks, hin⟩ := C0
  have hown : s.vm.findClass RX7 = some m.cls := hown
  have hl : lv_has ls 1 [(0, .ref y)] := hl
  refine lv_aload_n hx hb dX7_status_0 rfl (lv_at hl 0 rfl) ?_
  refine va_get (D := G.1) (ci := 7) (v := .int (f 0)) (C := RX7) (T := TX7) (N := 43) hx hb hts inX7 hown hK.1 hP 0 rfl rfl 0 (by decide) (hts _ mf_X7_116) (fun _ h9 => h9) rfl dX7_status_1 ?_
  exact rd_iret hx hb hr hlocks hS (trivial) dX7_status_4
def coF (ru nu : Nat → Int32) (t p : Nat) : Int32 := if ru ((6 * t) + 5) = 0 then 1 else nu p + 1
set_option maxHeartbeats 4000000 in
set_option maxRecDepth 100000 in
theorem m_X7_costOf (l : Launch) (G : GG) (y : Nat) (b : Nat → Nat) (f : Nat → Int32) (r : Nat → Nat → Int32) (t : Nat) (pa : Nat) (ht : t < 6) (hp : pa < 864) : RdI l yX7_costOf cX7_costOf 3 (some .int) ({ frames := 0, cells := 0, slots := 0, locals := 0 }) G (mM G y b f r) [.ref y, .int (nI t), .int (nI pa)] (fun q => q = coF (r 4) (r 6) t pa) := by
  refine rd_entry (by decide +kernel) (Nat.le_of_ble_eq_true rfl) ?_
  intro p e s m below meth c C0 hP hK ls hl
  have hS : va_S (fun q => s.heap.size ≤ q) s.heap s.heap [] := va_S.rf
  have hA : ∀ q, s.heap.size ≤ q → (fun q => s.heap.size ≤ q) q := fun _ h => h
  obtain ⟨hx, hb, hml, hown, hts, hr, hlocks, hin⟩ := C0
  have hown : s.vm.findClass RX7 = some m.cls := hown
  have hl : lv_has ls 3 [(0, .ref y), (1, .int (nI t)), (2, .int (nI pa))] := hl
  refine lv_aload_n hx hb dX7_costOf_0 rfl (lv_at hl 0 rfl) ?_
  refine va_get (D := G.1) (ci := 7) (v := .ref (b 4)) (C := RX7) (T := TX7) (N := 43) hx hb hts inX7 hown hK.1 hP 0 rfl rfl 4 (by decide) (hts _ mf_X7_20) (fun _ h9 => h9) rfl dX7_costOf_1 ?_
  refine lv_bipush (v := 6) hx hb dX7_costOf_4 (by decide) ?_
  refine lv_iload_n hx hb dX7_costOf_6 rfl (lv_at hl 1 rfl) ?_
  refine lv_imul hx hb dX7_costOf_7 ?_
  refine lv_topi (fun v1 ev1 => ?_)
  obtain rfl : v1 = nI (6 * t) := nI_times ev1 rfl rfl
  refine lv_iconst (v := 5) hx hb dX7_costOf_8 (by decide) ?_
  refine lv_iadd hx hb dX7_costOf_9 ?_
  refine lv_topi (fun v2 ev2 => ?_)
  obtain rfl : v2 = nI ((6 * t) + 5) := nI_plus ev2 rfl rfl
  refine xiald (f := (r 4)) hx hb hK hP 4 (((6 * t) + 5)) (rfl) (by omega) (by decide) rfl dX7_costOf_10 ?_
  refine lv_topi (fun v3 ev3 => ?_)
  refine lv_if_ne (tgt := 18) hx hb dX7_costOf_11 (by decide) (fun c4 => ?_) (fun c4 => ?_)
  · refine lv_aload_n hx hb dX7_costOf_18 rfl (lv_at hl 0 rfl) ?_
    refine va_get (D := G.1) (ci := 7) (v := .ref (b 6)) (C := RX7) (T := TX7) (N := 43) hx hb hts inX7 hown hK.1 hP 0 rfl rfl 6 (by decide) (hts _ mf_X7_26) (fun _ h9 => h9) rfl dX7_costOf_19 ?_
    refine lv_iload_n hx hb dX7_costOf_22 rfl (lv_at hl 2 rfl) ?_
    refine xiald (f := (r 6)) hx hb hK hP 6 (pa) (rfl) (by omega) (by decide) rfl dX7_costOf_23 ?_
    refine lv_topi (fun v5 ev5 => ?_)
    refine lv_iconst (v := 1) hx hb dX7_costOf_24 (by decide) ?_
    refine lv_iadd hx hb dX7_costOf_25 ?_
    refine lv_topi (fun v6 ev6 => ?_)
    exact rd_iret hx hb hr hlocks hS ((by unfold coF; rw [if_neg (fun h => c4 (by rw [ev3]; exact h))]; rw [ev6, ev5])) dX7_costOf_26
  · refine lv_iconst (v := 1) hx hb dX7_costOf_14 (by decide) ?_
    refine lv_goto (tgt := 26) hx hb dX7_costOf_15 (by decide) ?_
    exact rd_iret hx hb hr hlocks hS ((by unfold coF; rw [if_pos (by rw [← ev3]; exact c4)])) dX7_costOf_26
set_option maxHeartbeats 4000000 in
set_option maxRecDepth 100000 in
theorem m_X7_cost (l : Launch) (G : GG) (y : Nat) (b : Nat → Nat) (f : Nat → Int32) (r : Nat → Nat → Int32) (tb : Int32) (hM2 : nOK 6 12 (r 2)) (hM3 : nOK 6 12 (r 3)) (hM12 : nOK 6 12 (r 12)) (hG : nOK 864 6 (r 7)) : WrI l yX7_cost cX7_cost 6 (some .int) ({ frames := 3, cells := 0, slots := 0, locals := 72 }) G (mM G y b f r) [.ref y, .int tb] (fun q w => ∃ (n_f_0 : Int32), w = mM G y b (upd f 0 n_f_0) r) := by
  refine wr_entryI (by decide +kernel) (Nat.le_of_ble_eq_true rfl) ?_
  intro p e s m below meth c A C0 hP hK hD hA ls hl
  have hS : va_S A s.heap s.heap [] := va_S.rf
  obtain ⟨hx, hb, hml, hown, hts, hr, hlocks, hin⟩ := C0
  have hown : s.vm.findClass RX7 = some m.cls := hown
  have hDD : ∀ f' r', va_D A (mM G y b f' r') := fun f' r' => D_same hD rfl
  have hl : lv_has ls 6 [(0, .ref y), (1, .int tb)] := hl
  refine lv_aload_n hx hb dX7_cost_0 rfl (lv_at hl 0 rfl) ?_
  refine lv_aload_n hx hb dX7_cost_1 rfl (lv_at hl 0 rfl) ?_
  refine lv_iload_n hx hb dX7_cost_2 rfl (lv_at hl 1 rfl) ?_
  refine rdV (rest := [.ref y]) (q0 := 0) ⟨hx, hb, hml, hown, hts⟩ (m_X7_isTable l G y b f r tb  ) mi_yX7_isTable mv_yX7_isTable ml_X7_120 ⟨rfl, rfl, Nat.le_of_ble_eq_true rfl, Nat.le_of_ble_eq_true rfl⟩ hK (hP) rfl rfl rfl hl.1 rfl (Nat.le_of_ble_eq_true rfl) dX7_cost_3 ⟨Nat.zero_le _, Nat.zero_le _⟩ hS hA hP (fun r1 H locs hr1 hP hS => ?_)
  have hr1 : ((r1 = 1 ∧ (opn (r 1) tb)) ∨ (r1 = 0 ∧ ¬ (opn (r 1) tb))) := hr1
  refine lv_if_eq (tgt := 13) hx hb dX7_cost_6 (by decide) (fun c2 => ?_) (fun c2 => ?_)
  · have b6 := bF hr1 c2
    refine lv_iconst (v := 1) hx hb dX7_cost_13 (by decide) ?_
    refine va_put (D := G.1) (ci := 7) (v := .int 1) (C := RX7) (T := TX7) (N := 43) hx hb hts inX7 tyX7 tyX7_ok nmX7 hown hK.1 hP (hDD _ _) hS 0 rfl rfl 0 (by decide) (hts _ mf_X7_116) (fun _ h9 => h9) rfl (tyX7_ok 0 (by decide)) (rfl) (rfl) (Nat.le_of_ble_eq_true rfl) dX7_cost_14 (fun H locs hP _ hS => ?_)
    have hP : PP G (mM G y b (upd f 0 1) r) H := hP
    refine lv_aload_n hx hb dX7_cost_17 rfl (lv_at hl 0 rfl) ?_
    refine va_get (D := G.1) (ci := 7) (v := .int 1) (C := RX7) (T := TX7) (N := 43) hx hb hts inX7 hown hK.1 hP 0 rfl rfl 0 (by decide) (hts _ mf_X7_116) (fun _ h9 => h9) rfl dX7_cost_18 ?_
    refine lv_if_le (tgt := 26) hx hb dX7_cost_21 (by decide) (fun c3 => absurd c3 (by decide)) (fun c3 => ?_)
    refine lv_iconst (v := -1) hx hb dX7_cost_24 (by decide) ?_
    exact wr_iret hx hb hr hlocks hS hP ⟨1, rfl⟩ dX7_cost_25
  · have b6 := bT hr1 c2
    obtain ⟨t, ht, rfl, hop⟩ := b6
    obtain ⟨rw, hrw, h2⟩ := hM2 t ht
    obtain ⟨cl, hcl, h3⟩ := hM3 t ht
    obtain ⟨bk, hbk, h12⟩ := hM12 t ht
    refine lv_iconst (v := 0) hx hb dX7_cost_9 (by decide) ?_
    refine lv_goto (tgt := 14) hx hb dX7_cost_10 (by decide) ?_
    refine va_put (D := G.1) (ci := 7) (v := .int 0) (C := RX7) (T := TX7) (N := 43) hx hb hts inX7 tyX7 tyX7_ok nmX7 hown hK.1 hP (hDD _ _) hS 0 rfl rfl 0 (by decide) (hts _ mf_X7_116) (fun _ h9 => h9) rfl (tyX7_ok 0 (by decide)) (rfl) (rfl) (Nat.le_of_ble_eq_true rfl) dX7_cost_14 (fun H locs hP _ hS => ?_)
    have hP : PP G (mM G y b (upd f 0 0) r) H := hP
    refine lv_aload_n hx hb dX7_cost_17 rfl (lv_at hl 0 rfl) ?_
    refine va_get (D := G.1) (ci := 7) (v := .int 0) (C := RX7) (T := TX7) (N := 43) hx hb hts inX7 hown hK.1 hP 0 rfl rfl 0 (by decide) (hts _ mf_X7_116) (fun _ h9 => h9) rfl dX7_cost_18 ?_
    refine lv_if_le (tgt := 26) hx hb dX7_cost_21 (by decide) (fun c4 => ?_) (fun c4 => absurd (by decide) c4)
    refine lv_iconst (v := 0) hx hb dX7_cost_26 (by decide) ?_
    refine lv_istore_n (lv' := [(2, .int 0), (0, .ref y), (1, .int (nI t))]) hx hb dX7_cost_27 rfl hl (by decide) rfl (fun ls hl => ?_)
    refine lv_iconst (v := 0) hx hb dX7_cost_28 (by decide) ?_
    refine lv_istore_n (lv' := [(3, .int 0), (2, .int 0), (0, .ref y), (1, .int (nI t))]) hx hb dX7_cost_29 rfl hl (by decide) rfl (fun ls hl => ?_)
    have loop30 : ∀ (k5 i : Nat) (z6 : Int32), i ≤ rw → rw < i + k5 → ∀ (H : Heap) (locs : List Loc) (ls : Array Slot), PP G (mM G y b (upd f 0 0) r) H → va_S A s.heap H locs → lv_has ls 6 [(3, .int (nI i)), (2, .int z6), (0, .ref y), (1, .int (nI t))] → W p l e ({ frames := 3, cells := 0, slots := 0, locals := 72 }) s m ([.ref y, .int (nI t)] : List Value).toArray below meth c H locs 0 0 (MQ below (QwI G (fun q w => ∃ (n_f_0 : Int32), w = mM G y b (upd f 0 n_f_0) r) A) ([.ref y, .int (nI t)] : List Value).toArray s 0 0 A) (F0 m 30 ls []) := by
      intro k5
      induction k5 with
      | zero => intro i z6 h1 h2; exact absurd h1 (by omega)
      | succ k5 ih30k5 =>
        intro i z6 hi_i hk_i  H locs ls hP hS hl
        refine lv_iload_n hx hb dX7_cost_30 rfl (lv_at hl 0 rfl) ?_
        refine lv_aload_n hx hb dX7_cost_31 rfl (lv_at hl 2 rfl) ?_
        refine va_get (D := G.1) (ci := 7) (v := .ref (b 2)) (C := RX7) (T := TX7) (N := 43) hx hb hts inX7 hown hK.1 hP 0 rfl rfl 2 (by decide) (hts _ mf_X7_13) (fun _ h9 => h9) rfl dX7_cost_32 ?_
        refine lv_iload_n hx hb dX7_cost_35 rfl (lv_at hl 3 rfl) ?_
        refine xiald (f := (r 2)) hx hb hK hP 2 (t) (rfl) (by omega) (by decide) rfl dX7_cost_36 ?_
        refine lv_topi (fun v7 ev7 => ?_)
        obtain rfl : v7 = nI (rw) := ev7.trans (h2)
        refine lv_icmp_ge (tgt := 114) hx hb dX7_cost_37 (by decide) (fun c8 => ?_) (fun c8 => ?_)
        · have b37 := qge_t (a := i) (b := (rw)) (by omega) (by omega) c8
          refine lv_iload_n hx hb dX7_cost_114 rfl (lv_at hl 1 rfl) ?_
          exact wr_iret hx hb hr hlocks hS hP ⟨0, rfl⟩ dX7_cost_115
        · have b37 := qge_f (a := i) (b := (rw)) (by omega) (by omega) c8
          refine lv_iconst (v := 0) hx hb dX7_cost_40 (by decide) ?_
          refine lv_istore (lv' := [(4, .int 0), (3, .int (nI i)), (2, .int z6), (0, .ref y), (1, .int (nI t))]) hx hb dX7_cost_41 hl (by decide) rfl (fun ls hl => ?_)
          have loop43 : ∀ (k9 k : Nat) (z10 : Int32), k ≤ cl → cl < k + k9 → ∀ (H : Heap) (locs : List Loc) (ls : Array Slot), PP G (mM G y b (upd f 0 0) r) H → va_S A s.heap H locs → lv_has ls 6 [(4, .int (nI k)), (3, .int (nI i)), (2, .int z10), (0, .ref y), (1, .int (nI t))] → W p l e ({ frames := 3, cells := 0, slots := 0, locals := 72 }) s m ([.ref y, .int (nI t)] : List Value).toArray below meth c H locs 0 0 (MQ below (QwI G (fun q w => ∃ (n_f_0 : Int32), w = mM G y b (upd f 0 n_f_0) r) A) ([.ref y, .int (nI t)] : List Value).toArray s 0 0 A) (F0 m 43 ls []) := by
            intro k9
            induction k9 with
            | zero => intro k z10 h1 h2; exact absurd h1 (by omega)
            | succ k9 ih43k9 =>
              intro k z10 hi_k hk_k  H locs ls hP hS hl
              refine lv_iload hx hb dX7_cost_43 (lv_at hl 0 rfl) ?_
              refine lv_aload_n hx hb dX7_cost_45 rfl (lv_at hl 3 rfl) ?_
              refine va_get (D := G.1) (ci := 7) (v := .ref (b 3)) (C := RX7) (T := TX7) (N := 43) hx hb hts inX7 hown hK.1 hP 0 rfl rfl 3 (by decide) (hts _ mf_X7_17) (fun _ h9 => h9) rfl dX7_cost_46 ?_
              refine lv_iload_n hx hb dX7_cost_49 rfl (lv_at hl 4 rfl) ?_
              refine xiald (f := (r 3)) hx hb hK hP 3 (t) (rfl) (by omega) (by decide) rfl dX7_cost_50 ?_
              refine lv_topi (fun v11 ev11 => ?_)
              obtain rfl : v11 = nI (cl) := ev11.trans (h3)
              have j108_11 : ∀ (H : Heap) (locs : List Loc) (ls : Array Slot), PP G (mM G y b (upd f 0 0) r) H → va_S A s.heap H locs → lv_has ls 6 [(3, .int (nI i)), (2, .int z10), (0, .ref y), (1, .int (nI t))] → W p l e ({ frames := 3, cells := 0, slots := 0, locals := 72 }) s m ([.ref y, .int (nI t)] : List Value).toArray below meth c H locs 0 0 (MQ below (QwI G (fun q w => ∃ (n_f_0 : Int32), w = mM G y b (upd f 0 n_f_0) r) A) ([.ref y, .int (nI t)] : List Value).toArray s 0 0 A) (F0 m 108 ls []) := by
                intro   H locs ls hP hS hl
                obtain ⟨v12, ev12⟩ : ∃ y9 : Int32, y9 = (nI i) + Int32.ofInt (1) := ⟨_, rfl⟩
                refine lv_iinc (v := v12) (lv' := [(3, .int v12), (2, .int z10), (0, .ref y), (1, .int (nI t))]) hx hb dX7_cost_108 hl (k := 0) rfl ev12.symm (by decide) rfl (fun ls hl => ?_)
                obtain rfl : v12 = nI (i + 1) := nI_plus (i := i) (j := 1) ev12 rfl (by decide)
                refine lv_goto (tgt := 30) hx hb dX7_cost_111 (by decide) ?_
                exact ih30k5 (i + 1) z10 (by omega) (by omega) _ _ _ hP hS (lv_sub hl [0, 1, 2, 3] rfl)
              refine lv_icmp_ge (tgt := 108) hx hb dX7_cost_51 (by decide) (fun c13 => ?_) (fun c13 => ?_)
              · have b51 := qge_t (a := k) (b := (cl)) (by omega) (by omega) c13
                exact j108_11  _ _ _ hP hS (lv_sub hl [1, 2, 3, 4] rfl)
              · have b51 := qge_f (a := k) (b := (cl)) (by omega) (by omega) c13
                refine lv_aload_n hx hb dX7_cost_54 rfl (lv_at hl 3 rfl) ?_
                refine lv_iload_n hx hb dX7_cost_55 rfl (lv_at hl 4 rfl) ?_
                refine lv_iload_n hx hb dX7_cost_56 rfl (lv_at hl 1 rfl) ?_
                refine rdV (rest := []) (q0 := 0) ⟨hx, hb, hml, hown, hts⟩ (m_X7_isSound l G y b (upd f 0 0) r t i rw cl bk (by omega) (by omega) (by omega) (by omega) h2 h3 h12 (by omega)) mi_yX7_isSound mv_yX7_isSound ml_X7_161 ⟨rfl, rfl, Nat.le_of_ble_eq_true rfl, Nat.le_of_ble_eq_true rfl⟩ hK (hP) rfl rfl rfl hl.1 rfl (Nat.le_of_ble_eq_true rfl) dX7_cost_57 ⟨Nat.zero_le _, Nat.zero_le _⟩ hS hA hP (fun r14 H locs hr14 hP hS => ?_)
                have hr14 : ((r14 = 1 ∧ (sndN ((r 3) t) (r 11) (r 5) t i)) ∨ (r14 = 0 ∧ ¬ (sndN ((r 3) t) (r 11) (r 5) t i))) := hr14
                refine lv_if_eq (tgt := 108) hx hb dX7_cost_60 (by decide) (fun c15 => ?_) (fun c15 => ?_)
                · have b60 := bF hr14 c15
                  exact j108_11  _ _ _ hP hS (lv_sub hl [1, 2, 3, 4] rfl)
                · have b60 := bT hr14 c15
                  refine lv_iload_n hx hb dX7_cost_63 rfl (lv_at hl 4 rfl) ?_
                  refine lv_iload_n hx hb dX7_cost_64 rfl (lv_at hl 1 rfl) ?_
                  refine lv_iload hx hb dX7_cost_65 (lv_at hl 0 rfl) ?_
                  refine rdS (rest := []) ⟨hx, hb, hml, hown, hts⟩ (m_X7_at l G y b (upd f 0 0) r t i k  ) mi_yX7_at mst_yX7_at ml_X7_147 ⟨rfl, rfl, Nat.le_of_ble_eq_true rfl, Nat.le_of_ble_eq_true rfl⟩ hK (hP) rfl hl.1 rfl (Nat.le_of_ble_eq_true rfl) dX7_cost_67 ⟨Nat.zero_le _, Nat.zero_le _⟩ hS hA hP (fun r16 H locs hr16 hP hS => ?_)
                  obtain rfl := hr16
                  refine lv_istore (lv' := [(5, .int (nI (144 * t + 12 * i + k))), (4, .int (nI k)), (3, .int (nI i)), (2, .int z10), (0, .ref y), (1, .int (nI t))]) hx hb dX7_cost_70 hl (by decide) rfl (fun ls hl => ?_)
                  refine lv_aload_n hx hb dX7_cost_72 rfl (lv_at hl 4 rfl) ?_
                  refine lv_iload_n hx hb dX7_cost_73 rfl (lv_at hl 5 rfl) ?_
                  refine lv_iload hx hb dX7_cost_74 (lv_at hl 0 rfl) ?_
                  refine rdV (rest := []) (q0 := 0) ⟨hx, hb, hml, hown, hts⟩ (m_X7_isKept l G y b (upd f 0 0) r t (144 * t + 12 * i + k)  (by omega) (by omega) hG) mi_yX7_isKept mv_yX7_isKept ml_X7_181 ⟨rfl, rfl, Nat.le_of_ble_eq_true rfl, Nat.le_of_ble_eq_true rfl⟩ hK (hP) rfl rfl rfl hl.1 rfl (Nat.le_of_ble_eq_true rfl) dX7_cost_76 ⟨Nat.zero_le _, Nat.zero_le _⟩ hS hA hP (fun r17 H locs hr17 hP hS => ?_)
                  have hr17 : ((r17 = 0 ∨ r17 = 1) ∧ (r17 = 0 → (r 5) (144 * t + 12 * i + k) = 4 ∨ (r 10) (144 * t + 12 * i + k) = 0)) := hr17
                  have j102_18 : ∀ (z18 : Int32) (H : Heap) (locs : List Loc) (ls : Array Slot), PP G (mM G y b (upd f 0 0) r) H → va_S A s.heap H locs → lv_has ls 6 [(4, .int (nI k)), (3, .int (nI i)), (2, .int z18), (0, .ref y), (1, .int (nI t))] → W p l e ({ frames := 3, cells := 0, slots := 0, locals := 72 }) s m ([.ref y, .int (nI t)] : List Value).toArray below meth c H locs 0 0 (MQ below (QwI G (fun q w => ∃ (n_f_0 : Int32), w = mM G y b (upd f 0 n_f_0) r) A) ([.ref y, .int (nI t)] : List Value).toArray s 0 0 A) (F0 m 102 ls []) := by
                    intro z18  H locs ls hP hS hl
                    obtain ⟨v19, ev19⟩ : ∃ y9 : Int32, y9 = (nI k) + Int32.ofInt (1) := ⟨_, rfl⟩
                    refine lv_iinc (v := v19) (lv' := [(4, .int v19), (3, .int (nI i)), (2, .int z18), (0, .ref y), (1, .int (nI t))]) hx hb dX7_cost_102 hl (k := 0) rfl ev19.symm (by decide) rfl (fun ls hl => ?_)
                    obtain rfl : v19 = nI (k + 1) := nI_plus (i := k) (j := 1) ev19 rfl (by decide)
                    refine lv_goto (tgt := 43) hx hb dX7_cost_105 (by decide) ?_
                    exact ih43k9 (k + 1) z18 (by omega) (by omega) _ _ _ hP hS (lv_sub hl [0, 1, 2, 3, 4] rfl)
                  refine lv_if_eq (tgt := 102) hx hb dX7_cost_79 (by decide) (fun c20 => ?_) (fun c20 => ?_)
                  · exact j102_18 z10 _ _ _ hP hS (lv_sub hl [1, 2, 3, 4, 5] rfl)
                  · refine lv_aload_n hx hb dX7_cost_82 rfl (lv_at hl 4 rfl) ?_
                    refine lv_iload_n hx hb dX7_cost_83 rfl (lv_at hl 5 rfl) ?_
                    refine lv_iload hx hb dX7_cost_84 (lv_at hl 0 rfl) ?_
                    refine rdV (rest := []) (q0 := 0) ⟨hx, hb, hml, hown, hts⟩ (m_X7_why l G y b (upd f 0 0) r t (144 * t + 12 * i + k)  (by omega) (by omega) hG) mi_yX7_why mv_yX7_why ml_X7_175 ⟨rfl, rfl, Nat.le_of_ble_eq_true rfl, Nat.le_of_ble_eq_true rfl⟩ hK (hP) rfl rfl rfl hl.1 rfl (Nat.le_of_ble_eq_true rfl) dX7_cost_86 ⟨Nat.zero_le _, Nat.zero_le _⟩ hS hA hP (fun r21 H locs hr21 hP hS => ?_)
                    obtain rfl := hr21
                    refine lv_if_ne (tgt := 102) hx hb dX7_cost_89 (by decide) (fun c22 => ?_) (fun c22 => ?_)
                    · exact j102_18 z10 _ _ _ hP hS (lv_sub hl [1, 2, 3, 4, 5] rfl)
                    · refine lv_iload_n hx hb dX7_cost_92 rfl (lv_at hl 3 rfl) ?_
                      refine lv_aload_n hx hb dX7_cost_93 rfl (lv_at hl 4 rfl) ?_
                      refine lv_iload_n hx hb dX7_cost_94 rfl (lv_at hl 5 rfl) ?_
                      refine lv_iload hx hb dX7_cost_95 (lv_at hl 0 rfl) ?_
                      refine rdV (rest := [.int z10]) (q0 := 0) ⟨hx, hb, hml, hown, hts⟩ (m_X7_costOf l G y b (upd f 0 0) r t (144 * t + 12 * i + k)  (by omega) (by omega)) mi_yX7_costOf mv_yX7_costOf ml_X7_242 ⟨rfl, rfl, Nat.le_of_ble_eq_true rfl, Nat.le_of_ble_eq_true rfl⟩ hK (hP) rfl rfl rfl hl.1 rfl (Nat.le_of_ble_eq_true rfl) dX7_cost_97 ⟨Nat.zero_le _, Nat.zero_le _⟩ hS hA hP (fun r23 H locs hr23 hP hS => ?_)
                      obtain rfl := hr23
                      refine lv_iadd hx hb dX7_cost_100 ?_
                      refine lv_topi (fun v24 ev24 => ?_)
                      refine lv_istore_n (lv' := [(2, .int v24), (5, .int (nI (144 * t + 12 * i + k))), (4, .int (nI k)), (3, .int (nI i)), (0, .ref y), (1, .int (nI t))]) hx hb dX7_cost_101 rfl hl (by decide) rfl (fun ls hl => ?_)
                      exact j102_18 v24 _ _ _ hP hS (lv_sub hl [2, 3, 0, 4, 5] rfl)
          exact loop43 (cl + 1) 0 z6 (by omega) (by omega) _ _ _ hP hS (lv_sub hl [0, 1, 2, 3, 4] rfl)
    exact loop30 (rw + 1) 0 0 (by omega) (by omega) _ _ _ hP hS (lv_sub hl [0, 1, 2, 3] rfl)
