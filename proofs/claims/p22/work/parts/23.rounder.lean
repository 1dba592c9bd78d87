theorem ml_X3_105 : Cond.methodLink RX3 105 yX5_join ∈ TB := TB_t4 39 rfl rfl
theorem ml_X3_94 : Cond.methodLink RX3 94 yX3_refreshNode ∈ TB := TB_t4 40 rfl rfl
theorem mcode_yX3_refreshNode : Cond.code yX3_refreshNode cX3_refreshNode 4 none ∈ TB := TB_t4 43 rfl rfl
theorem mi_yX3_refreshNode : MI yX3_refreshNode cX3_refreshNode 4 none 1 := ⟨mz_RX3, mcode_yX3_refreshNode, by decide +kernel, by decide +kernel, by decide +kernel⟩
theorem mim_yX3_refreshNode : Cond.instanceMethod yX3_refreshNode ∈ TB := TB_t4 42 rfl rfl
theorem msel_yX3_refreshNode : Cond.selects yX3_refreshNode.cls yX3_refreshNode yX3_refreshNode ∈ TB := TB_s (n := 8) 34 (by decide +kernel)
theorem mv_yX3_refreshNode : Cond.instanceMethod yX3_refreshNode ∈ TB ∧ Cond.selects yX3_refreshNode.cls yX3_refreshNode yX3_refreshNode ∈ TB := ⟨mim_yX3_refreshNode, msel_yX3_refreshNode⟩
theorem mf_X3_116 : Cond.fieldLink RX3 116 "CellKeeper$Walk" "before" "[I" ∈ TB := TB_t1 36 rfl rfl
theorem ml_X3_119 : Cond.methodLink RX3 119 yX3_turn ∈ TB := TB_t4 53 rfl rfl
theorem mcode_yX3_turn : Cond.code yX3_turn cX3_turn 6 none ∈ TB := TB_t4 56 rfl rfl
theorem mi_yX3_turn : MI yX3_turn cX3_turn 6 none 2 := ⟨mz_RX3, mcode_yX3_turn, by decide +kernel, by decide +kernel, by decide +kernel⟩
theorem mim_yX3_turn : Cond.instanceMethod yX3_turn ∈ TB := TB_t4 55 rfl rfl
theorem msel_yX3_turn : Cond.selects yX3_turn.cls yX3_turn yX3_turn ∈ TB := TB_s (n := 8) 37 (by decide +kernel)
theorem mv_yX3_turn : Cond.instanceMethod yX3_turn ∈ TB ∧ Cond.selects yX3_turn.cls yX3_turn yX3_turn ∈ TB := ⟨mim_yX3_turn, msel_yX3_turn⟩
theorem ml_X3_109 : Cond.methodLink RX3 109 yX5_leads ∈ TB := TB_t4 48 rfl rfl
theorem ml_X3_113 : Cond.methodLink RX3 113 yX3_shift ∈ TB := TB_t4 49 rfl rfl
theorem mcode_yX3_shift : Cond.code yX3_shift cX3_shift 6 none ∈ TB := TB_t4 52 rfl rfl
theorem mi_yX3_shift : MI yX3_shift cX3_shift 6 none 2 := ⟨mz_RX3, mcode_yX3_shift, by decide +kernel, by decide +kernel, by decide +kernel⟩
theorem mim_yX3_shift : Cond.instanceMethod yX3_shift ∈ TB := TB_t4 51 rfl rfl
theorem msel_yX3_shift : Cond.selects yX3_shift.cls yX3_shift yX3_shift ∈ TB := TB_s (n := 8) 36 (by decide +kernel)
theorem mv_yX3_shift : Cond.instanceMethod yX3_shift ∈ TB ∧ Cond.selects yX3_shift.cls yX3_shift yX3_shift ∈ TB := ⟨mim_yX3_shift, msel_yX3_shift⟩
theorem mf_X3_68 : Cond.fieldLink RX3 68 "CellKeeper$Reader" "columns" "I" ∈ TB := TB_t1 55 rfl rfl
theorem mf_X3_76 : Cond.fieldLink RX3 76 "CellKeeper$Reader" "number" "[I" ∈ TB := TB_t1 69 rfl rfl
theorem mf_X3_47 : Cond.fieldLink RX3 47 "CellKeeper$Reader" "sound" "[Z" ∈ TB := TB_t1 61 rfl rfl
theorem mf_X3_54 : Cond.fieldLink RX3 54 "CellKeeper$Reader" "classes" "[I" ∈ TB := TB_t1 64 rfl rfl
theorem ml_X3_82 : Cond.methodLink RX3 82 yX5_wipe ∈ TB := TB_t4 32 rfl rfl
theorem ml_X3_85 : Cond.methodLink RX3 85 yJ7_fill_53178 ∈ TB := TB_t4 33 rfl rfl
theorem mf_X3_41 : Cond.fieldLink RX3 41 "CellKeeper$Reader" "rows" "I" ∈ TB := TB_t1 51 rfl rfl
theorem ml_X3_91 : Cond.methodLink RX3 91 yX3_layRow ∈ TB := TB_t4 34 rfl rfl
theorem mcode_yX3_layRow : Cond.code yX3_layRow cX3_layRow 6 none ∈ TB := TB_t4 37 rfl rfl
theorem mi_yX3_layRow : MI yX3_layRow cX3_layRow 6 none 3 := ⟨mz_RX3, mcode_yX3_layRow, by decide +kernel, by decide +kernel, by decide +kernel⟩
theorem mim_yX3_layRow : Cond.instanceMethod yX3_layRow ∈ TB := TB_t4 36 rfl rfl
theorem msel_yX3_layRow : Cond.selects yX3_layRow.cls yX3_layRow yX3_layRow ∈ TB := TB_s (n := 8) 33 (by decide +kernel)
theorem mv_yX3_layRow : Cond.instanceMethod yX3_layRow ∈ TB ∧ Cond.selects yX3_layRow.cls yX3_layRow yX3_layRow ∈ TB := ⟨mim_yX3_layRow, msel_yX3_layRow⟩
theorem ml_X3_98 : Cond.methodLink RX3 98 yX3_reachFewest ∈ TB := TB_t4 44 rfl rfl
theorem mcode_yX3_reachFewest : Cond.code yX3_reachFewest cX3_reachFewest 5 none ∈ TB := TB_t4 47 rfl rfl
theorem mi_yX3_reachFewest : MI yX3_reachFewest cX3_reachFewest 5 none 0 := ⟨mz_RX3, mcode_yX3_reachFewest, by decide +kernel, by decide +kernel, by decide +kernel⟩
theorem mim_yX3_reachFewest : Cond.instanceMethod yX3_reachFewest ∈ TB := TB_t4 46 rfl rfl
theorem msel_yX3_reachFewest : Cond.selects yX3_reachFewest.cls yX3_reachFewest yX3_reachFewest ∈ TB := TB_s (n := 8) 35 (by decide +kernel)
theorem mv_yX3_reachFewest : Cond.instanceMethod yX3_reachFewest ∈ TB ∧ Cond.selects yX3_reachFewest.cls yX3_reachFewest yX3_reachFewest ∈ TB := ⟨mim_yX3_reachFewest, msel_yX3_reachFewest⟩
theorem ml_X3_101 : Cond.methodLink RX3 101 yX3_bringDown ∈ TB := TB_t4 57 rfl rfl
theorem mcode_yX3_bringDown : Cond.code yX3_bringDown cX3_bringDown 5 none ∈ TB := TB_t4 60 rfl rfl
theorem mi_yX3_bringDown : MI yX3_bringDown cX3_bringDown 5 none 2 := ⟨mz_RX3, mcode_yX3_bringDown, by decide +kernel, by decide +kernel, by decide +kernel⟩
theorem mim_yX3_bringDown : Cond.instanceMethod yX3_bringDown ∈ TB := TB_t4 59 rfl rfl
theorem msel_yX3_bringDown : Cond.selects yX3_bringDown.cls yX3_bringDown yX3_bringDown ∈ TB := TB_s (n := 8) 38 (by decide +kernel)
theorem mv_yX3_bringDown : Cond.instanceMethod yX3_bringDown ∈ TB ∧ Cond.selects yX3_bringDown.cls yX3_bringDown yX3_bringDown ∈ TB := ⟨mim_yX3_bringDown, msel_yX3_bringDown⟩
theorem mf_X3_65 : Cond.fieldLink RX3 65 "CellKeeper$Leaf" "rows" "I" ∈ TB := TB_t1 186 rfl rfl
theorem mf_X3_71 : Cond.fieldLink RX3 71 "CellKeeper$Leaf" "columns" "I" ∈ TB := TB_t1 190 rfl rfl
theorem mf_X3_79 : Cond.fieldLink RX3 79 "CellKeeper$Leaf" "shown" "[I" ∈ TB := TB_t1 194 rfl rfl
theorem ml_X3_50 : Cond.methodLink RX3 50 yX3_isFirstOfClass ∈ TB := TB_t4 24 rfl rfl
theorem mcode_yX3_isFirstOfClass : Cond.code yX3_isFirstOfClass cX3_isFirstOfClass 4 (some .boolean) ∈ TB := TB_t4 27 rfl rfl
theorem mi_yX3_isFirstOfClass : MI yX3_isFirstOfClass cX3_isFirstOfClass 4 (some .boolean) 2 := ⟨mz_RX3, mcode_yX3_isFirstOfClass, by decide +kernel, by decide +kernel, by decide +kernel⟩
theorem mim_yX3_isFirstOfClass : Cond.instanceMethod yX3_isFirstOfClass ∈ TB := TB_t4 26 rfl rfl
theorem msel_yX3_isFirstOfClass : Cond.selects yX3_isFirstOfClass.cls yX3_isFirstOfClass yX3_isFirstOfClass ∈ TB := TB_s (n := 8) 31 (by decide +kernel)
theorem mv_yX3_isFirstOfClass : Cond.instanceMethod yX3_isFirstOfClass ∈ TB ∧ Cond.selects yX3_isFirstOfClass.cls yX3_isFirstOfClass yX3_isFirstOfClass ∈ TB := ⟨mim_yX3_isFirstOfClass, msel_yX3_isFirstOfClass⟩
theorem ml_X3_57 : Cond.methodLink RX3 57 yX3_roundClass ∈ TB := TB_t4 28 rfl rfl
theorem mcode_yX3_roundClass : Cond.code yX3_roundClass cX3_roundClass 5 none ∈ TB := TB_t4 31 rfl rfl
theorem mi_yX3_roundClass : MI yX3_roundClass cX3_roundClass 5 none 3 := ⟨mz_RX3, mcode_yX3_roundClass, by decide +kernel, by decide +kernel, by decide +kernel⟩
theorem mim_yX3_roundClass : Cond.instanceMethod yX3_roundClass ∈ TB := TB_t4 30 rfl rfl
theorem msel_yX3_roundClass : Cond.selects yX3_roundClass.cls yX3_roundClass yX3_roundClass ∈ TB := TB_s (n := 8) 32 (by decide +kernel)
theorem mv_yX3_roundClass : Cond.instanceMethod yX3_roundClass ∈ TB ∧ Cond.selects yX3_roundClass.cls yX3_roundClass yX3_roundClass ∈ TB := ⟨mim_yX3_roundClass, msel_yX3_roundClass⟩
theorem ml_X3_61 : Cond.methodLink RX3 61 yX3_write ∈ TB := TB_t4 61 rfl rfl
theorem mcode_yX3_write : Cond.code yX3_write cX3_write 10 (some .int) ∈ TB := TB_t4 64 rfl rfl
theorem mi_yX3_write : MI yX3_write cX3_write 10 (some .int) 3 := ⟨mz_RX3, mcode_yX3_write, by decide +kernel, by decide +kernel, by decide +kernel⟩
theorem mim_yX3_write : Cond.instanceMethod yX3_write ∈ TB := TB_t4 63 rfl rfl
theorem msel_yX3_write : Cond.selects yX3_write.cls yX3_write yX3_write ∈ TB := TB_s (n := 8) 39 (by decide +kernel)
theorem mv_yX3_write : Cond.instanceMethod yX3_write ∈ TB ∧ Cond.selects yX3_write.cls yX3_write yX3_write ∈ TB := ⟨mim_yX3_write, msel_yX3_write⟩
theorem ml_X1_26 : Cond.methodLink RX1 26 yJ9_min_7cf53 ∈ TB := TB_t4 93 rfl rfl
theorem kcX3_refreshNode_0 : CHb cX3_refreshNode 0 [42, 180, 0, 29, 27, 46, 42, 180, 0, 35, 27, 46, 162, 0, 7, 4, 167, 0, 4, 3, 61, 42, 180, 0, 29, 27, 46, 42, 180, 0, 32, 27, 46, 164, 0, 7, 4, 167, 0, 4, 3, 62, 27, 16, 12, 162, 0, 18, 42, 180, 0, 12, 16, 24, 27, 28, 29, 182, 0, 105, 167, 0, 15, 42] := CHb_of (by decide +kernel)
theorem dX3_refreshNode_0 : decode cX3_refreshNode 0 = .ok (.aload_n 0, 1) := dw_42 (kcX3_refreshNode_0 0 42 rfl)
theorem dX3_refreshNode_1 : decode cX3_refreshNode 1 = .ok (.getfield 29, 3) := dw_180 (kcX3_refreshNode_0 1 180 rfl) (kcX3_refreshNode_0 2 0 rfl) (kcX3_refreshNode_0 3 29 rfl) rfl
theorem dX3_refreshNode_4 : decode cX3_refreshNode 4 = .ok (.iload_n 1, 1) := dw_27 (kcX3_refreshNode_0 4 27 rfl)
theorem dX3_refreshNode_5 : decode cX3_refreshNode 5 = .ok (.iaload, 1) := dw_46 (kcX3_refreshNode_0 5 46 rfl)
theorem dX3_refreshNode_6 : decode cX3_refreshNode 6 = .ok (.aload_n 0, 1) := dw_42 (kcX3_refreshNode_0 6 42 rfl)
theorem dX3_refreshNode_7 : decode cX3_refreshNode 7 = .ok (.getfield 35, 3) := dw_180 (kcX3_refreshNode_0 7 180 rfl) (kcX3_refreshNode_0 8 0 rfl) (kcX3_refreshNode_0 9 35 rfl) rfl
theorem dX3_refreshNode_10 : decode cX3_refreshNode 10 = .ok (.iload_n 1, 1) := dw_27 (kcX3_refreshNode_0 10 27 rfl)
theorem dX3_refreshNode_11 : decode cX3_refreshNode 11 = .ok (.iaload, 1) := dw_46 (kcX3_refreshNode_0 11 46 rfl)
theorem dX3_refreshNode_12 : decode cX3_refreshNode 12 = .ok (.if_icmp .ge 7, 3) := dw_162 (kcX3_refreshNode_0 12 162 rfl) (kcX3_refreshNode_0 13 0 rfl) (kcX3_refreshNode_0 14 7 rfl) rfl
theorem dX3_refreshNode_19 : decode cX3_refreshNode 19 = .ok (.iconst 0, 1) := dw_3 (kcX3_refreshNode_0 19 3 rfl)
theorem dX3_refreshNode_15 : decode cX3_refreshNode 15 = .ok (.iconst 1, 1) := dw_4 (kcX3_refreshNode_0 15 4 rfl)
theorem dX3_refreshNode_16 : decode cX3_refreshNode 16 = .ok (.goto 4, 3) := dw_167 (kcX3_refreshNode_0 16 167 rfl) (kcX3_refreshNode_0 17 0 rfl) (kcX3_refreshNode_0 18 4 rfl) rfl
theorem dX3_refreshNode_20 : decode cX3_refreshNode 20 = .ok (.istore_n 2, 1) := dw_61 (kcX3_refreshNode_0 20 61 rfl)
theorem dX3_refreshNode_21 : decode cX3_refreshNode 21 = .ok (.aload_n 0, 1) := dw_42 (kcX3_refreshNode_0 21 42 rfl)
theorem dX3_refreshNode_22 : decode cX3_refreshNode 22 = .ok (.getfield 29, 3) := dw_180 (kcX3_refreshNode_0 22 180 rfl) (kcX3_refreshNode_0 23 0 rfl) (kcX3_refreshNode_0 24 29 rfl) rfl
theorem dX3_refreshNode_25 : decode cX3_refreshNode 25 = .ok (.iload_n 1, 1) := dw_27 (kcX3_refreshNode_0 25 27 rfl)
theorem dX3_refreshNode_26 : decode cX3_refreshNode 26 = .ok (.iaload, 1) := dw_46 (kcX3_refreshNode_0 26 46 rfl)
theorem dX3_refreshNode_27 : decode cX3_refreshNode 27 = .ok (.aload_n 0, 1) := dw_42 (kcX3_refreshNode_0 27 42 rfl)
theorem dX3_refreshNode_28 : decode cX3_refreshNode 28 = .ok (.getfield 32, 3) := dw_180 (kcX3_refreshNode_0 28 180 rfl) (kcX3_refreshNode_0 29 0 rfl) (kcX3_refreshNode_0 30 32 rfl) rfl
theorem dX3_refreshNode_31 : decode cX3_refreshNode 31 = .ok (.iload_n 1, 1) := dw_27 (kcX3_refreshNode_0 31 27 rfl)
theorem dX3_refreshNode_32 : decode cX3_refreshNode 32 = .ok (.iaload, 1) := dw_46 (kcX3_refreshNode_0 32 46 rfl)
theorem dX3_refreshNode_33 : decode cX3_refreshNode 33 = .ok (.if_icmp .le 7, 3) := dw_164 (kcX3_refreshNode_0 33 164 rfl) (kcX3_refreshNode_0 34 0 rfl) (kcX3_refreshNode_0 35 7 rfl) rfl
theorem dX3_refreshNode_40 : decode cX3_refreshNode 40 = .ok (.iconst 0, 1) := dw_3 (kcX3_refreshNode_0 40 3 rfl)
theorem dX3_refreshNode_36 : decode cX3_refreshNode 36 = .ok (.iconst 1, 1) := dw_4 (kcX3_refreshNode_0 36 4 rfl)
theorem dX3_refreshNode_37 : decode cX3_refreshNode 37 = .ok (.goto 4, 3) := dw_167 (kcX3_refreshNode_0 37 167 rfl) (kcX3_refreshNode_0 38 0 rfl) (kcX3_refreshNode_0 39 4 rfl) rfl
theorem dX3_refreshNode_41 : decode cX3_refreshNode 41 = .ok (.istore_n 3, 1) := dw_62 (kcX3_refreshNode_0 41 62 rfl)
theorem dX3_refreshNode_42 : decode cX3_refreshNode 42 = .ok (.iload_n 1, 1) := dw_27 (kcX3_refreshNode_0 42 27 rfl)
theorem dX3_refreshNode_43 : decode cX3_refreshNode 43 = .ok (.bipush 12, 2) := dw_16 (kcX3_refreshNode_0 43 16 rfl) (kcX3_refreshNode_0 44 12 rfl) rfl
theorem dX3_refreshNode_45 : decode cX3_refreshNode 45 = .ok (.if_icmp .ge 18, 3) := dw_162 (kcX3_refreshNode_0 45 162 rfl) (kcX3_refreshNode_0 46 0 rfl) (kcX3_refreshNode_0 47 18 rfl) rfl
theorem dX3_refreshNode_63 : decode cX3_refreshNode 63 = .ok (.aload_n 0, 1) := dw_42 (kcX3_refreshNode_0 63 42 rfl)
theorem kcX3_refreshNode_1 : CHb cX3_refreshNode 64 [180, 0, 12, 27, 16, 24, 28, 29, 182, 0, 105, 177] := CHb_of (by decide +kernel)
theorem dX3_refreshNode_64 : decode cX3_refreshNode 64 = .ok (.getfield 12, 3) := dw_180 (kcX3_refreshNode_1 0 180 rfl) (kcX3_refreshNode_1 1 0 rfl) (kcX3_refreshNode_1 2 12 rfl) rfl
theorem dX3_refreshNode_67 : decode cX3_refreshNode 67 = .ok (.iload_n 1, 1) := dw_27 (kcX3_refreshNode_1 3 27 rfl)
theorem dX3_refreshNode_68 : decode cX3_refreshNode 68 = .ok (.bipush 24, 2) := dw_16 (kcX3_refreshNode_1 4 16 rfl) (kcX3_refreshNode_1 5 24 rfl) rfl
theorem dX3_refreshNode_70 : decode cX3_refreshNode 70 = .ok (.iload_n 2, 1) := dw_28 (kcX3_refreshNode_1 6 28 rfl)
theorem dX3_refreshNode_71 : decode cX3_refreshNode 71 = .ok (.iload_n 3, 1) := dw_29 (kcX3_refreshNode_1 7 29 rfl)
theorem dX3_refreshNode_72 : decode cX3_refreshNode 72 = .ok (.invokevirtual 105, 3) := dw_182 (kcX3_refreshNode_1 8 182 rfl) (kcX3_refreshNode_1 9 0 rfl) (kcX3_refreshNode_1 10 105 rfl) rfl
theorem dX3_refreshNode_75 : decode cX3_refreshNode 75 = .ok (.return_, 1) := dw_177 (kcX3_refreshNode_1 11 177 rfl)
theorem dX3_refreshNode_48 : decode cX3_refreshNode 48 = .ok (.aload_n 0, 1) := dw_42 (kcX3_refreshNode_0 48 42 rfl)
theorem dX3_refreshNode_49 : decode cX3_refreshNode 49 = .ok (.getfield 12, 3) := dw_180 (kcX3_refreshNode_0 49 180 rfl) (kcX3_refreshNode_0 50 0 rfl) (kcX3_refreshNode_0 51 12 rfl) rfl
theorem dX3_refreshNode_52 : decode cX3_refreshNode 52 = .ok (.bipush 24, 2) := dw_16 (kcX3_refreshNode_0 52 16 rfl) (kcX3_refreshNode_0 53 24 rfl) rfl
theorem dX3_refreshNode_54 : decode cX3_refreshNode 54 = .ok (.iload_n 1, 1) := dw_27 (kcX3_refreshNode_0 54 27 rfl)
theorem dX3_refreshNode_55 : decode cX3_refreshNode 55 = .ok (.iload_n 2, 1) := dw_28 (kcX3_refreshNode_0 55 28 rfl)
theorem dX3_refreshNode_56 : decode cX3_refreshNode 56 = .ok (.iload_n 3, 1) := dw_29 (kcX3_refreshNode_0 56 29 rfl)
theorem dX3_refreshNode_57 : decode cX3_refreshNode 57 = .ok (.invokevirtual 105, 3) := dw_182 (kcX3_refreshNode_0 57 182 rfl) (kcX3_refreshNode_0 58 0 rfl) (kcX3_refreshNode_0 59 105 rfl) rfl
theorem dX3_refreshNode_60 : decode cX3_refreshNode 60 = .ok (.goto 15, 3) := dw_167 (kcX3_refreshNode_0 60 167 rfl) (kcX3_refreshNode_0 61 0 rfl) (kcX3_refreshNode_0 62 15 rfl) rfl
theorem kcX3_turn_0 : CHb cX3_turn 0 [27, 16, 24, 160, 0, 31, 42, 180, 0, 29, 28, 92, 46, 28, 16, 12, 162, 0, 7, 4, 167, 0, 4, 2, 96, 79, 42, 28, 182, 0, 94, 167, 0, 108, 28, 16, 24, 160, 0, 31, 42, 180, 0, 29, 27, 92, 46, 27, 16, 12, 162, 0, 7, 2, 167, 0, 4, 4, 96, 79, 42, 27, 182, 0] := CHb_of (by decide +kernel)
theorem dX3_turn_0 : decode cX3_turn 0 = .ok (.iload_n 1, 1) := dw_27 (kcX3_turn_0 0 27 rfl)
theorem dX3_turn_1 : decode cX3_turn 1 = .ok (.bipush 24, 2) := dw_16 (kcX3_turn_0 1 16 rfl) (kcX3_turn_0 2 24 rfl) rfl
theorem dX3_turn_3 : decode cX3_turn 3 = .ok (.if_icmp .ne 31, 3) := dw_160 (kcX3_turn_0 3 160 rfl) (kcX3_turn_0 4 0 rfl) (kcX3_turn_0 5 31 rfl) rfl
theorem dX3_turn_34 : decode cX3_turn 34 = .ok (.iload_n 2, 1) := dw_28 (kcX3_turn_0 34 28 rfl)
theorem dX3_turn_35 : decode cX3_turn 35 = .ok (.bipush 24, 2) := dw_16 (kcX3_turn_0 35 16 rfl) (kcX3_turn_0 36 24 rfl) rfl
theorem dX3_turn_37 : decode cX3_turn 37 = .ok (.if_icmp .ne 31, 3) := dw_160 (kcX3_turn_0 37 160 rfl) (kcX3_turn_0 38 0 rfl) (kcX3_turn_0 39 31 rfl) rfl
theorem kcX3_turn_1 : CHb cX3_turn 64 [94, 167, 0, 74, 27, 16, 12, 162, 0, 7, 4, 167, 0, 4, 3, 62, 29, 153, 0, 7, 27, 167, 0, 4, 28, 54, 4, 29, 153, 0, 7, 28, 167, 0, 4, 27, 54, 5, 42, 180, 0, 22, 21, 4, 21, 5, 16, 12, 100, 184, 0, 72, 29, 84, 42, 180, 0, 12, 21, 4, 21, 5, 29, 154] := CHb_of (by decide +kernel)
theorem dX3_turn_68 : decode cX3_turn 68 = .ok (.iload_n 1, 1) := dw_27 (kcX3_turn_1 4 27 rfl)
theorem dX3_turn_69 : decode cX3_turn 69 = .ok (.bipush 12, 2) := dw_16 (kcX3_turn_1 5 16 rfl) (kcX3_turn_1 6 12 rfl) rfl
theorem dX3_turn_71 : decode cX3_turn 71 = .ok (.if_icmp .ge 7, 3) := dw_162 (kcX3_turn_1 7 162 rfl) (kcX3_turn_1 8 0 rfl) (kcX3_turn_1 9 7 rfl) rfl
theorem dX3_turn_78 : decode cX3_turn 78 = .ok (.iconst 0, 1) := dw_3 (kcX3_turn_1 14 3 rfl)
theorem dX3_turn_79 : decode cX3_turn 79 = .ok (.istore_n 3, 1) := dw_62 (kcX3_turn_1 15 62 rfl)
theorem dX3_turn_80 : decode cX3_turn 80 = .ok (.iload_n 3, 1) := dw_29 (kcX3_turn_1 16 29 rfl)
theorem dX3_turn_81 : decode cX3_turn 81 = .ok (.ifCond .eq 7, 3) := dw_153 (kcX3_turn_1 17 153 rfl) (kcX3_turn_1 18 0 rfl) (kcX3_turn_1 19 7 rfl) rfl
theorem dX3_turn_88 : decode cX3_turn 88 = .ok (.iload_n 2, 1) := dw_28 (kcX3_turn_1 24 28 rfl)
theorem dX3_turn_89 : decode cX3_turn 89 = .ok (.istore 4, 2) := dw_54 (kcX3_turn_1 25 54 rfl) (kcX3_turn_1 26 4 rfl)
theorem dX3_turn_91 : decode cX3_turn 91 = .ok (.iload_n 3, 1) := dw_29 (kcX3_turn_1 27 29 rfl)
theorem dX3_turn_92 : decode cX3_turn 92 = .ok (.ifCond .eq 7, 3) := dw_153 (kcX3_turn_1 28 153 rfl) (kcX3_turn_1 29 0 rfl) (kcX3_turn_1 30 7 rfl) rfl
theorem dX3_turn_99 : decode cX3_turn 99 = .ok (.iload_n 1, 1) := dw_27 (kcX3_turn_1 35 27 rfl)
theorem dX3_turn_100 : decode cX3_turn 100 = .ok (.istore 5, 2) := dw_54 (kcX3_turn_1 36 54 rfl) (kcX3_turn_1 37 5 rfl)
theorem dX3_turn_102 : decode cX3_turn 102 = .ok (.aload_n 0, 1) := dw_42 (kcX3_turn_1 38 42 rfl)
theorem dX3_turn_103 : decode cX3_turn 103 = .ok (.getfield 22, 3) := dw_180 (kcX3_turn_1 39 180 rfl) (kcX3_turn_1 40 0 rfl) (kcX3_turn_1 41 22 rfl) rfl
theorem dX3_turn_106 : decode cX3_turn 106 = .ok (.iload 4, 2) := dw_21 (kcX3_turn_1 42 21 rfl) (kcX3_turn_1 43 4 rfl)
theorem dX3_turn_108 : decode cX3_turn 108 = .ok (.iload 5, 2) := dw_21 (kcX3_turn_1 44 21 rfl) (kcX3_turn_1 45 5 rfl)
theorem dX3_turn_110 : decode cX3_turn 110 = .ok (.bipush 12, 2) := dw_16 (kcX3_turn_1 46 16 rfl) (kcX3_turn_1 47 12 rfl) rfl
theorem dX3_turn_112 : decode cX3_turn 112 = .ok (.isub, 1) := dw_100 (kcX3_turn_1 48 100 rfl)
theorem dX3_turn_113 : decode cX3_turn 113 = .ok (.invokestatic 72, 3) := dw_184 (kcX3_turn_1 49 184 rfl) (kcX3_turn_1 50 0 rfl) (kcX3_turn_1 51 72 rfl) rfl
theorem dX3_turn_116 : decode cX3_turn 116 = .ok (.iload_n 3, 1) := dw_29 (kcX3_turn_1 52 29 rfl)
theorem dX3_turn_117 : decode cX3_turn 117 = .ok (.bastore, 1) := dw_84 (kcX3_turn_1 53 84 rfl)
theorem dX3_turn_118 : decode cX3_turn 118 = .ok (.aload_n 0, 1) := dw_42 (kcX3_turn_1 54 42 rfl)
theorem dX3_turn_119 : decode cX3_turn 119 = .ok (.getfield 12, 3) := dw_180 (kcX3_turn_1 55 180 rfl) (kcX3_turn_1 56 0 rfl) (kcX3_turn_1 57 12 rfl) rfl
theorem dX3_turn_122 : decode cX3_turn 122 = .ok (.iload 4, 2) := dw_21 (kcX3_turn_1 58 21 rfl) (kcX3_turn_1 59 4 rfl)
theorem dX3_turn_124 : decode cX3_turn 124 = .ok (.iload 5, 2) := dw_21 (kcX3_turn_1 60 21 rfl) (kcX3_turn_1 61 5 rfl)
theorem dX3_turn_126 : decode cX3_turn 126 = .ok (.iload_n 3, 1) := dw_29 (kcX3_turn_1 62 29 rfl)
theorem kcX3_turn_2 : CHb cX3_turn 128 [0, 7, 4, 167, 0, 4, 3, 29, 182, 0, 105, 177] := CHb_of (by decide +kernel)
theorem dX3_turn_127 : decode cX3_turn 127 = .ok (.ifCond .ne 7, 3) := dw_154 (kcX3_turn_1 63 154 rfl) (kcX3_turn_2 0 0 rfl) (kcX3_turn_2 1 7 rfl) rfl
theorem dX3_turn_130 : decode cX3_turn 130 = .ok (.iconst 1, 1) := dw_4 (kcX3_turn_2 2 4 rfl)
theorem dX3_turn_131 : decode cX3_turn 131 = .ok (.goto 4, 3) := dw_167 (kcX3_turn_2 3 167 rfl) (kcX3_turn_2 4 0 rfl) (kcX3_turn_2 5 4 rfl) rfl
theorem dX3_turn_135 : decode cX3_turn 135 = .ok (.iload_n 3, 1) := dw_29 (kcX3_turn_2 7 29 rfl)
theorem dX3_turn_136 : decode cX3_turn 136 = .ok (.invokevirtual 105, 3) := dw_182 (kcX3_turn_2 8 182 rfl) (kcX3_turn_2 9 0 rfl) (kcX3_turn_2 10 105 rfl) rfl
theorem dX3_turn_139 : decode cX3_turn 139 = .ok (.return_, 1) := dw_177 (kcX3_turn_2 11 177 rfl)
theorem dX3_turn_74 : decode cX3_turn 74 = .ok (.iconst 1, 1) := dw_4 (kcX3_turn_1 10 4 rfl)
theorem dX3_turn_75 : decode cX3_turn 75 = .ok (.goto 4, 3) := dw_167 (kcX3_turn_1 11 167 rfl) (kcX3_turn_1 12 0 rfl) (kcX3_turn_1 13 4 rfl) rfl
theorem dX3_turn_84 : decode cX3_turn 84 = .ok (.iload_n 1, 1) := dw_27 (kcX3_turn_1 20 27 rfl)
theorem dX3_turn_85 : decode cX3_turn 85 = .ok (.goto 4, 3) := dw_167 (kcX3_turn_1 21 167 rfl) (kcX3_turn_1 22 0 rfl) (kcX3_turn_1 23 4 rfl) rfl
theorem dX3_turn_95 : decode cX3_turn 95 = .ok (.iload_n 2, 1) := dw_28 (kcX3_turn_1 31 28 rfl)
theorem dX3_turn_96 : decode cX3_turn 96 = .ok (.goto 4, 3) := dw_167 (kcX3_turn_1 32 167 rfl) (kcX3_turn_1 33 0 rfl) (kcX3_turn_1 34 4 rfl) rfl
theorem dX3_turn_134 : decode cX3_turn 134 = .ok (.iconst 0, 1) := dw_3 (kcX3_turn_2 6 3 rfl)
theorem dX3_turn_40 : decode cX3_turn 40 = .ok (.aload_n 0, 1) := dw_42 (kcX3_turn_0 40 42 rfl)
theorem dX3_turn_41 : decode cX3_turn 41 = .ok (.getfield 29, 3) := dw_180 (kcX3_turn_0 41 180 rfl) (kcX3_turn_0 42 0 rfl) (kcX3_turn_0 43 29 rfl) rfl
theorem dX3_turn_44 : decode cX3_turn 44 = .ok (.iload_n 1, 1) := dw_27 (kcX3_turn_0 44 27 rfl)
theorem dX3_turn_45 : decode cX3_turn 45 = .ok (.dup2, 1) := dw_92 (kcX3_turn_0 45 92 rfl)
theorem dX3_turn_46 : decode cX3_turn 46 = .ok (.iaload, 1) := dw_46 (kcX3_turn_0 46 46 rfl)
theorem dX3_turn_47 : decode cX3_turn 47 = .ok (.iload_n 1, 1) := dw_27 (kcX3_turn_0 47 27 rfl)
theorem dX3_turn_48 : decode cX3_turn 48 = .ok (.bipush 12, 2) := dw_16 (kcX3_turn_0 48 16 rfl) (kcX3_turn_0 49 12 rfl) rfl
theorem dX3_turn_50 : decode cX3_turn 50 = .ok (.if_icmp .ge 7, 3) := dw_162 (kcX3_turn_0 50 162 rfl) (kcX3_turn_0 51 0 rfl) (kcX3_turn_0 52 7 rfl) rfl
theorem dX3_turn_57 : decode cX3_turn 57 = .ok (.iconst 1, 1) := dw_4 (kcX3_turn_0 57 4 rfl)
theorem dX3_turn_53 : decode cX3_turn 53 = .ok (.iconst (-1), 1) := dw_2 (kcX3_turn_0 53 2 rfl)
theorem dX3_turn_54 : decode cX3_turn 54 = .ok (.goto 4, 3) := dw_167 (kcX3_turn_0 54 167 rfl) (kcX3_turn_0 55 0 rfl) (kcX3_turn_0 56 4 rfl) rfl
theorem dX3_turn_58 : decode cX3_turn 58 = .ok (.iadd, 1) := dw_96 (kcX3_turn_0 58 96 rfl)
theorem dX3_turn_59 : decode cX3_turn 59 = .ok (.iastore, 1) := dw_79 (kcX3_turn_0 59 79 rfl)
theorem dX3_turn_60 : decode cX3_turn 60 = .ok (.aload_n 0, 1) := dw_42 (kcX3_turn_0 60 42 rfl)
theorem dX3_turn_61 : decode cX3_turn 61 = .ok (.iload_n 1, 1) := dw_27 (kcX3_turn_0 61 27 rfl)
theorem dX3_turn_62 : decode cX3_turn 62 = .ok (.invokevirtual 94, 3) := dw_182 (kcX3_turn_0 62 182 rfl) (kcX3_turn_0 63 0 rfl) (kcX3_turn_1 0 94 rfl) rfl
theorem dX3_turn_65 : decode cX3_turn 65 = .ok (.goto 74, 3) := dw_167 (kcX3_turn_1 1 167 rfl) (kcX3_turn_1 2 0 rfl) (kcX3_turn_1 3 74 rfl) rfl
theorem dX3_turn_6 : decode cX3_turn 6 = .ok (.aload_n 0, 1) := dw_42 (kcX3_turn_0 6 42 rfl)
theorem dX3_turn_7 : decode cX3_turn 7 = .ok (.getfield 29, 3) := dw_180 (kcX3_turn_0 7 180 rfl) (kcX3_turn_0 8 0 rfl) (kcX3_turn_0 9 29 rfl) rfl
theorem dX3_turn_10 : decode cX3_turn 10 = .ok (.iload_n 2, 1) := dw_28 (kcX3_turn_0 10 28 rfl)
theorem dX3_turn_11 : decode cX3_turn 11 = .ok (.dup2, 1) := dw_92 (kcX3_turn_0 11 92 rfl)
theorem dX3_turn_12 : decode cX3_turn 12 = .ok (.iaload, 1) := dw_46 (kcX3_turn_0 12 46 rfl)
theorem dX3_turn_13 : decode cX3_turn 13 = .ok (.iload_n 2, 1) := dw_28 (kcX3_turn_0 13 28 rfl)
theorem dX3_turn_14 : decode cX3_turn 14 = .ok (.bipush 12, 2) := dw_16 (kcX3_turn_0 14 16 rfl) (kcX3_turn_0 15 12 rfl) rfl
theorem dX3_turn_16 : decode cX3_turn 16 = .ok (.if_icmp .ge 7, 3) := dw_162 (kcX3_turn_0 16 162 rfl) (kcX3_turn_0 17 0 rfl) (kcX3_turn_0 18 7 rfl) rfl
theorem dX3_turn_23 : decode cX3_turn 23 = .ok (.iconst (-1), 1) := dw_2 (kcX3_turn_0 23 2 rfl)
theorem dX3_turn_19 : decode cX3_turn 19 = .ok (.iconst 1, 1) := dw_4 (kcX3_turn_0 19 4 rfl)
theorem dX3_turn_20 : decode cX3_turn 20 = .ok (.goto 4, 3) := dw_167 (kcX3_turn_0 20 167 rfl) (kcX3_turn_0 21 0 rfl) (kcX3_turn_0 22 4 rfl) rfl
theorem dX3_turn_24 : decode cX3_turn 24 = .ok (.iadd, 1) := dw_96 (kcX3_turn_0 24 96 rfl)
theorem dX3_turn_25 : decode cX3_turn 25 = .ok (.iastore, 1) := dw_79 (kcX3_turn_0 25 79 rfl)
theorem dX3_turn_26 : decode cX3_turn 26 = .ok (.aload_n 0, 1) := dw_42 (kcX3_turn_0 26 42 rfl)
theorem dX3_turn_27 : decode cX3_turn 27 = .ok (.iload_n 2, 1) := dw_28 (kcX3_turn_0 27 28 rfl)
theorem dX3_turn_28 : decode cX3_turn 28 = .ok (.invokevirtual 94, 3) := dw_182 (kcX3_turn_0 28 182 rfl) (kcX3_turn_0 29 0 rfl) (kcX3_turn_0 30 94 rfl) rfl
theorem dX3_turn_31 : decode cX3_turn 31 = .ok (.goto 108, 3) := dw_167 (kcX3_turn_0 31 167 rfl) (kcX3_turn_0 32 0 rfl) (kcX3_turn_0 33 108 rfl) rfl
theorem kcX3_shift_0 : CHb cX3_shift 0 [28, 62, 3, 54, 4, 21, 4, 16, 25, 162, 0, 35, 29, 27, 159, 0, 30, 42, 180, 0, 12, 180, 0, 116, 29, 46, 54, 5, 42, 21, 5, 29, 182, 0, 119, 21, 5, 62, 132, 4, 1, 167, 255, 220, 177] := CHb_of (by decide +kernel)
theorem dX3_shift_0 : decode cX3_shift 0 = .ok (.iload_n 2, 1) := dw_28 (kcX3_shift_0 0 28 rfl)
theorem dX3_shift_1 : decode cX3_shift 1 = .ok (.istore_n 3, 1) := dw_62 (kcX3_shift_0 1 62 rfl)
theorem dX3_shift_2 : decode cX3_shift 2 = .ok (.iconst 0, 1) := dw_3 (kcX3_shift_0 2 3 rfl)
theorem dX3_shift_3 : decode cX3_shift 3 = .ok (.istore 4, 2) := dw_54 (kcX3_shift_0 3 54 rfl) (kcX3_shift_0 4 4 rfl)
theorem dX3_shift_5 : decode cX3_shift 5 = .ok (.iload 4, 2) := dw_21 (kcX3_shift_0 5 21 rfl) (kcX3_shift_0 6 4 rfl)
theorem dX3_shift_7 : decode cX3_shift 7 = .ok (.bipush 25, 2) := dw_16 (kcX3_shift_0 7 16 rfl) (kcX3_shift_0 8 25 rfl) rfl
theorem dX3_shift_9 : decode cX3_shift 9 = .ok (.if_icmp .ge 35, 3) := dw_162 (kcX3_shift_0 9 162 rfl) (kcX3_shift_0 10 0 rfl) (kcX3_shift_0 11 35 rfl) rfl
theorem dX3_shift_44 : decode cX3_shift 44 = .ok (.return_, 1) := dw_177 (kcX3_shift_0 44 177 rfl)
theorem dX3_shift_12 : decode cX3_shift 12 = .ok (.iload_n 3, 1) := dw_29 (kcX3_shift_0 12 29 rfl)
theorem dX3_shift_13 : decode cX3_shift 13 = .ok (.iload_n 1, 1) := dw_27 (kcX3_shift_0 13 27 rfl)
theorem dX3_shift_14 : decode cX3_shift 14 = .ok (.if_icmp .eq 30, 3) := dw_159 (kcX3_shift_0 14 159 rfl) (kcX3_shift_0 15 0 rfl) (kcX3_shift_0 16 30 rfl) rfl
theorem dX3_shift_17 : decode cX3_shift 17 = .ok (.aload_n 0, 1) := dw_42 (kcX3_shift_0 17 42 rfl)
theorem dX3_shift_18 : decode cX3_shift 18 = .ok (.getfield 12, 3) := dw_180 (kcX3_shift_0 18 180 rfl) (kcX3_shift_0 19 0 rfl) (kcX3_shift_0 20 12 rfl) rfl
theorem dX3_shift_21 : decode cX3_shift 21 = .ok (.getfield 116, 3) := dw_180 (kcX3_shift_0 21 180 rfl) (kcX3_shift_0 22 0 rfl) (kcX3_shift_0 23 116 rfl) rfl
theorem dX3_shift_24 : decode cX3_shift 24 = .ok (.iload_n 3, 1) := dw_29 (kcX3_shift_0 24 29 rfl)
theorem dX3_shift_25 : decode cX3_shift 25 = .ok (.iaload, 1) := dw_46 (kcX3_shift_0 25 46 rfl)
theorem dX3_shift_26 : decode cX3_shift 26 = .ok (.istore 5, 2) := dw_54 (kcX3_shift_0 26 54 rfl) (kcX3_shift_0 27 5 rfl)
theorem dX3_shift_28 : decode cX3_shift 28 = .ok (.aload_n 0, 1) := dw_42 (kcX3_shift_0 28 42 rfl)
theorem dX3_shift_29 : decode cX3_shift 29 = .ok (.iload 5, 2) := dw_21 (kcX3_shift_0 29 21 rfl) (kcX3_shift_0 30 5 rfl)
theorem dX3_shift_31 : decode cX3_shift 31 = .ok (.iload_n 3, 1) := dw_29 (kcX3_shift_0 31 29 rfl)
theorem dX3_shift_32 : decode cX3_shift 32 = .ok (.invokevirtual 119, 3) := dw_182 (kcX3_shift_0 32 182 rfl) (kcX3_shift_0 33 0 rfl) (kcX3_shift_0 34 119 rfl) rfl
theorem dX3_shift_35 : decode cX3_shift 35 = .ok (.iload 5, 2) := dw_21 (kcX3_shift_0 35 21 rfl) (kcX3_shift_0 36 5 rfl)
theorem dX3_shift_37 : decode cX3_shift 37 = .ok (.istore_n 3, 1) := dw_62 (kcX3_shift_0 37 62 rfl)
theorem dX3_shift_38 : decode cX3_shift 38 = .ok (.iinc 4 1, 3) := dw_132 (kcX3_shift_0 38 132 rfl) (kcX3_shift_0 39 4 rfl) (kcX3_shift_0 40 1 rfl) rfl
theorem dX3_shift_41 : decode cX3_shift 41 = .ok (.goto (-36), 3) := dw_167 (kcX3_shift_0 41 167 rfl) (kcX3_shift_0 42 255 rfl) (kcX3_shift_0 43 220 rfl) rfl
theorem kcX3_reachFewest_0 : CHb cX3_reachFewest 0 [3, 60, 27, 16, 24, 162, 0, 102, 27, 16, 12, 162, 0, 7, 27, 167, 0, 5, 16, 24, 61, 27, 16, 12, 162, 0, 8, 16, 24, 167, 0, 4, 27, 62, 3, 54, 4, 21, 4, 16, 12, 162, 0, 60, 42, 180, 0, 29, 27, 46, 42, 180, 0, 32, 27, 46, 162, 0, 45, 42, 180, 0, 12, 28] := CHb_of (by decide +kernel)
theorem dX3_reachFewest_0 : decode cX3_reachFewest 0 = .ok (.iconst 0, 1) := dw_3 (kcX3_reachFewest_0 0 3 rfl)
theorem dX3_reachFewest_1 : decode cX3_reachFewest 1 = .ok (.istore_n 1, 1) := dw_60 (kcX3_reachFewest_0 1 60 rfl)
theorem dX3_reachFewest_2 : decode cX3_reachFewest 2 = .ok (.iload_n 1, 1) := dw_27 (kcX3_reachFewest_0 2 27 rfl)
theorem dX3_reachFewest_3 : decode cX3_reachFewest 3 = .ok (.bipush 24, 2) := dw_16 (kcX3_reachFewest_0 3 16 rfl) (kcX3_reachFewest_0 4 24 rfl) rfl
theorem dX3_reachFewest_5 : decode cX3_reachFewest 5 = .ok (.if_icmp .ge 102, 3) := dw_162 (kcX3_reachFewest_0 5 162 rfl) (kcX3_reachFewest_0 6 0 rfl) (kcX3_reachFewest_0 7 102 rfl) rfl
theorem kcX3_reachFewest_1 : CHb cX3_reachFewest 64 [29, 182, 0, 109, 154, 0, 6, 167, 0, 30, 42, 28, 29, 182, 0, 113, 42, 180, 0, 29, 27, 92, 46, 4, 96, 79, 42, 27, 182, 0, 94, 132, 4, 1, 167, 255, 195, 132, 1, 1, 167, 255, 154, 177] := CHb_of (by decide +kernel)
theorem dX3_reachFewest_107 : decode cX3_reachFewest 107 = .ok (.return_, 1) := dw_177 (kcX3_reachFewest_1 43 177 rfl)
theorem dX3_reachFewest_8 : decode cX3_reachFewest 8 = .ok (.iload_n 1, 1) := dw_27 (kcX3_reachFewest_0 8 27 rfl)
theorem dX3_reachFewest_9 : decode cX3_reachFewest 9 = .ok (.bipush 12, 2) := dw_16 (kcX3_reachFewest_0 9 16 rfl) (kcX3_reachFewest_0 10 12 rfl) rfl
theorem dX3_reachFewest_11 : decode cX3_reachFewest 11 = .ok (.if_icmp .ge 7, 3) := dw_162 (kcX3_reachFewest_0 11 162 rfl) (kcX3_reachFewest_0 12 0 rfl) (kcX3_reachFewest_0 13 7 rfl) rfl
theorem dX3_reachFewest_18 : decode cX3_reachFewest 18 = .ok (.bipush 24, 2) := dw_16 (kcX3_reachFewest_0 18 16 rfl) (kcX3_reachFewest_0 19 24 rfl) rfl
theorem dX3_reachFewest_20 : decode cX3_reachFewest 20 = .ok (.istore_n 2, 1) := dw_61 (kcX3_reachFewest_0 20 61 rfl)
theorem dX3_reachFewest_21 : decode cX3_reachFewest 21 = .ok (.iload_n 1, 1) := dw_27 (kcX3_reachFewest_0 21 27 rfl)
theorem dX3_reachFewest_22 : decode cX3_reachFewest 22 = .ok (.bipush 12, 2) := dw_16 (kcX3_reachFewest_0 22 16 rfl) (kcX3_reachFewest_0 23 12 rfl) rfl
theorem dX3_reachFewest_24 : decode cX3_reachFewest 24 = .ok (.if_icmp .ge 8, 3) := dw_162 (kcX3_reachFewest_0 24 162 rfl) (kcX3_reachFewest_0 25 0 rfl) (kcX3_reachFewest_0 26 8 rfl) rfl
theorem dX3_reachFewest_32 : decode cX3_reachFewest 32 = .ok (.iload_n 1, 1) := dw_27 (kcX3_reachFewest_0 32 27 rfl)
theorem dX3_reachFewest_33 : decode cX3_reachFewest 33 = .ok (.istore_n 3, 1) := dw_62 (kcX3_reachFewest_0 33 62 rfl)
theorem dX3_reachFewest_34 : decode cX3_reachFewest 34 = .ok (.iconst 0, 1) := dw_3 (kcX3_reachFewest_0 34 3 rfl)
theorem dX3_reachFewest_35 : decode cX3_reachFewest 35 = .ok (.istore 4, 2) := dw_54 (kcX3_reachFewest_0 35 54 rfl) (kcX3_reachFewest_0 36 4 rfl)
theorem dX3_reachFewest_37 : decode cX3_reachFewest 37 = .ok (.iload 4, 2) := dw_21 (kcX3_reachFewest_0 37 21 rfl) (kcX3_reachFewest_0 38 4 rfl)
theorem dX3_reachFewest_39 : decode cX3_reachFewest 39 = .ok (.bipush 12, 2) := dw_16 (kcX3_reachFewest_0 39 16 rfl) (kcX3_reachFewest_0 40 12 rfl) rfl
theorem dX3_reachFewest_41 : decode cX3_reachFewest 41 = .ok (.if_icmp .ge 60, 3) := dw_162 (kcX3_reachFewest_0 41 162 rfl) (kcX3_reachFewest_0 42 0 rfl) (kcX3_reachFewest_0 43 60 rfl) rfl
theorem dX3_reachFewest_101 : decode cX3_reachFewest 101 = .ok (.iinc 1 1, 3) := dw_132 (kcX3_reachFewest_1 37 132 rfl) (kcX3_reachFewest_1 38 1 rfl) (kcX3_reachFewest_1 39 1 rfl) rfl
theorem dX3_reachFewest_104 : decode cX3_reachFewest 104 = .ok (.goto (-102), 3) := dw_167 (kcX3_reachFewest_1 40 167 rfl) (kcX3_reachFewest_1 41 255 rfl) (kcX3_reachFewest_1 42 154 rfl) rfl
theorem dX3_reachFewest_44 : decode cX3_reachFewest 44 = .ok (.aload_n 0, 1) := dw_42 (kcX3_reachFewest_0 44 42 rfl)
theorem dX3_reachFewest_45 : decode cX3_reachFewest 45 = .ok (.getfield 29, 3) := dw_180 (kcX3_reachFewest_0 45 180 rfl) (kcX3_reachFewest_0 46 0 rfl) (kcX3_reachFewest_0 47 29 rfl) rfl
theorem dX3_reachFewest_48 : decode cX3_reachFewest 48 = .ok (.iload_n 1, 1) := dw_27 (kcX3_reachFewest_0 48 27 rfl)
theorem dX3_reachFewest_49 : decode cX3_reachFewest 49 = .ok (.iaload, 1) := dw_46 (kcX3_reachFewest_0 49 46 rfl)
theorem dX3_reachFewest_50 : decode cX3_reachFewest 50 = .ok (.aload_n 0, 1) := dw_42 (kcX3_reachFewest_0 50 42 rfl)
theorem dX3_reachFewest_51 : decode cX3_reachFewest 51 = .ok (.getfield 32, 3) := dw_180 (kcX3_reachFewest_0 51 180 rfl) (kcX3_reachFewest_0 52 0 rfl) (kcX3_reachFewest_0 53 32 rfl) rfl
theorem dX3_reachFewest_54 : decode cX3_reachFewest 54 = .ok (.iload_n 1, 1) := dw_27 (kcX3_reachFewest_0 54 27 rfl)
theorem dX3_reachFewest_55 : decode cX3_reachFewest 55 = .ok (.iaload, 1) := dw_46 (kcX3_reachFewest_0 55 46 rfl)
theorem dX3_reachFewest_56 : decode cX3_reachFewest 56 = .ok (.if_icmp .ge 45, 3) := dw_162 (kcX3_reachFewest_0 56 162 rfl) (kcX3_reachFewest_0 57 0 rfl) (kcX3_reachFewest_0 58 45 rfl) rfl
theorem dX3_reachFewest_59 : decode cX3_reachFewest 59 = .ok (.aload_n 0, 1) := dw_42 (kcX3_reachFewest_0 59 42 rfl)
theorem dX3_reachFewest_60 : decode cX3_reachFewest 60 = .ok (.getfield 12, 3) := dw_180 (kcX3_reachFewest_0 60 180 rfl) (kcX3_reachFewest_0 61 0 rfl) (kcX3_reachFewest_0 62 12 rfl) rfl
theorem dX3_reachFewest_63 : decode cX3_reachFewest 63 = .ok (.iload_n 2, 1) := dw_28 (kcX3_reachFewest_0 63 28 rfl)
theorem dX3_reachFewest_64 : decode cX3_reachFewest 64 = .ok (.iload_n 3, 1) := dw_29 (kcX3_reachFewest_1 0 29 rfl)
theorem dX3_reachFewest_65 : decode cX3_reachFewest 65 = .ok (.invokevirtual 109, 3) := dw_182 (kcX3_reachFewest_1 1 182 rfl) (kcX3_reachFewest_1 2 0 rfl) (kcX3_reachFewest_1 3 109 rfl) rfl
theorem dX3_reachFewest_68 : decode cX3_reachFewest 68 = .ok (.ifCond .ne 6, 3) := dw_154 (kcX3_reachFewest_1 4 154 rfl) (kcX3_reachFewest_1 5 0 rfl) (kcX3_reachFewest_1 6 6 rfl) rfl
theorem dX3_reachFewest_74 : decode cX3_reachFewest 74 = .ok (.aload_n 0, 1) := dw_42 (kcX3_reachFewest_1 10 42 rfl)
theorem dX3_reachFewest_75 : decode cX3_reachFewest 75 = .ok (.iload_n 2, 1) := dw_28 (kcX3_reachFewest_1 11 28 rfl)
theorem dX3_reachFewest_76 : decode cX3_reachFewest 76 = .ok (.iload_n 3, 1) := dw_29 (kcX3_reachFewest_1 12 29 rfl)
theorem dX3_reachFewest_77 : decode cX3_reachFewest 77 = .ok (.invokevirtual 113, 3) := dw_182 (kcX3_reachFewest_1 13 182 rfl) (kcX3_reachFewest_1 14 0 rfl) (kcX3_reachFewest_1 15 113 rfl) rfl
theorem dX3_reachFewest_80 : decode cX3_reachFewest 80 = .ok (.aload_n 0, 1) := dw_42 (kcX3_reachFewest_1 16 42 rfl)
theorem dX3_reachFewest_81 : decode cX3_reachFewest 81 = .ok (.getfield 29, 3) := dw_180 (kcX3_reachFewest_1 17 180 rfl) (kcX3_reachFewest_1 18 0 rfl) (kcX3_reachFewest_1 19 29 rfl) rfl
theorem dX3_reachFewest_84 : decode cX3_reachFewest 84 = .ok (.iload_n 1, 1) := dw_27 (kcX3_reachFewest_1 20 27 rfl)
theorem dX3_reachFewest_85 : decode cX3_reachFewest 85 = .ok (.dup2, 1) := dw_92 (kcX3_reachFewest_1 21 92 rfl)
theorem dX3_reachFewest_86 : decode cX3_reachFewest 86 = .ok (.iaload, 1) := dw_46 (kcX3_reachFewest_1 22 46 rfl)
theorem dX3_reachFewest_87 : decode cX3_reachFewest 87 = .ok (.iconst 1, 1) := dw_4 (kcX3_reachFewest_1 23 4 rfl)
theorem dX3_reachFewest_88 : decode cX3_reachFewest 88 = .ok (.iadd, 1) := dw_96 (kcX3_reachFewest_1 24 96 rfl)
theorem dX3_reachFewest_89 : decode cX3_reachFewest 89 = .ok (.iastore, 1) := dw_79 (kcX3_reachFewest_1 25 79 rfl)
theorem dX3_reachFewest_90 : decode cX3_reachFewest 90 = .ok (.aload_n 0, 1) := dw_42 (kcX3_reachFewest_1 26 42 rfl)
theorem dX3_reachFewest_91 : decode cX3_reachFewest 91 = .ok (.iload_n 1, 1) := dw_27 (kcX3_reachFewest_1 27 27 rfl)
theorem dX3_reachFewest_92 : decode cX3_reachFewest 92 = .ok (.invokevirtual 94, 3) := dw_182 (kcX3_reachFewest_1 28 182 rfl) (kcX3_reachFewest_1 29 0 rfl) (kcX3_reachFewest_1 30 94 rfl) rfl
theorem dX3_reachFewest_95 : decode cX3_reachFewest 95 = .ok (.iinc 4 1, 3) := dw_132 (kcX3_reachFewest_1 31 132 rfl) (kcX3_reachFewest_1 32 4 rfl) (kcX3_reachFewest_1 33 1 rfl) rfl
theorem dX3_reachFewest_98 : decode cX3_reachFewest 98 = .ok (.goto (-61), 3) := dw_167 (kcX3_reachFewest_1 34 167 rfl) (kcX3_reachFewest_1 35 255 rfl) (kcX3_reachFewest_1 36 195 rfl) rfl
theorem dX3_reachFewest_71 : decode cX3_reachFewest 71 = .ok (.goto 30, 3) := dw_167 (kcX3_reachFewest_1 7 167 rfl) (kcX3_reachFewest_1 8 0 rfl) (kcX3_reachFewest_1 9 30 rfl) rfl
theorem dX3_reachFewest_14 : decode cX3_reachFewest 14 = .ok (.iload_n 1, 1) := dw_27 (kcX3_reachFewest_0 14 27 rfl)
theorem dX3_reachFewest_15 : decode cX3_reachFewest 15 = .ok (.goto 5, 3) := dw_167 (kcX3_reachFewest_0 15 167 rfl) (kcX3_reachFewest_0 16 0 rfl) (kcX3_reachFewest_0 17 5 rfl) rfl
theorem dX3_reachFewest_27 : decode cX3_reachFewest 27 = .ok (.bipush 24, 2) := dw_16 (kcX3_reachFewest_0 27 16 rfl) (kcX3_reachFewest_0 28 24 rfl) rfl
theorem dX3_reachFewest_29 : decode cX3_reachFewest 29 = .ok (.goto 4, 3) := dw_167 (kcX3_reachFewest_0 29 167 rfl) (kcX3_reachFewest_0 30 0 rfl) (kcX3_reachFewest_0 31 4 rfl) rfl
theorem kcX3_bringDown_0 : CHb cX3_bringDown 0 [3, 62, 29, 28, 162, 0, 85, 27, 29, 184, 0, 72, 54, 4, 42, 180, 0, 18, 21, 4, 46, 154, 0, 6, 167, 0, 59, 42, 180, 0, 12, 27, 16, 12, 29, 96, 3, 3, 182, 0, 105, 42, 180, 0, 22, 21, 4, 51, 153, 0, 35, 42, 180, 0, 12, 27, 16, 12, 29, 96, 182, 0, 109, 153] := CHb_of (by decide +kernel)
theorem dX3_bringDown_0 : decode cX3_bringDown 0 = .ok (.iconst 0, 1) := dw_3 (kcX3_bringDown_0 0 3 rfl)
theorem dX3_bringDown_1 : decode cX3_bringDown 1 = .ok (.istore_n 3, 1) := dw_62 (kcX3_bringDown_0 1 62 rfl)
theorem dX3_bringDown_2 : decode cX3_bringDown 2 = .ok (.iload_n 3, 1) := dw_29 (kcX3_bringDown_0 2 29 rfl)
theorem dX3_bringDown_3 : decode cX3_bringDown 3 = .ok (.iload_n 2, 1) := dw_28 (kcX3_bringDown_0 3 28 rfl)
theorem dX3_bringDown_4 : decode cX3_bringDown 4 = .ok (.if_icmp .ge 85, 3) := dw_162 (kcX3_bringDown_0 4 162 rfl) (kcX3_bringDown_0 5 0 rfl) (kcX3_bringDown_0 6 85 rfl) rfl
theorem kcX3_bringDown_1 : CHb cX3_bringDown 64 [0, 20, 42, 27, 16, 12, 29, 96, 182, 0, 113, 42, 180, 0, 22, 21, 4, 3, 84, 132, 3, 1, 167, 255, 172, 177] := CHb_of (by decide +kernel)
theorem dX3_bringDown_89 : decode cX3_bringDown 89 = .ok (.return_, 1) := dw_177 (kcX3_bringDown_1 25 177 rfl)
theorem dX3_bringDown_7 : decode cX3_bringDown 7 = .ok (.iload_n 1, 1) := dw_27 (kcX3_bringDown_0 7 27 rfl)
theorem dX3_bringDown_8 : decode cX3_bringDown 8 = .ok (.iload_n 3, 1) := dw_29 (kcX3_bringDown_0 8 29 rfl)
theorem dX3_bringDown_9 : decode cX3_bringDown 9 = .ok (.invokestatic 72, 3) := dw_184 (kcX3_bringDown_0 9 184 rfl) (kcX3_bringDown_0 10 0 rfl) (kcX3_bringDown_0 11 72 rfl) rfl
theorem dX3_bringDown_12 : decode cX3_bringDown 12 = .ok (.istore 4, 2) := dw_54 (kcX3_bringDown_0 12 54 rfl) (kcX3_bringDown_0 13 4 rfl)
theorem dX3_bringDown_14 : decode cX3_bringDown 14 = .ok (.aload_n 0, 1) := dw_42 (kcX3_bringDown_0 14 42 rfl)
theorem dX3_bringDown_15 : decode cX3_bringDown 15 = .ok (.getfield 18, 3) := dw_180 (kcX3_bringDown_0 15 180 rfl) (kcX3_bringDown_0 16 0 rfl) (kcX3_bringDown_0 17 18 rfl) rfl
theorem dX3_bringDown_18 : decode cX3_bringDown 18 = .ok (.iload 4, 2) := dw_21 (kcX3_bringDown_0 18 21 rfl) (kcX3_bringDown_0 19 4 rfl)
theorem dX3_bringDown_20 : decode cX3_bringDown 20 = .ok (.iaload, 1) := dw_46 (kcX3_bringDown_0 20 46 rfl)
theorem dX3_bringDown_21 : decode cX3_bringDown 21 = .ok (.ifCond .ne 6, 3) := dw_154 (kcX3_bringDown_0 21 154 rfl) (kcX3_bringDown_0 22 0 rfl) (kcX3_bringDown_0 23 6 rfl) rfl
theorem dX3_bringDown_27 : decode cX3_bringDown 27 = .ok (.aload_n 0, 1) := dw_42 (kcX3_bringDown_0 27 42 rfl)
theorem dX3_bringDown_28 : decode cX3_bringDown 28 = .ok (.getfield 12, 3) := dw_180 (kcX3_bringDown_0 28 180 rfl) (kcX3_bringDown_0 29 0 rfl) (kcX3_bringDown_0 30 12 rfl) rfl
theorem dX3_bringDown_31 : decode cX3_bringDown 31 = .ok (.iload_n 1, 1) := dw_27 (kcX3_bringDown_0 31 27 rfl)
theorem dX3_bringDown_32 : decode cX3_bringDown 32 = .ok (.bipush 12, 2) := dw_16 (kcX3_bringDown_0 32 16 rfl) (kcX3_bringDown_0 33 12 rfl) rfl
theorem dX3_bringDown_34 : decode cX3_bringDown 34 = .ok (.iload_n 3, 1) := dw_29 (kcX3_bringDown_0 34 29 rfl)
theorem dX3_bringDown_35 : decode cX3_bringDown 35 = .ok (.iadd, 1) := dw_96 (kcX3_bringDown_0 35 96 rfl)
theorem dX3_bringDown_36 : decode cX3_bringDown 36 = .ok (.iconst 0, 1) := dw_3 (kcX3_bringDown_0 36 3 rfl)
theorem dX3_bringDown_37 : decode cX3_bringDown 37 = .ok (.iconst 0, 1) := dw_3 (kcX3_bringDown_0 37 3 rfl)
theorem dX3_bringDown_38 : decode cX3_bringDown 38 = .ok (.invokevirtual 105, 3) := dw_182 (kcX3_bringDown_0 38 182 rfl) (kcX3_bringDown_0 39 0 rfl) (kcX3_bringDown_0 40 105 rfl) rfl
theorem dX3_bringDown_41 : decode cX3_bringDown 41 = .ok (.aload_n 0, 1) := dw_42 (kcX3_bringDown_0 41 42 rfl)
theorem dX3_bringDown_42 : decode cX3_bringDown 42 = .ok (.getfield 22, 3) := dw_180 (kcX3_bringDown_0 42 180 rfl) (kcX3_bringDown_0 43 0 rfl) (kcX3_bringDown_0 44 22 rfl) rfl
theorem dX3_bringDown_45 : decode cX3_bringDown 45 = .ok (.iload 4, 2) := dw_21 (kcX3_bringDown_0 45 21 rfl) (kcX3_bringDown_0 46 4 rfl)
theorem dX3_bringDown_47 : decode cX3_bringDown 47 = .ok (.baload, 1) := dw_51 (kcX3_bringDown_0 47 51 rfl)
theorem dX3_bringDown_48 : decode cX3_bringDown 48 = .ok (.ifCond .eq 35, 3) := dw_153 (kcX3_bringDown_0 48 153 rfl) (kcX3_bringDown_0 49 0 rfl) (kcX3_bringDown_0 50 35 rfl) rfl
theorem dX3_bringDown_51 : decode cX3_bringDown 51 = .ok (.aload_n 0, 1) := dw_42 (kcX3_bringDown_0 51 42 rfl)
theorem dX3_bringDown_52 : decode cX3_bringDown 52 = .ok (.getfield 12, 3) := dw_180 (kcX3_bringDown_0 52 180 rfl) (kcX3_bringDown_0 53 0 rfl) (kcX3_bringDown_0 54 12 rfl) rfl
theorem dX3_bringDown_55 : decode cX3_bringDown 55 = .ok (.iload_n 1, 1) := dw_27 (kcX3_bringDown_0 55 27 rfl)
theorem dX3_bringDown_56 : decode cX3_bringDown 56 = .ok (.bipush 12, 2) := dw_16 (kcX3_bringDown_0 56 16 rfl) (kcX3_bringDown_0 57 12 rfl) rfl
theorem dX3_bringDown_58 : decode cX3_bringDown 58 = .ok (.iload_n 3, 1) := dw_29 (kcX3_bringDown_0 58 29 rfl)
theorem dX3_bringDown_59 : decode cX3_bringDown 59 = .ok (.iadd, 1) := dw_96 (kcX3_bringDown_0 59 96 rfl)
theorem dX3_bringDown_60 : decode cX3_bringDown 60 = .ok (.invokevirtual 109, 3) := dw_182 (kcX3_bringDown_0 60 182 rfl) (kcX3_bringDown_0 61 0 rfl) (kcX3_bringDown_0 62 109 rfl) rfl
theorem dX3_bringDown_63 : decode cX3_bringDown 63 = .ok (.ifCond .eq 20, 3) := dw_153 (kcX3_bringDown_0 63 153 rfl) (kcX3_bringDown_1 0 0 rfl) (kcX3_bringDown_1 1 20 rfl) rfl
theorem dX3_bringDown_66 : decode cX3_bringDown 66 = .ok (.aload_n 0, 1) := dw_42 (kcX3_bringDown_1 2 42 rfl)
theorem dX3_bringDown_67 : decode cX3_bringDown 67 = .ok (.iload_n 1, 1) := dw_27 (kcX3_bringDown_1 3 27 rfl)
theorem dX3_bringDown_68 : decode cX3_bringDown 68 = .ok (.bipush 12, 2) := dw_16 (kcX3_bringDown_1 4 16 rfl) (kcX3_bringDown_1 5 12 rfl) rfl
theorem dX3_bringDown_70 : decode cX3_bringDown 70 = .ok (.iload_n 3, 1) := dw_29 (kcX3_bringDown_1 6 29 rfl)
theorem dX3_bringDown_71 : decode cX3_bringDown 71 = .ok (.iadd, 1) := dw_96 (kcX3_bringDown_1 7 96 rfl)
theorem dX3_bringDown_72 : decode cX3_bringDown 72 = .ok (.invokevirtual 113, 3) := dw_182 (kcX3_bringDown_1 8 182 rfl) (kcX3_bringDown_1 9 0 rfl) (kcX3_bringDown_1 10 113 rfl) rfl
theorem dX3_bringDown_75 : decode cX3_bringDown 75 = .ok (.aload_n 0, 1) := dw_42 (kcX3_bringDown_1 11 42 rfl)
theorem dX3_bringDown_76 : decode cX3_bringDown 76 = .ok (.getfield 22, 3) := dw_180 (kcX3_bringDown_1 12 180 rfl) (kcX3_bringDown_1 13 0 rfl) (kcX3_bringDown_1 14 22 rfl) rfl
theorem dX3_bringDown_79 : decode cX3_bringDown 79 = .ok (.iload 4, 2) := dw_21 (kcX3_bringDown_1 15 21 rfl) (kcX3_bringDown_1 16 4 rfl)
theorem dX3_bringDown_81 : decode cX3_bringDown 81 = .ok (.iconst 0, 1) := dw_3 (kcX3_bringDown_1 17 3 rfl)
theorem dX3_bringDown_82 : decode cX3_bringDown 82 = .ok (.bastore, 1) := dw_84 (kcX3_bringDown_1 18 84 rfl)
theorem dX3_bringDown_24 : decode cX3_bringDown 24 = .ok (.goto 59, 3) := dw_167 (kcX3_bringDown_0 24 167 rfl) (kcX3_bringDown_0 25 0 rfl) (kcX3_bringDown_0 26 59 rfl) rfl
theorem dX3_bringDown_83 : decode cX3_bringDown 83 = .ok (.iinc 3 1, 3) := dw_132 (kcX3_bringDown_1 19 132 rfl) (kcX3_bringDown_1 20 3 rfl) (kcX3_bringDown_1 21 1 rfl) rfl
theorem dX3_bringDown_86 : decode cX3_bringDown 86 = .ok (.goto (-84), 3) := dw_167 (kcX3_bringDown_1 22 167 rfl) (kcX3_bringDown_1 23 255 rfl) (kcX3_bringDown_1 24 172 rfl) rfl
theorem kcX3_layRow_0 : CHb cX3_layRow 0 [3, 54, 4, 21, 4, 43, 180, 0, 68, 162, 0, 110, 28, 21, 4, 184, 0, 72, 54, 5, 42, 180, 0, 18, 21, 5, 29, 158, 0, 15, 43, 180, 0, 76, 21, 5, 46, 29, 112, 167, 0, 4, 3, 79, 42, 180, 0, 22, 21, 5, 3, 84, 42, 180, 0, 26, 28, 92, 46, 42, 180, 0, 18, 21] := CHb_of (by decide +kernel)
theorem dX3_layRow_0 : decode cX3_layRow 0 = .ok (.iconst 0, 1) := dw_3 (kcX3_layRow_0 0 3 rfl)
theorem dX3_layRow_1 : decode cX3_layRow 1 = .ok (.istore 4, 2) := dw_54 (kcX3_layRow_0 1 54 rfl) (kcX3_layRow_0 2 4 rfl)
theorem dX3_layRow_3 : decode cX3_layRow 3 = .ok (.iload 4, 2) := dw_21 (kcX3_layRow_0 3 21 rfl) (kcX3_layRow_0 4 4 rfl)
theorem dX3_layRow_5 : decode cX3_layRow 5 = .ok (.aload_n 1, 1) := dw_43 (kcX3_layRow_0 5 43 rfl)
theorem dX3_layRow_6 : decode cX3_layRow 6 = .ok (.getfield 68, 3) := dw_180 (kcX3_layRow_0 6 180 rfl) (kcX3_layRow_0 7 0 rfl) (kcX3_layRow_0 8 68 rfl) rfl
theorem dX3_layRow_9 : decode cX3_layRow 9 = .ok (.if_icmp .ge 110, 3) := dw_162 (kcX3_layRow_0 9 162 rfl) (kcX3_layRow_0 10 0 rfl) (kcX3_layRow_0 11 110 rfl) rfl
theorem kcX3_layRow_1 : CHb cX3_layRow 64 [5, 46, 96, 79, 42, 180, 0, 26, 16, 12, 21, 4, 96, 92, 46, 42, 180, 0, 18, 21, 5, 46, 96, 79, 42, 180, 0, 18, 21, 5, 46, 158, 0, 18, 42, 180, 0, 12, 28, 16, 12, 21, 4, 96, 4, 3, 182, 0, 105, 132, 4, 1, 167, 255, 143, 177] := CHb_of (by decide +kernel)
theorem dX3_layRow_119 : decode cX3_layRow 119 = .ok (.return_, 1) := dw_177 (kcX3_layRow_1 55 177 rfl)
theorem dX3_layRow_12 : decode cX3_layRow 12 = .ok (.iload_n 2, 1) := dw_28 (kcX3_layRow_0 12 28 rfl)
theorem dX3_layRow_13 : decode cX3_layRow 13 = .ok (.iload 4, 2) := dw_21 (kcX3_layRow_0 13 21 rfl) (kcX3_layRow_0 14 4 rfl)
theorem dX3_layRow_15 : decode cX3_layRow 15 = .ok (.invokestatic 72, 3) := dw_184 (kcX3_layRow_0 15 184 rfl) (kcX3_layRow_0 16 0 rfl) (kcX3_layRow_0 17 72 rfl) rfl
theorem dX3_layRow_18 : decode cX3_layRow 18 = .ok (.istore 5, 2) := dw_54 (kcX3_layRow_0 18 54 rfl) (kcX3_layRow_0 19 5 rfl)
theorem dX3_layRow_20 : decode cX3_layRow 20 = .ok (.aload_n 0, 1) := dw_42 (kcX3_layRow_0 20 42 rfl)
theorem dX3_layRow_21 : decode cX3_layRow 21 = .ok (.getfield 18, 3) := dw_180 (kcX3_layRow_0 21 180 rfl) (kcX3_layRow_0 22 0 rfl) (kcX3_layRow_0 23 18 rfl) rfl
theorem dX3_layRow_24 : decode cX3_layRow 24 = .ok (.iload 5, 2) := dw_21 (kcX3_layRow_0 24 21 rfl) (kcX3_layRow_0 25 5 rfl)
theorem dX3_layRow_26 : decode cX3_layRow 26 = .ok (.iload_n 3, 1) := dw_29 (kcX3_layRow_0 26 29 rfl)
theorem dX3_layRow_27 : decode cX3_layRow 27 = .ok (.ifCond .le 15, 3) := dw_158 (kcX3_layRow_0 27 158 rfl) (kcX3_layRow_0 28 0 rfl) (kcX3_layRow_0 29 15 rfl) rfl
theorem dX3_layRow_42 : decode cX3_layRow 42 = .ok (.iconst 0, 1) := dw_3 (kcX3_layRow_0 42 3 rfl)
theorem dX3_layRow_30 : decode cX3_layRow 30 = .ok (.aload_n 1, 1) := dw_43 (kcX3_layRow_0 30 43 rfl)
theorem dX3_layRow_31 : decode cX3_layRow 31 = .ok (.getfield 76, 3) := dw_180 (kcX3_layRow_0 31 180 rfl) (kcX3_layRow_0 32 0 rfl) (kcX3_layRow_0 33 76 rfl) rfl
theorem dX3_layRow_34 : decode cX3_layRow 34 = .ok (.iload 5, 2) := dw_21 (kcX3_layRow_0 34 21 rfl) (kcX3_layRow_0 35 5 rfl)
theorem dX3_layRow_36 : decode cX3_layRow 36 = .ok (.iaload, 1) := dw_46 (kcX3_layRow_0 36 46 rfl)
theorem dX3_layRow_37 : decode cX3_layRow 37 = .ok (.iload_n 3, 1) := dw_29 (kcX3_layRow_0 37 29 rfl)
theorem dX3_layRow_38 : decode cX3_layRow 38 = .ok (.irem, 1) := dw_112 (kcX3_layRow_0 38 112 rfl)
theorem dX3_layRow_39 : decode cX3_layRow 39 = .ok (.goto 4, 3) := dw_167 (kcX3_layRow_0 39 167 rfl) (kcX3_layRow_0 40 0 rfl) (kcX3_layRow_0 41 4 rfl) rfl
theorem dX3_layRow_43 : decode cX3_layRow 43 = .ok (.iastore, 1) := dw_79 (kcX3_layRow_0 43 79 rfl)
theorem dX3_layRow_44 : decode cX3_layRow 44 = .ok (.aload_n 0, 1) := dw_42 (kcX3_layRow_0 44 42 rfl)
theorem dX3_layRow_45 : decode cX3_layRow 45 = .ok (.getfield 22, 3) := dw_180 (kcX3_layRow_0 45 180 rfl) (kcX3_layRow_0 46 0 rfl) (kcX3_layRow_0 47 22 rfl) rfl
theorem dX3_layRow_48 : decode cX3_layRow 48 = .ok (.iload 5, 2) := dw_21 (kcX3_layRow_0 48 21 rfl) (kcX3_layRow_0 49 5 rfl)
theorem dX3_layRow_50 : decode cX3_layRow 50 = .ok (.iconst 0, 1) := dw_3 (kcX3_layRow_0 50 3 rfl)
theorem dX3_layRow_51 : decode cX3_layRow 51 = .ok (.bastore, 1) := dw_84 (kcX3_layRow_0 51 84 rfl)
theorem dX3_layRow_52 : decode cX3_layRow 52 = .ok (.aload_n 0, 1) := dw_42 (kcX3_layRow_0 52 42 rfl)
theorem dX3_layRow_53 : decode cX3_layRow 53 = .ok (.getfield 26, 3) := dw_180 (kcX3_layRow_0 53 180 rfl) (kcX3_layRow_0 54 0 rfl) (kcX3_layRow_0 55 26 rfl) rfl
theorem dX3_layRow_56 : decode cX3_layRow 56 = .ok (.iload_n 2, 1) := dw_28 (kcX3_layRow_0 56 28 rfl)
theorem dX3_layRow_57 : decode cX3_layRow 57 = .ok (.dup2, 1) := dw_92 (kcX3_layRow_0 57 92 rfl)
theorem dX3_layRow_58 : decode cX3_layRow 58 = .ok (.iaload, 1) := dw_46 (kcX3_layRow_0 58 46 rfl)
theorem dX3_layRow_59 : decode cX3_layRow 59 = .ok (.aload_n 0, 1) := dw_42 (kcX3_layRow_0 59 42 rfl)
theorem dX3_layRow_60 : decode cX3_layRow 60 = .ok (.getfield 18, 3) := dw_180 (kcX3_layRow_0 60 180 rfl) (kcX3_layRow_0 61 0 rfl) (kcX3_layRow_0 62 18 rfl) rfl
theorem dX3_layRow_63 : decode cX3_layRow 63 = .ok (.iload 5, 2) := dw_21 (kcX3_layRow_0 63 21 rfl) (kcX3_layRow_1 0 5 rfl)
theorem dX3_layRow_65 : decode cX3_layRow 65 = .ok (.iaload, 1) := dw_46 (kcX3_layRow_1 1 46 rfl)
theorem dX3_layRow_66 : decode cX3_layRow 66 = .ok (.iadd, 1) := dw_96 (kcX3_layRow_1 2 96 rfl)
theorem dX3_layRow_67 : decode cX3_layRow 67 = .ok (.iastore, 1) := dw_79 (kcX3_layRow_1 3 79 rfl)
theorem dX3_layRow_68 : decode cX3_layRow 68 = .ok (.aload_n 0, 1) := dw_42 (kcX3_layRow_1 4 42 rfl)
theorem dX3_layRow_69 : decode cX3_layRow 69 = .ok (.getfield 26, 3) := dw_180 (kcX3_layRow_1 5 180 rfl) (kcX3_layRow_1 6 0 rfl) (kcX3_layRow_1 7 26 rfl) rfl
theorem dX3_layRow_72 : decode cX3_layRow 72 = .ok (.bipush 12, 2) := dw_16 (kcX3_layRow_1 8 16 rfl) (kcX3_layRow_1 9 12 rfl) rfl
theorem dX3_layRow_74 : decode cX3_layRow 74 = .ok (.iload 4, 2) := dw_21 (kcX3_layRow_1 10 21 rfl) (kcX3_layRow_1 11 4 rfl)
theorem dX3_layRow_76 : decode cX3_layRow 76 = .ok (.iadd, 1) := dw_96 (kcX3_layRow_1 12 96 rfl)
theorem dX3_layRow_77 : decode cX3_layRow 77 = .ok (.dup2, 1) := dw_92 (kcX3_layRow_1 13 92 rfl)
theorem dX3_layRow_78 : decode cX3_layRow 78 = .ok (.iaload, 1) := dw_46 (kcX3_layRow_1 14 46 rfl)
theorem dX3_layRow_79 : decode cX3_layRow 79 = .ok (.aload_n 0, 1) := dw_42 (kcX3_layRow_1 15 42 rfl)
theorem dX3_layRow_80 : decode cX3_layRow 80 = .ok (.getfield 18, 3) := dw_180 (kcX3_layRow_1 16 180 rfl) (kcX3_layRow_1 17 0 rfl) (kcX3_layRow_1 18 18 rfl) rfl
theorem dX3_layRow_83 : decode cX3_layRow 83 = .ok (.iload 5, 2) := dw_21 (kcX3_layRow_1 19 21 rfl) (kcX3_layRow_1 20 5 rfl)
theorem dX3_layRow_85 : decode cX3_layRow 85 = .ok (.iaload, 1) := dw_46 (kcX3_layRow_1 21 46 rfl)
theorem dX3_layRow_86 : decode cX3_layRow 86 = .ok (.iadd, 1) := dw_96 (kcX3_layRow_1 22 96 rfl)
theorem dX3_layRow_87 : decode cX3_layRow 87 = .ok (.iastore, 1) := dw_79 (kcX3_layRow_1 23 79 rfl)
theorem dX3_layRow_88 : decode cX3_layRow 88 = .ok (.aload_n 0, 1) := dw_42 (kcX3_layRow_1 24 42 rfl)
theorem dX3_layRow_89 : decode cX3_layRow 89 = .ok (.getfield 18, 3) := dw_180 (kcX3_layRow_1 25 180 rfl) (kcX3_layRow_1 26 0 rfl) (kcX3_layRow_1 27 18 rfl) rfl
theorem dX3_layRow_92 : decode cX3_layRow 92 = .ok (.iload 5, 2) := dw_21 (kcX3_layRow_1 28 21 rfl) (kcX3_layRow_1 29 5 rfl)
theorem dX3_layRow_94 : decode cX3_layRow 94 = .ok (.iaload, 1) := dw_46 (kcX3_layRow_1 30 46 rfl)
theorem dX3_layRow_95 : decode cX3_layRow 95 = .ok (.ifCond .le 18, 3) := dw_158 (kcX3_layRow_1 31 158 rfl) (kcX3_layRow_1 32 0 rfl) (kcX3_layRow_1 33 18 rfl) rfl
theorem dX3_layRow_98 : decode cX3_layRow 98 = .ok (.aload_n 0, 1) := dw_42 (kcX3_layRow_1 34 42 rfl)
theorem dX3_layRow_99 : decode cX3_layRow 99 = .ok (.getfield 12, 3) := dw_180 (kcX3_layRow_1 35 180 rfl) (kcX3_layRow_1 36 0 rfl) (kcX3_layRow_1 37 12 rfl) rfl
theorem dX3_layRow_102 : decode cX3_layRow 102 = .ok (.iload_n 2, 1) := dw_28 (kcX3_layRow_1 38 28 rfl)
theorem dX3_layRow_103 : decode cX3_layRow 103 = .ok (.bipush 12, 2) := dw_16 (kcX3_layRow_1 39 16 rfl) (kcX3_layRow_1 40 12 rfl) rfl
theorem dX3_layRow_105 : decode cX3_layRow 105 = .ok (.iload 4, 2) := dw_21 (kcX3_layRow_1 41 21 rfl) (kcX3_layRow_1 42 4 rfl)
theorem dX3_layRow_107 : decode cX3_layRow 107 = .ok (.iadd, 1) := dw_96 (kcX3_layRow_1 43 96 rfl)
theorem dX3_layRow_108 : decode cX3_layRow 108 = .ok (.iconst 1, 1) := dw_4 (kcX3_layRow_1 44 4 rfl)
theorem dX3_layRow_109 : decode cX3_layRow 109 = .ok (.iconst 0, 1) := dw_3 (kcX3_layRow_1 45 3 rfl)
theorem dX3_layRow_110 : decode cX3_layRow 110 = .ok (.invokevirtual 105, 3) := dw_182 (kcX3_layRow_1 46 182 rfl) (kcX3_layRow_1 47 0 rfl) (kcX3_layRow_1 48 105 rfl) rfl
theorem dX3_layRow_113 : decode cX3_layRow 113 = .ok (.iinc 4 1, 3) := dw_132 (kcX3_layRow_1 49 132 rfl) (kcX3_layRow_1 50 4 rfl) (kcX3_layRow_1 51 1 rfl) rfl
theorem dX3_layRow_116 : decode cX3_layRow 116 = .ok (.goto (-113), 3) := dw_167 (kcX3_layRow_1 52 167 rfl) (kcX3_layRow_1 53 255 rfl) (kcX3_layRow_1 54 143 rfl) rfl
theorem kcX3_isFirstOfClass_0 : CHb cX3_isFirstOfClass 0 [3, 62, 29, 28, 162, 0, 35, 43, 180, 0, 47, 29, 51, 153, 0, 20, 43, 180, 0, 54, 29, 46, 43, 180, 0, 54, 28, 46, 160, 0, 5, 3, 172, 132, 3, 1, 167, 255, 222, 4, 172] := CHb_of (by decide +kernel)
theorem dX3_isFirstOfClass_0 : decode cX3_isFirstOfClass 0 = .ok (.iconst 0, 1) := dw_3 (kcX3_isFirstOfClass_0 0 3 rfl)
theorem dX3_isFirstOfClass_1 : decode cX3_isFirstOfClass 1 = .ok (.istore_n 3, 1) := dw_62 (kcX3_isFirstOfClass_0 1 62 rfl)
theorem dX3_isFirstOfClass_2 : decode cX3_isFirstOfClass 2 = .ok (.iload_n 3, 1) := dw_29 (kcX3_isFirstOfClass_0 2 29 rfl)
theorem dX3_isFirstOfClass_3 : decode cX3_isFirstOfClass 3 = .ok (.iload_n 2, 1) := dw_28 (kcX3_isFirstOfClass_0 3 28 rfl)
theorem dX3_isFirstOfClass_4 : decode cX3_isFirstOfClass 4 = .ok (.if_icmp .ge 35, 3) := dw_162 (kcX3_isFirstOfClass_0 4 162 rfl) (kcX3_isFirstOfClass_0 5 0 rfl) (kcX3_isFirstOfClass_0 6 35 rfl) rfl
theorem dX3_isFirstOfClass_39 : decode cX3_isFirstOfClass 39 = .ok (.iconst 1, 1) := dw_4 (kcX3_isFirstOfClass_0 39 4 rfl)
theorem dX3_isFirstOfClass_40 : decode cX3_isFirstOfClass 40 = .ok (.ireturn, 1) := dw_172 (kcX3_isFirstOfClass_0 40 172 rfl)
theorem dX3_isFirstOfClass_7 : decode cX3_isFirstOfClass 7 = .ok (.aload_n 1, 1) := dw_43 (kcX3_isFirstOfClass_0 7 43 rfl)
theorem dX3_isFirstOfClass_8 : decode cX3_isFirstOfClass 8 = .ok (.getfield 47, 3) := dw_180 (kcX3_isFirstOfClass_0 8 180 rfl) (kcX3_isFirstOfClass_0 9 0 rfl) (kcX3_isFirstOfClass_0 10 47 rfl) rfl
theorem dX3_isFirstOfClass_11 : decode cX3_isFirstOfClass 11 = .ok (.iload_n 3, 1) := dw_29 (kcX3_isFirstOfClass_0 11 29 rfl)
theorem dX3_isFirstOfClass_12 : decode cX3_isFirstOfClass 12 = .ok (.baload, 1) := dw_51 (kcX3_isFirstOfClass_0 12 51 rfl)
theorem dX3_isFirstOfClass_13 : decode cX3_isFirstOfClass 13 = .ok (.ifCond .eq 20, 3) := dw_153 (kcX3_isFirstOfClass_0 13 153 rfl) (kcX3_isFirstOfClass_0 14 0 rfl) (kcX3_isFirstOfClass_0 15 20 rfl) rfl
theorem dX3_isFirstOfClass_33 : decode cX3_isFirstOfClass 33 = .ok (.iinc 3 1, 3) := dw_132 (kcX3_isFirstOfClass_0 33 132 rfl) (kcX3_isFirstOfClass_0 34 3 rfl) (kcX3_isFirstOfClass_0 35 1 rfl) rfl
theorem dX3_isFirstOfClass_36 : decode cX3_isFirstOfClass 36 = .ok (.goto (-34), 3) := dw_167 (kcX3_isFirstOfClass_0 36 167 rfl) (kcX3_isFirstOfClass_0 37 255 rfl) (kcX3_isFirstOfClass_0 38 222 rfl) rfl
theorem dX3_isFirstOfClass_16 : decode cX3_isFirstOfClass 16 = .ok (.aload_n 1, 1) := dw_43 (kcX3_isFirstOfClass_0 16 43 rfl)
theorem dX3_isFirstOfClass_17 : decode cX3_isFirstOfClass 17 = .ok (.getfield 54, 3) := dw_180 (kcX3_isFirstOfClass_0 17 180 rfl) (kcX3_isFirstOfClass_0 18 0 rfl) (kcX3_isFirstOfClass_0 19 54 rfl) rfl
theorem dX3_isFirstOfClass_20 : decode cX3_isFirstOfClass 20 = .ok (.iload_n 3, 1) := dw_29 (kcX3_isFirstOfClass_0 20 29 rfl)
theorem dX3_isFirstOfClass_21 : decode cX3_isFirstOfClass 21 = .ok (.iaload, 1) := dw_46 (kcX3_isFirstOfClass_0 21 46 rfl)
theorem dX3_isFirstOfClass_22 : decode cX3_isFirstOfClass 22 = .ok (.aload_n 1, 1) := dw_43 (kcX3_isFirstOfClass_0 22 43 rfl)
theorem dX3_isFirstOfClass_23 : decode cX3_isFirstOfClass 23 = .ok (.getfield 54, 3) := dw_180 (kcX3_isFirstOfClass_0 23 180 rfl) (kcX3_isFirstOfClass_0 24 0 rfl) (kcX3_isFirstOfClass_0 25 54 rfl) rfl
theorem dX3_isFirstOfClass_26 : decode cX3_isFirstOfClass 26 = .ok (.iload_n 2, 1) := dw_28 (kcX3_isFirstOfClass_0 26 28 rfl)
theorem dX3_isFirstOfClass_27 : decode cX3_isFirstOfClass 27 = .ok (.iaload, 1) := dw_46 (kcX3_isFirstOfClass_0 27 46 rfl)
theorem dX3_isFirstOfClass_28 : decode cX3_isFirstOfClass 28 = .ok (.if_icmp .ne 5, 3) := dw_160 (kcX3_isFirstOfClass_0 28 160 rfl) (kcX3_isFirstOfClass_0 29 0 rfl) (kcX3_isFirstOfClass_0 30 5 rfl) rfl
theorem dX3_isFirstOfClass_31 : decode cX3_isFirstOfClass 31 = .ok (.iconst 0, 1) := dw_3 (kcX3_isFirstOfClass_0 31 3 rfl)
theorem dX3_isFirstOfClass_32 : decode cX3_isFirstOfClass 32 = .ok (.ireturn, 1) := dw_172 (kcX3_isFirstOfClass_0 32 172 rfl)
theorem kcX3_roundClass_0 : CHb cX3_roundClass 0 [42, 180, 0, 12, 182, 0, 82, 42, 180, 0, 29, 3, 184, 0, 85, 42, 180, 0, 26, 3, 184, 0, 85, 3, 54, 4, 21, 4, 43, 180, 0, 41, 162, 0, 60, 42, 180, 0, 38, 21, 4, 43, 180, 0, 47, 21, 4, 51, 153, 0, 18, 43, 180, 0, 54, 21, 4, 46, 28, 160, 0, 7, 4, 167] := CHb_of (by decide +kernel)
theorem dX3_roundClass_0 : decode cX3_roundClass 0 = .ok (.aload_n 0, 1) := dw_42 (kcX3_roundClass_0 0 42 rfl)
theorem dX3_roundClass_1 : decode cX3_roundClass 1 = .ok (.getfield 12, 3) := dw_180 (kcX3_roundClass_0 1 180 rfl) (kcX3_roundClass_0 2 0 rfl) (kcX3_roundClass_0 3 12 rfl) rfl
theorem dX3_roundClass_4 : decode cX3_roundClass 4 = .ok (.invokevirtual 82, 3) := dw_182 (kcX3_roundClass_0 4 182 rfl) (kcX3_roundClass_0 5 0 rfl) (kcX3_roundClass_0 6 82 rfl) rfl
theorem dX3_roundClass_7 : decode cX3_roundClass 7 = .ok (.aload_n 0, 1) := dw_42 (kcX3_roundClass_0 7 42 rfl)
theorem dX3_roundClass_8 : decode cX3_roundClass 8 = .ok (.getfield 29, 3) := dw_180 (kcX3_roundClass_0 8 180 rfl) (kcX3_roundClass_0 9 0 rfl) (kcX3_roundClass_0 10 29 rfl) rfl
theorem dX3_roundClass_11 : decode cX3_roundClass 11 = .ok (.iconst 0, 1) := dw_3 (kcX3_roundClass_0 11 3 rfl)
theorem dX3_roundClass_12 : decode cX3_roundClass 12 = .ok (.invokestatic 85, 3) := dw_184 (kcX3_roundClass_0 12 184 rfl) (kcX3_roundClass_0 13 0 rfl) (kcX3_roundClass_0 14 85 rfl) rfl
theorem dX3_roundClass_15 : decode cX3_roundClass 15 = .ok (.aload_n 0, 1) := dw_42 (kcX3_roundClass_0 15 42 rfl)
theorem dX3_roundClass_16 : decode cX3_roundClass 16 = .ok (.getfield 26, 3) := dw_180 (kcX3_roundClass_0 16 180 rfl) (kcX3_roundClass_0 17 0 rfl) (kcX3_roundClass_0 18 26 rfl) rfl
theorem dX3_roundClass_19 : decode cX3_roundClass 19 = .ok (.iconst 0, 1) := dw_3 (kcX3_roundClass_0 19 3 rfl)
theorem dX3_roundClass_20 : decode cX3_roundClass 20 = .ok (.invokestatic 85, 3) := dw_184 (kcX3_roundClass_0 20 184 rfl) (kcX3_roundClass_0 21 0 rfl) (kcX3_roundClass_0 22 85 rfl) rfl
theorem dX3_roundClass_23 : decode cX3_roundClass 23 = .ok (.iconst 0, 1) := dw_3 (kcX3_roundClass_0 23 3 rfl)
theorem dX3_roundClass_24 : decode cX3_roundClass 24 = .ok (.istore 4, 2) := dw_54 (kcX3_roundClass_0 24 54 rfl) (kcX3_roundClass_0 25 4 rfl)
theorem dX3_roundClass_26 : decode cX3_roundClass 26 = .ok (.iload 4, 2) := dw_21 (kcX3_roundClass_0 26 21 rfl) (kcX3_roundClass_0 27 4 rfl)
theorem dX3_roundClass_28 : decode cX3_roundClass 28 = .ok (.aload_n 1, 1) := dw_43 (kcX3_roundClass_0 28 43 rfl)
theorem dX3_roundClass_29 : decode cX3_roundClass 29 = .ok (.getfield 41, 3) := dw_180 (kcX3_roundClass_0 29 180 rfl) (kcX3_roundClass_0 30 0 rfl) (kcX3_roundClass_0 31 41 rfl) rfl
theorem dX3_roundClass_32 : decode cX3_roundClass 32 = .ok (.if_icmp .ge 60, 3) := dw_162 (kcX3_roundClass_0 32 162 rfl) (kcX3_roundClass_0 33 0 rfl) (kcX3_roundClass_0 34 60 rfl) rfl
theorem dX3_roundClass_35 : decode cX3_roundClass 35 = .ok (.aload_n 0, 1) := dw_42 (kcX3_roundClass_0 35 42 rfl)
theorem dX3_roundClass_36 : decode cX3_roundClass 36 = .ok (.getfield 38, 3) := dw_180 (kcX3_roundClass_0 36 180 rfl) (kcX3_roundClass_0 37 0 rfl) (kcX3_roundClass_0 38 38 rfl) rfl
theorem dX3_roundClass_39 : decode cX3_roundClass 39 = .ok (.iload 4, 2) := dw_21 (kcX3_roundClass_0 39 21 rfl) (kcX3_roundClass_0 40 4 rfl)
theorem dX3_roundClass_41 : decode cX3_roundClass 41 = .ok (.aload_n 1, 1) := dw_43 (kcX3_roundClass_0 41 43 rfl)
theorem dX3_roundClass_42 : decode cX3_roundClass 42 = .ok (.getfield 47, 3) := dw_180 (kcX3_roundClass_0 42 180 rfl) (kcX3_roundClass_0 43 0 rfl) (kcX3_roundClass_0 44 47 rfl) rfl
theorem dX3_roundClass_45 : decode cX3_roundClass 45 = .ok (.iload 4, 2) := dw_21 (kcX3_roundClass_0 45 21 rfl) (kcX3_roundClass_0 46 4 rfl)
theorem dX3_roundClass_47 : decode cX3_roundClass 47 = .ok (.baload, 1) := dw_51 (kcX3_roundClass_0 47 51 rfl)
theorem dX3_roundClass_48 : decode cX3_roundClass 48 = .ok (.ifCond .eq 18, 3) := dw_153 (kcX3_roundClass_0 48 153 rfl) (kcX3_roundClass_0 49 0 rfl) (kcX3_roundClass_0 50 18 rfl) rfl
theorem kcX3_roundClass_1 : CHb cX3_roundClass 64 [0, 4, 3, 84, 42, 180, 0, 38, 21, 4, 51, 153, 0, 11, 42, 43, 21, 4, 29, 182, 0, 91, 132, 4, 1, 167, 255, 193, 3, 54, 4, 21, 4, 16, 24, 162, 0, 67, 42, 180, 0, 32, 21, 4, 29, 158, 0, 15, 42, 180, 0, 26, 21, 4, 46, 29, 108, 167, 0, 4, 3, 79, 42, 180] := CHb_of (by decide +kernel)
theorem dX3_roundClass_66 : decode cX3_roundClass 66 = .ok (.iconst 0, 1) := dw_3 (kcX3_roundClass_1 2 3 rfl)
theorem dX3_roundClass_51 : decode cX3_roundClass 51 = .ok (.aload_n 1, 1) := dw_43 (kcX3_roundClass_0 51 43 rfl)
theorem dX3_roundClass_52 : decode cX3_roundClass 52 = .ok (.getfield 54, 3) := dw_180 (kcX3_roundClass_0 52 180 rfl) (kcX3_roundClass_0 53 0 rfl) (kcX3_roundClass_0 54 54 rfl) rfl
theorem dX3_roundClass_55 : decode cX3_roundClass 55 = .ok (.iload 4, 2) := dw_21 (kcX3_roundClass_0 55 21 rfl) (kcX3_roundClass_0 56 4 rfl)
theorem dX3_roundClass_57 : decode cX3_roundClass 57 = .ok (.iaload, 1) := dw_46 (kcX3_roundClass_0 57 46 rfl)
theorem dX3_roundClass_58 : decode cX3_roundClass 58 = .ok (.iload_n 2, 1) := dw_28 (kcX3_roundClass_0 58 28 rfl)
theorem dX3_roundClass_59 : decode cX3_roundClass 59 = .ok (.if_icmp .ne 7, 3) := dw_160 (kcX3_roundClass_0 59 160 rfl) (kcX3_roundClass_0 60 0 rfl) (kcX3_roundClass_0 61 7 rfl) rfl
theorem dX3_roundClass_62 : decode cX3_roundClass 62 = .ok (.iconst 1, 1) := dw_4 (kcX3_roundClass_0 62 4 rfl)
theorem dX3_roundClass_63 : decode cX3_roundClass 63 = .ok (.goto 4, 3) := dw_167 (kcX3_roundClass_0 63 167 rfl) (kcX3_roundClass_1 0 0 rfl) (kcX3_roundClass_1 1 4 rfl) rfl
theorem dX3_roundClass_67 : decode cX3_roundClass 67 = .ok (.bastore, 1) := dw_84 (kcX3_roundClass_1 3 84 rfl)
theorem dX3_roundClass_68 : decode cX3_roundClass 68 = .ok (.aload_n 0, 1) := dw_42 (kcX3_roundClass_1 4 42 rfl)
theorem dX3_roundClass_69 : decode cX3_roundClass 69 = .ok (.getfield 38, 3) := dw_180 (kcX3_roundClass_1 5 180 rfl) (kcX3_roundClass_1 6 0 rfl) (kcX3_roundClass_1 7 38 rfl) rfl
theorem dX3_roundClass_72 : decode cX3_roundClass 72 = .ok (.iload 4, 2) := dw_21 (kcX3_roundClass_1 8 21 rfl) (kcX3_roundClass_1 9 4 rfl)
theorem dX3_roundClass_74 : decode cX3_roundClass 74 = .ok (.baload, 1) := dw_51 (kcX3_roundClass_1 10 51 rfl)
theorem dX3_roundClass_75 : decode cX3_roundClass 75 = .ok (.ifCond .eq 11, 3) := dw_153 (kcX3_roundClass_1 11 153 rfl) (kcX3_roundClass_1 12 0 rfl) (kcX3_roundClass_1 13 11 rfl) rfl
theorem dX3_roundClass_78 : decode cX3_roundClass 78 = .ok (.aload_n 0, 1) := dw_42 (kcX3_roundClass_1 14 42 rfl)
theorem dX3_roundClass_79 : decode cX3_roundClass 79 = .ok (.aload_n 1, 1) := dw_43 (kcX3_roundClass_1 15 43 rfl)
theorem dX3_roundClass_80 : decode cX3_roundClass 80 = .ok (.iload 4, 2) := dw_21 (kcX3_roundClass_1 16 21 rfl) (kcX3_roundClass_1 17 4 rfl)
theorem dX3_roundClass_82 : decode cX3_roundClass 82 = .ok (.iload_n 3, 1) := dw_29 (kcX3_roundClass_1 18 29 rfl)
theorem dX3_roundClass_83 : decode cX3_roundClass 83 = .ok (.invokevirtual 91, 3) := dw_182 (kcX3_roundClass_1 19 182 rfl) (kcX3_roundClass_1 20 0 rfl) (kcX3_roundClass_1 21 91 rfl) rfl
theorem dX3_roundClass_86 : decode cX3_roundClass 86 = .ok (.iinc 4 1, 3) := dw_132 (kcX3_roundClass_1 22 132 rfl) (kcX3_roundClass_1 23 4 rfl) (kcX3_roundClass_1 24 1 rfl) rfl
theorem dX3_roundClass_89 : decode cX3_roundClass 89 = .ok (.goto (-63), 3) := dw_167 (kcX3_roundClass_1 25 167 rfl) (kcX3_roundClass_1 26 255 rfl) (kcX3_roundClass_1 27 193 rfl) rfl
theorem dX3_roundClass_92 : decode cX3_roundClass 92 = .ok (.iconst 0, 1) := dw_3 (kcX3_roundClass_1 28 3 rfl)
theorem dX3_roundClass_93 : decode cX3_roundClass 93 = .ok (.istore 4, 2) := dw_54 (kcX3_roundClass_1 29 54 rfl) (kcX3_roundClass_1 30 4 rfl)
theorem dX3_roundClass_95 : decode cX3_roundClass 95 = .ok (.iload 4, 2) := dw_21 (kcX3_roundClass_1 31 21 rfl) (kcX3_roundClass_1 32 4 rfl)
theorem dX3_roundClass_97 : decode cX3_roundClass 97 = .ok (.bipush 24, 2) := dw_16 (kcX3_roundClass_1 33 16 rfl) (kcX3_roundClass_1 34 24 rfl) rfl
theorem dX3_roundClass_99 : decode cX3_roundClass 99 = .ok (.if_icmp .ge 67, 3) := dw_162 (kcX3_roundClass_1 35 162 rfl) (kcX3_roundClass_1 36 0 rfl) (kcX3_roundClass_1 37 67 rfl) rfl
theorem dX3_roundClass_102 : decode cX3_roundClass 102 = .ok (.aload_n 0, 1) := dw_42 (kcX3_roundClass_1 38 42 rfl)
theorem dX3_roundClass_103 : decode cX3_roundClass 103 = .ok (.getfield 32, 3) := dw_180 (kcX3_roundClass_1 39 180 rfl) (kcX3_roundClass_1 40 0 rfl) (kcX3_roundClass_1 41 32 rfl) rfl
theorem dX3_roundClass_106 : decode cX3_roundClass 106 = .ok (.iload 4, 2) := dw_21 (kcX3_roundClass_1 42 21 rfl) (kcX3_roundClass_1 43 4 rfl)
theorem dX3_roundClass_108 : decode cX3_roundClass 108 = .ok (.iload_n 3, 1) := dw_29 (kcX3_roundClass_1 44 29 rfl)
theorem dX3_roundClass_109 : decode cX3_roundClass 109 = .ok (.ifCond .le 15, 3) := dw_158 (kcX3_roundClass_1 45 158 rfl) (kcX3_roundClass_1 46 0 rfl) (kcX3_roundClass_1 47 15 rfl) rfl
theorem dX3_roundClass_124 : decode cX3_roundClass 124 = .ok (.iconst 0, 1) := dw_3 (kcX3_roundClass_1 60 3 rfl)
theorem dX3_roundClass_112 : decode cX3_roundClass 112 = .ok (.aload_n 0, 1) := dw_42 (kcX3_roundClass_1 48 42 rfl)
theorem dX3_roundClass_113 : decode cX3_roundClass 113 = .ok (.getfield 26, 3) := dw_180 (kcX3_roundClass_1 49 180 rfl) (kcX3_roundClass_1 50 0 rfl) (kcX3_roundClass_1 51 26 rfl) rfl
theorem dX3_roundClass_116 : decode cX3_roundClass 116 = .ok (.iload 4, 2) := dw_21 (kcX3_roundClass_1 52 21 rfl) (kcX3_roundClass_1 53 4 rfl)
theorem dX3_roundClass_118 : decode cX3_roundClass 118 = .ok (.iaload, 1) := dw_46 (kcX3_roundClass_1 54 46 rfl)
theorem dX3_roundClass_119 : decode cX3_roundClass 119 = .ok (.iload_n 3, 1) := dw_29 (kcX3_roundClass_1 55 29 rfl)
theorem dX3_roundClass_120 : decode cX3_roundClass 120 = .ok (.idiv, 1) := dw_108 (kcX3_roundClass_1 56 108 rfl)
theorem dX3_roundClass_121 : decode cX3_roundClass 121 = .ok (.goto 4, 3) := dw_167 (kcX3_roundClass_1 57 167 rfl) (kcX3_roundClass_1 58 0 rfl) (kcX3_roundClass_1 59 4 rfl) rfl
theorem dX3_roundClass_125 : decode cX3_roundClass 125 = .ok (.iastore, 1) := dw_79 (kcX3_roundClass_1 61 79 rfl)
theorem dX3_roundClass_126 : decode cX3_roundClass 126 = .ok (.aload_n 0, 1) := dw_42 (kcX3_roundClass_1 62 42 rfl)
theorem kcX3_roundClass_2 : CHb cX3_roundClass 128 [0, 35, 21, 4, 29, 158, 0, 19, 42, 180, 0, 26, 21, 4, 46, 29, 96, 4, 100, 29, 108, 167, 0, 4, 3, 79, 42, 21, 4, 182, 0, 94, 132, 4, 1, 167, 255, 188, 42, 182, 0, 98, 3, 54, 4, 21, 4, 43, 180, 0, 41, 162, 0, 29, 42, 180, 0, 38, 21, 4, 51, 153, 0, 13] := CHb_of (by decide +kernel)
theorem dX3_roundClass_127 : decode cX3_roundClass 127 = .ok (.getfield 35, 3) := dw_180 (kcX3_roundClass_1 63 180 rfl) (kcX3_roundClass_2 0 0 rfl) (kcX3_roundClass_2 1 35 rfl) rfl
theorem dX3_roundClass_130 : decode cX3_roundClass 130 = .ok (.iload 4, 2) := dw_21 (kcX3_roundClass_2 2 21 rfl) (kcX3_roundClass_2 3 4 rfl)
theorem dX3_roundClass_132 : decode cX3_roundClass 132 = .ok (.iload_n 3, 1) := dw_29 (kcX3_roundClass_2 4 29 rfl)
theorem dX3_roundClass_133 : decode cX3_roundClass 133 = .ok (.ifCond .le 19, 3) := dw_158 (kcX3_roundClass_2 5 158 rfl) (kcX3_roundClass_2 6 0 rfl) (kcX3_roundClass_2 7 19 rfl) rfl
theorem dX3_roundClass_152 : decode cX3_roundClass 152 = .ok (.iconst 0, 1) := dw_3 (kcX3_roundClass_2 24 3 rfl)
theorem dX3_roundClass_136 : decode cX3_roundClass 136 = .ok (.aload_n 0, 1) := dw_42 (kcX3_roundClass_2 8 42 rfl)
theorem dX3_roundClass_137 : decode cX3_roundClass 137 = .ok (.getfield 26, 3) := dw_180 (kcX3_roundClass_2 9 180 rfl) (kcX3_roundClass_2 10 0 rfl) (kcX3_roundClass_2 11 26 rfl) rfl
theorem dX3_roundClass_140 : decode cX3_roundClass 140 = .ok (.iload 4, 2) := dw_21 (kcX3_roundClass_2 12 21 rfl) (kcX3_roundClass_2 13 4 rfl)
theorem dX3_roundClass_142 : decode cX3_roundClass 142 = .ok (.iaload, 1) := dw_46 (kcX3_roundClass_2 14 46 rfl)
theorem dX3_roundClass_143 : decode cX3_roundClass 143 = .ok (.iload_n 3, 1) := dw_29 (kcX3_roundClass_2 15 29 rfl)
theorem dX3_roundClass_144 : decode cX3_roundClass 144 = .ok (.iadd, 1) := dw_96 (kcX3_roundClass_2 16 96 rfl)
theorem dX3_roundClass_145 : decode cX3_roundClass 145 = .ok (.iconst 1, 1) := dw_4 (kcX3_roundClass_2 17 4 rfl)
theorem dX3_roundClass_146 : decode cX3_roundClass 146 = .ok (.isub, 1) := dw_100 (kcX3_roundClass_2 18 100 rfl)
theorem dX3_roundClass_147 : decode cX3_roundClass 147 = .ok (.iload_n 3, 1) := dw_29 (kcX3_roundClass_2 19 29 rfl)
theorem dX3_roundClass_148 : decode cX3_roundClass 148 = .ok (.idiv, 1) := dw_108 (kcX3_roundClass_2 20 108 rfl)
theorem dX3_roundClass_149 : decode cX3_roundClass 149 = .ok (.goto 4, 3) := dw_167 (kcX3_roundClass_2 21 167 rfl) (kcX3_roundClass_2 22 0 rfl) (kcX3_roundClass_2 23 4 rfl) rfl
theorem dX3_roundClass_153 : decode cX3_roundClass 153 = .ok (.iastore, 1) := dw_79 (kcX3_roundClass_2 25 79 rfl)
theorem dX3_roundClass_154 : decode cX3_roundClass 154 = .ok (.aload_n 0, 1) := dw_42 (kcX3_roundClass_2 26 42 rfl)
theorem dX3_roundClass_155 : decode cX3_roundClass 155 = .ok (.iload 4, 2) := dw_21 (kcX3_roundClass_2 27 21 rfl) (kcX3_roundClass_2 28 4 rfl)
theorem dX3_roundClass_157 : decode cX3_roundClass 157 = .ok (.invokevirtual 94, 3) := dw_182 (kcX3_roundClass_2 29 182 rfl) (kcX3_roundClass_2 30 0 rfl) (kcX3_roundClass_2 31 94 rfl) rfl
theorem dX3_roundClass_160 : decode cX3_roundClass 160 = .ok (.iinc 4 1, 3) := dw_132 (kcX3_roundClass_2 32 132 rfl) (kcX3_roundClass_2 33 4 rfl) (kcX3_roundClass_2 34 1 rfl) rfl
theorem dX3_roundClass_163 : decode cX3_roundClass 163 = .ok (.goto (-68), 3) := dw_167 (kcX3_roundClass_2 35 167 rfl) (kcX3_roundClass_2 36 255 rfl) (kcX3_roundClass_2 37 188 rfl) rfl
theorem dX3_roundClass_166 : decode cX3_roundClass 166 = .ok (.aload_n 0, 1) := dw_42 (kcX3_roundClass_2 38 42 rfl)
theorem dX3_roundClass_167 : decode cX3_roundClass 167 = .ok (.invokevirtual 98, 3) := dw_182 (kcX3_roundClass_2 39 182 rfl) (kcX3_roundClass_2 40 0 rfl) (kcX3_roundClass_2 41 98 rfl) rfl
theorem dX3_roundClass_170 : decode cX3_roundClass 170 = .ok (.iconst 0, 1) := dw_3 (kcX3_roundClass_2 42 3 rfl)
theorem dX3_roundClass_171 : decode cX3_roundClass 171 = .ok (.istore 4, 2) := dw_54 (kcX3_roundClass_2 43 54 rfl) (kcX3_roundClass_2 44 4 rfl)
theorem dX3_roundClass_173 : decode cX3_roundClass 173 = .ok (.iload 4, 2) := dw_21 (kcX3_roundClass_2 45 21 rfl) (kcX3_roundClass_2 46 4 rfl)
theorem dX3_roundClass_175 : decode cX3_roundClass 175 = .ok (.aload_n 1, 1) := dw_43 (kcX3_roundClass_2 47 43 rfl)
theorem dX3_roundClass_176 : decode cX3_roundClass 176 = .ok (.getfield 41, 3) := dw_180 (kcX3_roundClass_2 48 180 rfl) (kcX3_roundClass_2 49 0 rfl) (kcX3_roundClass_2 50 41 rfl) rfl
theorem dX3_roundClass_179 : decode cX3_roundClass 179 = .ok (.if_icmp .ge 29, 3) := dw_162 (kcX3_roundClass_2 51 162 rfl) (kcX3_roundClass_2 52 0 rfl) (kcX3_roundClass_2 53 29 rfl) rfl
theorem kcX3_roundClass_3 : CHb cX3_roundClass 192 [42, 21, 4, 43, 180, 0, 68, 182, 0, 101, 132, 4, 1, 167, 255, 224, 177] := CHb_of (by decide +kernel)
theorem dX3_roundClass_208 : decode cX3_roundClass 208 = .ok (.return_, 1) := dw_177 (kcX3_roundClass_3 16 177 rfl)
theorem dX3_roundClass_182 : decode cX3_roundClass 182 = .ok (.aload_n 0, 1) := dw_42 (kcX3_roundClass_2 54 42 rfl)
theorem dX3_roundClass_183 : decode cX3_roundClass 183 = .ok (.getfield 38, 3) := dw_180 (kcX3_roundClass_2 55 180 rfl) (kcX3_roundClass_2 56 0 rfl) (kcX3_roundClass_2 57 38 rfl) rfl
theorem dX3_roundClass_186 : decode cX3_roundClass 186 = .ok (.iload 4, 2) := dw_21 (kcX3_roundClass_2 58 21 rfl) (kcX3_roundClass_2 59 4 rfl)
theorem dX3_roundClass_188 : decode cX3_roundClass 188 = .ok (.baload, 1) := dw_51 (kcX3_roundClass_2 60 51 rfl)
theorem dX3_roundClass_189 : decode cX3_roundClass 189 = .ok (.ifCond .eq 13, 3) := dw_153 (kcX3_roundClass_2 61 153 rfl) (kcX3_roundClass_2 62 0 rfl) (kcX3_roundClass_2 63 13 rfl) rfl
theorem dX3_roundClass_192 : decode cX3_roundClass 192 = .ok (.aload_n 0, 1) := dw_42 (kcX3_roundClass_3 0 42 rfl)
theorem dX3_roundClass_193 : decode cX3_roundClass 193 = .ok (.iload 4, 2) := dw_21 (kcX3_roundClass_3 1 21 rfl) (kcX3_roundClass_3 2 4 rfl)
theorem dX3_roundClass_195 : decode cX3_roundClass 195 = .ok (.aload_n 1, 1) := dw_43 (kcX3_roundClass_3 3 43 rfl)
theorem dX3_roundClass_196 : decode cX3_roundClass 196 = .ok (.getfield 68, 3) := dw_180 (kcX3_roundClass_3 4 180 rfl) (kcX3_roundClass_3 5 0 rfl) (kcX3_roundClass_3 6 68 rfl) rfl
theorem dX3_roundClass_199 : decode cX3_roundClass 199 = .ok (.invokevirtual 101, 3) := dw_182 (kcX3_roundClass_3 7 182 rfl) (kcX3_roundClass_3 8 0 rfl) (kcX3_roundClass_3 9 101 rfl) rfl
theorem dX3_roundClass_202 : decode cX3_roundClass 202 = .ok (.iinc 4 1, 3) := dw_132 (kcX3_roundClass_3 10 132 rfl) (kcX3_roundClass_3 11 4 rfl) (kcX3_roundClass_3 12 1 rfl) rfl
theorem dX3_roundClass_205 : decode cX3_roundClass 205 = .ok (.goto (-32), 3) := dw_167 (kcX3_roundClass_3 13 167 rfl) (kcX3_roundClass_3 14 255 rfl) (kcX3_roundClass_3 15 224 rfl) rfl
theorem kcX3_write_0 : CHb cX3_write 0 [45, 43, 180, 0, 41, 181, 0, 65, 45, 43, 180, 0, 68, 181, 0, 71, 3, 54, 4, 3, 54, 5, 21, 5, 43, 180, 0, 41, 162, 0, 129, 3, 54, 6, 21, 6, 43, 180, 0, 68, 162, 0, 111, 21, 5, 21, 6, 184, 0, 72, 54, 7, 43, 180, 0, 47, 21, 5, 51, 153, 0, 17, 42, 180] := CHb_of (by decide +kernel)
theorem dX3_write_0 : decode cX3_write 0 = .ok (.aload_n 3, 1) := dw_45 (kcX3_write_0 0 45 rfl)
theorem dX3_write_1 : decode cX3_write 1 = .ok (.aload_n 1, 1) := dw_43 (kcX3_write_0 1 43 rfl)
theorem dX3_write_2 : decode cX3_write 2 = .ok (.getfield 41, 3) := dw_180 (kcX3_write_0 2 180 rfl) (kcX3_write_0 3 0 rfl) (kcX3_write_0 4 41 rfl) rfl
theorem dX3_write_5 : decode cX3_write 5 = .ok (.putfield 65, 3) := dw_181 (kcX3_write_0 5 181 rfl) (kcX3_write_0 6 0 rfl) (kcX3_write_0 7 65 rfl) rfl
theorem dX3_write_8 : decode cX3_write 8 = .ok (.aload_n 3, 1) := dw_45 (kcX3_write_0 8 45 rfl)
theorem dX3_write_9 : decode cX3_write 9 = .ok (.aload_n 1, 1) := dw_43 (kcX3_write_0 9 43 rfl)
theorem dX3_write_10 : decode cX3_write 10 = .ok (.getfield 68, 3) := dw_180 (kcX3_write_0 10 180 rfl) (kcX3_write_0 11 0 rfl) (kcX3_write_0 12 68 rfl) rfl
theorem dX3_write_13 : decode cX3_write 13 = .ok (.putfield 71, 3) := dw_181 (kcX3_write_0 13 181 rfl) (kcX3_write_0 14 0 rfl) (kcX3_write_0 15 71 rfl) rfl
theorem dX3_write_16 : decode cX3_write 16 = .ok (.iconst 0, 1) := dw_3 (kcX3_write_0 16 3 rfl)
theorem dX3_write_17 : decode cX3_write 17 = .ok (.istore 4, 2) := dw_54 (kcX3_write_0 17 54 rfl) (kcX3_write_0 18 4 rfl)
theorem dX3_write_19 : decode cX3_write 19 = .ok (.iconst 0, 1) := dw_3 (kcX3_write_0 19 3 rfl)
theorem dX3_write_20 : decode cX3_write 20 = .ok (.istore 5, 2) := dw_54 (kcX3_write_0 20 54 rfl) (kcX3_write_0 21 5 rfl)
theorem dX3_write_22 : decode cX3_write 22 = .ok (.iload 5, 2) := dw_21 (kcX3_write_0 22 21 rfl) (kcX3_write_0 23 5 rfl)
theorem dX3_write_24 : decode cX3_write 24 = .ok (.aload_n 1, 1) := dw_43 (kcX3_write_0 24 43 rfl)
theorem dX3_write_25 : decode cX3_write 25 = .ok (.getfield 41, 3) := dw_180 (kcX3_write_0 25 180 rfl) (kcX3_write_0 26 0 rfl) (kcX3_write_0 27 41 rfl) rfl
theorem dX3_write_28 : decode cX3_write 28 = .ok (.if_icmp .ge 129, 3) := dw_162 (kcX3_write_0 28 162 rfl) (kcX3_write_0 29 0 rfl) (kcX3_write_0 30 129 rfl) rfl
theorem dX3_write_31 : decode cX3_write 31 = .ok (.iconst 0, 1) := dw_3 (kcX3_write_0 31 3 rfl)
theorem dX3_write_32 : decode cX3_write 32 = .ok (.istore 6, 2) := dw_54 (kcX3_write_0 32 54 rfl) (kcX3_write_0 33 6 rfl)
theorem dX3_write_34 : decode cX3_write 34 = .ok (.iload 6, 2) := dw_21 (kcX3_write_0 34 21 rfl) (kcX3_write_0 35 6 rfl)
theorem dX3_write_36 : decode cX3_write 36 = .ok (.aload_n 1, 1) := dw_43 (kcX3_write_0 36 43 rfl)
theorem dX3_write_37 : decode cX3_write 37 = .ok (.getfield 68, 3) := dw_180 (kcX3_write_0 37 180 rfl) (kcX3_write_0 38 0 rfl) (kcX3_write_0 39 68 rfl) rfl
theorem dX3_write_40 : decode cX3_write 40 = .ok (.if_icmp .ge 111, 3) := dw_162 (kcX3_write_0 40 162 rfl) (kcX3_write_0 41 0 rfl) (kcX3_write_0 42 111 rfl) rfl
theorem dX3_write_43 : decode cX3_write 43 = .ok (.iload 5, 2) := dw_21 (kcX3_write_0 43 21 rfl) (kcX3_write_0 44 5 rfl)
theorem dX3_write_45 : decode cX3_write 45 = .ok (.iload 6, 2) := dw_21 (kcX3_write_0 45 21 rfl) (kcX3_write_0 46 6 rfl)
theorem dX3_write_47 : decode cX3_write 47 = .ok (.invokestatic 72, 3) := dw_184 (kcX3_write_0 47 184 rfl) (kcX3_write_0 48 0 rfl) (kcX3_write_0 49 72 rfl) rfl
theorem dX3_write_50 : decode cX3_write 50 = .ok (.istore 7, 2) := dw_54 (kcX3_write_0 50 54 rfl) (kcX3_write_0 51 7 rfl)
theorem dX3_write_52 : decode cX3_write 52 = .ok (.aload_n 1, 1) := dw_43 (kcX3_write_0 52 43 rfl)
theorem dX3_write_53 : decode cX3_write 53 = .ok (.getfield 47, 3) := dw_180 (kcX3_write_0 53 180 rfl) (kcX3_write_0 54 0 rfl) (kcX3_write_0 55 47 rfl) rfl
theorem dX3_write_56 : decode cX3_write 56 = .ok (.iload 5, 2) := dw_21 (kcX3_write_0 56 21 rfl) (kcX3_write_0 57 5 rfl)
theorem dX3_write_58 : decode cX3_write 58 = .ok (.baload, 1) := dw_51 (kcX3_write_0 58 51 rfl)
theorem dX3_write_59 : decode cX3_write 59 = .ok (.ifCond .eq 17, 3) := dw_153 (kcX3_write_0 59 153 rfl) (kcX3_write_0 60 0 rfl) (kcX3_write_0 61 17 rfl) rfl
theorem kcX3_write_1 : CHb cX3_write 64 [0, 22, 21, 7, 51, 153, 0, 7, 4, 167, 0, 4, 3, 54, 8, 43, 180, 0, 76, 21, 7, 46, 42, 180, 0, 18, 21, 7, 46, 100, 21, 8, 153, 0, 7, 28, 167, 0, 4, 3, 96, 54, 9, 45, 180, 0, 79, 21, 7, 43, 180, 0, 47, 21, 5, 51, 153, 0, 8, 21, 9, 167, 0, 4] := CHb_of (by decide +kernel)
theorem dX3_write_76 : decode cX3_write 76 = .ok (.iconst 0, 1) := dw_3 (kcX3_write_1 12 3 rfl)
theorem dX3_write_62 : decode cX3_write 62 = .ok (.aload_n 0, 1) := dw_42 (kcX3_write_0 62 42 rfl)
theorem dX3_write_63 : decode cX3_write 63 = .ok (.getfield 22, 3) := dw_180 (kcX3_write_0 63 180 rfl) (kcX3_write_1 0 0 rfl) (kcX3_write_1 1 22 rfl) rfl
theorem dX3_write_66 : decode cX3_write 66 = .ok (.iload 7, 2) := dw_21 (kcX3_write_1 2 21 rfl) (kcX3_write_1 3 7 rfl)
theorem dX3_write_68 : decode cX3_write 68 = .ok (.baload, 1) := dw_51 (kcX3_write_1 4 51 rfl)
theorem dX3_write_69 : decode cX3_write 69 = .ok (.ifCond .eq 7, 3) := dw_153 (kcX3_write_1 5 153 rfl) (kcX3_write_1 6 0 rfl) (kcX3_write_1 7 7 rfl) rfl
theorem dX3_write_72 : decode cX3_write 72 = .ok (.iconst 1, 1) := dw_4 (kcX3_write_1 8 4 rfl)
theorem dX3_write_73 : decode cX3_write 73 = .ok (.goto 4, 3) := dw_167 (kcX3_write_1 9 167 rfl) (kcX3_write_1 10 0 rfl) (kcX3_write_1 11 4 rfl) rfl
theorem dX3_write_77 : decode cX3_write 77 = .ok (.istore 8, 2) := dw_54 (kcX3_write_1 13 54 rfl) (kcX3_write_1 14 8 rfl)
theorem dX3_write_79 : decode cX3_write 79 = .ok (.aload_n 1, 1) := dw_43 (kcX3_write_1 15 43 rfl)
theorem dX3_write_80 : decode cX3_write 80 = .ok (.getfield 76, 3) := dw_180 (kcX3_write_1 16 180 rfl) (kcX3_write_1 17 0 rfl) (kcX3_write_1 18 76 rfl) rfl
theorem dX3_write_83 : decode cX3_write 83 = .ok (.iload 7, 2) := dw_21 (kcX3_write_1 19 21 rfl) (kcX3_write_1 20 7 rfl)
theorem dX3_write_85 : decode cX3_write 85 = .ok (.iaload, 1) := dw_46 (kcX3_write_1 21 46 rfl)
theorem dX3_write_86 : decode cX3_write 86 = .ok (.aload_n 0, 1) := dw_42 (kcX3_write_1 22 42 rfl)
theorem dX3_write_87 : decode cX3_write 87 = .ok (.getfield 18, 3) := dw_180 (kcX3_write_1 23 180 rfl) (kcX3_write_1 24 0 rfl) (kcX3_write_1 25 18 rfl) rfl
theorem dX3_write_90 : decode cX3_write 90 = .ok (.iload 7, 2) := dw_21 (kcX3_write_1 26 21 rfl) (kcX3_write_1 27 7 rfl)
theorem dX3_write_92 : decode cX3_write 92 = .ok (.iaload, 1) := dw_46 (kcX3_write_1 28 46 rfl)
theorem dX3_write_93 : decode cX3_write 93 = .ok (.isub, 1) := dw_100 (kcX3_write_1 29 100 rfl)
theorem dX3_write_94 : decode cX3_write 94 = .ok (.iload 8, 2) := dw_21 (kcX3_write_1 30 21 rfl) (kcX3_write_1 31 8 rfl)
theorem dX3_write_96 : decode cX3_write 96 = .ok (.ifCond .eq 7, 3) := dw_153 (kcX3_write_1 32 153 rfl) (kcX3_write_1 33 0 rfl) (kcX3_write_1 34 7 rfl) rfl
theorem dX3_write_103 : decode cX3_write 103 = .ok (.iconst 0, 1) := dw_3 (kcX3_write_1 39 3 rfl)
theorem dX3_write_99 : decode cX3_write 99 = .ok (.iload_n 2, 1) := dw_28 (kcX3_write_1 35 28 rfl)
theorem dX3_write_100 : decode cX3_write 100 = .ok (.goto 4, 3) := dw_167 (kcX3_write_1 36 167 rfl) (kcX3_write_1 37 0 rfl) (kcX3_write_1 38 4 rfl) rfl
theorem dX3_write_104 : decode cX3_write 104 = .ok (.iadd, 1) := dw_96 (kcX3_write_1 40 96 rfl)
theorem dX3_write_105 : decode cX3_write 105 = .ok (.istore 9, 2) := dw_54 (kcX3_write_1 41 54 rfl) (kcX3_write_1 42 9 rfl)
theorem dX3_write_107 : decode cX3_write 107 = .ok (.aload_n 3, 1) := dw_45 (kcX3_write_1 43 45 rfl)
theorem dX3_write_108 : decode cX3_write 108 = .ok (.getfield 79, 3) := dw_180 (kcX3_write_1 44 180 rfl) (kcX3_write_1 45 0 rfl) (kcX3_write_1 46 79 rfl) rfl
theorem dX3_write_111 : decode cX3_write 111 = .ok (.iload 7, 2) := dw_21 (kcX3_write_1 47 21 rfl) (kcX3_write_1 48 7 rfl)
theorem dX3_write_113 : decode cX3_write 113 = .ok (.aload_n 1, 1) := dw_43 (kcX3_write_1 49 43 rfl)
theorem dX3_write_114 : decode cX3_write 114 = .ok (.getfield 47, 3) := dw_180 (kcX3_write_1 50 180 rfl) (kcX3_write_1 51 0 rfl) (kcX3_write_1 52 47 rfl) rfl
theorem dX3_write_117 : decode cX3_write 117 = .ok (.iload 5, 2) := dw_21 (kcX3_write_1 53 21 rfl) (kcX3_write_1 54 5 rfl)
theorem dX3_write_119 : decode cX3_write 119 = .ok (.baload, 1) := dw_51 (kcX3_write_1 55 51 rfl)
theorem dX3_write_120 : decode cX3_write 120 = .ok (.ifCond .eq 8, 3) := dw_153 (kcX3_write_1 56 153 rfl) (kcX3_write_1 57 0 rfl) (kcX3_write_1 58 8 rfl) rfl
theorem kcX3_write_2 : CHb cX3_write 128 [2, 79, 21, 4, 21, 8, 153, 0, 7, 4, 167, 0, 4, 3, 96, 54, 4, 132, 6, 1, 167, 255, 142, 132, 5, 1, 167, 255, 124, 21, 4, 172] := CHb_of (by decide +kernel)
theorem dX3_write_128 : decode cX3_write 128 = .ok (.iconst (-1), 1) := dw_2 (kcX3_write_2 0 2 rfl)
theorem dX3_write_123 : decode cX3_write 123 = .ok (.iload 9, 2) := dw_21 (kcX3_write_1 59 21 rfl) (kcX3_write_1 60 9 rfl)
theorem dX3_write_125 : decode cX3_write 125 = .ok (.goto 4, 3) := dw_167 (kcX3_write_1 61 167 rfl) (kcX3_write_1 62 0 rfl) (kcX3_write_1 63 4 rfl) rfl
theorem dX3_write_129 : decode cX3_write 129 = .ok (.iastore, 1) := dw_79 (kcX3_write_2 1 79 rfl)
theorem dX3_write_130 : decode cX3_write 130 = .ok (.iload 4, 2) := dw_21 (kcX3_write_2 2 21 rfl) (kcX3_write_2 3 4 rfl)
theorem dX3_write_132 : decode cX3_write 132 = .ok (.iload 8, 2) := dw_21 (kcX3_write_2 4 21 rfl) (kcX3_write_2 5 8 rfl)
theorem dX3_write_134 : decode cX3_write 134 = .ok (.ifCond .eq 7, 3) := dw_153 (kcX3_write_2 6 153 rfl) (kcX3_write_2 7 0 rfl) (kcX3_write_2 8 7 rfl) rfl
theorem dX3_write_141 : decode cX3_write 141 = .ok (.iconst 0, 1) := dw_3 (kcX3_write_2 13 3 rfl)
theorem dX3_write_137 : decode cX3_write 137 = .ok (.iconst 1, 1) := dw_4 (kcX3_write_2 9 4 rfl)
theorem dX3_write_138 : decode cX3_write 138 = .ok (.goto 4, 3) := dw_167 (kcX3_write_2 10 167 rfl) (kcX3_write_2 11 0 rfl) (kcX3_write_2 12 4 rfl) rfl
theorem dX3_write_142 : decode cX3_write 142 = .ok (.iadd, 1) := dw_96 (kcX3_write_2 14 96 rfl)
theorem dX3_write_143 : decode cX3_write 143 = .ok (.istore 4, 2) := dw_54 (kcX3_write_2 15 54 rfl) (kcX3_write_2 16 4 rfl)
theorem dX3_write_145 : decode cX3_write 145 = .ok (.iinc 6 1, 3) := dw_132 (kcX3_write_2 17 132 rfl) (kcX3_write_2 18 6 rfl) (kcX3_write_2 19 1 rfl) rfl
theorem dX3_write_148 : decode cX3_write 148 = .ok (.goto (-114), 3) := dw_167 (kcX3_write_2 20 167 rfl) (kcX3_write_2 21 255 rfl) (kcX3_write_2 22 142 rfl) rfl
theorem dX3_write_151 : decode cX3_write 151 = .ok (.iinc 5 1, 3) := dw_132 (kcX3_write_2 23 132 rfl) (kcX3_write_2 24 5 rfl) (kcX3_write_2 25 1 rfl) rfl
theorem dX3_write_154 : decode cX3_write 154 = .ok (.goto (-132), 3) := dw_167 (kcX3_write_2 26 167 rfl) (kcX3_write_2 27 255 rfl) (kcX3_write_2 28 124 rfl) rfl
theorem dX3_write_157 : decode cX3_write 157 = .ok (.iload 4, 2) := dw_21 (kcX3_write_2 29 21 rfl) (kcX3_write_2 30 4 rfl)
theorem dX3_write_159 : decode cX3_write 159 = .ok (.ireturn, 1) := dw_172 (kcX3_write_2 31 172 rfl)
theorem kcX3_fill_0 : CHb cX3_fill 0 [3, 54, 4, 21, 4, 43, 180, 0, 41, 162, 0, 42, 43, 180, 0, 47, 21, 4, 51, 153, 0, 26, 42, 43, 21, 4, 182, 0, 50, 153, 0, 16, 42, 43, 43, 180, 0, 54, 21, 4, 46, 28, 182, 0, 57, 132, 4, 1, 167, 255, 211, 42, 43, 28, 45, 182, 0, 61, 172] := CHb_of (by decide +kernel)
theorem dX3_fill_0 : decode cX3_fill 0 = .ok (.iconst 0, 1) := dw_3 (kcX3_fill_0 0 3 rfl)
theorem dX3_fill_1 : decode cX3_fill 1 = .ok (.istore 4, 2) := dw_54 (kcX3_fill_0 1 54 rfl) (kcX3_fill_0 2 4 rfl)
theorem dX3_fill_3 : decode cX3_fill 3 = .ok (.iload 4, 2) := dw_21 (kcX3_fill_0 3 21 rfl) (kcX3_fill_0 4 4 rfl)
theorem dX3_fill_5 : decode cX3_fill 5 = .ok (.aload_n 1, 1) := dw_43 (kcX3_fill_0 5 43 rfl)
theorem dX3_fill_6 : decode cX3_fill 6 = .ok (.getfield 41, 3) := dw_180 (kcX3_fill_0 6 180 rfl) (kcX3_fill_0 7 0 rfl) (kcX3_fill_0 8 41 rfl) rfl
theorem dX3_fill_9 : decode cX3_fill 9 = .ok (.if_icmp .ge 42, 3) := dw_162 (kcX3_fill_0 9 162 rfl) (kcX3_fill_0 10 0 rfl) (kcX3_fill_0 11 42 rfl) rfl
theorem dX3_fill_12 : decode cX3_fill 12 = .ok (.aload_n 1, 1) := dw_43 (kcX3_fill_0 12 43 rfl)
theorem dX3_fill_13 : decode cX3_fill 13 = .ok (.getfield 47, 3) := dw_180 (kcX3_fill_0 13 180 rfl) (kcX3_fill_0 14 0 rfl) (kcX3_fill_0 15 47 rfl) rfl
theorem dX3_fill_16 : decode cX3_fill 16 = .ok (.iload 4, 2) := dw_21 (kcX3_fill_0 16 21 rfl) (kcX3_fill_0 17 4 rfl)
theorem dX3_fill_18 : decode cX3_fill 18 = .ok (.baload, 1) := dw_51 (kcX3_fill_0 18 51 rfl)
theorem dX3_fill_19 : decode cX3_fill 19 = .ok (.ifCond .eq 26, 3) := dw_153 (kcX3_fill_0 19 153 rfl) (kcX3_fill_0 20 0 rfl) (kcX3_fill_0 21 26 rfl) rfl
theorem dX3_fill_22 : decode cX3_fill 22 = .ok (.aload_n 0, 1) := dw_42 (kcX3_fill_0 22 42 rfl)
theorem dX3_fill_23 : decode cX3_fill 23 = .ok (.aload_n 1, 1) := dw_43 (kcX3_fill_0 23 43 rfl)
theorem dX3_fill_24 : decode cX3_fill 24 = .ok (.iload 4, 2) := dw_21 (kcX3_fill_0 24 21 rfl) (kcX3_fill_0 25 4 rfl)
theorem dX3_fill_26 : decode cX3_fill 26 = .ok (.invokevirtual 50, 3) := dw_182 (kcX3_fill_0 26 182 rfl) (kcX3_fill_0 27 0 rfl) (kcX3_fill_0 28 50 rfl) rfl
theorem dX3_fill_29 : decode cX3_fill 29 = .ok (.ifCond .eq 16, 3) := dw_153 (kcX3_fill_0 29 153 rfl) (kcX3_fill_0 30 0 rfl) (kcX3_fill_0 31 16 rfl) rfl
theorem dX3_fill_32 : decode cX3_fill 32 = .ok (.aload_n 0, 1) := dw_42 (kcX3_fill_0 32 42 rfl)
theorem dX3_fill_33 : decode cX3_fill 33 = .ok (.aload_n 1, 1) := dw_43 (kcX3_fill_0 33 43 rfl)
theorem dX3_fill_34 : decode cX3_fill 34 = .ok (.aload_n 1, 1) := dw_43 (kcX3_fill_0 34 43 rfl)
theorem dX3_fill_35 : decode cX3_fill 35 = .ok (.getfield 54, 3) := dw_180 (kcX3_fill_0 35 180 rfl) (kcX3_fill_0 36 0 rfl) (kcX3_fill_0 37 54 rfl) rfl
theorem dX3_fill_38 : decode cX3_fill 38 = .ok (.iload 4, 2) := dw_21 (kcX3_fill_0 38 21 rfl) (kcX3_fill_0 39 4 rfl)
theorem dX3_fill_40 : decode cX3_fill 40 = .ok (.iaload, 1) := dw_46 (kcX3_fill_0 40 46 rfl)
theorem dX3_fill_41 : decode cX3_fill 41 = .ok (.iload_n 2, 1) := dw_28 (kcX3_fill_0 41 28 rfl)
theorem dX3_fill_42 : decode cX3_fill 42 = .ok (.invokevirtual 57, 3) := dw_182 (kcX3_fill_0 42 182 rfl) (kcX3_fill_0 43 0 rfl) (kcX3_fill_0 44 57 rfl) rfl
theorem dX3_fill_45 : decode cX3_fill 45 = .ok (.iinc 4 1, 3) := dw_132 (kcX3_fill_0 45 132 rfl) (kcX3_fill_0 46 4 rfl) (kcX3_fill_0 47 1 rfl) rfl
theorem dX3_fill_48 : decode cX3_fill 48 = .ok (.goto (-45), 3) := dw_167 (kcX3_fill_0 48 167 rfl) (kcX3_fill_0 49 255 rfl) (kcX3_fill_0 50 211 rfl) rfl
theorem dX3_fill_51 : decode cX3_fill 51 = .ok (.aload_n 0, 1) := dw_42 (kcX3_fill_0 51 42 rfl)
theorem dX3_fill_52 : decode cX3_fill 52 = .ok (.aload_n 1, 1) := dw_43 (kcX3_fill_0 52 43 rfl)
theorem dX3_fill_53 : decode cX3_fill 53 = .ok (.iload_n 2, 1) := dw_28 (kcX3_fill_0 53 28 rfl)
theorem dX3_fill_54 : decode cX3_fill 54 = .ok (.aload_n 3, 1) := dw_45 (kcX3_fill_0 54 45 rfl)
theorem dX3_fill_55 : decode cX3_fill 55 = .ok (.invokevirtual 61, 3) := dw_182 (kcX3_fill_0 55 182 rfl) (kcX3_fill_0 56 0 rfl) (kcX3_fill_0 57 61 rfl) rfl
theorem dX3_fill_58 : decode cX3_fill 58 = .ok (.ireturn, 1) := dw_172 (kcX3_fill_0 58 172 rfl)
theorem kcX1_firstUnlike_0 : CHb cX1_firstUnlike 0 [42, 180, 0, 9, 43, 180, 0, 9, 184, 0, 26, 61, 42, 180, 0, 15, 43, 180, 0, 15, 184, 0, 26, 62, 3, 54, 4, 21, 4, 28, 162, 0, 78, 3, 54, 5, 21, 5, 29, 162, 0, 63, 42, 180, 0, 18, 21, 4, 21, 5, 184, 0, 22, 46, 54, 6, 43, 180, 0, 18, 21, 4, 21, 5] := CHb_of (by decide +kernel)
theorem dX1_firstUnlike_0 : decode cX1_firstUnlike 0 = .ok (.aload_n 0, 1) := dw_42 (kcX1_firstUnlike_0 0 42 rfl)
theorem dX1_firstUnlike_1 : decode cX1_firstUnlike 1 = .ok (.getfield 9, 3) := dw_180 (kcX1_firstUnlike_0 1 180 rfl) (kcX1_firstUnlike_0 2 0 rfl) (kcX1_firstUnlike_0 3 9 rfl) rfl
theorem dX1_firstUnlike_4 : decode cX1_firstUnlike 4 = .ok (.aload_n 1, 1) := dw_43 (kcX1_firstUnlike_0 4 43 rfl)
theorem dX1_firstUnlike_5 : decode cX1_firstUnlike 5 = .ok (.getfield 9, 3) := dw_180 (kcX1_firstUnlike_0 5 180 rfl) (kcX1_firstUnlike_0 6 0 rfl) (kcX1_firstUnlike_0 7 9 rfl) rfl
theorem dX1_firstUnlike_8 : decode cX1_firstUnlike 8 = .ok (.invokestatic 26, 3) := dw_184 (kcX1_firstUnlike_0 8 184 rfl) (kcX1_firstUnlike_0 9 0 rfl) (kcX1_firstUnlike_0 10 26 rfl) rfl
theorem dX1_firstUnlike_11 : decode cX1_firstUnlike 11 = .ok (.istore_n 2, 1) := dw_61 (kcX1_firstUnlike_0 11 61 rfl)
theorem dX1_firstUnlike_12 : decode cX1_firstUnlike 12 = .ok (.aload_n 0, 1) := dw_42 (kcX1_firstUnlike_0 12 42 rfl)
theorem dX1_firstUnlike_13 : decode cX1_firstUnlike 13 = .ok (.getfield 15, 3) := dw_180 (kcX1_firstUnlike_0 13 180 rfl) (kcX1_firstUnlike_0 14 0 rfl) (kcX1_firstUnlike_0 15 15 rfl) rfl
theorem dX1_firstUnlike_16 : decode cX1_firstUnlike 16 = .ok (.aload_n 1, 1) := dw_43 (kcX1_firstUnlike_0 16 43 rfl)
theorem dX1_firstUnlike_17 : decode cX1_firstUnlike 17 = .ok (.getfield 15, 3) := dw_180 (kcX1_firstUnlike_0 17 180 rfl) (kcX1_firstUnlike_0 18 0 rfl) (kcX1_firstUnlike_0 19 15 rfl) rfl
theorem dX1_firstUnlike_20 : decode cX1_firstUnlike 20 = .ok (.invokestatic 26, 3) := dw_184 (kcX1_firstUnlike_0 20 184 rfl) (kcX1_firstUnlike_0 21 0 rfl) (kcX1_firstUnlike_0 22 26 rfl) rfl
theorem dX1_firstUnlike_23 : decode cX1_firstUnlike 23 = .ok (.istore_n 3, 1) := dw_62 (kcX1_firstUnlike_0 23 62 rfl)
theorem dX1_firstUnlike_24 : decode cX1_firstUnlike 24 = .ok (.iconst 0, 1) := dw_3 (kcX1_firstUnlike_0 24 3 rfl)
theorem dX1_firstUnlike_25 : decode cX1_firstUnlike 25 = .ok (.istore 4, 2) := dw_54 (kcX1_firstUnlike_0 25 54 rfl) (kcX1_firstUnlike_0 26 4 rfl)
theorem dX1_firstUnlike_27 : decode cX1_firstUnlike 27 = .ok (.iload 4, 2) := dw_21 (kcX1_firstUnlike_0 27 21 rfl) (kcX1_firstUnlike_0 28 4 rfl)
theorem dX1_firstUnlike_29 : decode cX1_firstUnlike 29 = .ok (.iload_n 2, 1) := dw_28 (kcX1_firstUnlike_0 29 28 rfl)
theorem dX1_firstUnlike_30 : decode cX1_firstUnlike 30 = .ok (.if_icmp .ge 78, 3) := dw_162 (kcX1_firstUnlike_0 30 162 rfl) (kcX1_firstUnlike_0 31 0 rfl) (kcX1_firstUnlike_0 32 78 rfl) rfl
theorem kcX1_firstUnlike_1 : CHb cX1_firstUnlike 64 [184, 0, 22, 46, 54, 7, 21, 6, 155, 0, 24, 21, 7, 155, 0, 19, 21, 6, 21, 7, 159, 0, 12, 16, 100, 21, 4, 104, 21, 5, 96, 172, 132, 5, 1, 167, 255, 193, 132, 4, 1, 167, 255, 178, 16, 254, 172] := CHb_of (by decide +kernel)
theorem dX1_firstUnlike_108 : decode cX1_firstUnlike 108 = .ok (.bipush (-2), 2) := dw_16 (kcX1_firstUnlike_1 44 16 rfl) (kcX1_firstUnlike_1 45 254 rfl) rfl
theorem dX1_firstUnlike_110 : decode cX1_firstUnlike 110 = .ok (.ireturn, 1) := dw_172 (kcX1_firstUnlike_1 46 172 rfl)
theorem dX1_firstUnlike_33 : decode cX1_firstUnlike 33 = .ok (.iconst 0, 1) := dw_3 (kcX1_firstUnlike_0 33 3 rfl)
theorem dX1_firstUnlike_34 : decode cX1_firstUnlike 34 = .ok (.istore 5, 2) := dw_54 (kcX1_firstUnlike_0 34 54 rfl) (kcX1_firstUnlike_0 35 5 rfl)
theorem dX1_firstUnlike_36 : decode cX1_firstUnlike 36 = .ok (.iload 5, 2) := dw_21 (kcX1_firstUnlike_0 36 21 rfl) (kcX1_firstUnlike_0 37 5 rfl)
theorem dX1_firstUnlike_38 : decode cX1_firstUnlike 38 = .ok (.iload_n 3, 1) := dw_29 (kcX1_firstUnlike_0 38 29 rfl)
theorem dX1_firstUnlike_39 : decode cX1_firstUnlike 39 = .ok (.if_icmp .ge 63, 3) := dw_162 (kcX1_firstUnlike_0 39 162 rfl) (kcX1_firstUnlike_0 40 0 rfl) (kcX1_firstUnlike_0 41 63 rfl) rfl
theorem dX1_firstUnlike_102 : decode cX1_firstUnlike 102 = .ok (.iinc 4 1, 3) := dw_132 (kcX1_firstUnlike_1 38 132 rfl) (kcX1_firstUnlike_1 39 4 rfl) (kcX1_firstUnlike_1 40 1 rfl) rfl
theorem dX1_firstUnlike_105 : decode cX1_firstUnlike 105 = .ok (.goto (-78), 3) := dw_167 (kcX1_firstUnlike_1 41 167 rfl) (kcX1_firstUnlike_1 42 255 rfl) (kcX1_firstUnlike_1 43 178 rfl) rfl
theorem dX1_firstUnlike_42 : decode cX1_firstUnlike 42 = .ok (.aload_n 0, 1) := dw_42 (kcX1_firstUnlike_0 42 42 rfl)
theorem dX1_firstUnlike_43 : decode cX1_firstUnlike 43 = .ok (.getfield 18, 3) := dw_180 (kcX1_firstUnlike_0 43 180 rfl) (kcX1_firstUnlike_0 44 0 rfl) (kcX1_firstUnlike_0 45 18 rfl) rfl
theorem dX1_firstUnlike_46 : decode cX1_firstUnlike 46 = .ok (.iload 4, 2) := dw_21 (kcX1_firstUnlike_0 46 21 rfl) (kcX1_firstUnlike_0 47 4 rfl)
theorem dX1_firstUnlike_48 : decode cX1_firstUnlike 48 = .ok (.iload 5, 2) := dw_21 (kcX1_firstUnlike_0 48 21 rfl) (kcX1_firstUnlike_0 49 5 rfl)
theorem dX1_firstUnlike_50 : decode cX1_firstUnlike 50 = .ok (.invokestatic 22, 3) := dw_184 (kcX1_firstUnlike_0 50 184 rfl) (kcX1_firstUnlike_0 51 0 rfl) (kcX1_firstUnlike_0 52 22 rfl) rfl
theorem dX1_firstUnlike_53 : decode cX1_firstUnlike 53 = .ok (.iaload, 1) := dw_46 (kcX1_firstUnlike_0 53 46 rfl)
theorem dX1_firstUnlike_54 : decode cX1_firstUnlike 54 = .ok (.istore 6, 2) := dw_54 (kcX1_firstUnlike_0 54 54 rfl) (kcX1_firstUnlike_0 55 6 rfl)
theorem dX1_firstUnlike_56 : decode cX1_firstUnlike 56 = .ok (.aload_n 1, 1) := dw_43 (kcX1_firstUnlike_0 56 43 rfl)
theorem dX1_firstUnlike_57 : decode cX1_firstUnlike 57 = .ok (.getfield 18, 3) := dw_180 (kcX1_firstUnlike_0 57 180 rfl) (kcX1_firstUnlike_0 58 0 rfl) (kcX1_firstUnlike_0 59 18 rfl) rfl
theorem dX1_firstUnlike_60 : decode cX1_firstUnlike 60 = .ok (.iload 4, 2) := dw_21 (kcX1_firstUnlike_0 60 21 rfl) (kcX1_firstUnlike_0 61 4 rfl)
theorem dX1_firstUnlike_62 : decode cX1_firstUnlike 62 = .ok (.iload 5, 2) := dw_21 (kcX1_firstUnlike_0 62 21 rfl) (kcX1_firstUnlike_0 63 5 rfl)
theorem dX1_firstUnlike_64 : decode cX1_firstUnlike 64 = .ok (.invokestatic 22, 3) := dw_184 (kcX1_firstUnlike_1 0 184 rfl) (kcX1_firstUnlike_1 1 0 rfl) (kcX1_firstUnlike_1 2 22 rfl) rfl
theorem dX1_firstUnlike_67 : decode cX1_firstUnlike 67 = .ok (.iaload, 1) := dw_46 (kcX1_firstUnlike_1 3 46 rfl)
theorem dX1_firstUnlike_68 : decode cX1_firstUnlike 68 = .ok (.istore 7, 2) := dw_54 (kcX1_firstUnlike_1 4 54 rfl) (kcX1_firstUnlike_1 5 7 rfl)
theorem dX1_firstUnlike_70 : decode cX1_firstUnlike 70 = .ok (.iload 6, 2) := dw_21 (kcX1_firstUnlike_1 6 21 rfl) (kcX1_firstUnlike_1 7 6 rfl)
theorem dX1_firstUnlike_72 : decode cX1_firstUnlike 72 = .ok (.ifCond .lt 24, 3) := dw_155 (kcX1_firstUnlike_1 8 155 rfl) (kcX1_firstUnlike_1 9 0 rfl) (kcX1_firstUnlike_1 10 24 rfl) rfl
theorem dX1_firstUnlike_96 : decode cX1_firstUnlike 96 = .ok (.iinc 5 1, 3) := dw_132 (kcX1_firstUnlike_1 32 132 rfl) (kcX1_firstUnlike_1 33 5 rfl) (kcX1_firstUnlike_1 34 1 rfl) rfl
theorem dX1_firstUnlike_99 : decode cX1_firstUnlike 99 = .ok (.goto (-63), 3) := dw_167 (kcX1_firstUnlike_1 35 167 rfl) (kcX1_firstUnlike_1 36 255 rfl) (kcX1_firstUnlike_1 37 193 rfl) rfl
theorem dX1_firstUnlike_75 : decode cX1_firstUnlike 75 = .ok (.iload 7, 2) := dw_21 (kcX1_firstUnlike_1 11 21 rfl) (kcX1_firstUnlike_1 12 7 rfl)
theorem dX1_firstUnlike_77 : decode cX1_firstUnlike 77 = .ok (.ifCond .lt 19, 3) := dw_155 (kcX1_firstUnlike_1 13 155 rfl) (kcX1_firstUnlike_1 14 0 rfl) (kcX1_firstUnlike_1 15 19 rfl) rfl
theorem dX1_firstUnlike_80 : decode cX1_firstUnlike 80 = .ok (.iload 6, 2) := dw_21 (kcX1_firstUnlike_1 16 21 rfl) (kcX1_firstUnlike_1 17 6 rfl)
theorem dX1_firstUnlike_82 : decode cX1_firstUnlike 82 = .ok (.iload 7, 2) := dw_21 (kcX1_firstUnlike_1 18 21 rfl) (kcX1_firstUnlike_1 19 7 rfl)
theorem dX1_firstUnlike_84 : decode cX1_firstUnlike 84 = .ok (.if_icmp .eq 12, 3) := dw_159 (kcX1_firstUnlike_1 20 159 rfl) (kcX1_firstUnlike_1 21 0 rfl) (kcX1_firstUnlike_1 22 12 rfl) rfl
theorem dX1_firstUnlike_87 : decode cX1_firstUnlike 87 = .ok (.bipush 100, 2) := dw_16 (kcX1_firstUnlike_1 23 16 rfl) (kcX1_firstUnlike_1 24 100 rfl) rfl
theorem dX1_firstUnlike_89 : decode cX1_firstUnlike 89 = .ok (.iload 4, 2) := dw_21 (kcX1_firstUnlike_1 25 21 rfl) (kcX1_firstUnlike_1 26 4 rfl)
theorem dX1_firstUnlike_91 : decode cX1_firstUnlike 91 = .ok (.imul, 1) := dw_104 (kcX1_firstUnlike_1 27 104 rfl)
theorem dX1_firstUnlike_92 : decode cX1_firstUnlike 92 = .ok (.iload 5, 2) := dw_21 (kcX1_firstUnlike_1 28 21 rfl) (kcX1_firstUnlike_1 29 5 rfl)
theorem dX1_firstUnlike_94 : decode cX1_firstUnlike 94 = .ok (.iadd, 1) := dw_96 (kcX1_firstUnlike_1 30 96 rfl)
theorem dX1_firstUnlike_95 : decode cX1_firstUnlike 95 = .ok (.ireturn, 1) := dw_172 (kcX1_firstUnlike_1 31 172 rfl)
def adjU (u v : Nat) : Prop := adjR u v ∨ (u = 24 ∧ v < 24) ∨ (v = 24 ∧ u < 24)
abbrev uM (G : GG) (ua a b la : Nat → Nat) (uf f lf : Nat → Int32) (ur r lr : Nat → Nat → Int32) : va_W := [((ua 0), .inr (3, [.ref (ua 23), .ref (ua 1), .ref (ua 2), .ref (ua 3), .ref (ua 4), .ref (ua 5), .ref (ua 6), .ref (ua 7)])), ((ua 1), .inl (G.2.1, 144, .inl (ur 1))), ((ua 2), .inl (G.2.2.1, 144, .inl (ur 2))), ((ua 3), .inl (G.2.1, 25, .inl (ur 3))), ((ua 4), .inl (G.2.1, 25, .inl (ur 4))), ((ua 5), .inl (G.2.1, 25, .inl (ur 5))), ((ua 6), .inl (G.2.1, 25, .inl (ur 6))), ((ua 7), .inl (G.2.2.1, 12, .inl (ur 7))), ((ua 23), .inr (5, [.ref (ua 20), .ref (ua 21), .ref (ua 22), .int (uf 3)])), ((ua 20), .inl (G.2.1, 25, .inl (ur 20))), ((ua 21), .inl (G.2.1, 25, .inl (ur 21))), ((ua 22), .inl (G.2.1, 25, .inl (ur 22))), ((a 15), .inr (2, [.int (f 0), .int (f 1), .int (f 2), .int (f 3), .int (f 4), .ref (b 3), .ref (a 6), .ref (a 7), .ref (a 8), .ref (a 9), .ref (a 10), .ref (a 11), .ref (a 12), .ref (a 13), .ref (a 14)])), ((a 6), .inl (G.2.2.1, 12, .inl (r 6))), ((a 7), .inl (G.2.1, 12, .inl (r 7))), ((a 8), .inl (G.2.1, 144, .inl (r 8))), ((a 9), .inl (G.2.1, 144, .inl (r 9))), ((a 10), .inl (G.2.1, 144, .inl (r 10))), ((a 11), .inl (G.2.2.1, 144, .inl (r 11))), ((a 12), .inl (G.2.1, 144, .inl (r 12))), ((a 13), .inl (G.2.1, 144, .inl (r 13))), ((a 14), .inl (G.2.1, 144, .inl (r 14))), ((la 0), .inr (1, [.int (lf 0), .int (lf 1), .ref (la 1)])), ((la 1), .inl (G.2.1, 144, .inl (lr 2)))]
set_option maxHeartbeats 4000000 in
set_option maxRecDepth 100000 in
theorem c_X3_refreshNode (l : Launch) (G : GG) (ua a b la : Nat → Nat) (uf f lf : Nat → Int32) (ur r lr : Nat → Nat → Int32) (n : Nat) (hn : n < 24) (hRB : RB adjU (ur 20)) : WrV l yX3_refreshNode cX3_refreshNode 4 ({ frames := 1, cells := 0, slots := 0, locals := 26 }) G (uM G ua a b la uf f lf ur r lr) [.ref (ua 0), .int (nI n)] (fun w => ∃ (n_ur_20 : Nat → Int32), w = uM G ua a b la uf f lf (up2 ur 20 n_ur_20) r lr ∧ (RB adjU n_ur_20)) := by
  refine wr_entryV (by decide +kernel) (Nat.le_of_ble_eq_true rfl) ?_
  intro p e s m below meth c A C0 hP hK hD hA ls hl
  have hS : va_S A s.heap s.heap [] := va_S.rf
  obtain ⟨hx, hb, hml, hown, hts, hr, hlocks, hin⟩ := C0
  have hown : s.vm.findClass RX3 = some m.cls := hown
  have hDD : ∀ uf' f' lf' ur' r' lr', va_D A (uM G ua a b la uf' f' lf' ur' r' lr') := fun uf' f' lf' ur' r' lr' => D_same hD rfl
  have hl : lv_has ls 4 [(0, .ref (ua 0)), (1, .int (nI n))] := hl
  refine lv_aload_n hx hb dX3_refreshNode_0 rfl (lv_at hl 0 rfl) ?_
  refine va_get (D := G.1) (ci := 3) (v := .ref (ua 4)) (C := RX3) (T := TX3) (N := 8) hx hb hts inX3 hown hK.1 hP 0 rfl rfl 4 (by decide) (hts _ mf_X3_29) (fun _ h9 => h9) rfl dX3_refreshNode_1 ?_
  refine lv_iload_n hx hb dX3_refreshNode_4 rfl (lv_at hl 1 rfl) ?_
  refine xiald (f := (ur 4)) hx hb hK hP 4 (n) (rfl) (by omega) (by decide) rfl dX3_refreshNode_5 ?_
  refine lv_topi (fun v1 ev1 => ?_)
  refine lv_aload_n hx hb dX3_refreshNode_6 rfl (lv_at hl 0 rfl) ?_
  refine va_get (D := G.1) (ci := 3) (v := .ref (ua 6)) (C := RX3) (T := TX3) (N := 8) hx hb hts inX3 hown hK.1 hP 0 rfl rfl 6 (by decide) (hts _ mf_X3_35) (fun _ h9 => h9) rfl dX3_refreshNode_7 ?_
  refine lv_iload_n hx hb dX3_refreshNode_10 rfl (lv_at hl 1 rfl) ?_
  refine xiald (f := (ur 6)) hx hb hK hP 6 (n) (rfl) (by omega) (by decide) rfl dX3_refreshNode_11 ?_
  refine lv_topi (fun v2 ev2 => ?_)
  have j20_3 : ∀ (z3 : Int32) (gz3 : z3 = 0 ∨ z3 = 1) (H : Heap) (locs : List Loc) (ls : Array Slot), PP G (uM G ua a b la uf f lf ur r lr) H → va_S A s.heap H locs → lv_has ls 4 [(0, .ref (ua 0)), (1, .int (nI n))] → W p l e ({ frames := 1, cells := 0, slots := 0, locals := 26 }) s m ([.ref (ua 0), .int (nI n)] : List Value).toArray below meth c H locs 0 0 (MQ below (QwV G (fun w => ∃ (n_ur_20 : Nat → Int32), w = uM G ua a b la uf f lf (up2 ur 20 n_ur_20) r lr ∧ (RB adjU n_ur_20)) A) ([.ref (ua 0), .int (nI n)] : List Value).toArray s 0 0 A) (F0 m 20 ls [.int z3]) := by
    intro z3 gz3 H locs ls hP hS hl
    refine lv_istore_n (lv' := [(2, .int z3), (0, .ref (ua 0)), (1, .int (nI n))]) hx hb dX3_refreshNode_20 rfl hl (by decide) rfl (fun ls hl => ?_)
    refine lv_aload_n hx hb dX3_refreshNode_21 rfl (lv_at hl 1 rfl) ?_
    refine va_get (D := G.1) (ci := 3) (v := .ref (ua 4)) (C := RX3) (T := TX3) (N := 8) hx hb hts inX3 hown hK.1 hP 0 rfl rfl 4 (by decide) (hts _ mf_X3_29) (fun _ h9 => h9) rfl dX3_refreshNode_22 ?_
    refine lv_iload_n hx hb dX3_refreshNode_25 rfl (lv_at hl 2 rfl) ?_
    refine xiald (f := (ur 4)) hx hb hK hP 4 (n) (rfl) (by omega) (by decide) rfl dX3_refreshNode_26 ?_
    refine lv_topi (fun v4 ev4 => ?_)
    refine lv_aload_n hx hb dX3_refreshNode_27 rfl (lv_at hl 1 rfl) ?_
    refine va_get (D := G.1) (ci := 3) (v := .ref (ua 5)) (C := RX3) (T := TX3) (N := 8) hx hb hts inX3 hown hK.1 hP 0 rfl rfl 5 (by decide) (hts _ mf_X3_32) (fun _ h9 => h9) rfl dX3_refreshNode_28 ?_
    refine lv_iload_n hx hb dX3_refreshNode_31 rfl (lv_at hl 2 rfl) ?_
    refine xiald (f := (ur 5)) hx hb hK hP 5 (n) (rfl) (by omega) (by decide) rfl dX3_refreshNode_32 ?_
    refine lv_topi (fun v5 ev5 => ?_)
    have j41_6 : ∀ (z6 : Int32) (gz6 : z6 = 0 ∨ z6 = 1) (H : Heap) (locs : List Loc) (ls : Array Slot), PP G (uM G ua a b la uf f lf ur r lr) H → va_S A s.heap H locs → lv_has ls 4 [(2, .int z3), (0, .ref (ua 0)), (1, .int (nI n))] → W p l e ({ frames := 1, cells := 0, slots := 0, locals := 26 }) s m ([.ref (ua 0), .int (nI n)] : List Value).toArray below meth c H locs 0 0 (MQ below (QwV G (fun w => ∃ (n_ur_20 : Nat → Int32), w = uM G ua a b la uf f lf (up2 ur 20 n_ur_20) r lr ∧ (RB adjU n_ur_20)) A) ([.ref (ua 0), .int (nI n)] : List Value).toArray s 0 0 A) (F0 m 41 ls [.int z6]) := by
      intro z6 gz6 H locs ls hP hS hl
      refine lv_istore_n (lv' := [(3, .int z6), (2, .int z3), (0, .ref (ua 0)), (1, .int (nI n))]) hx hb dX3_refreshNode_41 rfl hl (by decide) rfl (fun ls hl => ?_)
      refine lv_iload_n hx hb dX3_refreshNode_42 rfl (lv_at hl 3 rfl) ?_
      refine lv_bipush (v := 12) hx hb dX3_refreshNode_43 (by decide) ?_
      refine lv_icmp_ge (tgt := 63) hx hb dX3_refreshNode_45 (by decide) (fun c7 => ?_) (fun c7 => ?_)
      · have b45 := qge_t (a := n) (b := 12) (by omega) (by omega) c7
        refine lv_aload_n hx hb dX3_refreshNode_63 rfl (lv_at hl 2 rfl) ?_
        refine va_get (D := G.1) (ci := 3) (v := .ref (ua 23)) (C := RX3) (T := TX3) (N := 8) hx hb hts inX3 hown hK.1 hP 0 rfl rfl 0 (by decide) (hts _ mf_X3_12) (fun _ h9 => h9) rfl dX3_refreshNode_64 ?_
        refine lv_iload_n hx hb dX3_refreshNode_67 rfl (lv_at hl 3 rfl) ?_
        refine lv_bipush (v := 24) hx hb dX3_refreshNode_68 (by decide) ?_
        refine lv_iload_n hx hb dX3_refreshNode_70 rfl (lv_at hl 1 rfl) ?_
        refine lv_iload_n hx hb dX3_refreshNode_71 rfl (lv_at hl 0 rfl) ?_
        refine wrVV (rest := []) (q0 := 0) ⟨hx, hb, hml, hown, hts⟩ (c_X5_join l G (fun k => ua (20 + k)) (fun k => ur (20 + k)) (uf 3) n 24 z3 z6 (by omega) (by omega)) mi_yX5_join mv_yX5_join ml_X3_105 ⟨rfl, rfl, Nat.le_of_ble_eq_true rfl, Nat.le_of_ble_eq_true rfl⟩ hK hP (hDD _ _ _ _ _ _) [8, 9, 10, 11] rfl (by decide) rfl rfl rfl hl.1 rfl (Nat.le_of_ble_eq_true rfl) dX3_refreshNode_72 ⟨Nat.zero_le _, Nat.zero_le _⟩ hS hA (fun w9 H locs hw9 hP hS => ?_)
        obtain rfl := hw9
        have hP : PP G (uM G ua a b la uf f lf (up2 ur 20 (jnF (ur 20) n 24 z3 z6)) r lr) H := hP rfl
        have hRB : RB adjU (jnF (ur 20) n 24 z3 z6) := RB_join z3 z6 hRB (by unfold adjU adjR; omega) (by unfold adjU adjR; omega) (by omega) (by omega)
        exact wr_vret hx hb hr hlocks hS hP ⟨(jnF (ur 20) n 24 z3 z6), rfl, hRB⟩ dX3_refreshNode_75
      · have b45 := qge_f (a := n) (b := 12) (by omega) (by omega) c7
        refine lv_aload_n hx hb dX3_refreshNode_48 rfl (lv_at hl 2 rfl) ?_
        refine va_get (D := G.1) (ci := 3) (v := .ref (ua 23)) (C := RX3) (T := TX3) (N := 8) hx hb hts inX3 hown hK.1 hP 0 rfl rfl 0 (by decide) (hts _ mf_X3_12) (fun _ h9 => h9) rfl dX3_refreshNode_49 ?_
        refine lv_bipush (v := 24) hx hb dX3_refreshNode_52 (by decide) ?_
        refine lv_iload_n hx hb dX3_refreshNode_54 rfl (lv_at hl 3 rfl) ?_
        refine lv_iload_n hx hb dX3_refreshNode_55 rfl (lv_at hl 1 rfl) ?_
        refine lv_iload_n hx hb dX3_refreshNode_56 rfl (lv_at hl 0 rfl) ?_
        refine wrVV (rest := []) (q0 := 0) ⟨hx, hb, hml, hown, hts⟩ (c_X5_join l G (fun k => ua (20 + k)) (fun k => ur (20 + k)) (uf 3) 24 n z3 z6 (by omega) (by omega)) mi_yX5_join mv_yX5_join ml_X3_105 ⟨rfl, rfl, Nat.le_of_ble_eq_true rfl, Nat.le_of_ble_eq_true rfl⟩ hK hP (hDD _ _ _ _ _ _) [8, 9, 10, 11] rfl (by decide) rfl rfl rfl hl.1 rfl (Nat.le_of_ble_eq_true rfl) dX3_refreshNode_57 ⟨Nat.zero_le _, Nat.zero_le _⟩ hS hA (fun w11 H locs hw11 hP hS => ?_)
        obtain rfl := hw11
        have hP : PP G (uM G ua a b la uf f lf (up2 ur 20 (jnF (ur 20) 24 n z3 z6)) r lr) H := hP rfl
        have hRB : RB adjU (jnF (ur 20) 24 n z3 z6) := RB_join z3 z6 hRB (by unfold adjU adjR; omega) (by unfold adjU adjR; omega) (by omega) (by omega)
        refine lv_goto (tgt := 75) hx hb dX3_refreshNode_60 (by decide) ?_
        exact wr_vret hx hb hr hlocks hS hP ⟨(jnF (ur 20) 24 n z3 z6), rfl, hRB⟩ dX3_refreshNode_75
    refine lv_icmp_le (tgt := 40) hx hb dX3_refreshNode_33 (by decide) (fun c12 => ?_) (fun c12 => ?_)
    · refine lv_iconst (v := 0) hx hb dX3_refreshNode_40 (by decide) ?_
      exact j41_6 0 (Or.inl rfl) _ _ _ hP hS (lv_sub hl [0, 1, 2] rfl)
    · refine lv_iconst (v := 1) hx hb dX3_refreshNode_36 (by decide) ?_
      refine lv_goto (tgt := 41) hx hb dX3_refreshNode_37 (by decide) ?_
      exact j41_6 1 (Or.inr rfl) _ _ _ hP hS (lv_sub hl [0, 1, 2] rfl)
  refine lv_icmp_ge (tgt := 19) hx hb dX3_refreshNode_12 (by decide) (fun c13 => ?_) (fun c13 => ?_)
  · refine lv_iconst (v := 0) hx hb dX3_refreshNode_19 (by decide) ?_
    exact j20_3 0 (Or.inl rfl) _ _ _ hP hS (lv_sub hl [0, 1] rfl)
  · refine lv_iconst (v := 1) hx hb dX3_refreshNode_15 (by decide) ?_
    refine lv_goto (tgt := 20) hx hb dX3_refreshNode_16 (by decide) ?_
    exact j20_3 1 (Or.inr rfl) _ _ _ hP hS (lv_sub hl [0, 1] rfl)
set_option maxHeartbeats 4000000 in
set_option maxRecDepth 100000 in
theorem c_X3_turn (l : Launch) (G : GG) (ua a b la : Nat → Nat) (uf f lf : Nat → Int32) (ur r lr : Nat → Nat → Int32) (u : Nat) (v : Nat) (hadj : adjU u v) (hRB : RB adjU (ur 20)) : WrV l yX3_turn cX3_turn 6 ({ frames := 2, cells := 0, slots := 0, locals := 49 }) G (uM G ua a b la uf f lf ur r lr) [.ref (ua 0), .int (nI u), .int (nI v)] (fun w => ∃ (n_ur_2 : Nat → Int32) (n_ur_4 : Nat → Int32) (n_ur_20 : Nat → Int32), w = uM G ua a b la uf f lf (up2 (up2 (up2 ur 2 n_ur_2) 4 n_ur_4) 20 n_ur_20) r lr ∧ (RB adjU n_ur_20)) := by
  refine wr_entryV (by decide +kernel) (Nat.le_of_ble_eq_true rfl) ?_
  intro p e s m below meth c A C0 hP hK hD hA ls hl
  have hS : va_S A s.heap s.heap [] := va_S.rf
  obtain ⟨hx, hb, hml, hown, hts, hr, hlocks, hin⟩ := C0
  have hown : s.vm.findClass RX3 = some m.cls := hown
  have hDD : ∀ uf' f' lf' ur' r' lr', va_D A (uM G ua a b la uf' f' lf' ur' r' lr') := fun uf' f' lf' ur' r' lr' => D_same hD rfl
  have hl : lv_has ls 6 [(0, .ref (ua 0)), (1, .int (nI u)), (2, .int (nI v))] := hl
  have hq := hadj
  unfold adjU adjR at hq
  refine lv_iload_n hx hb dX3_turn_0 rfl (lv_at hl 1 rfl) ?_
  refine lv_bipush (v := 24) hx hb dX3_turn_1 (by decide) ?_
  refine lv_icmp_ne (tgt := 34) hx hb dX3_turn_3 (by decide) (fun c1 => ?_) (fun c1 => ?_)
  · have b3 := qeq_f (a := u) (b := 24) (by omega) (by omega) c1
    refine lv_iload_n hx hb dX3_turn_34 rfl (lv_at hl 2 rfl) ?_
    refine lv_bipush (v := 24) hx hb dX3_turn_35 (by decide) ?_
    refine lv_icmp_ne (tgt := 68) hx hb dX3_turn_37 (by decide) (fun c2 => ?_) (fun c2 => ?_)
    · have b37 := qeq_f (a := v) (b := 24) (by omega) (by omega) c2
      refine lv_iload_n hx hb dX3_turn_68 rfl (lv_at hl 1 rfl) ?_
      refine lv_bipush (v := 12) hx hb dX3_turn_69 (by decide) ?_
      refine lv_icmp_ge (tgt := 78) hx hb dX3_turn_71 (by decide) (fun c3 => ?_) (fun c3 => ?_)
      · have b71 := qge_t (a := u) (b := 12) (by omega) (by omega) c3
        refine lv_iconst (v := 0) hx hb dX3_turn_78 (by decide) ?_
        refine lv_istore_n (lv' := [(3, .int 0), (0, .ref (ua 0)), (1, .int (nI u)), (2, .int (nI v))]) hx hb dX3_turn_79 rfl hl (by decide) rfl (fun ls hl => ?_)
        refine lv_iload_n hx hb dX3_turn_80 rfl (lv_at hl 0 rfl) ?_
        refine lv_if_eq (tgt := 88) hx hb dX3_turn_81 (by decide) (fun c4 => ?_) (fun c4 => absurd (by decide) c4)
        refine lv_iload_n hx hb dX3_turn_88 rfl (lv_at hl 3 rfl) ?_
        refine lv_istore (lv' := [(4, .int (nI v)), (3, .int 0), (0, .ref (ua 0)), (1, .int (nI u)), (2, .int (nI v))]) hx hb dX3_turn_89 hl (by decide) rfl (fun ls hl => ?_)
        refine lv_iload_n hx hb dX3_turn_91 rfl (lv_at hl 1 rfl) ?_
        refine lv_if_eq (tgt := 99) hx hb dX3_turn_92 (by decide) (fun c5 => ?_) (fun c5 => absurd (by decide) c5)
        refine lv_iload_n hx hb dX3_turn_99 rfl (lv_at hl 3 rfl) ?_
        refine lv_istore (lv' := [(5, .int (nI u)), (4, .int (nI v)), (3, .int 0), (0, .ref (ua 0)), (1, .int (nI u)), (2, .int (nI v))]) hx hb dX3_turn_100 hl (by decide) rfl (fun ls hl => ?_)
        refine lv_aload_n hx hb dX3_turn_102 rfl (lv_at hl 3 rfl) ?_
        refine va_get (D := G.1) (ci := 3) (v := .ref (ua 2)) (C := RX3) (T := TX3) (N := 8) hx hb hts inX3 hown hK.1 hP 0 rfl rfl 2 (by decide) (hts _ mf_X3_22) (fun _ h9 => h9) rfl dX3_turn_103 ?_
        refine lv_iload hx hb dX3_turn_106 (lv_at hl 1 rfl) ?_
        refine lv_iload hx hb dX3_turn_108 (lv_at hl 0 rfl) ?_
        refine lv_bipush (v := 12) hx hb dX3_turn_110 (by decide) ?_
        refine lv_isub hx hb dX3_turn_112 ?_
        refine lv_topi (fun v6 ev6 => ?_)
        obtain rfl : v6 = nI (u - 12) := nI_minus ev6 rfl rfl (by omega)
        refine rdSN (rest := [.ref (ua 2)]) ⟨hx, hb, hml, hown, hts⟩ (c_X6_spotOf l G ((nI v)) ((nI (u - 12)))) mi_yX6_spotOf mst_yX6_spotOf (by decide +kernel) ⟨rfl, rfl, Nat.le_of_ble_eq_true rfl, Nat.le_of_ble_eq_true rfl⟩ hK (fun k q h => by simp at h) rfl hl.1 rfl (Nat.le_of_ble_eq_true rfl) dX3_turn_113 ⟨Nat.zero_le _, Nat.zero_le _⟩ hS hA hP (fun r7 H locs hr7 hP hS => ?_)
        obtain rfl : r7 = nI (v * 12 + (u - 12)) := spot_eq hr7
        refine lv_iload_n hx hb dX3_turn_116 rfl (lv_at hl 2 rfl) ?_
        refine xzast (f := (ur 2)) (x := 0) hx hb hK hP (hDD _ _ _ _ _ _) hS 2 ((v * 12 + (u - 12))) (rfl) (by omega) (by decide) (Or.inl rfl) rfl dX3_turn_117 (fun H locs hP _ hS => ?_)
        have hP : PP G (uM G ua a b la uf f lf (up2 ur 2 (upd (ur 2) ((v * 12 + (u - 12))) (0))) r lr) H := hP
        refine lv_aload_n hx hb dX3_turn_118 rfl (lv_at hl 3 rfl) ?_
        refine va_get (D := G.1) (ci := 3) (v := .ref (ua 23)) (C := RX3) (T := TX3) (N := 8) hx hb hts inX3 hown hK.1 hP 0 rfl rfl 0 (by decide) (hts _ mf_X3_12) (fun _ h9 => h9) rfl dX3_turn_119 ?_
        refine lv_iload hx hb dX3_turn_122 (lv_at hl 1 rfl) ?_
        refine lv_iload hx hb dX3_turn_124 (lv_at hl 0 rfl) ?_
        refine lv_iload_n hx hb dX3_turn_126 rfl (lv_at hl 2 rfl) ?_
        refine lv_if_ne (tgt := 134) hx hb dX3_turn_127 (by decide) (fun c8 => absurd rfl c8) (fun c8 => ?_)
        refine lv_iconst (v := 1) hx hb dX3_turn_130 (by decide) ?_
        refine lv_goto (tgt := 135) hx hb dX3_turn_131 (by decide) ?_
        refine lv_iload_n hx hb dX3_turn_135 rfl (lv_at hl 2 rfl) ?_
        refine wrVV (rest := []) (q0 := 0) ⟨hx, hb, hml, hown, hts⟩ (c_X5_join l G (fun k => ua (20 + k)) (fun k => (up2 ur 2 (upd (ur 2) ((v * 12 + (u - 12))) (0))) (20 + k)) (uf 3) v u 1 0 (by omega) (by omega)) mi_yX5_join mv_yX5_join ml_X3_105 ⟨rfl, rfl, Nat.le_of_ble_eq_true rfl, Nat.le_of_ble_eq_true rfl⟩ hK hP (hDD _ _ _ _ _ _) [8, 9, 10, 11] rfl (by decide) rfl rfl rfl hl.1 rfl (Nat.le_of_ble_eq_true rfl) dX3_turn_136 ⟨Nat.zero_le _, Nat.zero_le _⟩ hS hA (fun w10 H locs hw10 hP hS => ?_)
        obtain rfl := hw10
        have hP : PP G (uM G ua a b la uf f lf (up2 (up2 ur 2 (upd (ur 2) ((v * 12 + (u - 12))) (0))) 20 (jnF (ur 20) v u 1 0)) r lr) H := hP rfl
        have hRB : RB adjU (jnF (ur 20) v u 1 0) := RB_join 1 0 hRB (by unfold adjU adjR; omega) (by unfold adjU adjR; omega) (by omega) (by omega)
        exact wr_vret hx hb hr hlocks hS hP ⟨(upd (ur 2) ((v * 12 + (u - 12))) (0)), (ur 4), (jnF (ur 20) v u 1 0), rfl, hRB⟩ dX3_turn_139
      · have b71 := qge_f (a := u) (b := 12) (by omega) (by omega) c3
        refine lv_iconst (v := 1) hx hb dX3_turn_74 (by decide) ?_
        refine lv_goto (tgt := 79) hx hb dX3_turn_75 (by decide) ?_
        refine lv_istore_n (lv' := [(3, .int 1), (0, .ref (ua 0)), (1, .int (nI u)), (2, .int (nI v))]) hx hb dX3_turn_79 rfl hl (by decide) rfl (fun ls hl => ?_)
        refine lv_iload_n hx hb dX3_turn_80 rfl (lv_at hl 0 rfl) ?_
        refine lv_if_eq (tgt := 88) hx hb dX3_turn_81 (by decide) (fun c11 => absurd c11 (by decide)) (fun c11 => ?_)
        refine lv_iload_n hx hb dX3_turn_84 rfl (lv_at hl 2 rfl) ?_
        refine lv_goto (tgt := 89) hx hb dX3_turn_85 (by decide) ?_
        refine lv_istore (lv' := [(4, .int (nI u)), (3, .int 1), (0, .ref (ua 0)), (1, .int (nI u)), (2, .int (nI v))]) hx hb dX3_turn_89 hl (by decide) rfl (fun ls hl => ?_)
        refine lv_iload_n hx hb dX3_turn_91 rfl (lv_at hl 1 rfl) ?_
        refine lv_if_eq (tgt := 99) hx hb dX3_turn_92 (by decide) (fun c12 => absurd c12 (by decide)) (fun c12 => ?_)
        refine lv_iload_n hx hb dX3_turn_95 rfl (lv_at hl 4 rfl) ?_
        refine lv_goto (tgt := 100) hx hb dX3_turn_96 (by decide) ?_
        refine lv_istore (lv' := [(5, .int (nI v)), (4, .int (nI u)), (3, .int 1), (0, .ref (ua 0)), (1, .int (nI u)), (2, .int (nI v))]) hx hb dX3_turn_100 hl (by decide) rfl (fun ls hl => ?_)
        refine lv_aload_n hx hb dX3_turn_102 rfl (lv_at hl 3 rfl) ?_
        refine va_get (D := G.1) (ci := 3) (v := .ref (ua 2)) (C := RX3) (T := TX3) (N := 8) hx hb hts inX3 hown hK.1 hP 0 rfl rfl 2 (by decide) (hts _ mf_X3_22) (fun _ h9 => h9) rfl dX3_turn_103 ?_
        refine lv_iload hx hb dX3_turn_106 (lv_at hl 1 rfl) ?_
        refine lv_iload hx hb dX3_turn_108 (lv_at hl 0 rfl) ?_
        refine lv_bipush (v := 12) hx hb dX3_turn_110 (by decide) ?_
        refine lv_isub hx hb dX3_turn_112 ?_
        refine lv_topi (fun v13 ev13 => ?_)
        obtain rfl : v13 = nI (v - 12) := nI_minus ev13 rfl rfl (by omega)
        refine rdSN (rest := [.ref (ua 2)]) ⟨hx, hb, hml, hown, hts⟩ (c_X6_spotOf l G ((nI u)) ((nI (v - 12)))) mi_yX6_spotOf mst_yX6_spotOf (by decide +kernel) ⟨rfl, rfl, Nat.le_of_ble_eq_true rfl, Nat.le_of_ble_eq_true rfl⟩ hK (fun k q h => by simp at h) rfl hl.1 rfl (Nat.le_of_ble_eq_true rfl) dX3_turn_113 ⟨Nat.zero_le _, Nat.zero_le _⟩ hS hA hP (fun r14 H locs hr14 hP hS => ?_)
        obtain rfl : r14 = nI (u * 12 + (v - 12)) := spot_eq hr14
        refine lv_iload_n hx hb dX3_turn_116 rfl (lv_at hl 2 rfl) ?_
        refine xzast (f := (ur 2)) (x := 1) hx hb hK hP (hDD _ _ _ _ _ _) hS 2 ((u * 12 + (v - 12))) (rfl) (by omega) (by decide) (Or.inr rfl) rfl dX3_turn_117 (fun H locs hP _ hS => ?_)
        have hP : PP G (uM G ua a b la uf f lf (up2 ur 2 (upd (ur 2) ((u * 12 + (v - 12))) (1))) r lr) H := hP
        refine lv_aload_n hx hb dX3_turn_118 rfl (lv_at hl 3 rfl) ?_
        refine va_get (D := G.1) (ci := 3) (v := .ref (ua 23)) (C := RX3) (T := TX3) (N := 8) hx hb hts inX3 hown hK.1 hP 0 rfl rfl 0 (by decide) (hts _ mf_X3_12) (fun _ h9 => h9) rfl dX3_turn_119 ?_
        refine lv_iload hx hb dX3_turn_122 (lv_at hl 1 rfl) ?_
        refine lv_iload hx hb dX3_turn_124 (lv_at hl 0 rfl) ?_
        refine lv_iload_n hx hb dX3_turn_126 rfl (lv_at hl 2 rfl) ?_
        refine lv_if_ne (tgt := 134) hx hb dX3_turn_127 (by decide) (fun c15 => ?_) (fun c15 => absurd c15 (by decide))
        refine lv_iconst (v := 0) hx hb dX3_turn_134 (by decide) ?_
        refine lv_iload_n hx hb dX3_turn_135 rfl (lv_at hl 2 rfl) ?_
        refine wrVV (rest := []) (q0 := 0) ⟨hx, hb, hml, hown, hts⟩ (c_X5_join l G (fun k => ua (20 + k)) (fun k => (up2 ur 2 (upd (ur 2) ((u * 12 + (v - 12))) (1))) (20 + k)) (uf 3) u v 0 1 (by omega) (by omega)) mi_yX5_join mv_yX5_join ml_X3_105 ⟨rfl, rfl, Nat.le_of_ble_eq_true rfl, Nat.le_of_ble_eq_true rfl⟩ hK hP (hDD _ _ _ _ _ _) [8, 9, 10, 11] rfl (by decide) rfl rfl rfl hl.1 rfl (Nat.le_of_ble_eq_true rfl) dX3_turn_136 ⟨Nat.zero_le _, Nat.zero_le _⟩ hS hA (fun w17 H locs hw17 hP hS => ?_)
        obtain rfl := hw17
        have hP : PP G (uM G ua a b la uf f lf (up2 (up2 ur 2 (upd (ur 2) ((u * 12 + (v - 12))) (1))) 20 (jnF (ur 20) u v 0 1)) r lr) H := hP rfl
        have hRB : RB adjU (jnF (ur 20) u v 0 1) := RB_join 0 1 hRB (by unfold adjU adjR; omega) (by unfold adjU adjR; omega) (by omega) (by omega)
        exact wr_vret hx hb hr hlocks hS hP ⟨(upd (ur 2) ((u * 12 + (v - 12))) (1)), (ur 4), (jnF (ur 20) u v 0 1), rfl, hRB⟩ dX3_turn_139
    · have b37 := qeq_t (a := v) (b := 24) (by omega) (by omega) c2
      refine lv_aload_n hx hb dX3_turn_40 rfl (lv_at hl 0 rfl) ?_
      refine va_get (D := G.1) (ci := 3) (v := .ref (ua 4)) (C := RX3) (T := TX3) (N := 8) hx hb hts inX3 hown hK.1 hP 0 rfl rfl 4 (by decide) (hts _ mf_X3_29) (fun _ h9 => h9) rfl dX3_turn_41 ?_
      refine lv_iload_n hx hb dX3_turn_44 rfl (lv_at hl 1 rfl) ?_
      refine lv_dup2_11 hx hb dX3_turn_45 rfl rfl ?_
      refine xiald (f := (ur 4)) hx hb hK hP 4 (u) (rfl) (by omega) (by decide) rfl dX3_turn_46 ?_
      refine lv_topi (fun v18 ev18 => ?_)
      refine lv_iload_n hx hb dX3_turn_47 rfl (lv_at hl 1 rfl) ?_
      refine lv_bipush (v := 12) hx hb dX3_turn_48 (by decide) ?_
      have j58_19 : ∀ (z19 : Int32) (H : Heap) (locs : List Loc) (ls : Array Slot), PP G (uM G ua a b la uf f lf ur r lr) H → va_S A s.heap H locs → lv_has ls 6 [(0, .ref (ua 0)), (1, .int (nI u))] → W p l e ({ frames := 2, cells := 0, slots := 0, locals := 49 }) s m ([.ref (ua 0), .int (nI u), .int (nI v)] : List Value).toArray below meth c H locs 0 0 (MQ below (QwV G (fun w => ∃ (n_ur_2 : Nat → Int32) (n_ur_4 : Nat → Int32) (n_ur_20 : Nat → Int32), w = uM G ua a b la uf f lf (up2 (up2 (up2 ur 2 n_ur_2) 4 n_ur_4) 20 n_ur_20) r lr ∧ (RB adjU n_ur_20)) A) ([.ref (ua 0), .int (nI u), .int (nI v)] : List Value).toArray s 0 0 A) (F0 m 58 ls [.int z19, .int v18, .int (nI u), .ref (ua 4)]) := by
        intro z19  H locs ls hP hS hl
        refine lv_iadd hx hb dX3_turn_58 ?_
        refine lv_topi (fun v20 ev20 => ?_)
        refine xiast (f := (ur 4)) (x := v20) hx hb hK hP (hDD _ _ _ _ _ _) hS 4 (u) (rfl) (by omega) (by decide) rfl dX3_turn_59 (fun H locs hP _ hS => ?_)
        have hP : PP G (uM G ua a b la uf f lf (up2 ur 4 (upd (ur 4) (u) (v20))) r lr) H := hP
        refine lv_aload_n hx hb dX3_turn_60 rfl (lv_at hl 0 rfl) ?_
        refine lv_iload_n hx hb dX3_turn_61 rfl (lv_at hl 1 rfl) ?_
        refine wrVVa (rest := []) (q0 := 0) ⟨hx, hb, hml, hown, hts⟩ (c_X3_refreshNode l G ua a b la uf f lf (up2 ur 4 (upd (ur 4) (u) (v20))) r lr u  (by omega) hRB) mi_yX3_refreshNode mv_yX3_refreshNode ml_X3_94 ⟨rfl, rfl, Nat.le_of_ble_eq_true rfl, Nat.le_of_ble_eq_true rfl⟩ hK hP (hDD _ _ _ _ _ _) rfl rfl rfl hl.1 rfl (Nat.le_of_ble_eq_true rfl) dX3_turn_62 ⟨Nat.zero_le _, Nat.zero_le _⟩ hS hA (fun w22 H locs hw22 hP hS => ?_)
        obtain ⟨x23, rfl, hRB⟩ := hw22
        have hP : PP G (uM G ua a b la uf f lf (up2 (up2 ur 4 (upd (ur 4) (u) (v20))) 20 x23) r lr) H := hP
        have hRB : RB adjU x23 := hRB
        refine lv_goto (tgt := 139) hx hb dX3_turn_65 (by decide) ?_
        exact wr_vret hx hb hr hlocks hS hP ⟨(ur 2), (upd (ur 4) (u) (v20)), x23, rfl, hRB⟩ dX3_turn_139
      refine lv_icmp_ge (tgt := 57) hx hb dX3_turn_50 (by decide) (fun c24 => ?_) (fun c24 => ?_)
      · have b50 := qge_t (a := u) (b := 12) (by omega) (by omega) c24
        refine lv_iconst (v := 1) hx hb dX3_turn_57 (by decide) ?_
        exact j58_19 1 _ _ _ hP hS (lv_sub hl [0, 1] rfl)
      · have b50 := qge_f (a := u) (b := 12) (by omega) (by omega) c24
        refine lv_iconst (v := -1) hx hb dX3_turn_53 (by decide) ?_
        refine lv_goto (tgt := 58) hx hb dX3_turn_54 (by decide) ?_
        exact j58_19 (-1) _ _ _ hP hS (lv_sub hl [0, 1] rfl)
  · have b3 := qeq_t (a := u) (b := 24) (by omega) (by omega) c1
    refine lv_aload_n hx hb dX3_turn_6 rfl (lv_at hl 0 rfl) ?_
    refine va_get (D := G.1) (ci := 3) (v := .ref (ua 4)) (C := RX3) (T := TX3) (N := 8) hx hb hts inX3 hown hK.1 hP 0 rfl rfl 4 (by decide) (hts _ mf_X3_29) (fun _ h9 => h9) rfl dX3_turn_7 ?_
    refine lv_iload_n hx hb dX3_turn_10 rfl (lv_at hl 2 rfl) ?_
    refine lv_dup2_11 hx hb dX3_turn_11 rfl rfl ?_
    refine xiald (f := (ur 4)) hx hb hK hP 4 (v) (rfl) (by omega) (by decide) rfl dX3_turn_12 ?_
    refine lv_topi (fun v25 ev25 => ?_)
    refine lv_iload_n hx hb dX3_turn_13 rfl (lv_at hl 2 rfl) ?_
    refine lv_bipush (v := 12) hx hb dX3_turn_14 (by decide) ?_
    have j24_26 : ∀ (z26 : Int32) (H : Heap) (locs : List Loc) (ls : Array Slot), PP G (uM G ua a b la uf f lf ur r lr) H → va_S A s.heap H locs → lv_has ls 6 [(0, .ref (ua 0)), (2, .int (nI v))] → W p l e ({ frames := 2, cells := 0, slots := 0, locals := 49 }) s m ([.ref (ua 0), .int (nI u), .int (nI v)] : List Value).toArray below meth c H locs 0 0 (MQ below (QwV G (fun w => ∃ (n_ur_2 : Nat → Int32) (n_ur_4 : Nat → Int32) (n_ur_20 : Nat → Int32), w = uM G ua a b la uf f lf (up2 (up2 (up2 ur 2 n_ur_2) 4 n_ur_4) 20 n_ur_20) r lr ∧ (RB adjU n_ur_20)) A) ([.ref (ua 0), .int (nI u), .int (nI v)] : List Value).toArray s 0 0 A) (F0 m 24 ls [.int z26, .int v25, .int (nI v), .ref (ua 4)]) := by
      intro z26  H locs ls hP hS hl
      refine lv_iadd hx hb dX3_turn_24 ?_
      refine lv_topi (fun v27 ev27 => ?_)
      refine xiast (f := (ur 4)) (x := v27) hx hb hK hP (hDD _ _ _ _ _ _) hS 4 (v) (rfl) (by omega) (by decide) rfl dX3_turn_25 (fun H locs hP _ hS => ?_)
      have hP : PP G (uM G ua a b la uf f lf (up2 ur 4 (upd (ur 4) (v) (v27))) r lr) H := hP
      refine lv_aload_n hx hb dX3_turn_26 rfl (lv_at hl 0 rfl) ?_
      refine lv_iload_n hx hb dX3_turn_27 rfl (lv_at hl 1 rfl) ?_
      refine wrVVa (rest := []) (q0 := 0) ⟨hx, hb, hml, hown, hts⟩ (c_X3_refreshNode l G ua a b la uf f lf (up2 ur 4 (upd (ur 4) (v) (v27))) r lr v  (by omega) hRB) mi_yX3_refreshNode mv_yX3_refreshNode ml_X3_94 ⟨rfl, rfl, Nat.le_of_ble_eq_true rfl, Nat.le_of_ble_eq_true rfl⟩ hK hP (hDD _ _ _ _ _ _) rfl rfl rfl hl.1 rfl (Nat.le_of_ble_eq_true rfl) dX3_turn_28 ⟨Nat.zero_le _, Nat.zero_le _⟩ hS hA (fun w29 H locs hw29 hP hS => ?_)
      obtain ⟨x30, rfl, hRB⟩ := hw29
      have hP : PP G (uM G ua a b la uf f lf (up2 (up2 ur 4 (upd (ur 4) (v) (v27))) 20 x30) r lr) H := hP
      have hRB : RB adjU x30 := hRB
      refine lv_goto (tgt := 139) hx hb dX3_turn_31 (by decide) ?_
      exact wr_vret hx hb hr hlocks hS hP ⟨(ur 2), (upd (ur 4) (v) (v27)), x30, rfl, hRB⟩ dX3_turn_139
    refine lv_icmp_ge (tgt := 23) hx hb dX3_turn_16 (by decide) (fun c31 => ?_) (fun c31 => ?_)
    · have b16 := qge_t (a := v) (b := 12) (by omega) (by omega) c31
      refine lv_iconst (v := -1) hx hb dX3_turn_23 (by decide) ?_
      exact j24_26 (-1) _ _ _ hP hS (lv_sub hl [0, 2] rfl)
    · have b16 := qge_f (a := v) (b := 12) (by omega) (by omega) c31
      refine lv_iconst (v := 1) hx hb dX3_turn_19 (by decide) ?_
      refine lv_goto (tgt := 24) hx hb dX3_turn_20 (by decide) ?_
      exact j24_26 1 _ _ _ hP hS (lv_sub hl [0, 2] rfl)
set_option maxHeartbeats 4000000 in
set_option maxRecDepth 100000 in
theorem c_X3_shift (l : Launch) (G : GG) (ua a b la : Nat → Nat) (uf f lf : Nat → Int32) (ur r lr : Nat → Nat → Int32) (u0 : Nat) (t0 : Nat) (hu0 : u0 < 25) (ht0 : t0 < 25) (hch : wCh adjU u0 t0 (ur 21)) (hRB : RB adjU (ur 20)) : WrV l yX3_shift cX3_shift 6 ({ frames := 3, cells := 0, slots := 0, locals := 74 }) G (uM G ua a b la uf f lf ur r lr) [.ref (ua 0), .int (nI u0), .int (nI t0)] (fun w => ∃ (n_ur_2 : Nat → Int32) (n_ur_4 : Nat → Int32) (n_ur_20 : Nat → Int32), w = uM G ua a b la uf f lf (up2 (up2 (up2 ur 2 n_ur_2) 4 n_ur_4) 20 n_ur_20) r lr ∧ (RB adjU n_ur_20)) := by
  refine wr_entryV (by decide +kernel) (Nat.le_of_ble_eq_true rfl) ?_
  intro p e s m below meth c A C0 hP hK hD hA ls hl
  have hS : va_S A s.heap s.heap [] := va_S.rf
  obtain ⟨hx, hb, hml, hown, hts, hr, hlocks, hin⟩ := C0
  have hown : s.vm.findClass RX3 = some m.cls := hown
  have hDD : ∀ uf' f' lf' ur' r' lr', va_D A (uM G ua a b la uf' f' lf' ur' r' lr') := fun uf' f' lf' ur' r' lr' => D_same hD rfl
  have hl : lv_has ls 6 [(0, .ref (ua 0)), (1, .int (nI u0)), (2, .int (nI t0))] := hl
  obtain ⟨Qd, hCh⟩ := hch
  refine lv_iload_n hx hb dX3_shift_0 rfl (lv_at hl 2 rfl) ?_
  refine lv_istore_n (lv' := [(3, .int (nI t0)), (0, .ref (ua 0)), (1, .int (nI u0)), (2, .int (nI t0))]) hx hb dX3_shift_1 rfl hl (by decide) rfl (fun ls hl => ?_)
  refine lv_iconst (v := 0) hx hb dX3_shift_2 (by decide) ?_
  refine lv_istore (lv' := [(4, .int 0), (3, .int (nI t0)), (0, .ref (ua 0)), (1, .int (nI u0)), (2, .int (nI t0))]) hx hb dX3_shift_3 hl (by decide) rfl (fun ls hl => ?_)
  have loop5 : ∀ (k1 k5 : Nat) (nd : Nat) (x3 : Nat → Int32) (x4 : Nat → Int32) (x5 : Nat → Int32), k5 ≤ 25 → 25 < k5 + k1 → (nd < 25) → (RB adjU x5) → (nd = t0 ∨ Qd nd) → ∀ (H : Heap) (locs : List Loc) (ls : Array Slot), PP G (uM G ua a b la uf f lf (up2 (up2 (up2 ur 2 x3) 4 x4) 20 x5) r lr) H → va_S A s.heap H locs → lv_has ls 6 [(4, .int (nI k5)), (3, .int (nI nd)), (0, .ref (ua 0)), (1, .int (nI u0))] → W p l e ({ frames := 3, cells := 0, slots := 0, locals := 74 }) s m ([.ref (ua 0), .int (nI u0), .int (nI t0)] : List Value).toArray below meth c H locs 0 0 (MQ below (QwV G (fun w => ∃ (n_ur_2 : Nat → Int32) (n_ur_4 : Nat → Int32) (n_ur_20 : Nat → Int32), w = uM G ua a b la uf f lf (up2 (up2 (up2 ur 2 n_ur_2) 4 n_ur_4) 20 n_ur_20) r lr ∧ (RB adjU n_ur_20)) A) ([.ref (ua 0), .int (nI u0), .int (nI t0)] : List Value).toArray s 0 0 A) (F0 m 5 ls []) := by
    intro k1
    induction k1 with
    | zero => intro k5 nd x3 x4 x5 h1 h2; exact absurd h1 (by omega)
    | succ k1 ih5k1 =>
      intro k5 nd x3 x4 x5 hi_k5 hk_k5 gnd hRB hqd H locs ls hP hS hl
      refine lv_iload hx hb dX3_shift_5 (lv_at hl 0 rfl) ?_
      refine lv_bipush (v := 25) hx hb dX3_shift_7 (by decide) ?_
      refine lv_icmp_ge (tgt := 44) hx hb dX3_shift_9 (by decide) (fun c6 => ?_) (fun c6 => ?_)
      · have b9 := qge_t (a := k5) (b := 25) (by omega) (by omega) c6
        exact wr_vret hx hb hr hlocks hS hP ⟨x3, x4, x5, rfl, hRB⟩ dX3_shift_44
      · have b9 := qge_f (a := k5) (b := 25) (by omega) (by omega) c6
        refine lv_iload_n hx hb dX3_shift_12 rfl (lv_at hl 1 rfl) ?_
        refine lv_iload_n hx hb dX3_shift_13 rfl (lv_at hl 3 rfl) ?_
        refine lv_icmp_eq (tgt := 44) hx hb dX3_shift_14 (by decide) (fun c7 => ?_) (fun c7 => ?_)
        · have b14 := qeq_t (a := nd) (b := u0) (by omega) (by omega) c7
          exact wr_vret hx hb hr hlocks hS hP ⟨x3, x4, x5, rfl, hRB⟩ dX3_shift_44
        · have b14 := qeq_f (a := nd) (b := u0) (by omega) (by omega) c7
          obtain ⟨u9, hu9, eu, hq9, ha⟩ := hCh nd gnd hqd b14
          refine lv_aload_n hx hb dX3_shift_17 rfl (lv_at hl 2 rfl) ?_
          refine va_get (D := G.1) (ci := 3) (v := .ref (ua 23)) (C := RX3) (T := TX3) (N := 8) hx hb hts inX3 hown hK.1 hP 0 rfl rfl 0 (by decide) (hts _ mf_X3_12) (fun _ h9 => h9) rfl dX3_shift_18 ?_
          refine va_get (D := G.1) (ci := 5) (v := .ref (ua 21)) (C := RX5) (T := TX5) (N := 4) hx hb hts inX5 hown hK.1 hP 8 rfl rfl 1 (by decide) (hts _ mf_X3_116) (fun _ h9 => h9) rfl dX3_shift_21 ?_
          refine lv_iload_n hx hb dX3_shift_24 rfl (lv_at hl 1 rfl) ?_
          refine xiald (f := (ur 21)) hx hb hK hP 10 (nd) (rfl) (by omega) (by decide) rfl dX3_shift_25 ?_
          refine lv_topi (fun v8 ev8 => ?_)
          obtain rfl : v8 = nI (u9) := ev8.trans (eu)
          refine lv_istore (lv' := [(5, .int (nI (u9))), (4, .int (nI k5)), (3, .int (nI nd)), (0, .ref (ua 0)), (1, .int (nI u0))]) hx hb dX3_shift_26 hl (by decide) rfl (fun ls hl => ?_)
          refine lv_aload_n hx hb dX3_shift_28 rfl (lv_at hl 3 rfl) ?_
          refine lv_iload hx hb dX3_shift_29 (lv_at hl 0 rfl) ?_
          refine lv_iload_n hx hb dX3_shift_31 rfl (lv_at hl 2 rfl) ?_
          refine wrVVa (rest := []) (q0 := 0) ⟨hx, hb, hml, hown, hts⟩ (c_X3_turn l G ua a b la uf f lf (up2 (up2 (up2 ur 2 x3) 4 x4) 20 x5) r lr (u9) nd  ha hRB) mi_yX3_turn mv_yX3_turn ml_X3_119 ⟨rfl, rfl, Nat.le_of_ble_eq_true rfl, Nat.le_of_ble_eq_true rfl⟩ hK hP (hDD _ _ _ _ _ _) rfl rfl rfl hl.1 rfl (Nat.le_of_ble_eq_true rfl) dX3_shift_32 ⟨Nat.zero_le _, Nat.zero_le _⟩ hS hA (fun w10 H locs hw10 hP hS => ?_)
          obtain ⟨x11, x12, x13, rfl, hRB⟩ := hw10
          have hP : PP G (uM G ua a b la uf f lf (up2 (up2 (up2 ur 2 x11) 4 x12) 20 x13) r lr) H := hP
          have hRB : RB adjU x13 := hRB
          refine lv_iload hx hb dX3_shift_35 (lv_at hl 0 rfl) ?_
          refine lv_istore_n (lv' := [(3, .int (nI (u9))), (5, .int (nI (u9))), (4, .int (nI k5)), (0, .ref (ua 0)), (1, .int (nI u0))]) hx hb dX3_shift_37 rfl hl (by decide) rfl (fun ls hl => ?_)
          obtain ⟨v14, ev14⟩ : ∃ y9 : Int32, y9 = (nI k5) + Int32.ofInt (1) := ⟨_, rfl⟩
          refine lv_iinc (v := v14) (lv' := [(4, .int v14), (3, .int (nI (u9))), (5, .int (nI (u9))), (0, .ref (ua 0)), (1, .int (nI u0))]) hx hb dX3_shift_38 hl (k := 2) rfl ev14.symm (by decide) rfl (fun ls hl => ?_)
          obtain rfl : v14 = nI (k5 + 1) := nI_plus (i := k5) (j := 1) ev14 rfl (by decide)
          refine lv_goto (tgt := 5) hx hb dX3_shift_41 (by decide) ?_
          exact ih5k1 (k5 + 1) (u9) x11 x12 x13 (by omega) (by omega) (by omega) hRB (Or.inr hq9) _ _ _ hP hS (lv_sub hl [0, 1, 3, 4] rfl)
  exact loop5 (25 + 1) 0 t0 (ur 2) (ur 4) (ur 20) (by omega) (by omega) (by omega) hRB (Or.inl rfl) _ _ _ hP hS (lv_sub hl [0, 1, 2, 3] rfl)
set_option maxHeartbeats 4000000 in
set_option maxRecDepth 100000 in
theorem c_X3_reachFewest (l : Launch) (G : GG) (ua a b la : Nat → Nat) (uf f lf : Nat → Int32) (ur r lr : Nat → Nat → Int32) (hRB : RB adjU (ur 20)) : WrV l yX3_reachFewest cX3_reachFewest 5 ({ frames := 4, cells := 0, slots := 0, locals := 99 }) G (uM G ua a b la uf f lf ur r lr) [.ref (ua 0)] (fun w => ∃ (n_uf_3 : Int32) (n_ur_2 : Nat → Int32) (n_ur_4 : Nat → Int32) (n_ur_20 : Nat → Int32) (n_ur_21 : Nat → Int32) (n_ur_22 : Nat → Int32), w = uM G ua a b la (upd uf 3 n_uf_3) f lf (up2 (up2 (up2 (up2 (up2 ur 2 n_ur_2) 4 n_ur_4) 20 n_ur_20) 21 n_ur_21) 22 n_ur_22) r lr ∧ (RB adjU n_ur_20)) := by
  refine wr_entryV (by decide +kernel) (Nat.le_of_ble_eq_true rfl) ?_
  intro p e s m below meth c A C0 hP hK hD hA ls hl
  have hS : va_S A s.heap s.heap [] := va_S.rf
  obtain ⟨hx, hb, hml, hown, hts, hr, hlocks, hin⟩ := C0
  have hown : s.vm.findClass RX3 = some m.cls := hown
  have hDD : ∀ uf' f' lf' ur' r' lr', va_D A (uM G ua a b la uf' f' lf' ur' r' lr') := fun uf' f' lf' ur' r' lr' => D_same hD rfl
  have hl : lv_has ls 5 [(0, .ref (ua 0))] := hl
  refine lv_iconst (v := 0) hx hb dX3_reachFewest_0 (by decide) ?_
  refine lv_istore_n (lv' := [(1, .int 0), (0, .ref (ua 0))]) hx hb dX3_reachFewest_1 rfl hl (by decide) rfl (fun ls hl => ?_)
  have loop2 : ∀ (k1 n : Nat) (x2 : Int32) (x3 : Nat → Int32) (x4 : Nat → Int32) (x5 : Nat → Int32) (x6 : Nat → Int32) (x7 : Nat → Int32), n ≤ 24 → 24 < n + k1 → (RB adjU x5) → ∀ (H : Heap) (locs : List Loc) (ls : Array Slot), PP G (uM G ua a b la (upd uf 3 x2) f lf (up2 (up2 (up2 (up2 (up2 ur 2 x3) 4 x4) 20 x5) 21 x6) 22 x7) r lr) H → va_S A s.heap H locs → lv_has ls 5 [(1, .int (nI n)), (0, .ref (ua 0))] → W p l e ({ frames := 4, cells := 0, slots := 0, locals := 99 }) s m ([.ref (ua 0)] : List Value).toArray below meth c H locs 0 0 (MQ below (QwV G (fun w => ∃ (n_uf_3 : Int32) (n_ur_2 : Nat → Int32) (n_ur_4 : Nat → Int32) (n_ur_20 : Nat → Int32) (n_ur_21 : Nat → Int32) (n_ur_22 : Nat → Int32), w = uM G ua a b la (upd uf 3 n_uf_3) f lf (up2 (up2 (up2 (up2 (up2 ur 2 n_ur_2) 4 n_ur_4) 20 n_ur_20) 21 n_ur_21) 22 n_ur_22) r lr ∧ (RB adjU n_ur_20)) A) ([.ref (ua 0)] : List Value).toArray s 0 0 A) (F0 m 2 ls []) := by
    intro k1
    induction k1 with
    | zero => intro n x2 x3 x4 x5 x6 x7 h1 h2; exact absurd h1 (by omega)
    | succ k1 ih2k1 =>
      intro n x2 x3 x4 x5 x6 x7 hi_n hk_n hRB H locs ls hP hS hl
      refine lv_iload_n hx hb dX3_reachFewest_2 rfl (lv_at hl 0 rfl) ?_
      refine lv_bipush (v := 24) hx hb dX3_reachFewest_3 (by decide) ?_
      refine lv_icmp_ge (tgt := 107) hx hb dX3_reachFewest_5 (by decide) (fun c8 => ?_) (fun c8 => ?_)
      · have b5 := qge_t (a := n) (b := 24) (by omega) (by omega) c8
        exact wr_vret hx hb hr hlocks hS hP ⟨x2, x3, x4, x5, x6, x7, rfl, hRB⟩ dX3_reachFewest_107
      · have b5 := qge_f (a := n) (b := 24) (by omega) (by omega) c8
        refine lv_iload_n hx hb dX3_reachFewest_8 rfl (lv_at hl 0 rfl) ?_
        refine lv_bipush (v := 12) hx hb dX3_reachFewest_9 (by decide) ?_
        refine lv_icmp_ge (tgt := 18) hx hb dX3_reachFewest_11 (by decide) (fun c9 => ?_) (fun c9 => ?_)
        · have b11 := qge_t (a := n) (b := 12) (by omega) (by omega) c9
          refine lv_bipush (v := 24) hx hb dX3_reachFewest_18 (by decide) ?_
          refine lv_istore_n (lv' := [(2, .int 24), (1, .int (nI n)), (0, .ref (ua 0))]) hx hb dX3_reachFewest_20 rfl hl (by decide) rfl (fun ls hl => ?_)
          refine lv_iload_n hx hb dX3_reachFewest_21 rfl (lv_at hl 1 rfl) ?_
          refine lv_bipush (v := 12) hx hb dX3_reachFewest_22 (by decide) ?_
          refine lv_icmp_ge (tgt := 32) hx hb dX3_reachFewest_24 (by decide) (fun c10 => ?_) (fun c10 => ?_)
          · have b24 := qge_t (a := n) (b := 12) (by omega) (by omega) c10
            refine lv_iload_n hx hb dX3_reachFewest_32 rfl (lv_at hl 1 rfl) ?_
            refine lv_istore_n (lv' := [(3, .int (nI n)), (2, .int 24), (1, .int (nI n)), (0, .ref (ua 0))]) hx hb dX3_reachFewest_33 rfl hl (by decide) rfl (fun ls hl => ?_)
            refine lv_iconst (v := 0) hx hb dX3_reachFewest_34 (by decide) ?_
            refine lv_istore (lv' := [(4, .int 0), (3, .int (nI n)), (2, .int 24), (1, .int (nI n)), (0, .ref (ua 0))]) hx hb dX3_reachFewest_35 hl (by decide) rfl (fun ls hl => ?_)
            have loop37 : ∀ (k11 tn : Nat) (x12 : Int32) (x13 : Nat → Int32) (x14 : Nat → Int32) (x15 : Nat → Int32) (x16 : Nat → Int32) (x17 : Nat → Int32), tn ≤ 12 → 12 < tn + k11 → (RB adjU x15) → ∀ (H : Heap) (locs : List Loc) (ls : Array Slot), PP G (uM G ua a b la (upd uf 3 x12) f lf (up2 (up2 (up2 (up2 (up2 ur 2 x13) 4 x14) 20 x15) 21 x16) 22 x17) r lr) H → va_S A s.heap H locs → lv_has ls 5 [(4, .int (nI tn)), (3, .int (nI n)), (2, .int 24), (1, .int (nI n)), (0, .ref (ua 0))] → W p l e ({ frames := 4, cells := 0, slots := 0, locals := 99 }) s m ([.ref (ua 0)] : List Value).toArray below meth c H locs 0 0 (MQ below (QwV G (fun w => ∃ (n_uf_3 : Int32) (n_ur_2 : Nat → Int32) (n_ur_4 : Nat → Int32) (n_ur_20 : Nat → Int32) (n_ur_21 : Nat → Int32) (n_ur_22 : Nat → Int32), w = uM G ua a b la (upd uf 3 n_uf_3) f lf (up2 (up2 (up2 (up2 (up2 ur 2 n_ur_2) 4 n_ur_4) 20 n_ur_20) 21 n_ur_21) 22 n_ur_22) r lr ∧ (RB adjU n_ur_20)) A) ([.ref (ua 0)] : List Value).toArray s 0 0 A) (F0 m 37 ls []) := by
              intro k11
              induction k11 with
              | zero => intro tn x12 x13 x14 x15 x16 x17 h1 h2; exact absurd h1 (by omega)
              | succ k11 ih37k11 =>
                intro tn x12 x13 x14 x15 x16 x17 hi_tn hk_tn hRB H locs ls hP hS hl
                refine lv_iload hx hb dX3_reachFewest_37 (lv_at hl 0 rfl) ?_
                refine lv_bipush (v := 12) hx hb dX3_reachFewest_39 (by decide) ?_
                refine lv_icmp_ge (tgt := 101) hx hb dX3_reachFewest_41 (by decide) (fun c18 => ?_) (fun c18 => ?_)
                · have b41 := qge_t (a := tn) (b := 12) (by omega) (by omega) c18
                  obtain ⟨v19, ev19⟩ : ∃ y9 : Int32, y9 = (nI n) + Int32.ofInt (1) := ⟨_, rfl⟩
                  refine lv_iinc (v := v19) (lv' := [(1, .int v19), (4, .int (nI tn)), (3, .int (nI n)), (2, .int 24), (0, .ref (ua 0))]) hx hb dX3_reachFewest_101 hl (k := 3) rfl ev19.symm (by decide) rfl (fun ls hl => ?_)
                  obtain rfl : v19 = nI (n + 1) := nI_plus (i := n) (j := 1) ev19 rfl (by decide)
                  refine lv_goto (tgt := 2) hx hb dX3_reachFewest_104 (by decide) ?_
                  exact ih2k1 (n + 1) x12 x13 x14 x15 x16 x17 (by omega) (by omega) hRB _ _ _ hP hS (lv_sub hl [0, 4] rfl)
                · have b41 := qge_f (a := tn) (b := 12) (by omega) (by omega) c18
                  refine lv_aload_n hx hb dX3_reachFewest_44 rfl (lv_at hl 4 rfl) ?_
                  refine va_get (D := G.1) (ci := 3) (v := .ref (ua 4)) (C := RX3) (T := TX3) (N := 8) hx hb hts inX3 hown hK.1 hP 0 rfl rfl 4 (by decide) (hts _ mf_X3_29) (fun _ h9 => h9) rfl dX3_reachFewest_45 ?_
                  refine lv_iload_n hx hb dX3_reachFewest_48 rfl (lv_at hl 3 rfl) ?_
                  refine xiald (f := x14) hx hb hK hP 4 (n) (rfl) (by omega) (by decide) rfl dX3_reachFewest_49 ?_
                  refine lv_topi (fun v20 ev20 => ?_)
                  refine lv_aload_n hx hb dX3_reachFewest_50 rfl (lv_at hl 4 rfl) ?_
                  refine va_get (D := G.1) (ci := 3) (v := .ref (ua 5)) (C := RX3) (T := TX3) (N := 8) hx hb hts inX3 hown hK.1 hP 0 rfl rfl 5 (by decide) (hts _ mf_X3_32) (fun _ h9 => h9) rfl dX3_reachFewest_51 ?_
                  refine lv_iload_n hx hb dX3_reachFewest_54 rfl (lv_at hl 3 rfl) ?_
                  refine xiald (f := (ur 5)) hx hb hK hP 5 (n) (rfl) (by omega) (by decide) rfl dX3_reachFewest_55 ?_
                  refine lv_topi (fun v21 ev21 => ?_)
                  refine lv_icmp_ge (tgt := 101) hx hb dX3_reachFewest_56 (by decide) (fun c22 => ?_) (fun c22 => ?_)
                  · obtain ⟨v23, ev23⟩ : ∃ y9 : Int32, y9 = (nI n) + Int32.ofInt (1) := ⟨_, rfl⟩
                    refine lv_iinc (v := v23) (lv' := [(1, .int v23), (4, .int (nI tn)), (3, .int (nI n)), (2, .int 24), (0, .ref (ua 0))]) hx hb dX3_reachFewest_101 hl (k := 3) rfl ev23.symm (by decide) rfl (fun ls hl => ?_)
                    obtain rfl : v23 = nI (n + 1) := nI_plus (i := n) (j := 1) ev23 rfl (by decide)
                    refine lv_goto (tgt := 2) hx hb dX3_reachFewest_104 (by decide) ?_
                    exact ih2k1 (n + 1) x12 x13 x14 x15 x16 x17 (by omega) (by omega) hRB _ _ _ hP hS (lv_sub hl [0, 4] rfl)
                  · refine lv_aload_n hx hb dX3_reachFewest_59 rfl (lv_at hl 4 rfl) ?_
                    refine va_get (D := G.1) (ci := 3) (v := .ref (ua 23)) (C := RX3) (T := TX3) (N := 8) hx hb hts inX3 hown hK.1 hP 0 rfl rfl 0 (by decide) (hts _ mf_X3_12) (fun _ h9 => h9) rfl dX3_reachFewest_60 ?_
                    refine lv_iload_n hx hb dX3_reachFewest_63 rfl (lv_at hl 2 rfl) ?_
                    refine lv_iload_n hx hb dX3_reachFewest_64 rfl (lv_at hl 1 rfl) ?_
                    refine wrVI (rest := []) (q0 := 0) ⟨hx, hb, hml, hown, hts⟩ (c_X5_leads l G (fun k => ua (20 + k)) (fun k => (up2 (up2 (up2 (up2 (up2 ur 2 x13) 4 x14) 20 x15) 21 x16) 22 x17) (20 + k)) x12 adjU 24 n (by omega) (by omega) hRB) mi_yX5_leads mv_yX5_leads ml_X3_109 ⟨rfl, rfl, Nat.le_of_ble_eq_true rfl, Nat.le_of_ble_eq_true rfl⟩ hK hP (hDD _ _ _ _ _ _) [8, 9, 10, 11] rfl (by decide) rfl rfl rfl hl.1 rfl (Nat.le_of_ble_eq_true rfl) dX3_reachFewest_65 ⟨Nat.zero_le _, Nat.zero_le _⟩ hS hA (fun r27 w28 H locs hw28 hP hS => ?_)
                    obtain ⟨x24, x25, x26, rfl, hz_⟩ := hw28
                    have hP : PP G (uM G ua a b la (upd uf 3 x26) f lf (up2 (up2 (up2 (up2 (up2 ur 2 x13) 4 x14) 20 x15) 21 x24) 22 x25) r lr) H := hP rfl
                    refine lv_if_ne (tgt := 74) hx hb dX3_reachFewest_68 (by decide) (fun c29 => ?_) (fun c29 => ?_)
                    · have hch := (hz_.resolve_left c29).2
                      refine lv_aload_n hx hb dX3_reachFewest_74 rfl (lv_at hl 4 rfl) ?_
                      refine lv_iload_n hx hb dX3_reachFewest_75 rfl (lv_at hl 2 rfl) ?_
                      refine lv_iload_n hx hb dX3_reachFewest_76 rfl (lv_at hl 1 rfl) ?_
                      refine wrVVa (rest := []) (q0 := 0) ⟨hx, hb, hml, hown, hts⟩ (c_X3_shift l G ua a b la (upd uf 3 x26) f lf (up2 (up2 (up2 (up2 (up2 ur 2 x13) 4 x14) 20 x15) 21 x24) 22 x25) r lr 24 n  (by omega) (by omega) hch hRB) mi_yX3_shift mv_yX3_shift ml_X3_113 ⟨rfl, rfl, Nat.le_of_ble_eq_true rfl, Nat.le_of_ble_eq_true rfl⟩ hK hP (hDD _ _ _ _ _ _) rfl rfl rfl hl.1 rfl (Nat.le_of_ble_eq_true rfl) dX3_reachFewest_77 ⟨Nat.zero_le _, Nat.zero_le _⟩ hS hA (fun w31 H locs hw31 hP hS => ?_)
                      obtain ⟨x32, x33, x34, rfl, hRB⟩ := hw31
                      have hP : PP G (uM G ua a b la (upd uf 3 x26) f lf (up2 (up2 (up2 (up2 (up2 ur 2 x32) 4 x33) 20 x34) 21 x24) 22 x25) r lr) H := hP
                      have hRB : RB adjU x34 := hRB
                      refine lv_aload_n hx hb dX3_reachFewest_80 rfl (lv_at hl 4 rfl) ?_
                      refine va_get (D := G.1) (ci := 3) (v := .ref (ua 4)) (C := RX3) (T := TX3) (N := 8) hx hb hts inX3 hown hK.1 hP 0 rfl rfl 4 (by decide) (hts _ mf_X3_29) (fun _ h9 => h9) rfl dX3_reachFewest_81 ?_
                      refine lv_iload_n hx hb dX3_reachFewest_84 rfl (lv_at hl 3 rfl) ?_
                      refine lv_dup2_11 hx hb dX3_reachFewest_85 rfl rfl ?_
                      refine xiald (f := x33) hx hb hK hP 4 (n) (rfl) (by omega) (by decide) rfl dX3_reachFewest_86 ?_
                      refine lv_topi (fun v35 ev35 => ?_)
                      refine lv_iconst (v := 1) hx hb dX3_reachFewest_87 (by decide) ?_
                      refine lv_iadd hx hb dX3_reachFewest_88 ?_
                      refine lv_topi (fun v36 ev36 => ?_)
                      refine xiast (f := x33) (x := v36) hx hb hK hP (hDD _ _ _ _ _ _) hS 4 (n) (rfl) (by omega) (by decide) rfl dX3_reachFewest_89 (fun H locs hP _ hS => ?_)
                      have hP : PP G (uM G ua a b la (upd uf 3 x26) f lf (up2 (up2 (up2 (up2 (up2 ur 2 x32) 4 (upd x33 (n) (v36))) 20 x34) 21 x24) 22 x25) r lr) H := hP
                      refine lv_aload_n hx hb dX3_reachFewest_90 rfl (lv_at hl 4 rfl) ?_
                      refine lv_iload_n hx hb dX3_reachFewest_91 rfl (lv_at hl 3 rfl) ?_
                      refine wrVVa (rest := []) (q0 := 0) ⟨hx, hb, hml, hown, hts⟩ (c_X3_refreshNode l G ua a b la (upd uf 3 x26) f lf (up2 (up2 (up2 (up2 (up2 ur 2 x32) 4 (upd x33 (n) (v36))) 20 x34) 21 x24) 22 x25) r lr n  (by omega) hRB) mi_yX3_refreshNode mv_yX3_refreshNode ml_X3_94 ⟨rfl, rfl, Nat.le_of_ble_eq_true rfl, Nat.le_of_ble_eq_true rfl⟩ hK hP (hDD _ _ _ _ _ _) rfl rfl rfl hl.1 rfl (Nat.le_of_ble_eq_true rfl) dX3_reachFewest_92 ⟨Nat.zero_le _, Nat.zero_le _⟩ hS hA (fun w38 H locs hw38 hP hS => ?_)
                      obtain ⟨x39, rfl, hRB⟩ := hw38
                      have hP : PP G (uM G ua a b la (upd uf 3 x26) f lf (up2 (up2 (up2 (up2 (up2 ur 2 x32) 4 (upd x33 (n) (v36))) 20 x39) 21 x24) 22 x25) r lr) H := hP
                      have hRB : RB adjU x39 := hRB
                      obtain ⟨v40, ev40⟩ : ∃ y9 : Int32, y9 = (nI tn) + Int32.ofInt (1) := ⟨_, rfl⟩
                      refine lv_iinc (v := v40) (lv' := [(4, .int v40), (3, .int (nI n)), (2, .int 24), (1, .int (nI n)), (0, .ref (ua 0))]) hx hb dX3_reachFewest_95 hl (k := 0) rfl ev40.symm (by decide) rfl (fun ls hl => ?_)
                      obtain rfl : v40 = nI (tn + 1) := nI_plus (i := tn) (j := 1) ev40 rfl (by decide)
                      refine lv_goto (tgt := 37) hx hb dX3_reachFewest_98 (by decide) ?_
                      exact ih37k11 (tn + 1) x26 x32 (upd x33 (n) (v36)) x39 x24 x25 (by omega) (by omega) hRB _ _ _ hP hS (lv_sub hl [0, 1, 2, 3, 4] rfl)
                    · refine lv_goto (tgt := 101) hx hb dX3_reachFewest_71 (by decide) ?_
                      obtain ⟨v41, ev41⟩ : ∃ y9 : Int32, y9 = (nI n) + Int32.ofInt (1) := ⟨_, rfl⟩
                      refine lv_iinc (v := v41) (lv' := [(1, .int v41), (4, .int (nI tn)), (3, .int (nI n)), (2, .int 24), (0, .ref (ua 0))]) hx hb dX3_reachFewest_101 hl (k := 3) rfl ev41.symm (by decide) rfl (fun ls hl => ?_)
                      obtain rfl : v41 = nI (n + 1) := nI_plus (i := n) (j := 1) ev41 rfl (by decide)
                      refine lv_goto (tgt := 2) hx hb dX3_reachFewest_104 (by decide) ?_
                      exact ih2k1 (n + 1) x26 x13 x14 x15 x24 x25 (by omega) (by omega) hRB _ _ _ hP hS (lv_sub hl [0, 4] rfl)
            exact loop37 (12 + 1) 0 x2 x3 x4 x5 x6 x7 (by omega) (by omega) hRB _ _ _ hP hS (lv_sub hl [0, 1, 2, 3, 4] rfl)
          · have b24 := qge_f (a := n) (b := 12) (by omega) (by omega) c10
            exact absurd b24 (by omega)
        · have b11 := qge_f (a := n) (b := 12) (by omega) (by omega) c9
          refine lv_iload_n hx hb dX3_reachFewest_14 rfl (lv_at hl 0 rfl) ?_
          refine lv_goto (tgt := 20) hx hb dX3_reachFewest_15 (by decide) ?_
          refine lv_istore_n (lv' := [(2, .int (nI n)), (1, .int (nI n)), (0, .ref (ua 0))]) hx hb dX3_reachFewest_20 rfl hl (by decide) rfl (fun ls hl => ?_)
          refine lv_iload_n hx hb dX3_reachFewest_21 rfl (lv_at hl 1 rfl) ?_
          refine lv_bipush (v := 12) hx hb dX3_reachFewest_22 (by decide) ?_
          refine lv_icmp_ge (tgt := 32) hx hb dX3_reachFewest_24 (by decide) (fun c42 => ?_) (fun c42 => ?_)
          · have b24 := qge_t (a := n) (b := 12) (by omega) (by omega) c42
            exact absurd b24 (by omega)
          · have b24 := qge_f (a := n) (b := 12) (by omega) (by omega) c42
            refine lv_bipush (v := 24) hx hb dX3_reachFewest_27 (by decide) ?_
            refine lv_goto (tgt := 33) hx hb dX3_reachFewest_29 (by decide) ?_
            refine lv_istore_n (lv' := [(3, .int 24), (2, .int (nI n)), (1, .int (nI n)), (0, .ref (ua 0))]) hx hb dX3_reachFewest_33 rfl hl (by decide) rfl (fun ls hl => ?_)
            refine lv_iconst (v := 0) hx hb dX3_reachFewest_34 (by decide) ?_
            refine lv_istore (lv' := [(4, .int 0), (3, .int 24), (2, .int (nI n)), (1, .int (nI n)), (0, .ref (ua 0))]) hx hb dX3_reachFewest_35 hl (by decide) rfl (fun ls hl => ?_)
            have loop37 : ∀ (k43 tn : Nat) (x44 : Int32) (x45 : Nat → Int32) (x46 : Nat → Int32) (x47 : Nat → Int32) (x48 : Nat → Int32) (x49 : Nat → Int32), tn ≤ 12 → 12 < tn + k43 → (RB adjU x47) → ∀ (H : Heap) (locs : List Loc) (ls : Array Slot), PP G (uM G ua a b la (upd uf 3 x44) f lf (up2 (up2 (up2 (up2 (up2 ur 2 x45) 4 x46) 20 x47) 21 x48) 22 x49) r lr) H → va_S A s.heap H locs → lv_has ls 5 [(4, .int (nI tn)), (3, .int 24), (2, .int (nI n)), (1, .int (nI n)), (0, .ref (ua 0))] → W p l e ({ frames := 4, cells := 0, slots := 0, locals := 99 }) s m ([.ref (ua 0)] : List Value).toArray below meth c H locs 0 0 (MQ below (QwV G (fun w => ∃ (n_uf_3 : Int32) (n_ur_2 : Nat → Int32) (n_ur_4 : Nat → Int32) (n_ur_20 : Nat → Int32) (n_ur_21 : Nat → Int32) (n_ur_22 : Nat → Int32), w = uM G ua a b la (upd uf 3 n_uf_3) f lf (up2 (up2 (up2 (up2 (up2 ur 2 n_ur_2) 4 n_ur_4) 20 n_ur_20) 21 n_ur_21) 22 n_ur_22) r lr ∧ (RB adjU n_ur_20)) A) ([.ref (ua 0)] : List Value).toArray s 0 0 A) (F0 m 37 ls []) := by
              intro k43
              induction k43 with
              | zero => intro tn x44 x45 x46 x47 x48 x49 h1 h2; exact absurd h1 (by omega)
              | succ k43 ih37k43 =>
                intro tn x44 x45 x46 x47 x48 x49 hi_tn hk_tn hRB H locs ls hP hS hl
                refine lv_iload hx hb dX3_reachFewest_37 (lv_at hl 0 rfl) ?_
                refine lv_bipush (v := 12) hx hb dX3_reachFewest_39 (by decide) ?_
                refine lv_icmp_ge (tgt := 101) hx hb dX3_reachFewest_41 (by decide) (fun c50 => ?_) (fun c50 => ?_)
                · have b41 := qge_t (a := tn) (b := 12) (by omega) (by omega) c50
                  obtain ⟨v51, ev51⟩ : ∃ y9 : Int32, y9 = (nI n) + Int32.ofInt (1) := ⟨_, rfl⟩
                  refine lv_iinc (v := v51) (lv' := [(1, .int v51), (4, .int (nI tn)), (3, .int 24), (2, .int (nI n)), (0, .ref (ua 0))]) hx hb dX3_reachFewest_101 hl (k := 3) rfl ev51.symm (by decide) rfl (fun ls hl => ?_)
                  obtain rfl : v51 = nI (n + 1) := nI_plus (i := n) (j := 1) ev51 rfl (by decide)
                  refine lv_goto (tgt := 2) hx hb dX3_reachFewest_104 (by decide) ?_
                  exact ih2k1 (n + 1) x44 x45 x46 x47 x48 x49 (by omega) (by omega) hRB _ _ _ hP hS (lv_sub hl [0, 4] rfl)
                · have b41 := qge_f (a := tn) (b := 12) (by omega) (by omega) c50
                  refine lv_aload_n hx hb dX3_reachFewest_44 rfl (lv_at hl 4 rfl) ?_
                  refine va_get (D := G.1) (ci := 3) (v := .ref (ua 4)) (C := RX3) (T := TX3) (N := 8) hx hb hts inX3 hown hK.1 hP 0 rfl rfl 4 (by decide) (hts _ mf_X3_29) (fun _ h9 => h9) rfl dX3_reachFewest_45 ?_
                  refine lv_iload_n hx hb dX3_reachFewest_48 rfl (lv_at hl 3 rfl) ?_
                  refine xiald (f := x46) hx hb hK hP 4 (n) (rfl) (by omega) (by decide) rfl dX3_reachFewest_49 ?_
                  refine lv_topi (fun v52 ev52 => ?_)
                  refine lv_aload_n hx hb dX3_reachFewest_50 rfl (lv_at hl 4 rfl) ?_
                  refine va_get (D := G.1) (ci := 3) (v := .ref (ua 5)) (C := RX3) (T := TX3) (N := 8) hx hb hts inX3 hown hK.1 hP 0 rfl rfl 5 (by decide) (hts _ mf_X3_32) (fun _ h9 => h9) rfl dX3_reachFewest_51 ?_
                  refine lv_iload_n hx hb dX3_reachFewest_54 rfl (lv_at hl 3 rfl) ?_
                  refine xiald (f := (ur 5)) hx hb hK hP 5 (n) (rfl) (by omega) (by decide) rfl dX3_reachFewest_55 ?_
                  refine lv_topi (fun v53 ev53 => ?_)
                  refine lv_icmp_ge (tgt := 101) hx hb dX3_reachFewest_56 (by decide) (fun c54 => ?_) (fun c54 => ?_)
                  · obtain ⟨v55, ev55⟩ : ∃ y9 : Int32, y9 = (nI n) + Int32.ofInt (1) := ⟨_, rfl⟩
                    refine lv_iinc (v := v55) (lv' := [(1, .int v55), (4, .int (nI tn)), (3, .int 24), (2, .int (nI n)), (0, .ref (ua 0))]) hx hb dX3_reachFewest_101 hl (k := 3) rfl ev55.symm (by decide) rfl (fun ls hl => ?_)
                    obtain rfl : v55 = nI (n + 1) := nI_plus (i := n) (j := 1) ev55 rfl (by decide)
                    refine lv_goto (tgt := 2) hx hb dX3_reachFewest_104 (by decide) ?_
                    exact ih2k1 (n + 1) x44 x45 x46 x47 x48 x49 (by omega) (by omega) hRB _ _ _ hP hS (lv_sub hl [0, 4] rfl)
                  · refine lv_aload_n hx hb dX3_reachFewest_59 rfl (lv_at hl 4 rfl) ?_
                    refine va_get (D := G.1) (ci := 3) (v := .ref (ua 23)) (C := RX3) (T := TX3) (N := 8) hx hb hts inX3 hown hK.1 hP 0 rfl rfl 0 (by decide) (hts _ mf_X3_12) (fun _ h9 => h9) rfl dX3_reachFewest_60 ?_
                    refine lv_iload_n hx hb dX3_reachFewest_63 rfl (lv_at hl 2 rfl) ?_
                    refine lv_iload_n hx hb dX3_reachFewest_64 rfl (lv_at hl 1 rfl) ?_
                    refine wrVI (rest := []) (q0 := 0) ⟨hx, hb, hml, hown, hts⟩ (c_X5_leads l G (fun k => ua (20 + k)) (fun k => (up2 (up2 (up2 (up2 (up2 ur 2 x45) 4 x46) 20 x47) 21 x48) 22 x49) (20 + k)) x44 adjU n 24 (by omega) (by omega) hRB) mi_yX5_leads mv_yX5_leads ml_X3_109 ⟨rfl, rfl, Nat.le_of_ble_eq_true rfl, Nat.le_of_ble_eq_true rfl⟩ hK hP (hDD _ _ _ _ _ _) [8, 9, 10, 11] rfl (by decide) rfl rfl rfl hl.1 rfl (Nat.le_of_ble_eq_true rfl) dX3_reachFewest_65 ⟨Nat.zero_le _, Nat.zero_le _⟩ hS hA (fun r59 w60 H locs hw60 hP hS => ?_)
                    obtain ⟨x56, x57, x58, rfl, hz_⟩ := hw60
                    have hP : PP G (uM G ua a b la (upd uf 3 x58) f lf (up2 (up2 (up2 (up2 (up2 ur 2 x45) 4 x46) 20 x47) 21 x56) 22 x57) r lr) H := hP rfl
                    refine lv_if_ne (tgt := 74) hx hb dX3_reachFewest_68 (by decide) (fun c61 => ?_) (fun c61 => ?_)
                    · have hch := (hz_.resolve_left c61).2
                      refine lv_aload_n hx hb dX3_reachFewest_74 rfl (lv_at hl 4 rfl) ?_
                      refine lv_iload_n hx hb dX3_reachFewest_75 rfl (lv_at hl 2 rfl) ?_
                      refine lv_iload_n hx hb dX3_reachFewest_76 rfl (lv_at hl 1 rfl) ?_
                      refine wrVVa (rest := []) (q0 := 0) ⟨hx, hb, hml, hown, hts⟩ (c_X3_shift l G ua a b la (upd uf 3 x58) f lf (up2 (up2 (up2 (up2 (up2 ur 2 x45) 4 x46) 20 x47) 21 x56) 22 x57) r lr n 24  (by omega) (by omega) hch hRB) mi_yX3_shift mv_yX3_shift ml_X3_113 ⟨rfl, rfl, Nat.le_of_ble_eq_true rfl, Nat.le_of_ble_eq_true rfl⟩ hK hP (hDD _ _ _ _ _ _) rfl rfl rfl hl.1 rfl (Nat.le_of_ble_eq_true rfl) dX3_reachFewest_77 ⟨Nat.zero_le _, Nat.zero_le _⟩ hS hA (fun w63 H locs hw63 hP hS => ?_)
                      obtain ⟨x64, x65, x66, rfl, hRB⟩ := hw63
                      have hP : PP G (uM G ua a b la (upd uf 3 x58) f lf (up2 (up2 (up2 (up2 (up2 ur 2 x64) 4 x65) 20 x66) 21 x56) 22 x57) r lr) H := hP
                      have hRB : RB adjU x66 := hRB
                      refine lv_aload_n hx hb dX3_reachFewest_80 rfl (lv_at hl 4 rfl) ?_
                      refine va_get (D := G.1) (ci := 3) (v := .ref (ua 4)) (C := RX3) (T := TX3) (N := 8) hx hb hts inX3 hown hK.1 hP 0 rfl rfl 4 (by decide) (hts _ mf_X3_29) (fun _ h9 => h9) rfl dX3_reachFewest_81 ?_
                      refine lv_iload_n hx hb dX3_reachFewest_84 rfl (lv_at hl 3 rfl) ?_
                      refine lv_dup2_11 hx hb dX3_reachFewest_85 rfl rfl ?_
                      refine xiald (f := x65) hx hb hK hP 4 (n) (rfl) (by omega) (by decide) rfl dX3_reachFewest_86 ?_
                      refine lv_topi (fun v67 ev67 => ?_)
                      refine lv_iconst (v := 1) hx hb dX3_reachFewest_87 (by decide) ?_
                      refine lv_iadd hx hb dX3_reachFewest_88 ?_
                      refine lv_topi (fun v68 ev68 => ?_)
                      refine xiast (f := x65) (x := v68) hx hb hK hP (hDD _ _ _ _ _ _) hS 4 (n) (rfl) (by omega) (by decide) rfl dX3_reachFewest_89 (fun H locs hP _ hS => ?_)
                      have hP : PP G (uM G ua a b la (upd uf 3 x58) f lf (up2 (up2 (up2 (up2 (up2 ur 2 x64) 4 (upd x65 (n) (v68))) 20 x66) 21 x56) 22 x57) r lr) H := hP
                      refine lv_aload_n hx hb dX3_reachFewest_90 rfl (lv_at hl 4 rfl) ?_
                      refine lv_iload_n hx hb dX3_reachFewest_91 rfl (lv_at hl 3 rfl) ?_
                      refine wrVVa (rest := []) (q0 := 0) ⟨hx, hb, hml, hown, hts⟩ (c_X3_refreshNode l G ua a b la (upd uf 3 x58) f lf (up2 (up2 (up2 (up2 (up2 ur 2 x64) 4 (upd x65 (n) (v68))) 20 x66) 21 x56) 22 x57) r lr n  (by omega) hRB) mi_yX3_refreshNode mv_yX3_refreshNode ml_X3_94 ⟨rfl, rfl, Nat.le_of_ble_eq_true rfl, Nat.le_of_ble_eq_true rfl⟩ hK hP (hDD _ _ _ _ _ _) rfl rfl rfl hl.1 rfl (Nat.le_of_ble_eq_true rfl) dX3_reachFewest_92 ⟨Nat.zero_le _, Nat.zero_le _⟩ hS hA (fun w70 H locs hw70 hP hS => ?_)
                      obtain ⟨x71, rfl, hRB⟩ := hw70
                      have hP : PP G (uM G ua a b la (upd uf 3 x58) f lf (up2 (up2 (up2 (up2 (up2 ur 2 x64) 4 (upd x65 (n) (v68))) 20 x71) 21 x56) 22 x57) r lr) H := hP
                      have hRB : RB adjU x71 := hRB
                      obtain ⟨v72, ev72⟩ : ∃ y9 : Int32, y9 = (nI tn) + Int32.ofInt (1) := ⟨_, rfl⟩
                      refine lv_iinc (v := v72) (lv' := [(4, .int v72), (3, .int 24), (2, .int (nI n)), (1, .int (nI n)), (0, .ref (ua 0))]) hx hb dX3_reachFewest_95 hl (k := 0) rfl ev72.symm (by decide) rfl (fun ls hl => ?_)
                      obtain rfl : v72 = nI (tn + 1) := nI_plus (i := tn) (j := 1) ev72 rfl (by decide)
                      refine lv_goto (tgt := 37) hx hb dX3_reachFewest_98 (by decide) ?_
                      exact ih37k43 (tn + 1) x58 x64 (upd x65 (n) (v68)) x71 x56 x57 (by omega) (by omega) hRB _ _ _ hP hS (lv_sub hl [0, 1, 2, 3, 4] rfl)
                    · refine lv_goto (tgt := 101) hx hb dX3_reachFewest_71 (by decide) ?_
                      obtain ⟨v73, ev73⟩ : ∃ y9 : Int32, y9 = (nI n) + Int32.ofInt (1) := ⟨_, rfl⟩
                      refine lv_iinc (v := v73) (lv' := [(1, .int v73), (4, .int (nI tn)), (3, .int 24), (2, .int (nI n)), (0, .ref (ua 0))]) hx hb dX3_reachFewest_101 hl (k := 3) rfl ev73.symm (by decide) rfl (fun ls hl => ?_)
                      obtain rfl : v73 = nI (n + 1) := nI_plus (i := n) (j := 1) ev73 rfl (by decide)
                      refine lv_goto (tgt := 2) hx hb dX3_reachFewest_104 (by decide) ?_
                      exact ih2k1 (n + 1) x58 x45 x46 x47 x56 x57 (by omega) (by omega) hRB _ _ _ hP hS (lv_sub hl [0, 4] rfl)
            exact loop37 (12 + 1) 0 x2 x3 x4 x5 x6 x7 (by omega) (by omega) hRB _ _ _ hP hS (lv_sub hl [0, 1, 2, 3, 4] rfl)
  exact loop2 (24 + 1) 0 (uf 3) (ur 2) (ur 4) (ur 20) (ur 21) (ur 22) (by omega) (by omega) hRB _ _ _ hP hS (lv_sub hl [0, 1] rfl)
set_option maxHeartbeats 4000000 in
set_option maxRecDepth 100000 in
theorem c_X3_bringDown (l : Launch) (G : GG) (ua a b la : Nat → Nat) (uf f lf : Nat → Int32) (ur r lr : Nat → Nat → Int32) (i : Nat) (cl : Nat) (hi : i < 12) (hcl : cl ≤ 12) (hRB : RB adjU (ur 20)) : WrV l yX3_bringDown cX3_bringDown 5 ({ frames := 4, cells := 0, slots := 0, locals := 99 }) G (uM G ua a b la uf f lf ur r lr) [.ref (ua 0), .int (nI i), .int (nI cl)] (fun w => ∃ (n_uf_3 : Int32) (n_ur_2 : Nat → Int32) (n_ur_4 : Nat → Int32) (n_ur_20 : Nat → Int32) (n_ur_21 : Nat → Int32) (n_ur_22 : Nat → Int32), w = uM G ua a b la (upd uf 3 n_uf_3) f lf (up2 (up2 (up2 (up2 (up2 ur 2 n_ur_2) 4 n_ur_4) 20 n_ur_20) 21 n_ur_21) 22 n_ur_22) r lr ∧ (RB adjU n_ur_20)) := by
  refine wr_entryV (by decide +kernel) (Nat.le_of_ble_eq_true rfl) ?_
  intro p e s m below meth c A C0 hP hK hD hA ls hl
  have hS : va_S A s.heap s.heap [] := va_S.rf
  obtain ⟨hx, hb, hml, hown, hts, hr, hlocks, hin⟩ := C0
  have hown : s.vm.findClass RX3 = some m.cls := hown
  have hDD : ∀ uf' f' lf' ur' r' lr', va_D A (uM G ua a b la uf' f' lf' ur' r' lr') := fun uf' f' lf' ur' r' lr' => D_same hD rfl
  have hl : lv_has ls 5 [(0, .ref (ua 0)), (1, .int (nI i)), (2, .int (nI cl))] := hl
  refine lv_iconst (v := 0) hx hb dX3_bringDown_0 (by decide) ?_
  refine lv_istore_n (lv' := [(3, .int 0), (0, .ref (ua 0)), (1, .int (nI i)), (2, .int (nI cl))]) hx hb dX3_bringDown_1 rfl hl (by decide) rfl (fun ls hl => ?_)
  have loop2 : ∀ (k1 j : Nat) (x2 : Int32) (x3 : Nat → Int32) (x4 : Nat → Int32) (x5 : Nat → Int32) (x6 : Nat → Int32) (x7 : Nat → Int32), j ≤ cl → cl < j + k1 → (RB adjU x5) → ∀ (H : Heap) (locs : List Loc) (ls : Array Slot), PP G (uM G ua a b la (upd uf 3 x2) f lf (up2 (up2 (up2 (up2 (up2 ur 2 x3) 4 x4) 20 x5) 21 x6) 22 x7) r lr) H → va_S A s.heap H locs → lv_has ls 5 [(3, .int (nI j)), (0, .ref (ua 0)), (1, .int (nI i)), (2, .int (nI cl))] → W p l e ({ frames := 4, cells := 0, slots := 0, locals := 99 }) s m ([.ref (ua 0), .int (nI i), .int (nI cl)] : List Value).toArray below meth c H locs 0 0 (MQ below (QwV G (fun w => ∃ (n_uf_3 : Int32) (n_ur_2 : Nat → Int32) (n_ur_4 : Nat → Int32) (n_ur_20 : Nat → Int32) (n_ur_21 : Nat → Int32) (n_ur_22 : Nat → Int32), w = uM G ua a b la (upd uf 3 n_uf_3) f lf (up2 (up2 (up2 (up2 (up2 ur 2 n_ur_2) 4 n_ur_4) 20 n_ur_20) 21 n_ur_21) 22 n_ur_22) r lr ∧ (RB adjU n_ur_20)) A) ([.ref (ua 0), .int (nI i), .int (nI cl)] : List Value).toArray s 0 0 A) (F0 m 2 ls []) := by
    intro k1
    induction k1 with
    | zero => intro j x2 x3 x4 x5 x6 x7 h1 h2; exact absurd h1 (by omega)
    | succ k1 ih2k1 =>
      intro j x2 x3 x4 x5 x6 x7 hi_j hk_j hRB H locs ls hP hS hl
      refine lv_iload_n hx hb dX3_bringDown_2 rfl (lv_at hl 0 rfl) ?_
      refine lv_iload_n hx hb dX3_bringDown_3 rfl (lv_at hl 3 rfl) ?_
      refine lv_icmp_ge (tgt := 89) hx hb dX3_bringDown_4 (by decide) (fun c8 => ?_) (fun c8 => ?_)
      · have b4 := qge_t (a := j) (b := cl) (by omega) (by omega) c8
        exact wr_vret hx hb hr hlocks hS hP ⟨x2, x3, x4, x5, x6, x7, rfl, hRB⟩ dX3_bringDown_89
      · have b4 := qge_f (a := j) (b := cl) (by omega) (by omega) c8
        refine lv_iload_n hx hb dX3_bringDown_7 rfl (lv_at hl 2 rfl) ?_
        refine lv_iload_n hx hb dX3_bringDown_8 rfl (lv_at hl 0 rfl) ?_
        refine rdSN (rest := []) ⟨hx, hb, hml, hown, hts⟩ (c_X6_spotOf l G ((nI i)) ((nI j))) mi_yX6_spotOf mst_yX6_spotOf (by decide +kernel) ⟨rfl, rfl, Nat.le_of_ble_eq_true rfl, Nat.le_of_ble_eq_true rfl⟩ hK (fun k q h => by simp at h) rfl hl.1 rfl (Nat.le_of_ble_eq_true rfl) dX3_bringDown_9 ⟨Nat.zero_le _, Nat.zero_le _⟩ hS hA hP (fun r9 H locs hr9 hP hS => ?_)
        obtain rfl : r9 = nI (i * 12 + j) := spot_eq hr9
        refine lv_istore (lv' := [(4, .int (nI (i * 12 + j))), (3, .int (nI j)), (0, .ref (ua 0)), (1, .int (nI i)), (2, .int (nI cl))]) hx hb dX3_bringDown_12 hl (by decide) rfl (fun ls hl => ?_)
        refine lv_aload_n hx hb dX3_bringDown_14 rfl (lv_at hl 2 rfl) ?_
        refine va_get (D := G.1) (ci := 3) (v := .ref (ua 1)) (C := RX3) (T := TX3) (N := 8) hx hb hts inX3 hown hK.1 hP 0 rfl rfl 1 (by decide) (hts _ mf_X3_18) (fun _ h9 => h9) rfl dX3_bringDown_15 ?_
        refine lv_iload hx hb dX3_bringDown_18 (lv_at hl 0 rfl) ?_
        refine xiald (f := (ur 1)) hx hb hK hP 1 ((i * 12 + j)) (rfl) (by omega) (by decide) rfl dX3_bringDown_20 ?_
        refine lv_topi (fun v10 ev10 => ?_)
        have j83_16 : ∀ (x11 : Int32) (x12 : Nat → Int32) (x13 : Nat → Int32) (x14 : Nat → Int32) (x15 : Nat → Int32) (x16 : Nat → Int32) (hRB : RB adjU x14) (H : Heap) (locs : List Loc) (ls : Array Slot), PP G (uM G ua a b la (upd uf 3 x11) f lf (up2 (up2 (up2 (up2 (up2 ur 2 x12) 4 x13) 20 x14) 21 x15) 22 x16) r lr) H → va_S A s.heap H locs → lv_has ls 5 [(3, .int (nI j)), (0, .ref (ua 0)), (1, .int (nI i)), (2, .int (nI cl))] → W p l e ({ frames := 4, cells := 0, slots := 0, locals := 99 }) s m ([.ref (ua 0), .int (nI i), .int (nI cl)] : List Value).toArray below meth c H locs 0 0 (MQ below (QwV G (fun w => ∃ (n_uf_3 : Int32) (n_ur_2 : Nat → Int32) (n_ur_4 : Nat → Int32) (n_ur_20 : Nat → Int32) (n_ur_21 : Nat → Int32) (n_ur_22 : Nat → Int32), w = uM G ua a b la (upd uf 3 n_uf_3) f lf (up2 (up2 (up2 (up2 (up2 ur 2 n_ur_2) 4 n_ur_4) 20 n_ur_20) 21 n_ur_21) 22 n_ur_22) r lr ∧ (RB adjU n_ur_20)) A) ([.ref (ua 0), .int (nI i), .int (nI cl)] : List Value).toArray s 0 0 A) (F0 m 83 ls []) := by
          intro x11 x12 x13 x14 x15 x16 hRB H locs ls hP hS hl
          obtain ⟨v17, ev17⟩ : ∃ y9 : Int32, y9 = (nI j) + Int32.ofInt (1) := ⟨_, rfl⟩
          refine lv_iinc (v := v17) (lv' := [(3, .int v17), (0, .ref (ua 0)), (1, .int (nI i)), (2, .int (nI cl))]) hx hb dX3_bringDown_83 hl (k := 0) rfl ev17.symm (by decide) rfl (fun ls hl => ?_)
          obtain rfl : v17 = nI (j + 1) := nI_plus (i := j) (j := 1) ev17 rfl (by decide)
          refine lv_goto (tgt := 2) hx hb dX3_bringDown_86 (by decide) ?_
          exact ih2k1 (j + 1) x11 x12 x13 x14 x15 x16 (by omega) (by omega) hRB _ _ _ hP hS (lv_sub hl [0, 1, 2, 3] rfl)
        refine lv_if_ne (tgt := 27) hx hb dX3_bringDown_21 (by decide) (fun c18 => ?_) (fun c18 => ?_)
        · refine lv_aload_n hx hb dX3_bringDown_27 rfl (lv_at hl 2 rfl) ?_
          refine va_get (D := G.1) (ci := 3) (v := .ref (ua 23)) (C := RX3) (T := TX3) (N := 8) hx hb hts inX3 hown hK.1 hP 0 rfl rfl 0 (by decide) (hts _ mf_X3_12) (fun _ h9 => h9) rfl dX3_bringDown_28 ?_
          refine lv_iload_n hx hb dX3_bringDown_31 rfl (lv_at hl 3 rfl) ?_
          refine lv_bipush (v := 12) hx hb dX3_bringDown_32 (by decide) ?_
          refine lv_iload_n hx hb dX3_bringDown_34 rfl (lv_at hl 1 rfl) ?_
          refine lv_iadd hx hb dX3_bringDown_35 ?_
          refine lv_topi (fun v19 ev19 => ?_)
          obtain rfl : v19 = nI (12 + j) := nI_plus ev19 rfl rfl
          refine lv_iconst (v := 0) hx hb dX3_bringDown_36 (by decide) ?_
          refine lv_iconst (v := 0) hx hb dX3_bringDown_37 (by decide) ?_
          refine wrVV (rest := []) (q0 := 0) ⟨hx, hb, hml, hown, hts⟩ (c_X5_join l G (fun k => ua (20 + k)) (fun k => (up2 (up2 (up2 (up2 (up2 ur 2 x3) 4 x4) 20 x5) 21 x6) 22 x7) (20 + k)) x2 i (12 + j) 0 0 (by omega) (by omega)) mi_yX5_join mv_yX5_join ml_X3_105 ⟨rfl, rfl, Nat.le_of_ble_eq_true rfl, Nat.le_of_ble_eq_true rfl⟩ hK hP (hDD _ _ _ _ _ _) [8, 9, 10, 11] rfl (by decide) rfl rfl rfl hl.1 rfl (Nat.le_of_ble_eq_true rfl) dX3_bringDown_38 ⟨Nat.zero_le _, Nat.zero_le _⟩ hS hA (fun w21 H locs hw21 hP hS => ?_)
          obtain rfl := hw21
          have hP : PP G (uM G ua a b la (upd uf 3 x2) f lf (up2 (up2 (up2 (up2 (up2 ur 2 x3) 4 x4) 20 (jnF x5 i (12 + j) 0 0)) 21 x6) 22 x7) r lr) H := hP rfl
          have hRB : RB adjU (jnF x5 i (12 + j) 0 0) := RB_join 0 0 hRB (by unfold adjU adjR; omega) (by unfold adjU adjR; omega) (by omega) (by omega)
          refine lv_aload_n hx hb dX3_bringDown_41 rfl (lv_at hl 2 rfl) ?_
          refine va_get (D := G.1) (ci := 3) (v := .ref (ua 2)) (C := RX3) (T := TX3) (N := 8) hx hb hts inX3 hown hK.1 hP 0 rfl rfl 2 (by decide) (hts _ mf_X3_22) (fun _ h9 => h9) rfl dX3_bringDown_42 ?_
          refine lv_iload hx hb dX3_bringDown_45 (lv_at hl 0 rfl) ?_
          refine xzald (f := x3) hx hb hK hP 2 ((i * 12 + j)) (rfl) (by omega) (by decide) rfl dX3_bringDown_47 ?_
          refine lv_topi (fun v22 ev22 => ?_)
          refine lv_if_eq (tgt := 83) hx hb dX3_bringDown_48 (by decide) (fun c23 => ?_) (fun c23 => ?_)
          · exact j83_16 x2 x3 x4 (jnF x5 i (12 + j) 0 0) x6 x7 hRB _ _ _ hP hS (lv_sub hl [1, 2, 3, 4] rfl)
          · refine lv_aload_n hx hb dX3_bringDown_51 rfl (lv_at hl 2 rfl) ?_
            refine va_get (D := G.1) (ci := 3) (v := .ref (ua 23)) (C := RX3) (T := TX3) (N := 8) hx hb hts inX3 hown hK.1 hP 0 rfl rfl 0 (by decide) (hts _ mf_X3_12) (fun _ h9 => h9) rfl dX3_bringDown_52 ?_
            refine lv_iload_n hx hb dX3_bringDown_55 rfl (lv_at hl 3 rfl) ?_
            refine lv_bipush (v := 12) hx hb dX3_bringDown_56 (by decide) ?_
            refine lv_iload_n hx hb dX3_bringDown_58 rfl (lv_at hl 1 rfl) ?_
            refine lv_iadd hx hb dX3_bringDown_59 ?_
            refine lv_topi (fun v24 ev24 => ?_)
            obtain rfl : v24 = nI (12 + j) := nI_plus ev24 rfl rfl
            refine wrVI (rest := []) (q0 := 0) ⟨hx, hb, hml, hown, hts⟩ (c_X5_leads l G (fun k => ua (20 + k)) (fun k => (up2 (up2 (up2 (up2 (up2 ur 2 x3) 4 x4) 20 (jnF x5 i (12 + j) 0 0)) 21 x6) 22 x7) (20 + k)) x2 adjU i (12 + j) (by omega) (by omega) hRB) mi_yX5_leads mv_yX5_leads ml_X3_109 ⟨rfl, rfl, Nat.le_of_ble_eq_true rfl, Nat.le_of_ble_eq_true rfl⟩ hK hP (hDD _ _ _ _ _ _) [8, 9, 10, 11] rfl (by decide) rfl rfl rfl hl.1 rfl (Nat.le_of_ble_eq_true rfl) dX3_bringDown_60 ⟨Nat.zero_le _, Nat.zero_le _⟩ hS hA (fun r28 w29 H locs hw29 hP hS => ?_)
            obtain ⟨x25, x26, x27, rfl, hz_⟩ := hw29
            have hP : PP G (uM G ua a b la (upd uf 3 x27) f lf (up2 (up2 (up2 (up2 (up2 ur 2 x3) 4 x4) 20 (jnF x5 i (12 + j) 0 0)) 21 x25) 22 x26) r lr) H := hP rfl
            refine lv_if_eq (tgt := 83) hx hb dX3_bringDown_63 (by decide) (fun c30 => ?_) (fun c30 => ?_)
            · exact j83_16 x27 x3 x4 (jnF x5 i (12 + j) 0 0) x25 x26 hRB _ _ _ hP hS (lv_sub hl [1, 2, 3, 4] rfl)
            · have hch := (hz_.resolve_left c30).2
              refine lv_aload_n hx hb dX3_bringDown_66 rfl (lv_at hl 2 rfl) ?_
              refine lv_iload_n hx hb dX3_bringDown_67 rfl (lv_at hl 3 rfl) ?_
              refine lv_bipush (v := 12) hx hb dX3_bringDown_68 (by decide) ?_
              refine lv_iload_n hx hb dX3_bringDown_70 rfl (lv_at hl 1 rfl) ?_
              refine lv_iadd hx hb dX3_bringDown_71 ?_
              refine lv_topi (fun v31 ev31 => ?_)
              obtain rfl : v31 = nI (12 + j) := nI_plus ev31 rfl rfl
              refine wrVVa (rest := []) (q0 := 0) ⟨hx, hb, hml, hown, hts⟩ (c_X3_shift l G ua a b la (upd uf 3 x27) f lf (up2 (up2 (up2 (up2 (up2 ur 2 x3) 4 x4) 20 (jnF x5 i (12 + j) 0 0)) 21 x25) 22 x26) r lr i (12 + j)  (by omega) (by omega) hch hRB) mi_yX3_shift mv_yX3_shift ml_X3_113 ⟨rfl, rfl, Nat.le_of_ble_eq_true rfl, Nat.le_of_ble_eq_true rfl⟩ hK hP (hDD _ _ _ _ _ _) rfl rfl rfl hl.1 rfl (Nat.le_of_ble_eq_true rfl) dX3_bringDown_72 ⟨Nat.zero_le _, Nat.zero_le _⟩ hS hA (fun w33 H locs hw33 hP hS => ?_)
              obtain ⟨x34, x35, x36, rfl, hRB⟩ := hw33
              have hP : PP G (uM G ua a b la (upd uf 3 x27) f lf (up2 (up2 (up2 (up2 (up2 ur 2 x34) 4 x35) 20 x36) 21 x25) 22 x26) r lr) H := hP
              have hRB : RB adjU x36 := hRB
              refine lv_aload_n hx hb dX3_bringDown_75 rfl (lv_at hl 2 rfl) ?_
              refine va_get (D := G.1) (ci := 3) (v := .ref (ua 2)) (C := RX3) (T := TX3) (N := 8) hx hb hts inX3 hown hK.1 hP 0 rfl rfl 2 (by decide) (hts _ mf_X3_22) (fun _ h9 => h9) rfl dX3_bringDown_76 ?_
              refine lv_iload hx hb dX3_bringDown_79 (lv_at hl 0 rfl) ?_
              refine lv_iconst (v := 0) hx hb dX3_bringDown_81 (by decide) ?_
              refine xzast (f := x34) (x := 0) hx hb hK hP (hDD _ _ _ _ _ _) hS 2 ((i * 12 + j)) (rfl) (by omega) (by decide) (Or.inl rfl) rfl dX3_bringDown_82 (fun H locs hP _ hS => ?_)
              have hP : PP G (uM G ua a b la (upd uf 3 x27) f lf (up2 (up2 (up2 (up2 (up2 ur 2 (upd x34 ((i * 12 + j)) (0))) 4 x35) 20 x36) 21 x25) 22 x26) r lr) H := hP
              exact j83_16 x27 (upd x34 ((i * 12 + j)) (0)) x35 x36 x25 x26 hRB _ _ _ hP hS (lv_sub hl [1, 2, 3, 4] rfl)
        · refine lv_goto (tgt := 83) hx hb dX3_bringDown_24 (by decide) ?_
          exact j83_16 x2 x3 x4 x5 x6 x7 hRB _ _ _ hP hS (lv_sub hl [1, 2, 3, 4] rfl)
  exact loop2 (cl + 1) 0 (uf 3) (ur 2) (ur 4) (ur 20) (ur 21) (ur 22) (by omega) (by omega) hRB _ _ _ hP hS (lv_sub hl [0, 1, 2, 3] rfl)
set_option maxHeartbeats 4000000 in
set_option maxRecDepth 100000 in
theorem c_X3_layRow (l : Launch) (G : GG) (ua a b la : Nat → Nat) (uf f lf : Nat → Int32) (ur r lr : Nat → Nat → Int32) (i : Nat) (ba : Int32) (rw : Nat) (cl : Nat) (hrw : rw ≤ 12) (hcl : cl ≤ 12) (h0 : (f 0) = nI rw) (h1 : (f 1) = nI cl) (hi : i < 12) (hRB : RB adjU (ur 20)) : WrV l yX3_layRow cX3_layRow 6 ({ frames := 1, cells := 0, slots := 0, locals := 26 }) G (uM G ua a b la uf f lf ur r lr) [.ref (ua 0), .ref (a 15), .int (nI i), .int ba] (fun w => ∃ (n_ur_1 : Nat → Int32) (n_ur_2 : Nat → Int32) (n_ur_3 : Nat → Int32) (n_ur_20 : Nat → Int32), w = uM G ua a b la uf f lf (up2 (up2 (up2 (up2 ur 1 n_ur_1) 2 n_ur_2) 3 n_ur_3) 20 n_ur_20) r lr ∧ (RB adjU n_ur_20)) := by
  refine wr_entryV (by decide +kernel) (Nat.le_of_ble_eq_true rfl) ?_
  intro p e s m below meth c A C0 hP hK hD hA ls hl
  have hS : va_S A s.heap s.heap [] := va_S.rf
  obtain ⟨hx, hb, hml, hown, hts, hr, hlocks, hin⟩ := C0
  have hown : s.vm.findClass RX3 = some m.cls := hown
  have hDD : ∀ uf' f' lf' ur' r' lr', va_D A (uM G ua a b la uf' f' lf' ur' r' lr') := fun uf' f' lf' ur' r' lr' => D_same hD rfl
  have hl : lv_has ls 6 [(0, .ref (ua 0)), (1, .ref (a 15)), (2, .int (nI i)), (3, .int ba)] := hl
  refine lv_iconst (v := 0) hx hb dX3_layRow_0 (by decide) ?_
  refine lv_istore (lv' := [(4, .int 0), (0, .ref (ua 0)), (1, .ref (a 15)), (2, .int (nI i)), (3, .int ba)]) hx hb dX3_layRow_1 hl (by decide) rfl (fun ls hl => ?_)
  have loop3 : ∀ (k1 j : Nat) (x2 : Nat → Int32) (x3 : Nat → Int32) (x4 : Nat → Int32) (x5 : Nat → Int32), j ≤ cl → cl < j + k1 → (RB adjU x5) → ∀ (H : Heap) (locs : List Loc) (ls : Array Slot), PP G (uM G ua a b la uf f lf (up2 (up2 (up2 (up2 ur 1 x2) 2 x3) 3 x4) 20 x5) r lr) H → va_S A s.heap H locs → lv_has ls 6 [(4, .int (nI j)), (0, .ref (ua 0)), (1, .ref (a 15)), (2, .int (nI i)), (3, .int ba)] → W p l e ({ frames := 1, cells := 0, slots := 0, locals := 26 }) s m ([.ref (ua 0), .ref (a 15), .int (nI i), .int ba] : List Value).toArray below meth c H locs 0 0 (MQ below (QwV G (fun w => ∃ (n_ur_1 : Nat → Int32) (n_ur_2 : Nat → Int32) (n_ur_3 : Nat → Int32) (n_ur_20 : Nat → Int32), w = uM G ua a b la uf f lf (up2 (up2 (up2 (up2 ur 1 n_ur_1) 2 n_ur_2) 3 n_ur_3) 20 n_ur_20) r lr ∧ (RB adjU n_ur_20)) A) ([.ref (ua 0), .ref (a 15), .int (nI i), .int ba] : List Value).toArray s 0 0 A) (F0 m 3 ls []) := by
    intro k1
    induction k1 with
    | zero => intro j x2 x3 x4 x5 h1 h2; exact absurd h1 (by omega)
    | succ k1 ih3k1 =>
      intro j x2 x3 x4 x5 hi_j hk_j hRB H locs ls hP hS hl
      refine lv_iload hx hb dX3_layRow_3 (lv_at hl 0 rfl) ?_
      refine lv_aload_n hx hb dX3_layRow_5 rfl (lv_at hl 2 rfl) ?_
      refine va_get (D := G.1) (ci := 2) (v := .int (f 1)) (C := RX2) (T := TX2) (N := 15) hx hb hts inX2 hown hK.1 hP 12 rfl rfl 1 (by decide) (hts _ mf_X3_68) (fun _ h9 => h9) rfl dX3_layRow_6 ?_
      rw [show (f 1) = nI (cl) from h1]
      refine lv_icmp_ge (tgt := 119) hx hb dX3_layRow_9 (by decide) (fun c6 => ?_) (fun c6 => ?_)
      · have b9 := qge_t (a := j) (b := (cl)) (by omega) (by omega) c6
        exact wr_vret hx hb hr hlocks hS hP ⟨x2, x3, x4, x5, rfl, hRB⟩ dX3_layRow_119
      · have b9 := qge_f (a := j) (b := (cl)) (by omega) (by omega) c6
        refine lv_iload_n hx hb dX3_layRow_12 rfl (lv_at hl 3 rfl) ?_
        refine lv_iload hx hb dX3_layRow_13 (lv_at hl 0 rfl) ?_
        refine rdSN (rest := []) ⟨hx, hb, hml, hown, hts⟩ (c_X6_spotOf l G ((nI i)) ((nI j))) mi_yX6_spotOf mst_yX6_spotOf (by decide +kernel) ⟨rfl, rfl, Nat.le_of_ble_eq_true rfl, Nat.le_of_ble_eq_true rfl⟩ hK (fun k q h => by simp at h) rfl hl.1 rfl (Nat.le_of_ble_eq_true rfl) dX3_layRow_15 ⟨Nat.zero_le _, Nat.zero_le _⟩ hS hA hP (fun r7 H locs hr7 hP hS => ?_)
        obtain rfl : r7 = nI (i * 12 + j) := spot_eq hr7
        refine lv_istore (lv' := [(5, .int (nI (i * 12 + j))), (4, .int (nI j)), (0, .ref (ua 0)), (1, .ref (a 15)), (2, .int (nI i)), (3, .int ba)]) hx hb dX3_layRow_18 hl (by decide) rfl (fun ls hl => ?_)
        refine lv_aload_n hx hb dX3_layRow_20 rfl (lv_at hl 2 rfl) ?_
        refine va_get (D := G.1) (ci := 3) (v := .ref (ua 1)) (C := RX3) (T := TX3) (N := 8) hx hb hts inX3 hown hK.1 hP 0 rfl rfl 1 (by decide) (hts _ mf_X3_18) (fun _ h9 => h9) rfl dX3_layRow_21 ?_
        refine lv_iload hx hb dX3_layRow_24 (lv_at hl 0 rfl) ?_
        refine lv_iload_n hx hb dX3_layRow_26 rfl (lv_at hl 5 rfl) ?_
        have j43_8 : ∀ (z8 : Int32) (H : Heap) (locs : List Loc) (ls : Array Slot), PP G (uM G ua a b la uf f lf (up2 (up2 (up2 (up2 ur 1 x2) 2 x3) 3 x4) 20 x5) r lr) H → va_S A s.heap H locs → lv_has ls 6 [(5, .int (nI (i * 12 + j))), (4, .int (nI j)), (0, .ref (ua 0)), (1, .ref (a 15)), (2, .int (nI i)), (3, .int ba)] → W p l e ({ frames := 1, cells := 0, slots := 0, locals := 26 }) s m ([.ref (ua 0), .ref (a 15), .int (nI i), .int ba] : List Value).toArray below meth c H locs 0 0 (MQ below (QwV G (fun w => ∃ (n_ur_1 : Nat → Int32) (n_ur_2 : Nat → Int32) (n_ur_3 : Nat → Int32) (n_ur_20 : Nat → Int32), w = uM G ua a b la uf f lf (up2 (up2 (up2 (up2 ur 1 n_ur_1) 2 n_ur_2) 3 n_ur_3) 20 n_ur_20) r lr ∧ (RB adjU n_ur_20)) A) ([.ref (ua 0), .ref (a 15), .int (nI i), .int ba] : List Value).toArray s 0 0 A) (F0 m 43 ls [.int z8, .int (nI (i * 12 + j)), .ref (ua 1)]) := by
          intro z8  H locs ls hP hS hl
          refine xiast (f := x2) (x := z8) hx hb hK hP (hDD _ _ _ _ _ _) hS 1 ((i * 12 + j)) (rfl) (by omega) (by decide) rfl dX3_layRow_43 (fun H locs hP _ hS => ?_)
          have hP : PP G (uM G ua a b la uf f lf (up2 (up2 (up2 (up2 ur 1 (upd x2 ((i * 12 + j)) (z8))) 2 x3) 3 x4) 20 x5) r lr) H := hP
          refine lv_aload_n hx hb dX3_layRow_44 rfl (lv_at hl 2 rfl) ?_
          refine va_get (D := G.1) (ci := 3) (v := .ref (ua 2)) (C := RX3) (T := TX3) (N := 8) hx hb hts inX3 hown hK.1 hP 0 rfl rfl 2 (by decide) (hts _ mf_X3_22) (fun _ h9 => h9) rfl dX3_layRow_45 ?_
          refine lv_iload hx hb dX3_layRow_48 (lv_at hl 0 rfl) ?_
          refine lv_iconst (v := 0) hx hb dX3_layRow_50 (by decide) ?_
          refine xzast (f := x3) (x := 0) hx hb hK hP (hDD _ _ _ _ _ _) hS 2 ((i * 12 + j)) (rfl) (by omega) (by decide) (Or.inl rfl) rfl dX3_layRow_51 (fun H locs hP _ hS => ?_)
          have hP : PP G (uM G ua a b la uf f lf (up2 (up2 (up2 (up2 ur 1 (upd x2 ((i * 12 + j)) (z8))) 2 (upd x3 ((i * 12 + j)) (0))) 3 x4) 20 x5) r lr) H := hP
          refine lv_aload_n hx hb dX3_layRow_52 rfl (lv_at hl 2 rfl) ?_
          refine va_get (D := G.1) (ci := 3) (v := .ref (ua 3)) (C := RX3) (T := TX3) (N := 8) hx hb hts inX3 hown hK.1 hP 0 rfl rfl 3 (by decide) (hts _ mf_X3_26) (fun _ h9 => h9) rfl dX3_layRow_53 ?_
          refine lv_iload_n hx hb dX3_layRow_56 rfl (lv_at hl 4 rfl) ?_
          refine lv_dup2_11 hx hb dX3_layRow_57 rfl rfl ?_
          refine xiald (f := x4) hx hb hK hP 3 (i) (rfl) (by omega) (by decide) rfl dX3_layRow_58 ?_
          refine lv_topi (fun v9 ev9 => ?_)
          refine lv_aload_n hx hb dX3_layRow_59 rfl (lv_at hl 2 rfl) ?_
          refine va_get (D := G.1) (ci := 3) (v := .ref (ua 1)) (C := RX3) (T := TX3) (N := 8) hx hb hts inX3 hown hK.1 hP 0 rfl rfl 1 (by decide) (hts _ mf_X3_18) (fun _ h9 => h9) rfl dX3_layRow_60 ?_
          refine lv_iload hx hb dX3_layRow_63 (lv_at hl 0 rfl) ?_
          refine xiald (f := (upd x2 ((i * 12 + j)) (z8))) hx hb hK hP 1 ((i * 12 + j)) (rfl) (by omega) (by decide) rfl dX3_layRow_65 ?_
          refine lv_topi (fun v10 ev10 => ?_)
          refine lv_iadd hx hb dX3_layRow_66 ?_
          refine lv_topi (fun v11 ev11 => ?_)
          refine xiast (f := x4) (x := v11) hx hb hK hP (hDD _ _ _ _ _ _) hS 3 (i) (rfl) (by omega) (by decide) rfl dX3_layRow_67 (fun H locs hP _ hS => ?_)
          have hP : PP G (uM G ua a b la uf f lf (up2 (up2 (up2 (up2 ur 1 (upd x2 ((i * 12 + j)) (z8))) 2 (upd x3 ((i * 12 + j)) (0))) 3 (upd x4 (i) (v11))) 20 x5) r lr) H := hP
          refine lv_aload_n hx hb dX3_layRow_68 rfl (lv_at hl 2 rfl) ?_
          refine va_get (D := G.1) (ci := 3) (v := .ref (ua 3)) (C := RX3) (T := TX3) (N := 8) hx hb hts inX3 hown hK.1 hP 0 rfl rfl 3 (by decide) (hts _ mf_X3_26) (fun _ h9 => h9) rfl dX3_layRow_69 ?_
          refine lv_bipush (v := 12) hx hb dX3_layRow_72 (by decide) ?_
          refine lv_iload hx hb dX3_layRow_74 (lv_at hl 1 rfl) ?_
          refine lv_iadd hx hb dX3_layRow_76 ?_
          refine lv_topi (fun v12 ev12 => ?_)
          obtain rfl : v12 = nI (12 + j) := nI_plus ev12 rfl rfl
          refine lv_dup2_11 hx hb dX3_layRow_77 rfl rfl ?_
          refine xiald (f := (upd x4 (i) (v11))) hx hb hK hP 3 ((12 + j)) (rfl) (by omega) (by decide) rfl dX3_layRow_78 ?_
          refine lv_topi (fun v13 ev13 => ?_)
          refine lv_aload_n hx hb dX3_layRow_79 rfl (lv_at hl 2 rfl) ?_
          refine va_get (D := G.1) (ci := 3) (v := .ref (ua 1)) (C := RX3) (T := TX3) (N := 8) hx hb hts inX3 hown hK.1 hP 0 rfl rfl 1 (by decide) (hts _ mf_X3_18) (fun _ h9 => h9) rfl dX3_layRow_80 ?_
          refine lv_iload hx hb dX3_layRow_83 (lv_at hl 0 rfl) ?_
          refine xiald (f := (upd x2 ((i * 12 + j)) (z8))) hx hb hK hP 1 ((i * 12 + j)) (rfl) (by omega) (by decide) rfl dX3_layRow_85 ?_
          refine lv_topi (fun v14 ev14 => ?_)
          refine lv_iadd hx hb dX3_layRow_86 ?_
          refine lv_topi (fun v15 ev15 => ?_)
          refine xiast (f := (upd x4 (i) (v11))) (x := v15) hx hb hK hP (hDD _ _ _ _ _ _) hS 3 ((12 + j)) (rfl) (by omega) (by decide) rfl dX3_layRow_87 (fun H locs hP _ hS => ?_)
          have hP : PP G (uM G ua a b la uf f lf (up2 (up2 (up2 (up2 ur 1 (upd x2 ((i * 12 + j)) (z8))) 2 (upd x3 ((i * 12 + j)) (0))) 3 (upd (upd x4 (i) (v11)) ((12 + j)) (v15))) 20 x5) r lr) H := hP
          refine lv_aload_n hx hb dX3_layRow_88 rfl (lv_at hl 2 rfl) ?_
          refine va_get (D := G.1) (ci := 3) (v := .ref (ua 1)) (C := RX3) (T := TX3) (N := 8) hx hb hts inX3 hown hK.1 hP 0 rfl rfl 1 (by decide) (hts _ mf_X3_18) (fun _ h9 => h9) rfl dX3_layRow_89 ?_
          refine lv_iload hx hb dX3_layRow_92 (lv_at hl 0 rfl) ?_
          refine xiald (f := (upd x2 ((i * 12 + j)) (z8))) hx hb hK hP 1 ((i * 12 + j)) (rfl) (by omega) (by decide) rfl dX3_layRow_94 ?_
          refine lv_topi (fun v16 ev16 => ?_)
          have j113_17 : ∀ (x17 : Nat → Int32) (hRB : RB adjU x17) (H : Heap) (locs : List Loc) (ls : Array Slot), PP G (uM G ua a b la uf f lf (up2 (up2 (up2 (up2 ur 1 (upd x2 ((i * 12 + j)) (z8))) 2 (upd x3 ((i * 12 + j)) (0))) 3 (upd (upd x4 (i) (v11)) ((12 + j)) (v15))) 20 x17) r lr) H → va_S A s.heap H locs → lv_has ls 6 [(4, .int (nI j)), (0, .ref (ua 0)), (1, .ref (a 15)), (2, .int (nI i)), (3, .int ba)] → W p l e ({ frames := 1, cells := 0, slots := 0, locals := 26 }) s m ([.ref (ua 0), .ref (a 15), .int (nI i), .int ba] : List Value).toArray below meth c H locs 0 0 (MQ below (QwV G (fun w => ∃ (n_ur_1 : Nat → Int32) (n_ur_2 : Nat → Int32) (n_ur_3 : Nat → Int32) (n_ur_20 : Nat → Int32), w = uM G ua a b la uf f lf (up2 (up2 (up2 (up2 ur 1 n_ur_1) 2 n_ur_2) 3 n_ur_3) 20 n_ur_20) r lr ∧ (RB adjU n_ur_20)) A) ([.ref (ua 0), .ref (a 15), .int (nI i), .int ba] : List Value).toArray s 0 0 A) (F0 m 113 ls []) := by
            intro x17 hRB H locs ls hP hS hl
            obtain ⟨v18, ev18⟩ : ∃ y9 : Int32, y9 = (nI j) + Int32.ofInt (1) := ⟨_, rfl⟩
            refine lv_iinc (v := v18) (lv' := [(4, .int v18), (0, .ref (ua 0)), (1, .ref (a 15)), (2, .int (nI i)), (3, .int ba)]) hx hb dX3_layRow_113 hl (k := 0) rfl ev18.symm (by decide) rfl (fun ls hl => ?_)
            obtain rfl : v18 = nI (j + 1) := nI_plus (i := j) (j := 1) ev18 rfl (by decide)
            refine lv_goto (tgt := 3) hx hb dX3_layRow_116 (by decide) ?_
            exact ih3k1 (j + 1) (upd x2 ((i * 12 + j)) (z8)) (upd x3 ((i * 12 + j)) (0)) (upd (upd x4 (i) (v11)) ((12 + j)) (v15)) x17 (by omega) (by omega) hRB _ _ _ hP hS (lv_sub hl [0, 1, 2, 3, 4] rfl)
          refine lv_if_le (tgt := 113) hx hb dX3_layRow_95 (by decide) (fun c19 => ?_) (fun c19 => ?_)
          · exact j113_17 x5 hRB _ _ _ hP hS (lv_sub hl [1, 2, 3, 4, 5] rfl)
          · refine lv_aload_n hx hb dX3_layRow_98 rfl (lv_at hl 2 rfl) ?_
            refine va_get (D := G.1) (ci := 3) (v := .ref (ua 23)) (C := RX3) (T := TX3) (N := 8) hx hb hts inX3 hown hK.1 hP 0 rfl rfl 0 (by decide) (hts _ mf_X3_12) (fun _ h9 => h9) rfl dX3_layRow_99 ?_
            refine lv_iload_n hx hb dX3_layRow_102 rfl (lv_at hl 4 rfl) ?_
            refine lv_bipush (v := 12) hx hb dX3_layRow_103 (by decide) ?_
            refine lv_iload hx hb dX3_layRow_105 (lv_at hl 1 rfl) ?_
            refine lv_iadd hx hb dX3_layRow_107 ?_
            refine lv_topi (fun v20 ev20 => ?_)
            obtain rfl : v20 = nI (12 + j) := nI_plus ev20 rfl rfl
            refine lv_iconst (v := 1) hx hb dX3_layRow_108 (by decide) ?_
            refine lv_iconst (v := 0) hx hb dX3_layRow_109 (by decide) ?_
            refine wrVV (rest := []) (q0 := 0) ⟨hx, hb, hml, hown, hts⟩ (c_X5_join l G (fun k => ua (20 + k)) (fun k => (up2 (up2 (up2 (up2 ur 1 (upd x2 ((i * 12 + j)) (z8))) 2 (upd x3 ((i * 12 + j)) (0))) 3 (upd (upd x4 (i) (v11)) ((12 + j)) (v15))) 20 x5) (20 + k)) (uf 3) i (12 + j) 1 0 (by omega) (by omega)) mi_yX5_join mv_yX5_join ml_X3_105 ⟨rfl, rfl, Nat.le_of_ble_eq_true rfl, Nat.le_of_ble_eq_true rfl⟩ hK hP (hDD _ _ _ _ _ _) [8, 9, 10, 11] rfl (by decide) rfl rfl rfl hl.1 rfl (Nat.le_of_ble_eq_true rfl) dX3_layRow_110 ⟨Nat.zero_le _, Nat.zero_le _⟩ hS hA (fun w22 H locs hw22 hP hS => ?_)
            obtain rfl := hw22
            have hP : PP G (uM G ua a b la uf f lf (up2 (up2 (up2 (up2 ur 1 (upd x2 ((i * 12 + j)) (z8))) 2 (upd x3 ((i * 12 + j)) (0))) 3 (upd (upd x4 (i) (v11)) ((12 + j)) (v15))) 20 (jnF x5 i (12 + j) 1 0)) r lr) H := hP rfl
            have hRB : RB adjU (jnF x5 i (12 + j) 1 0) := RB_join 1 0 hRB (by unfold adjU adjR; omega) (by unfold adjU adjR; omega) (by omega) (by omega)
            exact j113_17 (jnF x5 i (12 + j) 1 0) hRB _ _ _ hP hS (lv_sub hl [1, 2, 3, 4, 5] rfl)
        refine lv_if_le (tgt := 42) hx hb dX3_layRow_27 (by decide) (fun c23 => ?_) (fun c23 => ?_)
        · refine lv_iconst (v := 0) hx hb dX3_layRow_42 (by decide) ?_
          exact j43_8 0 _ _ _ hP hS (lv_sub hl [0, 1, 2, 3, 4, 5] rfl)
        · refine lv_aload_n hx hb dX3_layRow_30 rfl (lv_at hl 3 rfl) ?_
          refine va_get (D := G.1) (ci := 2) (v := .ref (a 9)) (C := RX2) (T := TX2) (N := 15) hx hb hts inX2 hown hK.1 hP 12 rfl rfl 9 (by decide) (hts _ mf_X3_76) (fun _ h9 => h9) rfl dX3_layRow_31 ?_
          refine lv_iload hx hb dX3_layRow_34 (lv_at hl 0 rfl) ?_
          refine xiald (f := (r 9)) hx hb hK hP 16 ((i * 12 + j)) (rfl) (by omega) (by decide) rfl dX3_layRow_36 ?_
          refine lv_topi (fun v24 ev24 => ?_)
          refine lv_iload_n hx hb dX3_layRow_37 rfl (lv_at hl 5 rfl) ?_
          refine lv_irem hx hb dX3_layRow_38 (fun h9 => c23 (by rw [h9]; decide)) ?_
          refine lv_topi (fun v25 ev25 => ?_)
          refine lv_goto (tgt := 43) hx hb dX3_layRow_39 (by decide) ?_
          exact j43_8 v25 _ _ _ hP hS (lv_sub hl [0, 1, 2, 3, 4, 5] rfl)
  exact loop3 (cl + 1) 0 (ur 1) (ur 2) (ur 3) (ur 20) (by omega) (by omega) hRB _ _ _ hP hS (lv_sub hl [0, 1, 2, 3, 4] rfl)
set_option maxHeartbeats 4000000 in
set_option maxRecDepth 100000 in
theorem c_X3_isFirstOfClass (l : Launch) (G : GG) (ua a b la : Nat → Nat) (uf f lf : Nat → Int32) (ur r lr : Nat → Nat → Int32) (i : Nat) (hi : i < 12) : RdI l yX3_isFirstOfClass cX3_isFirstOfClass 4 (some .boolean) ({ frames := 0, cells := 0, slots := 0, locals := 0 }) G (uM G ua a b la uf f lf ur r lr) [.ref (ua 0), .ref (a 15), .int (nI i)] (fun q => (q = 0 ∨ q = 1)) := by
  refine rd_entry (by decide +kernel) (Nat.le_of_ble_eq_true rfl) ?_
  intro p e s m below meth c C0 hP hK ls hl
  have hS : va_S (fun q => s.heap.size ≤ q) s.heap s.heap [] := va_S.rf
  have hA : ∀ q, s.heap.size ≤ q → (fun q => s.heap.size ≤ q) q := fun _ h => h
  obtain ⟨hx, hb, hml, hown, hts, hr, hlocks, hin⟩ := C0
  have hown : s.vm.findClass RX3 = some m.cls := hown
  have hl : lv_has ls 4 [(0, .ref (ua 0)), (1, .ref (a 15)), (2, .int (nI i))] := hl
  refine lv_iconst (v := 0) hx hb dX3_isFirstOfClass_0 (by decide) ?_
  refine lv_istore_n (lv' := [(3, .int 0), (0, .ref (ua 0)), (1, .ref (a 15)), (2, .int (nI i))]) hx hb dX3_isFirstOfClass_1 rfl hl (by decide) rfl (fun ls hl => ?_)
  have loop2 : ∀ (k1 j : Nat) , j ≤ i → i < j + k1 → ∀ (H : Heap) (locs : List Loc) (ls : Array Slot), PP G (uM G ua a b la uf f lf ur r lr) H → va_S (fun q => s.heap.size ≤ q) s.heap H locs → lv_has ls 4 [(3, .int (nI j)), (1, .ref (a 15)), (2, .int (nI i))] → W p l e ({ frames := 0, cells := 0, slots := 0, locals := 0 }) s m ([.ref (ua 0), .ref (a 15), .int (nI i)] : List Value).toArray below meth c H locs 0 0 (MQ below (QrI (fun q => (q = 0 ∨ q = 1)) (fun q => s.heap.size ≤ q)) ([.ref (ua 0), .ref (a 15), .int (nI i)] : List Value).toArray s 0 0 (fun q => s.heap.size ≤ q)) (F0 m 2 ls []) := by
    intro k1
    induction k1 with
    | zero => intro j  h1 h2; exact absurd h1 (by omega)
    | succ k1 ih2k1 =>
      intro j  hi_j hk_j  H locs ls hP hS hl
      refine lv_iload_n hx hb dX3_isFirstOfClass_2 rfl (lv_at hl 0 rfl) ?_
      refine lv_iload_n hx hb dX3_isFirstOfClass_3 rfl (lv_at hl 2 rfl) ?_
      refine lv_icmp_ge (tgt := 39) hx hb dX3_isFirstOfClass_4 (by decide) (fun c2 => ?_) (fun c2 => ?_)
      · have b4 := qge_t (a := j) (b := i) (by omega) (by omega) c2
        refine lv_iconst (v := 1) hx hb dX3_isFirstOfClass_39 (by decide) ?_
        exact rd_zret hx hb hr hlocks (Or.inr rfl) hS ((Or.inr rfl)) dX3_isFirstOfClass_40
      · have b4 := qge_f (a := j) (b := i) (by omega) (by omega) c2
        refine lv_aload_n hx hb dX3_isFirstOfClass_7 rfl (lv_at hl 1 rfl) ?_
        refine va_get (D := G.1) (ci := 2) (v := .ref (a 6)) (C := RX2) (T := TX2) (N := 15) hx hb hts inX2 hown hK.1 hP 12 rfl rfl 6 (by decide) (hts _ mf_X3_47) (fun _ h9 => h9) rfl dX3_isFirstOfClass_8 ?_
        refine lv_iload_n hx hb dX3_isFirstOfClass_11 rfl (lv_at hl 0 rfl) ?_
        refine xzald (f := (r 6)) hx hb hK hP 13 (j) (rfl) (by omega) (by decide) rfl dX3_isFirstOfClass_12 ?_
        refine lv_topi (fun v3 ev3 => ?_)
        refine lv_if_eq (tgt := 33) hx hb dX3_isFirstOfClass_13 (by decide) (fun c4 => ?_) (fun c4 => ?_)
        · obtain ⟨v5, ev5⟩ : ∃ y9 : Int32, y9 = (nI j) + Int32.ofInt (1) := ⟨_, rfl⟩
          refine lv_iinc (v := v5) (lv' := [(3, .int v5), (1, .ref (a 15)), (2, .int (nI i))]) hx hb dX3_isFirstOfClass_33 hl (k := 0) rfl ev5.symm (by decide) rfl (fun ls hl => ?_)
          obtain rfl : v5 = nI (j + 1) := nI_plus (i := j) (j := 1) ev5 rfl (by decide)
          refine lv_goto (tgt := 2) hx hb dX3_isFirstOfClass_36 (by decide) ?_
          exact ih2k1 (j + 1) (by omega) (by omega) _ _ _ hP hS (lv_sub hl [0, 1, 2] rfl)
        · refine lv_aload_n hx hb dX3_isFirstOfClass_16 rfl (lv_at hl 1 rfl) ?_
          refine va_get (D := G.1) (ci := 2) (v := .ref (a 7)) (C := RX2) (T := TX2) (N := 15) hx hb hts inX2 hown hK.1 hP 12 rfl rfl 7 (by decide) (hts _ mf_X3_54) (fun _ h9 => h9) rfl dX3_isFirstOfClass_17 ?_
          refine lv_iload_n hx hb dX3_isFirstOfClass_20 rfl (lv_at hl 0 rfl) ?_
          refine xiald (f := (r 7)) hx hb hK hP 14 (j) (rfl) (by omega) (by decide) rfl dX3_isFirstOfClass_21 ?_
          refine lv_topi (fun v6 ev6 => ?_)
          refine lv_aload_n hx hb dX3_isFirstOfClass_22 rfl (lv_at hl 1 rfl) ?_
          refine va_get (D := G.1) (ci := 2) (v := .ref (a 7)) (C := RX2) (T := TX2) (N := 15) hx hb hts inX2 hown hK.1 hP 12 rfl rfl 7 (by decide) (hts _ mf_X3_54) (fun _ h9 => h9) rfl dX3_isFirstOfClass_23 ?_
          refine lv_iload_n hx hb dX3_isFirstOfClass_26 rfl (lv_at hl 2 rfl) ?_
          refine xiald (f := (r 7)) hx hb hK hP 14 (i) (rfl) (by omega) (by decide) rfl dX3_isFirstOfClass_27 ?_
          refine lv_topi (fun v7 ev7 => ?_)
          refine lv_icmp_ne (tgt := 33) hx hb dX3_isFirstOfClass_28 (by decide) (fun c8 => ?_) (fun c8 => ?_)
          · obtain ⟨v9, ev9⟩ : ∃ y9 : Int32, y9 = (nI j) + Int32.ofInt (1) := ⟨_, rfl⟩
            refine lv_iinc (v := v9) (lv' := [(3, .int v9), (1, .ref (a 15)), (2, .int (nI i))]) hx hb dX3_isFirstOfClass_33 hl (k := 0) rfl ev9.symm (by decide) rfl (fun ls hl => ?_)
            obtain rfl : v9 = nI (j + 1) := nI_plus (i := j) (j := 1) ev9 rfl (by decide)
            refine lv_goto (tgt := 2) hx hb dX3_isFirstOfClass_36 (by decide) ?_
            exact ih2k1 (j + 1) (by omega) (by omega) _ _ _ hP hS (lv_sub hl [0, 1, 2] rfl)
          · refine lv_iconst (v := 0) hx hb dX3_isFirstOfClass_31 (by decide) ?_
            exact rd_zret hx hb hr hlocks (Or.inl rfl) hS ((Or.inl rfl)) dX3_isFirstOfClass_32
  exact loop2 (i + 1) 0 (by omega) (by omega) _ _ _ hP hS (lv_sub hl [0, 2, 3] rfl)
set_option maxHeartbeats 4000000 in
set_option maxRecDepth 100000 in
theorem c_X3_roundClass (l : Launch) (G : GG) (ua a b la : Nat → Nat) (uf f lf : Nat → Int32) (ur r lr : Nat → Nat → Int32) (wt : Int32) (ba : Int32) (rw : Nat) (cl : Nat) (hrw : rw ≤ 12) (hcl : cl ≤ 12) (h0 : (f 0) = nI rw) (h1 : (f 1) = nI cl) : WrV l yX3_roundClass cX3_roundClass 5 ({ frames := 5, cells := 0, slots := 0, locals := 123 }) G (uM G ua a b la uf f lf ur r lr) [.ref (ua 0), .ref (a 15), .int wt, .int ba] (fun w => ∃ (n_uf_3 : Int32) (n_ur_1 : Nat → Int32) (n_ur_2 : Nat → Int32) (n_ur_3 : Nat → Int32) (n_ur_4 : Nat → Int32) (n_ur_5 : Nat → Int32) (n_ur_6 : Nat → Int32) (n_ur_7 : Nat → Int32) (n_ur_20 : Nat → Int32) (n_ur_21 : Nat → Int32) (n_ur_22 : Nat → Int32), w = uM G ua a b la (upd uf 3 n_uf_3) f lf (up2 (up2 (up2 (up2 (up2 (up2 (up2 (up2 (up2 (up2 ur 1 n_ur_1) 2 n_ur_2) 3 n_ur_3) 4 n_ur_4) 5 n_ur_5) 6 n_ur_6) 7 n_ur_7) 20 n_ur_20) 21 n_ur_21) 22 n_ur_22) r lr) := by
  refine wr_entryV (by decide +kernel) (Nat.le_of_ble_eq_true rfl) ?_
  intro p e s m below meth c A C0 hP hK hD hA ls hl
  have hS : va_S A s.heap s.heap [] := va_S.rf
  obtain ⟨hx, hb, hml, hown, hts, hr, hlocks, hin⟩ := C0
  have hown : s.vm.findClass RX3 = some m.cls := hown
  have hDD : ∀ uf' f' lf' ur' r' lr', va_D A (uM G ua a b la uf' f' lf' ur' r' lr') := fun uf' f' lf' ur' r' lr' => D_same hD rfl
  have hl : lv_has ls 5 [(0, .ref (ua 0)), (1, .ref (a 15)), (2, .int wt), (3, .int ba)] := hl
  refine lv_aload_n hx hb dX3_roundClass_0 rfl (lv_at hl 0 rfl) ?_
  refine va_get (D := G.1) (ci := 3) (v := .ref (ua 23)) (C := RX3) (T := TX3) (N := 8) hx hb hts inX3 hown hK.1 hP 0 rfl rfl 0 (by decide) (hts _ mf_X3_12) (fun _ h9 => h9) rfl dX3_roundClass_1 ?_
  refine wrVV (rest := []) (q0 := 0) ⟨hx, hb, hml, hown, hts⟩ (c_X5_wipe l G (fun k => ua (20 + k)) (fun k => ur (20 + k)) (uf 3)) mi_yX5_wipe mv_yX5_wipe ml_X3_82 ⟨rfl, rfl, Nat.le_of_ble_eq_true rfl, Nat.le_of_ble_eq_true rfl⟩ hK hP (hDD _ _ _ _ _ _) [8, 9, 10, 11] rfl (by decide) rfl rfl rfl hl.1 rfl (Nat.le_of_ble_eq_true rfl) dX3_roundClass_4 ⟨Nat.zero_le _, Nat.zero_le _⟩ hS hA (fun w2 H locs hw2 hP hS => ?_)
  obtain rfl := hw2
  have hP : PP G (uM G ua a b la uf f lf (up2 ur 20 (flF (ur 20) 0 25)) r lr) H := hP rfl
  have hRB : RB adjU (flF (ur 20) 0 25) := RB_0 _
  refine lv_aload_n hx hb dX3_roundClass_7 rfl (lv_at hl 0 rfl) ?_
  refine va_get (D := G.1) (ci := 3) (v := .ref (ua 4)) (C := RX3) (T := TX3) (N := 8) hx hb hts inX3 hown hK.1 hP 0 rfl rfl 4 (by decide) (hts _ mf_X3_29) (fun _ h9 => h9) rfl dX3_roundClass_8 ?_
  refine lv_iconst (v := 0) hx hb dX3_roundClass_11 (by decide) ?_
  refine wrSV (rest := []) ⟨hx, hb, hml, hown, hts⟩ (c_J7_fill_53178 l G (ua 4) 25 (ur 4) 0 (by decide)) mi_yJ7_fill_53178 mst_yJ7_fill_53178 ml_X3_85 ⟨rfl, rfl, Nat.le_of_ble_eq_true rfl, Nat.le_of_ble_eq_true rfl⟩ hK hP (hDD _ _ _ _ _ _) [4] rfl (by decide) rfl hl.1 rfl (Nat.le_of_ble_eq_true rfl) dX3_roundClass_12 ⟨Nat.zero_le _, Nat.zero_le _⟩ hS hA (fun w4 H locs hw4 hP hS => ?_)
  obtain rfl := hw4
  have hP : PP G (uM G ua a b la uf f lf (up2 (up2 ur 4 (flF (ur 4) 0 25)) 20 (flF (ur 20) 0 25)) r lr) H := hP rfl
  refine lv_aload_n hx hb dX3_roundClass_15 rfl (lv_at hl 0 rfl) ?_
  refine va_get (D := G.1) (ci := 3) (v := .ref (ua 3)) (C := RX3) (T := TX3) (N := 8) hx hb hts inX3 hown hK.1 hP 0 rfl rfl 3 (by decide) (hts _ mf_X3_26) (fun _ h9 => h9) rfl dX3_roundClass_16 ?_
  refine lv_iconst (v := 0) hx hb dX3_roundClass_19 (by decide) ?_
  refine wrSV (rest := []) ⟨hx, hb, hml, hown, hts⟩ (c_J7_fill_53178 l G (ua 3) 25 (ur 3) 0 (by decide)) mi_yJ7_fill_53178 mst_yJ7_fill_53178 ml_X3_85 ⟨rfl, rfl, Nat.le_of_ble_eq_true rfl, Nat.le_of_ble_eq_true rfl⟩ hK hP (hDD _ _ _ _ _ _) [3] rfl (by decide) rfl hl.1 rfl (Nat.le_of_ble_eq_true rfl) dX3_roundClass_20 ⟨Nat.zero_le _, Nat.zero_le _⟩ hS hA (fun w6 H locs hw6 hP hS => ?_)
  obtain rfl := hw6
  have hP : PP G (uM G ua a b la uf f lf (up2 (up2 (up2 ur 3 (flF (ur 3) 0 25)) 4 (flF (ur 4) 0 25)) 20 (flF (ur 20) 0 25)) r lr) H := hP rfl
  refine lv_iconst (v := 0) hx hb dX3_roundClass_23 (by decide) ?_
  refine lv_istore (lv' := [(4, .int 0), (0, .ref (ua 0)), (1, .ref (a 15)), (2, .int wt), (3, .int ba)]) hx hb dX3_roundClass_24 hl (by decide) rfl (fun ls hl => ?_)
  have loop26 : ∀ (k7 i : Nat) (x8 : Nat → Int32) (x9 : Nat → Int32) (x10 : Nat → Int32) (x11 : Nat → Int32) (x12 : Nat → Int32), i ≤ rw → rw < i + k7 → (RB adjU x12) → ∀ (H : Heap) (locs : List Loc) (ls : Array Slot), PP G (uM G ua a b la uf f lf (up2 (up2 (up2 (up2 (up2 (up2 ur 1 x8) 2 x9) 3 x10) 4 (flF (ur 4) 0 25)) 7 x11) 20 x12) r lr) H → va_S A s.heap H locs → lv_has ls 5 [(4, .int (nI i)), (0, .ref (ua 0)), (1, .ref (a 15)), (2, .int wt), (3, .int ba)] → W p l e ({ frames := 5, cells := 0, slots := 0, locals := 123 }) s m ([.ref (ua 0), .ref (a 15), .int wt, .int ba] : List Value).toArray below meth c H locs 0 0 (MQ below (QwV G (fun w => ∃ (n_uf_3 : Int32) (n_ur_1 : Nat → Int32) (n_ur_2 : Nat → Int32) (n_ur_3 : Nat → Int32) (n_ur_4 : Nat → Int32) (n_ur_5 : Nat → Int32) (n_ur_6 : Nat → Int32) (n_ur_7 : Nat → Int32) (n_ur_20 : Nat → Int32) (n_ur_21 : Nat → Int32) (n_ur_22 : Nat → Int32), w = uM G ua a b la (upd uf 3 n_uf_3) f lf (up2 (up2 (up2 (up2 (up2 (up2 (up2 (up2 (up2 (up2 ur 1 n_ur_1) 2 n_ur_2) 3 n_ur_3) 4 n_ur_4) 5 n_ur_5) 6 n_ur_6) 7 n_ur_7) 20 n_ur_20) 21 n_ur_21) 22 n_ur_22) r lr) A) ([.ref (ua 0), .ref (a 15), .int wt, .int ba] : List Value).toArray s 0 0 A) (F0 m 26 ls []) := by
    intro k7
    induction k7 with
    | zero => intro i x8 x9 x10 x11 x12 h1 h2; exact absurd h1 (by omega)
    | succ k7 ih26k7 =>
      intro i x8 x9 x10 x11 x12 hi_i hk_i hRB H locs ls hP hS hl
      refine lv_iload hx hb dX3_roundClass_26 (lv_at hl 0 rfl) ?_
      refine lv_aload_n hx hb dX3_roundClass_28 rfl (lv_at hl 2 rfl) ?_
      refine va_get (D := G.1) (ci := 2) (v := .int (f 0)) (C := RX2) (T := TX2) (N := 15) hx hb hts inX2 hown hK.1 hP 12 rfl rfl 0 (by decide) (hts _ mf_X3_41) (fun _ h9 => h9) rfl dX3_roundClass_29 ?_
      rw [show (f 0) = nI (rw) from h0]
      refine lv_icmp_ge (tgt := 92) hx hb dX3_roundClass_32 (by decide) (fun c13 => ?_) (fun c13 => ?_)
      · have b32 := qge_t (a := i) (b := (rw)) (by omega) (by omega) c13
        refine lv_iconst (v := 0) hx hb dX3_roundClass_92 (by decide) ?_
        refine lv_istore (lv' := [(4, .int 0), (0, .ref (ua 0)), (1, .ref (a 15)), (2, .int wt), (3, .int ba)]) hx hb dX3_roundClass_93 hl (by decide) rfl (fun ls hl => ?_)
        have loop95 : ∀ (k14 n : Nat) (x15 : Nat → Int32) (x16 : Nat → Int32) (x17 : Nat → Int32), n ≤ 24 → 24 < n + k14 → (RB adjU x17) → ∀ (H : Heap) (locs : List Loc) (ls : Array Slot), PP G (uM G ua a b la uf f lf (up2 (up2 (up2 (up2 (up2 (up2 (up2 (up2 ur 1 x8) 2 x9) 3 x10) 4 (flF (ur 4) 0 25)) 5 x15) 6 x16) 7 x11) 20 x17) r lr) H → va_S A s.heap H locs → lv_has ls 5 [(4, .int (nI n)), (0, .ref (ua 0)), (1, .ref (a 15)), (3, .int ba)] → W p l e ({ frames := 5, cells := 0, slots := 0, locals := 123 }) s m ([.ref (ua 0), .ref (a 15), .int wt, .int ba] : List Value).toArray below meth c H locs 0 0 (MQ below (QwV G (fun w => ∃ (n_uf_3 : Int32) (n_ur_1 : Nat → Int32) (n_ur_2 : Nat → Int32) (n_ur_3 : Nat → Int32) (n_ur_4 : Nat → Int32) (n_ur_5 : Nat → Int32) (n_ur_6 : Nat → Int32) (n_ur_7 : Nat → Int32) (n_ur_20 : Nat → Int32) (n_ur_21 : Nat → Int32) (n_ur_22 : Nat → Int32), w = uM G ua a b la (upd uf 3 n_uf_3) f lf (up2 (up2 (up2 (up2 (up2 (up2 (up2 (up2 (up2 (up2 ur 1 n_ur_1) 2 n_ur_2) 3 n_ur_3) 4 n_ur_4) 5 n_ur_5) 6 n_ur_6) 7 n_ur_7) 20 n_ur_20) 21 n_ur_21) 22 n_ur_22) r lr) A) ([.ref (ua 0), .ref (a 15), .int wt, .int ba] : List Value).toArray s 0 0 A) (F0 m 95 ls []) := by
          intro k14
          induction k14 with
          | zero => intro n x15 x16 x17 h1 h2; exact absurd h1 (by omega)
          | succ k14 ih95k14 =>
            intro n x15 x16 x17 hi_n hk_n hRB H locs ls hP hS hl
            refine lv_iload hx hb dX3_roundClass_95 (lv_at hl 0 rfl) ?_
            refine lv_bipush (v := 24) hx hb dX3_roundClass_97 (by decide) ?_
            refine lv_icmp_ge (tgt := 166) hx hb dX3_roundClass_99 (by decide) (fun c18 => ?_) (fun c18 => ?_)
            · have b99 := qge_t (a := n) (b := 24) (by omega) (by omega) c18
              refine lv_aload_n hx hb dX3_roundClass_166 rfl (lv_at hl 1 rfl) ?_
              refine wrVVa (rest := []) (q0 := 0) ⟨hx, hb, hml, hown, hts⟩ (c_X3_reachFewest l G ua a b la uf f lf (up2 (up2 (up2 (up2 (up2 (up2 (up2 (up2 ur 1 x8) 2 x9) 3 x10) 4 (flF (ur 4) 0 25)) 5 x15) 6 x16) 7 x11) 20 x17) r lr   hRB) mi_yX3_reachFewest mv_yX3_reachFewest ml_X3_98 ⟨rfl, rfl, Nat.le_of_ble_eq_true rfl, Nat.le_of_ble_eq_true rfl⟩ hK hP (hDD _ _ _ _ _ _) rfl rfl rfl hl.1 rfl (Nat.le_of_ble_eq_true rfl) dX3_roundClass_167 ⟨Nat.zero_le _, Nat.zero_le _⟩ hS hA (fun w20 H locs hw20 hP hS => ?_)
              obtain ⟨x21, x22, x23, x24, x25, x26, rfl, hRB⟩ := hw20
              have hP : PP G (uM G ua a b la (upd uf 3 x21) f lf (up2 (up2 (up2 (up2 (up2 (up2 (up2 (up2 (up2 (up2 ur 1 x8) 2 x22) 3 x10) 4 x23) 5 x15) 6 x16) 7 x11) 20 x24) 21 x25) 22 x26) r lr) H := hP
              have hRB : RB adjU x24 := hRB
              refine lv_iconst (v := 0) hx hb dX3_roundClass_170 (by decide) ?_
              refine lv_istore (lv' := [(4, .int 0), (0, .ref (ua 0)), (1, .ref (a 15)), (3, .int ba)]) hx hb dX3_roundClass_171 hl (by decide) rfl (fun ls hl => ?_)
              have loop173 : ∀ (k27 i2 : Nat) (x28 : Int32) (x29 : Nat → Int32) (x30 : Nat → Int32) (x31 : Nat → Int32) (x32 : Nat → Int32) (x33 : Nat → Int32), i2 ≤ rw → rw < i2 + k27 → (RB adjU x31) → ∀ (H : Heap) (locs : List Loc) (ls : Array Slot), PP G (uM G ua a b la (upd uf 3 x28) f lf (up2 (up2 (up2 (up2 (up2 (up2 (up2 (up2 (up2 (up2 ur 1 x8) 2 x29) 3 x10) 4 x30) 5 x15) 6 x16) 7 x11) 20 x31) 21 x32) 22 x33) r lr) H → va_S A s.heap H locs → lv_has ls 5 [(4, .int (nI i2)), (0, .ref (ua 0)), (1, .ref (a 15))] → W p l e ({ frames := 5, cells := 0, slots := 0, locals := 123 }) s m ([.ref (ua 0), .ref (a 15), .int wt, .int ba] : List Value).toArray below meth c H locs 0 0 (MQ below (QwV G (fun w => ∃ (n_uf_3 : Int32) (n_ur_1 : Nat → Int32) (n_ur_2 : Nat → Int32) (n_ur_3 : Nat → Int32) (n_ur_4 : Nat → Int32) (n_ur_5 : Nat → Int32) (n_ur_6 : Nat → Int32) (n_ur_7 : Nat → Int32) (n_ur_20 : Nat → Int32) (n_ur_21 : Nat → Int32) (n_ur_22 : Nat → Int32), w = uM G ua a b la (upd uf 3 n_uf_3) f lf (up2 (up2 (up2 (up2 (up2 (up2 (up2 (up2 (up2 (up2 ur 1 n_ur_1) 2 n_ur_2) 3 n_ur_3) 4 n_ur_4) 5 n_ur_5) 6 n_ur_6) 7 n_ur_7) 20 n_ur_20) 21 n_ur_21) 22 n_ur_22) r lr) A) ([.ref (ua 0), .ref (a 15), .int wt, .int ba] : List Value).toArray s 0 0 A) (F0 m 173 ls []) := by
                intro k27
                induction k27 with
                | zero => intro i2 x28 x29 x30 x31 x32 x33 h1 h2; exact absurd h1 (by omega)
                | succ k27 ih173k27 =>
                  intro i2 x28 x29 x30 x31 x32 x33 hi_i2 hk_i2 hRB H locs ls hP hS hl
                  refine lv_iload hx hb dX3_roundClass_173 (lv_at hl 0 rfl) ?_
                  refine lv_aload_n hx hb dX3_roundClass_175 rfl (lv_at hl 2 rfl) ?_
                  refine va_get (D := G.1) (ci := 2) (v := .int (f 0)) (C := RX2) (T := TX2) (N := 15) hx hb hts inX2 hown hK.1 hP 12 rfl rfl 0 (by decide) (hts _ mf_X3_41) (fun _ h9 => h9) rfl dX3_roundClass_176 ?_
                  rw [show (f 0) = nI (rw) from h0]
                  refine lv_icmp_ge (tgt := 208) hx hb dX3_roundClass_179 (by decide) (fun c34 => ?_) (fun c34 => ?_)
                  · have b179 := qge_t (a := i2) (b := (rw)) (by omega) (by omega) c34
                    exact wr_vret hx hb hr hlocks hS hP ⟨x28, x8, x29, x10, x30, x15, x16, x11, x31, x32, x33, rfl⟩ dX3_roundClass_208
                  · have b179 := qge_f (a := i2) (b := (rw)) (by omega) (by omega) c34
                    refine lv_aload_n hx hb dX3_roundClass_182 rfl (lv_at hl 1 rfl) ?_
                    refine va_get (D := G.1) (ci := 3) (v := .ref (ua 7)) (C := RX3) (T := TX3) (N := 8) hx hb hts inX3 hown hK.1 hP 0 rfl rfl 7 (by decide) (hts _ mf_X3_38) (fun _ h9 => h9) rfl dX3_roundClass_183 ?_
                    refine lv_iload hx hb dX3_roundClass_186 (lv_at hl 0 rfl) ?_
                    refine xzald (f := x11) hx hb hK hP 7 (i2) (rfl) (by omega) (by decide) rfl dX3_roundClass_188 ?_
                    refine lv_topi (fun v35 ev35 => ?_)
                    have j202_41 : ∀ (x36 : Int32) (x37 : Nat → Int32) (x38 : Nat → Int32) (x39 : Nat → Int32) (x40 : Nat → Int32) (x41 : Nat → Int32) (hRB : RB adjU x39) (H : Heap) (locs : List Loc) (ls : Array Slot), PP G (uM G ua a b la (upd uf 3 x36) f lf (up2 (up2 (up2 (up2 (up2 (up2 (up2 (up2 (up2 (up2 ur 1 x8) 2 x37) 3 x10) 4 x38) 5 x15) 6 x16) 7 x11) 20 x39) 21 x40) 22 x41) r lr) H → va_S A s.heap H locs → lv_has ls 5 [(4, .int (nI i2)), (0, .ref (ua 0)), (1, .ref (a 15))] → W p l e ({ frames := 5, cells := 0, slots := 0, locals := 123 }) s m ([.ref (ua 0), .ref (a 15), .int wt, .int ba] : List Value).toArray below meth c H locs 0 0 (MQ below (QwV G (fun w => ∃ (n_uf_3 : Int32) (n_ur_1 : Nat → Int32) (n_ur_2 : Nat → Int32) (n_ur_3 : Nat → Int32) (n_ur_4 : Nat → Int32) (n_ur_5 : Nat → Int32) (n_ur_6 : Nat → Int32) (n_ur_7 : Nat → Int32) (n_ur_20 : Nat → Int32) (n_ur_21 : Nat → Int32) (n_ur_22 : Nat → Int32), w = uM G ua a b la (upd uf 3 n_uf_3) f lf (up2 (up2 (up2 (up2 (up2 (up2 (up2 (up2 (up2 (up2 ur 1 n_ur_1) 2 n_ur_2) 3 n_ur_3) 4 n_ur_4) 5 n_ur_5) 6 n_ur_6) 7 n_ur_7) 20 n_ur_20) 21 n_ur_21) 22 n_ur_22) r lr) A) ([.ref (ua 0), .ref (a 15), .int wt, .int ba] : List Value).toArray s 0 0 A) (F0 m 202 ls []) := by
                      intro x36 x37 x38 x39 x40 x41 hRB H locs ls hP hS hl
                      obtain ⟨v42, ev42⟩ : ∃ y9 : Int32, y9 = (nI i2) + Int32.ofInt (1) := ⟨_, rfl⟩
                      refine lv_iinc (v := v42) (lv' := [(4, .int v42), (0, .ref (ua 0)), (1, .ref (a 15))]) hx hb dX3_roundClass_202 hl (k := 0) rfl ev42.symm (by decide) rfl (fun ls hl => ?_)
                      obtain rfl : v42 = nI (i2 + 1) := nI_plus (i := i2) (j := 1) ev42 rfl (by decide)
                      refine lv_goto (tgt := 173) hx hb dX3_roundClass_205 (by decide) ?_
                      exact ih173k27 (i2 + 1) x36 x37 x38 x39 x40 x41 (by omega) (by omega) hRB _ _ _ hP hS (lv_sub hl [0, 1, 2] rfl)
                    refine lv_if_eq (tgt := 202) hx hb dX3_roundClass_189 (by decide) (fun c43 => ?_) (fun c43 => ?_)
                    · exact j202_41 x28 x29 x30 x31 x32 x33 hRB _ _ _ hP hS (lv_sub hl [0, 1, 2] rfl)
                    · refine lv_aload_n hx hb dX3_roundClass_192 rfl (lv_at hl 1 rfl) ?_
                      refine lv_iload hx hb dX3_roundClass_193 (lv_at hl 0 rfl) ?_
                      refine lv_aload_n hx hb dX3_roundClass_195 rfl (lv_at hl 2 rfl) ?_
                      refine va_get (D := G.1) (ci := 2) (v := .int (f 1)) (C := RX2) (T := TX2) (N := 15) hx hb hts inX2 hown hK.1 hP 12 rfl rfl 1 (by decide) (hts _ mf_X3_68) (fun _ h9 => h9) rfl dX3_roundClass_196 ?_
                      rw [show (f 1) = nI (cl) from h1]
                      refine wrVVa (rest := []) (q0 := 0) ⟨hx, hb, hml, hown, hts⟩ (c_X3_bringDown l G ua a b la (upd uf 3 x28) f lf (up2 (up2 (up2 (up2 (up2 (up2 (up2 (up2 (up2 (up2 ur 1 x8) 2 x29) 3 x10) 4 x30) 5 x15) 6 x16) 7 x11) 20 x31) 21 x32) 22 x33) r lr i2 (cl)  (by omega) (by omega) hRB) mi_yX3_bringDown mv_yX3_bringDown ml_X3_101 ⟨rfl, rfl, Nat.le_of_ble_eq_true rfl, Nat.le_of_ble_eq_true rfl⟩ hK hP (hDD _ _ _ _ _ _) rfl rfl rfl hl.1 rfl (Nat.le_of_ble_eq_true rfl) dX3_roundClass_199 ⟨Nat.zero_le _, Nat.zero_le _⟩ hS hA (fun w45 H locs hw45 hP hS => ?_)
                      obtain ⟨x46, x47, x48, x49, x50, x51, rfl, hRB⟩ := hw45
                      have hP : PP G (uM G ua a b la (upd uf 3 x46) f lf (up2 (up2 (up2 (up2 (up2 (up2 (up2 (up2 (up2 (up2 ur 1 x8) 2 x47) 3 x10) 4 x48) 5 x15) 6 x16) 7 x11) 20 x49) 21 x50) 22 x51) r lr) H := hP
                      have hRB : RB adjU x49 := hRB
                      exact j202_41 x46 x47 x48 x49 x50 x51 hRB _ _ _ hP hS (lv_sub hl [0, 1, 2] rfl)
              exact loop173 (rw + 1) 0 x21 x22 x23 x24 x25 x26 (by omega) (by omega) hRB _ _ _ hP hS (lv_sub hl [0, 1, 2] rfl)
            · have b99 := qge_f (a := n) (b := 24) (by omega) (by omega) c18
              refine lv_aload_n hx hb dX3_roundClass_102 rfl (lv_at hl 1 rfl) ?_
              refine va_get (D := G.1) (ci := 3) (v := .ref (ua 5)) (C := RX3) (T := TX3) (N := 8) hx hb hts inX3 hown hK.1 hP 0 rfl rfl 5 (by decide) (hts _ mf_X3_32) (fun _ h9 => h9) rfl dX3_roundClass_103 ?_
              refine lv_iload hx hb dX3_roundClass_106 (lv_at hl 0 rfl) ?_
              refine lv_iload_n hx hb dX3_roundClass_108 rfl (lv_at hl 3 rfl) ?_
              have j125_52 : ∀ (z52 : Int32) (H : Heap) (locs : List Loc) (ls : Array Slot), PP G (uM G ua a b la uf f lf (up2 (up2 (up2 (up2 (up2 (up2 (up2 (up2 ur 1 x8) 2 x9) 3 x10) 4 (flF (ur 4) 0 25)) 5 x15) 6 x16) 7 x11) 20 x17) r lr) H → va_S A s.heap H locs → lv_has ls 5 [(4, .int (nI n)), (0, .ref (ua 0)), (1, .ref (a 15)), (3, .int ba)] → W p l e ({ frames := 5, cells := 0, slots := 0, locals := 123 }) s m ([.ref (ua 0), .ref (a 15), .int wt, .int ba] : List Value).toArray below meth c H locs 0 0 (MQ below (QwV G (fun w => ∃ (n_uf_3 : Int32) (n_ur_1 : Nat → Int32) (n_ur_2 : Nat → Int32) (n_ur_3 : Nat → Int32) (n_ur_4 : Nat → Int32) (n_ur_5 : Nat → Int32) (n_ur_6 : Nat → Int32) (n_ur_7 : Nat → Int32) (n_ur_20 : Nat → Int32) (n_ur_21 : Nat → Int32) (n_ur_22 : Nat → Int32), w = uM G ua a b la (upd uf 3 n_uf_3) f lf (up2 (up2 (up2 (up2 (up2 (up2 (up2 (up2 (up2 (up2 ur 1 n_ur_1) 2 n_ur_2) 3 n_ur_3) 4 n_ur_4) 5 n_ur_5) 6 n_ur_6) 7 n_ur_7) 20 n_ur_20) 21 n_ur_21) 22 n_ur_22) r lr) A) ([.ref (ua 0), .ref (a 15), .int wt, .int ba] : List Value).toArray s 0 0 A) (F0 m 125 ls [.int z52, .int (nI n), .ref (ua 5)]) := by
                intro z52  H locs ls hP hS hl
                refine xiast (f := x15) (x := z52) hx hb hK hP (hDD _ _ _ _ _ _) hS 5 (n) (rfl) (by omega) (by decide) rfl dX3_roundClass_125 (fun H locs hP _ hS => ?_)
                have hP : PP G (uM G ua a b la uf f lf (up2 (up2 (up2 (up2 (up2 (up2 (up2 (up2 ur 1 x8) 2 x9) 3 x10) 4 (flF (ur 4) 0 25)) 5 (upd x15 (n) (z52))) 6 x16) 7 x11) 20 x17) r lr) H := hP
                refine lv_aload_n hx hb dX3_roundClass_126 rfl (lv_at hl 1 rfl) ?_
                refine va_get (D := G.1) (ci := 3) (v := .ref (ua 6)) (C := RX3) (T := TX3) (N := 8) hx hb hts inX3 hown hK.1 hP 0 rfl rfl 6 (by decide) (hts _ mf_X3_35) (fun _ h9 => h9) rfl dX3_roundClass_127 ?_
                refine lv_iload hx hb dX3_roundClass_130 (lv_at hl 0 rfl) ?_
                refine lv_iload_n hx hb dX3_roundClass_132 rfl (lv_at hl 3 rfl) ?_
                have j153_53 : ∀ (z53 : Int32) (H : Heap) (locs : List Loc) (ls : Array Slot), PP G (uM G ua a b la uf f lf (up2 (up2 (up2 (up2 (up2 (up2 (up2 (up2 ur 1 x8) 2 x9) 3 x10) 4 (flF (ur 4) 0 25)) 5 (upd x15 (n) (z52))) 6 x16) 7 x11) 20 x17) r lr) H → va_S A s.heap H locs → lv_has ls 5 [(4, .int (nI n)), (0, .ref (ua 0)), (1, .ref (a 15)), (3, .int ba)] → W p l e ({ frames := 5, cells := 0, slots := 0, locals := 123 }) s m ([.ref (ua 0), .ref (a 15), .int wt, .int ba] : List Value).toArray below meth c H locs 0 0 (MQ below (QwV G (fun w => ∃ (n_uf_3 : Int32) (n_ur_1 : Nat → Int32) (n_ur_2 : Nat → Int32) (n_ur_3 : Nat → Int32) (n_ur_4 : Nat → Int32) (n_ur_5 : Nat → Int32) (n_ur_6 : Nat → Int32) (n_ur_7 : Nat → Int32) (n_ur_20 : Nat → Int32) (n_ur_21 : Nat → Int32) (n_ur_22 : Nat → Int32), w = uM G ua a b la (upd uf 3 n_uf_3) f lf (up2 (up2 (up2 (up2 (up2 (up2 (up2 (up2 (up2 (up2 ur 1 n_ur_1) 2 n_ur_2) 3 n_ur_3) 4 n_ur_4) 5 n_ur_5) 6 n_ur_6) 7 n_ur_7) 20 n_ur_20) 21 n_ur_21) 22 n_ur_22) r lr) A) ([.ref (ua 0), .ref (a 15), .int wt, .int ba] : List Value).toArray s 0 0 A) (F0 m 153 ls [.int z53, .int (nI n), .ref (ua 6)]) := by
                  intro z53  H locs ls hP hS hl
                  refine xiast (f := x16) (x := z53) hx hb hK hP (hDD _ _ _ _ _ _) hS 6 (n) (rfl) (by omega) (by decide) rfl dX3_roundClass_153 (fun H locs hP _ hS => ?_)
                  have hP : PP G (uM G ua a b la uf f lf (up2 (up2 (up2 (up2 (up2 (up2 (up2 (up2 ur 1 x8) 2 x9) 3 x10) 4 (flF (ur 4) 0 25)) 5 (upd x15 (n) (z52))) 6 (upd x16 (n) (z53))) 7 x11) 20 x17) r lr) H := hP
                  refine lv_aload_n hx hb dX3_roundClass_154 rfl (lv_at hl 1 rfl) ?_
                  refine lv_iload hx hb dX3_roundClass_155 (lv_at hl 0 rfl) ?_
                  refine wrVVa (rest := []) (q0 := 0) ⟨hx, hb, hml, hown, hts⟩ (c_X3_refreshNode l G ua a b la uf f lf (up2 (up2 (up2 (up2 (up2 (up2 (up2 (up2 ur 1 x8) 2 x9) 3 x10) 4 (flF (ur 4) 0 25)) 5 (upd x15 (n) (z52))) 6 (upd x16 (n) (z53))) 7 x11) 20 x17) r lr n  (by omega) hRB) mi_yX3_refreshNode mv_yX3_refreshNode ml_X3_94 ⟨rfl, rfl, Nat.le_of_ble_eq_true rfl, Nat.le_of_ble_eq_true rfl⟩ hK hP (hDD _ _ _ _ _ _) rfl rfl rfl hl.1 rfl (Nat.le_of_ble_eq_true rfl) dX3_roundClass_157 ⟨Nat.zero_le _, Nat.zero_le _⟩ hS hA (fun w55 H locs hw55 hP hS => ?_)
                  obtain ⟨x56, rfl, hRB⟩ := hw55
                  have hP : PP G (uM G ua a b la uf f lf (up2 (up2 (up2 (up2 (up2 (up2 (up2 (up2 ur 1 x8) 2 x9) 3 x10) 4 (flF (ur 4) 0 25)) 5 (upd x15 (n) (z52))) 6 (upd x16 (n) (z53))) 7 x11) 20 x56) r lr) H := hP
                  have hRB : RB adjU x56 := hRB
                  obtain ⟨v57, ev57⟩ : ∃ y9 : Int32, y9 = (nI n) + Int32.ofInt (1) := ⟨_, rfl⟩
                  refine lv_iinc (v := v57) (lv' := [(4, .int v57), (0, .ref (ua 0)), (1, .ref (a 15)), (3, .int ba)]) hx hb dX3_roundClass_160 hl (k := 0) rfl ev57.symm (by decide) rfl (fun ls hl => ?_)
                  obtain rfl : v57 = nI (n + 1) := nI_plus (i := n) (j := 1) ev57 rfl (by decide)
                  refine lv_goto (tgt := 95) hx hb dX3_roundClass_163 (by decide) ?_
                  exact ih95k14 (n + 1) (upd x15 (n) (z52)) (upd x16 (n) (z53)) x56 (by omega) (by omega) hRB _ _ _ hP hS (lv_sub hl [0, 1, 2, 3] rfl)
                refine lv_if_le (tgt := 152) hx hb dX3_roundClass_133 (by decide) (fun c58 => ?_) (fun c58 => ?_)
                · refine lv_iconst (v := 0) hx hb dX3_roundClass_152 (by decide) ?_
                  exact j153_53 0 _ _ _ hP hS (lv_sub hl [0, 1, 2, 3] rfl)
                · refine lv_aload_n hx hb dX3_roundClass_136 rfl (lv_at hl 1 rfl) ?_
                  refine va_get (D := G.1) (ci := 3) (v := .ref (ua 3)) (C := RX3) (T := TX3) (N := 8) hx hb hts inX3 hown hK.1 hP 0 rfl rfl 3 (by decide) (hts _ mf_X3_26) (fun _ h9 => h9) rfl dX3_roundClass_137 ?_
                  refine lv_iload hx hb dX3_roundClass_140 (lv_at hl 0 rfl) ?_
                  refine xiald (f := x10) hx hb hK hP 3 (n) (rfl) (by omega) (by decide) rfl dX3_roundClass_142 ?_
                  refine lv_topi (fun v59 ev59 => ?_)
                  refine lv_iload_n hx hb dX3_roundClass_143 rfl (lv_at hl 3 rfl) ?_
                  refine lv_iadd hx hb dX3_roundClass_144 ?_
                  refine lv_topi (fun v60 ev60 => ?_)
                  refine lv_iconst (v := 1) hx hb dX3_roundClass_145 (by decide) ?_
                  refine lv_isub hx hb dX3_roundClass_146 ?_
                  refine lv_topi (fun v61 ev61 => ?_)
                  refine lv_iload_n hx hb dX3_roundClass_147 rfl (lv_at hl 3 rfl) ?_
                  refine lv_idiv hx hb dX3_roundClass_148 (fun h9 => c58 (by rw [h9]; decide)) ?_
                  refine lv_topi (fun v62 ev62 => ?_)
                  refine lv_goto (tgt := 153) hx hb dX3_roundClass_149 (by decide) ?_
                  exact j153_53 v62 _ _ _ hP hS (lv_sub hl [0, 1, 2, 3] rfl)
              refine lv_if_le (tgt := 124) hx hb dX3_roundClass_109 (by decide) (fun c63 => ?_) (fun c63 => ?_)
              · refine lv_iconst (v := 0) hx hb dX3_roundClass_124 (by decide) ?_
                exact j125_52 0 _ _ _ hP hS (lv_sub hl [0, 1, 2, 3] rfl)
              · refine lv_aload_n hx hb dX3_roundClass_112 rfl (lv_at hl 1 rfl) ?_
                refine va_get (D := G.1) (ci := 3) (v := .ref (ua 3)) (C := RX3) (T := TX3) (N := 8) hx hb hts inX3 hown hK.1 hP 0 rfl rfl 3 (by decide) (hts _ mf_X3_26) (fun _ h9 => h9) rfl dX3_roundClass_113 ?_
                refine lv_iload hx hb dX3_roundClass_116 (lv_at hl 0 rfl) ?_
                refine xiald (f := x10) hx hb hK hP 3 (n) (rfl) (by omega) (by decide) rfl dX3_roundClass_118 ?_
                refine lv_topi (fun v64 ev64 => ?_)
                refine lv_iload_n hx hb dX3_roundClass_119 rfl (lv_at hl 3 rfl) ?_
                refine lv_idiv hx hb dX3_roundClass_120 (fun h9 => c63 (by rw [h9]; decide)) ?_
                refine lv_topi (fun v65 ev65 => ?_)
                refine lv_goto (tgt := 125) hx hb dX3_roundClass_121 (by decide) ?_
                exact j125_52 v65 _ _ _ hP hS (lv_sub hl [0, 1, 2, 3] rfl)
        exact loop95 (24 + 1) 0 (ur 5) (ur 6) x12 (by omega) (by omega) hRB _ _ _ hP hS (lv_sub hl [0, 1, 2, 4] rfl)
      · have b32 := qge_f (a := i) (b := (rw)) (by omega) (by omega) c13
        refine lv_aload_n hx hb dX3_roundClass_35 rfl (lv_at hl 1 rfl) ?_
        refine va_get (D := G.1) (ci := 3) (v := .ref (ua 7)) (C := RX3) (T := TX3) (N := 8) hx hb hts inX3 hown hK.1 hP 0 rfl rfl 7 (by decide) (hts _ mf_X3_38) (fun _ h9 => h9) rfl dX3_roundClass_36 ?_
        refine lv_iload hx hb dX3_roundClass_39 (lv_at hl 0 rfl) ?_
        refine lv_aload_n hx hb dX3_roundClass_41 rfl (lv_at hl 2 rfl) ?_
        refine va_get (D := G.1) (ci := 2) (v := .ref (a 6)) (C := RX2) (T := TX2) (N := 15) hx hb hts inX2 hown hK.1 hP 12 rfl rfl 6 (by decide) (hts _ mf_X3_47) (fun _ h9 => h9) rfl dX3_roundClass_42 ?_
        refine lv_iload hx hb dX3_roundClass_45 (lv_at hl 0 rfl) ?_
        refine xzald (f := (r 6)) hx hb hK hP 13 (i) (rfl) (by omega) (by decide) rfl dX3_roundClass_47 ?_
        refine lv_topi (fun v66 ev66 => ?_)
        have j67_67 : ∀ (z67 : Int32) (gz67 : z67 = 0 ∨ z67 = 1) (H : Heap) (locs : List Loc) (ls : Array Slot), PP G (uM G ua a b la uf f lf (up2 (up2 (up2 (up2 (up2 (up2 ur 1 x8) 2 x9) 3 x10) 4 (flF (ur 4) 0 25)) 7 x11) 20 x12) r lr) H → va_S A s.heap H locs → lv_has ls 5 [(4, .int (nI i)), (0, .ref (ua 0)), (1, .ref (a 15)), (2, .int wt), (3, .int ba)] → W p l e ({ frames := 5, cells := 0, slots := 0, locals := 123 }) s m ([.ref (ua 0), .ref (a 15), .int wt, .int ba] : List Value).toArray below meth c H locs 0 0 (MQ below (QwV G (fun w => ∃ (n_uf_3 : Int32) (n_ur_1 : Nat → Int32) (n_ur_2 : Nat → Int32) (n_ur_3 : Nat → Int32) (n_ur_4 : Nat → Int32) (n_ur_5 : Nat → Int32) (n_ur_6 : Nat → Int32) (n_ur_7 : Nat → Int32) (n_ur_20 : Nat → Int32) (n_ur_21 : Nat → Int32) (n_ur_22 : Nat → Int32), w = uM G ua a b la (upd uf 3 n_uf_3) f lf (up2 (up2 (up2 (up2 (up2 (up2 (up2 (up2 (up2 (up2 ur 1 n_ur_1) 2 n_ur_2) 3 n_ur_3) 4 n_ur_4) 5 n_ur_5) 6 n_ur_6) 7 n_ur_7) 20 n_ur_20) 21 n_ur_21) 22 n_ur_22) r lr) A) ([.ref (ua 0), .ref (a 15), .int wt, .int ba] : List Value).toArray s 0 0 A) (F0 m 67 ls [.int z67, .int (nI i), .ref (ua 7)]) := by
          intro z67 gz67 H locs ls hP hS hl
          refine xzast (f := x11) (x := z67) hx hb hK hP (hDD _ _ _ _ _ _) hS 7 (i) (rfl) (by omega) (by decide) (gz67) rfl dX3_roundClass_67 (fun H locs hP _ hS => ?_)
          have hP : PP G (uM G ua a b la uf f lf (up2 (up2 (up2 (up2 (up2 (up2 ur 1 x8) 2 x9) 3 x10) 4 (flF (ur 4) 0 25)) 7 (upd x11 (i) (z67))) 20 x12) r lr) H := hP
          refine lv_aload_n hx hb dX3_roundClass_68 rfl (lv_at hl 1 rfl) ?_
          refine va_get (D := G.1) (ci := 3) (v := .ref (ua 7)) (C := RX3) (T := TX3) (N := 8) hx hb hts inX3 hown hK.1 hP 0 rfl rfl 7 (by decide) (hts _ mf_X3_38) (fun _ h9 => h9) rfl dX3_roundClass_69 ?_
          refine lv_iload hx hb dX3_roundClass_72 (lv_at hl 0 rfl) ?_
          refine xzald (f := (upd x11 (i) (z67))) hx hb hK hP 7 (i) (rfl) (by omega) (by decide) rfl dX3_roundClass_74 ?_
          refine lv_topi (fun v68 ev68 => ?_)
          have j86_72 : ∀ (x69 : Nat → Int32) (x70 : Nat → Int32) (x71 : Nat → Int32) (x72 : Nat → Int32) (hRB : RB adjU x72) (H : Heap) (locs : List Loc) (ls : Array Slot), PP G (uM G ua a b la uf f lf (up2 (up2 (up2 (up2 (up2 (up2 ur 1 x69) 2 x70) 3 x71) 4 (flF (ur 4) 0 25)) 7 (upd x11 (i) (z67))) 20 x72) r lr) H → va_S A s.heap H locs → lv_has ls 5 [(4, .int (nI i)), (0, .ref (ua 0)), (1, .ref (a 15)), (2, .int wt), (3, .int ba)] → W p l e ({ frames := 5, cells := 0, slots := 0, locals := 123 }) s m ([.ref (ua 0), .ref (a 15), .int wt, .int ba] : List Value).toArray below meth c H locs 0 0 (MQ below (QwV G (fun w => ∃ (n_uf_3 : Int32) (n_ur_1 : Nat → Int32) (n_ur_2 : Nat → Int32) (n_ur_3 : Nat → Int32) (n_ur_4 : Nat → Int32) (n_ur_5 : Nat → Int32) (n_ur_6 : Nat → Int32) (n_ur_7 : Nat → Int32) (n_ur_20 : Nat → Int32) (n_ur_21 : Nat → Int32) (n_ur_22 : Nat → Int32), w = uM G ua a b la (upd uf 3 n_uf_3) f lf (up2 (up2 (up2 (up2 (up2 (up2 (up2 (up2 (up2 (up2 ur 1 n_ur_1) 2 n_ur_2) 3 n_ur_3) 4 n_ur_4) 5 n_ur_5) 6 n_ur_6) 7 n_ur_7) 20 n_ur_20) 21 n_ur_21) 22 n_ur_22) r lr) A) ([.ref (ua 0), .ref (a 15), .int wt, .int ba] : List Value).toArray s 0 0 A) (F0 m 86 ls []) := by
            intro x69 x70 x71 x72 hRB H locs ls hP hS hl
            obtain ⟨v73, ev73⟩ : ∃ y9 : Int32, y9 = (nI i) + Int32.ofInt (1) := ⟨_, rfl⟩
            refine lv_iinc (v := v73) (lv' := [(4, .int v73), (0, .ref (ua 0)), (1, .ref (a 15)), (2, .int wt), (3, .int ba)]) hx hb dX3_roundClass_86 hl (k := 0) rfl ev73.symm (by decide) rfl (fun ls hl => ?_)
            obtain rfl : v73 = nI (i + 1) := nI_plus (i := i) (j := 1) ev73 rfl (by decide)
            refine lv_goto (tgt := 26) hx hb dX3_roundClass_89 (by decide) ?_
            exact ih26k7 (i + 1) x69 x70 x71 (upd x11 (i) (z67)) x72 (by omega) (by omega) hRB _ _ _ hP hS (lv_sub hl [0, 1, 2, 3, 4] rfl)
          refine lv_if_eq (tgt := 86) hx hb dX3_roundClass_75 (by decide) (fun c74 => ?_) (fun c74 => ?_)
          · exact j86_72 x8 x9 x10 x12 hRB _ _ _ hP hS (lv_sub hl [0, 1, 2, 3, 4] rfl)
          · refine lv_aload_n hx hb dX3_roundClass_78 rfl (lv_at hl 1 rfl) ?_
            refine lv_aload_n hx hb dX3_roundClass_79 rfl (lv_at hl 2 rfl) ?_
            refine lv_iload hx hb dX3_roundClass_80 (lv_at hl 0 rfl) ?_
            refine lv_iload_n hx hb dX3_roundClass_82 rfl (lv_at hl 4 rfl) ?_
            refine wrVVa (rest := []) (q0 := 0) ⟨hx, hb, hml, hown, hts⟩ (c_X3_layRow l G ua a b la uf f lf (up2 (up2 (up2 (up2 (up2 (up2 ur 1 x8) 2 x9) 3 x10) 4 (flF (ur 4) 0 25)) 7 (upd x11 (i) (z67))) 20 x12) r lr i ba rw cl (by omega) (by omega) h0 h1 (by omega) hRB) mi_yX3_layRow mv_yX3_layRow ml_X3_91 ⟨rfl, rfl, Nat.le_of_ble_eq_true rfl, Nat.le_of_ble_eq_true rfl⟩ hK hP (hDD _ _ _ _ _ _) rfl rfl rfl hl.1 rfl (Nat.le_of_ble_eq_true rfl) dX3_roundClass_83 ⟨Nat.zero_le _, Nat.zero_le _⟩ hS hA (fun w76 H locs hw76 hP hS => ?_)
            obtain ⟨x77, x78, x79, x80, rfl, hRB⟩ := hw76
            have hP : PP G (uM G ua a b la uf f lf (up2 (up2 (up2 (up2 (up2 (up2 ur 1 x77) 2 x78) 3 x79) 4 (flF (ur 4) 0 25)) 7 (upd x11 (i) (z67))) 20 x80) r lr) H := hP
            have hRB : RB adjU x80 := hRB
            exact j86_72 x77 x78 x79 x80 hRB _ _ _ hP hS (lv_sub hl [0, 1, 2, 3, 4] rfl)
        refine lv_if_eq (tgt := 66) hx hb dX3_roundClass_48 (by decide) (fun c81 => ?_) (fun c81 => ?_)
        · refine lv_iconst (v := 0) hx hb dX3_roundClass_66 (by decide) ?_
          exact j67_67 0 (Or.inl rfl) _ _ _ hP hS (lv_sub hl [0, 1, 2, 3, 4] rfl)
        · refine lv_aload_n hx hb dX3_roundClass_51 rfl (lv_at hl 2 rfl) ?_
          refine va_get (D := G.1) (ci := 2) (v := .ref (a 7)) (C := RX2) (T := TX2) (N := 15) hx hb hts inX2 hown hK.1 hP 12 rfl rfl 7 (by decide) (hts _ mf_X3_54) (fun _ h9 => h9) rfl dX3_roundClass_52 ?_
          refine lv_iload hx hb dX3_roundClass_55 (lv_at hl 0 rfl) ?_
          refine xiald (f := (r 7)) hx hb hK hP 14 (i) (rfl) (by omega) (by decide) rfl dX3_roundClass_57 ?_
          refine lv_topi (fun v82 ev82 => ?_)
          refine lv_iload_n hx hb dX3_roundClass_58 rfl (lv_at hl 3 rfl) ?_
          refine lv_icmp_ne (tgt := 66) hx hb dX3_roundClass_59 (by decide) (fun c83 => ?_) (fun c83 => ?_)
          · refine lv_iconst (v := 0) hx hb dX3_roundClass_66 (by decide) ?_
            exact j67_67 0 (Or.inl rfl) _ _ _ hP hS (lv_sub hl [0, 1, 2, 3, 4] rfl)
          · refine lv_iconst (v := 1) hx hb dX3_roundClass_62 (by decide) ?_
            refine lv_goto (tgt := 67) hx hb dX3_roundClass_63 (by decide) ?_
            exact j67_67 1 (Or.inr rfl) _ _ _ hP hS (lv_sub hl [0, 1, 2, 3, 4] rfl)
  exact loop26 (rw + 1) 0 (ur 1) (ur 2) (flF (ur 3) 0 25) (ur 7) (flF (ur 20) 0 25) (by omega) (by omega) hRB _ _ _ hP hS (lv_sub hl [0, 1, 2, 3, 4] rfl)
set_option maxHeartbeats 4000000 in
set_option maxRecDepth 100000 in
theorem c_X3_write (l : Launch) (G : GG) (ua a b la : Nat → Nat) (uf f lf : Nat → Int32) (ur r lr : Nat → Nat → Int32) (ba : Int32) (rw : Nat) (cl : Nat) (hrw : rw ≤ 12) (hcl : cl ≤ 12) (h0 : (f 0) = nI rw) (h1 : (f 1) = nI cl) : WrI l yX3_write cX3_write 10 (some .int) ({ frames := 1, cells := 0, slots := 0, locals := 21 }) G (uM G ua a b la uf f lf ur r lr) [.ref (ua 0), .ref (a 15), .int ba, .ref (la 0)] (fun q w => ∃ (n_lf_0 : Int32) (n_lf_1 : Int32) (n_lr_2 : Nat → Int32), w = uM G ua a b la uf f (upd (upd lf 0 n_lf_0) 1 n_lf_1) ur r (up2 lr 2 n_lr_2) ∧ (n_lf_0 = nI rw) ∧ (n_lf_1 = nI cl)) := by
  refine wr_entryI (by decide +kernel) (Nat.le_of_ble_eq_true rfl) ?_
  intro p e s m below meth c A C0 hP hK hD hA ls hl
  have hS : va_S A s.heap s.heap [] := va_S.rf
  obtain ⟨hx, hb, hml, hown, hts, hr, hlocks, hin⟩ := C0
  have hown : s.vm.findClass RX3 = some m.cls := hown
  have hDD : ∀ uf' f' lf' ur' r' lr', va_D A (uM G ua a b la uf' f' lf' ur' r' lr') := fun uf' f' lf' ur' r' lr' => D_same hD rfl
  have hl : lv_has ls 10 [(0, .ref (ua 0)), (1, .ref (a 15)), (2, .int ba), (3, .ref (la 0))] := hl
  refine lv_aload_n hx hb dX3_write_0 rfl (lv_at hl 3 rfl) ?_
  refine lv_aload_n hx hb dX3_write_1 rfl (lv_at hl 1 rfl) ?_
  refine va_get (D := G.1) (ci := 2) (v := .int (f 0)) (C := RX2) (T := TX2) (N := 15) hx hb hts inX2 hown hK.1 hP 12 rfl rfl 0 (by decide) (hts _ mf_X3_41) (fun _ h9 => h9) rfl dX3_write_2 ?_
  rw [show (f 0) = nI (rw) from h0]
  refine va_put (D := G.1) (ci := 1) (v := .int (nI (rw))) (C := RX1) (T := TX1) (N := 3) hx hb hts inX1 tyX1 tyX1_ok nmX1 hown hK.1 hP (hDD _ _ _ _ _ _) hS 22 rfl rfl 0 (by decide) (hts _ mf_X3_65) (fun _ h9 => h9) rfl (tyX1_ok 0 (by decide)) (rfl) (rfl) (Nat.le_of_ble_eq_true rfl) dX3_write_5 (fun H locs hP _ hS => ?_)
  have hP : PP G (uM G ua a b la uf f (upd lf 0 (nI (rw))) ur r lr) H := hP
  refine lv_aload_n hx hb dX3_write_8 rfl (lv_at hl 3 rfl) ?_
  refine lv_aload_n hx hb dX3_write_9 rfl (lv_at hl 1 rfl) ?_
  refine va_get (D := G.1) (ci := 2) (v := .int (f 1)) (C := RX2) (T := TX2) (N := 15) hx hb hts inX2 hown hK.1 hP 12 rfl rfl 1 (by decide) (hts _ mf_X3_68) (fun _ h9 => h9) rfl dX3_write_10 ?_
  rw [show (f 1) = nI (cl) from h1]
  refine va_put (D := G.1) (ci := 1) (v := .int (nI (cl))) (C := RX1) (T := TX1) (N := 3) hx hb hts inX1 tyX1 tyX1_ok nmX1 hown hK.1 hP (hDD _ _ _ _ _ _) hS 22 rfl rfl 1 (by decide) (hts _ mf_X3_71) (fun _ h9 => h9) rfl (tyX1_ok 1 (by decide)) (rfl) (rfl) (Nat.le_of_ble_eq_true rfl) dX3_write_13 (fun H locs hP _ hS => ?_)
  have hP : PP G (uM G ua a b la uf f (upd (upd lf 0 (nI (rw))) 1 (nI (cl))) ur r lr) H := hP
  refine lv_iconst (v := 0) hx hb dX3_write_16 (by decide) ?_
  refine lv_istore (lv' := [(4, .int 0), (0, .ref (ua 0)), (1, .ref (a 15)), (2, .int ba), (3, .ref (la 0))]) hx hb dX3_write_17 hl (by decide) rfl (fun ls hl => ?_)
  refine lv_iconst (v := 0) hx hb dX3_write_19 (by decide) ?_
  refine lv_istore (lv' := [(5, .int 0), (4, .int 0), (0, .ref (ua 0)), (1, .ref (a 15)), (2, .int ba), (3, .ref (la 0))]) hx hb dX3_write_20 hl (by decide) rfl (fun ls hl => ?_)
  have loop22 : ∀ (k1 i : Nat) (z2 : Int32) (x3 : Nat → Int32), i ≤ rw → rw < i + k1 → ∀ (H : Heap) (locs : List Loc) (ls : Array Slot), PP G (uM G ua a b la uf f (upd (upd lf 0 (nI (rw))) 1 (nI (cl))) ur r (up2 lr 2 x3)) H → va_S A s.heap H locs → lv_has ls 10 [(5, .int (nI i)), (4, .int z2), (0, .ref (ua 0)), (1, .ref (a 15)), (2, .int ba), (3, .ref (la 0))] → W p l e ({ frames := 1, cells := 0, slots := 0, locals := 21 }) s m ([.ref (ua 0), .ref (a 15), .int ba, .ref (la 0)] : List Value).toArray below meth c H locs 0 0 (MQ below (QwI G (fun q w => ∃ (n_lf_0 : Int32) (n_lf_1 : Int32) (n_lr_2 : Nat → Int32), w = uM G ua a b la uf f (upd (upd lf 0 n_lf_0) 1 n_lf_1) ur r (up2 lr 2 n_lr_2) ∧ (n_lf_0 = nI rw) ∧ (n_lf_1 = nI cl)) A) ([.ref (ua 0), .ref (a 15), .int ba, .ref (la 0)] : List Value).toArray s 0 0 A) (F0 m 22 ls []) := by
    intro k1
    induction k1 with
    | zero => intro i z2 x3 h1 h2; exact absurd h1 (by omega)
    | succ k1 ih22k1 =>
      intro i z2 x3 hi_i hk_i  H locs ls hP hS hl
      refine lv_iload hx hb dX3_write_22 (lv_at hl 0 rfl) ?_
      refine lv_aload_n hx hb dX3_write_24 rfl (lv_at hl 3 rfl) ?_
      refine va_get (D := G.1) (ci := 2) (v := .int (f 0)) (C := RX2) (T := TX2) (N := 15) hx hb hts inX2 hown hK.1 hP 12 rfl rfl 0 (by decide) (hts _ mf_X3_41) (fun _ h9 => h9) rfl dX3_write_25 ?_
      rw [show (f 0) = nI (rw) from h0]
      refine lv_icmp_ge (tgt := 157) hx hb dX3_write_28 (by decide) (fun c4 => ?_) (fun c4 => ?_)
      · have b28 := qge_t (a := i) (b := (rw)) (by omega) (by omega) c4
        refine lv_iload hx hb dX3_write_157 (lv_at hl 1 rfl) ?_
        exact wr_iret hx hb hr hlocks hS hP ⟨(nI (rw)), (nI (cl)), x3, rfl, rfl, rfl⟩ dX3_write_159
      · have b28 := qge_f (a := i) (b := (rw)) (by omega) (by omega) c4
        refine lv_iconst (v := 0) hx hb dX3_write_31 (by decide) ?_
        refine lv_istore (lv' := [(6, .int 0), (5, .int (nI i)), (4, .int z2), (0, .ref (ua 0)), (1, .ref (a 15)), (2, .int ba), (3, .ref (la 0))]) hx hb dX3_write_32 hl (by decide) rfl (fun ls hl => ?_)
        have loop34 : ∀ (k5 j : Nat) (z6 : Int32) (x7 : Nat → Int32), j ≤ cl → cl < j + k5 → ∀ (H : Heap) (locs : List Loc) (ls : Array Slot), PP G (uM G ua a b la uf f (upd (upd lf 0 (nI (rw))) 1 (nI (cl))) ur r (up2 lr 2 x7)) H → va_S A s.heap H locs → lv_has ls 10 [(6, .int (nI j)), (5, .int (nI i)), (4, .int z6), (0, .ref (ua 0)), (1, .ref (a 15)), (2, .int ba), (3, .ref (la 0))] → W p l e ({ frames := 1, cells := 0, slots := 0, locals := 21 }) s m ([.ref (ua 0), .ref (a 15), .int ba, .ref (la 0)] : List Value).toArray below meth c H locs 0 0 (MQ below (QwI G (fun q w => ∃ (n_lf_0 : Int32) (n_lf_1 : Int32) (n_lr_2 : Nat → Int32), w = uM G ua a b la uf f (upd (upd lf 0 n_lf_0) 1 n_lf_1) ur r (up2 lr 2 n_lr_2) ∧ (n_lf_0 = nI rw) ∧ (n_lf_1 = nI cl)) A) ([.ref (ua 0), .ref (a 15), .int ba, .ref (la 0)] : List Value).toArray s 0 0 A) (F0 m 34 ls []) := by
          intro k5
          induction k5 with
          | zero => intro j z6 x7 h1 h2; exact absurd h1 (by omega)
          | succ k5 ih34k5 =>
            intro j z6 x7 hi_j hk_j  H locs ls hP hS hl
            refine lv_iload hx hb dX3_write_34 (lv_at hl 0 rfl) ?_
            refine lv_aload_n hx hb dX3_write_36 rfl (lv_at hl 4 rfl) ?_
            refine va_get (D := G.1) (ci := 2) (v := .int (f 1)) (C := RX2) (T := TX2) (N := 15) hx hb hts inX2 hown hK.1 hP 12 rfl rfl 1 (by decide) (hts _ mf_X3_68) (fun _ h9 => h9) rfl dX3_write_37 ?_
            rw [show (f 1) = nI (cl) from h1]
            refine lv_icmp_ge (tgt := 151) hx hb dX3_write_40 (by decide) (fun c8 => ?_) (fun c8 => ?_)
            · have b40 := qge_t (a := j) (b := (cl)) (by omega) (by omega) c8
              obtain ⟨v9, ev9⟩ : ∃ y9 : Int32, y9 = (nI i) + Int32.ofInt (1) := ⟨_, rfl⟩
              refine lv_iinc (v := v9) (lv' := [(5, .int v9), (6, .int (nI j)), (4, .int z6), (0, .ref (ua 0)), (1, .ref (a 15)), (2, .int ba), (3, .ref (la 0))]) hx hb dX3_write_151 hl (k := 1) rfl ev9.symm (by decide) rfl (fun ls hl => ?_)
              obtain rfl : v9 = nI (i + 1) := nI_plus (i := i) (j := 1) ev9 rfl (by decide)
              refine lv_goto (tgt := 22) hx hb dX3_write_154 (by decide) ?_
              exact ih22k1 (i + 1) z6 x7 (by omega) (by omega) _ _ _ hP hS (lv_sub hl [0, 2, 3, 4, 5, 6] rfl)
            · have b40 := qge_f (a := j) (b := (cl)) (by omega) (by omega) c8
              refine lv_iload hx hb dX3_write_43 (lv_at hl 1 rfl) ?_
              refine lv_iload hx hb dX3_write_45 (lv_at hl 0 rfl) ?_
              refine rdSN (rest := []) ⟨hx, hb, hml, hown, hts⟩ (c_X6_spotOf l G ((nI i)) ((nI j))) mi_yX6_spotOf mst_yX6_spotOf (by decide +kernel) ⟨rfl, rfl, Nat.le_of_ble_eq_true rfl, Nat.le_of_ble_eq_true rfl⟩ hK (fun k q h => by simp at h) rfl hl.1 rfl (Nat.le_of_ble_eq_true rfl) dX3_write_47 ⟨Nat.zero_le _, Nat.zero_le _⟩ hS hA hP (fun r10 H locs hr10 hP hS => ?_)
              obtain rfl : r10 = nI (i * 12 + j) := spot_eq hr10
              refine lv_istore (lv' := [(7, .int (nI (i * 12 + j))), (6, .int (nI j)), (5, .int (nI i)), (4, .int z6), (0, .ref (ua 0)), (1, .ref (a 15)), (2, .int ba), (3, .ref (la 0))]) hx hb dX3_write_50 hl (by decide) rfl (fun ls hl => ?_)
              refine lv_aload_n hx hb dX3_write_52 rfl (lv_at hl 5 rfl) ?_
              refine va_get (D := G.1) (ci := 2) (v := .ref (a 6)) (C := RX2) (T := TX2) (N := 15) hx hb hts inX2 hown hK.1 hP 12 rfl rfl 6 (by decide) (hts _ mf_X3_47) (fun _ h9 => h9) rfl dX3_write_53 ?_
              refine lv_iload hx hb dX3_write_56 (lv_at hl 2 rfl) ?_
              refine xzald (f := (r 6)) hx hb hK hP 13 (i) (rfl) (by omega) (by decide) rfl dX3_write_58 ?_
              refine lv_topi (fun v11 ev11 => ?_)
              have j77_12 : ∀ (z12 : Int32) (gz12 : z12 = 0 ∨ z12 = 1) (H : Heap) (locs : List Loc) (ls : Array Slot), PP G (uM G ua a b la uf f (upd (upd lf 0 (nI (rw))) 1 (nI (cl))) ur r (up2 lr 2 x7)) H → va_S A s.heap H locs → lv_has ls 10 [(7, .int (nI (i * 12 + j))), (6, .int (nI j)), (5, .int (nI i)), (4, .int z6), (0, .ref (ua 0)), (1, .ref (a 15)), (2, .int ba), (3, .ref (la 0))] → W p l e ({ frames := 1, cells := 0, slots := 0, locals := 21 }) s m ([.ref (ua 0), .ref (a 15), .int ba, .ref (la 0)] : List Value).toArray below meth c H locs 0 0 (MQ below (QwI G (fun q w => ∃ (n_lf_0 : Int32) (n_lf_1 : Int32) (n_lr_2 : Nat → Int32), w = uM G ua a b la uf f (upd (upd lf 0 n_lf_0) 1 n_lf_1) ur r (up2 lr 2 n_lr_2) ∧ (n_lf_0 = nI rw) ∧ (n_lf_1 = nI cl)) A) ([.ref (ua 0), .ref (a 15), .int ba, .ref (la 0)] : List Value).toArray s 0 0 A) (F0 m 77 ls [.int z12]) := by
                intro z12 gz12 H locs ls hP hS hl
                refine lv_istore (lv' := [(8, .int z12), (7, .int (nI (i * 12 + j))), (6, .int (nI j)), (5, .int (nI i)), (4, .int z6), (0, .ref (ua 0)), (1, .ref (a 15)), (2, .int ba), (3, .ref (la 0))]) hx hb dX3_write_77 hl (by decide) rfl (fun ls hl => ?_)
                refine lv_aload_n hx hb dX3_write_79 rfl (lv_at hl 6 rfl) ?_
                refine va_get (D := G.1) (ci := 2) (v := .ref (a 9)) (C := RX2) (T := TX2) (N := 15) hx hb hts inX2 hown hK.1 hP 12 rfl rfl 9 (by decide) (hts _ mf_X3_76) (fun _ h9 => h9) rfl dX3_write_80 ?_
                refine lv_iload hx hb dX3_write_83 (lv_at hl 1 rfl) ?_
                refine xiald (f := (r 9)) hx hb hK hP 16 ((i * 12 + j)) (rfl) (by omega) (by decide) rfl dX3_write_85 ?_
                refine lv_topi (fun v13 ev13 => ?_)
                refine lv_aload_n hx hb dX3_write_86 rfl (lv_at hl 5 rfl) ?_
                refine va_get (D := G.1) (ci := 3) (v := .ref (ua 1)) (C := RX3) (T := TX3) (N := 8) hx hb hts inX3 hown hK.1 hP 0 rfl rfl 1 (by decide) (hts _ mf_X3_18) (fun _ h9 => h9) rfl dX3_write_87 ?_
                refine lv_iload hx hb dX3_write_90 (lv_at hl 1 rfl) ?_
                refine xiald (f := (ur 1)) hx hb hK hP 1 ((i * 12 + j)) (rfl) (by omega) (by decide) rfl dX3_write_92 ?_
                refine lv_topi (fun v14 ev14 => ?_)
                refine lv_isub hx hb dX3_write_93 ?_
                refine lv_topi (fun v15 ev15 => ?_)
                refine lv_iload hx hb dX3_write_94 (lv_at hl 0 rfl) ?_
                have j104_16 : ∀ (z16 : Int32) (H : Heap) (locs : List Loc) (ls : Array Slot), PP G (uM G ua a b la uf f (upd (upd lf 0 (nI (rw))) 1 (nI (cl))) ur r (up2 lr 2 x7)) H → va_S A s.heap H locs → lv_has ls 10 [(8, .int z12), (7, .int (nI (i * 12 + j))), (6, .int (nI j)), (5, .int (nI i)), (4, .int z6), (0, .ref (ua 0)), (1, .ref (a 15)), (2, .int ba), (3, .ref (la 0))] → W p l e ({ frames := 1, cells := 0, slots := 0, locals := 21 }) s m ([.ref (ua 0), .ref (a 15), .int ba, .ref (la 0)] : List Value).toArray below meth c H locs 0 0 (MQ below (QwI G (fun q w => ∃ (n_lf_0 : Int32) (n_lf_1 : Int32) (n_lr_2 : Nat → Int32), w = uM G ua a b la uf f (upd (upd lf 0 n_lf_0) 1 n_lf_1) ur r (up2 lr 2 n_lr_2) ∧ (n_lf_0 = nI rw) ∧ (n_lf_1 = nI cl)) A) ([.ref (ua 0), .ref (a 15), .int ba, .ref (la 0)] : List Value).toArray s 0 0 A) (F0 m 104 ls [.int z16, .int v15]) := by
                  intro z16  H locs ls hP hS hl
                  refine lv_iadd hx hb dX3_write_104 ?_
                  refine lv_topi (fun v17 ev17 => ?_)
                  refine lv_istore (lv' := [(9, .int v17), (8, .int z12), (7, .int (nI (i * 12 + j))), (6, .int (nI j)), (5, .int (nI i)), (4, .int z6), (0, .ref (ua 0)), (1, .ref (a 15)), (2, .int ba), (3, .ref (la 0))]) hx hb dX3_write_105 hl (by decide) rfl (fun ls hl => ?_)
                  refine lv_aload_n hx hb dX3_write_107 rfl (lv_at hl 9 rfl) ?_
                  refine va_get (D := G.1) (ci := 1) (v := .ref (la 1)) (C := RX1) (T := TX1) (N := 3) hx hb hts inX1 hown hK.1 hP 22 rfl rfl 2 (by decide) (hts _ mf_X3_79) (fun _ h9 => h9) rfl dX3_write_108 ?_
                  refine lv_iload hx hb dX3_write_111 (lv_at hl 2 rfl) ?_
                  refine lv_aload_n hx hb dX3_write_113 rfl (lv_at hl 7 rfl) ?_
                  refine va_get (D := G.1) (ci := 2) (v := .ref (a 6)) (C := RX2) (T := TX2) (N := 15) hx hb hts inX2 hown hK.1 hP 12 rfl rfl 6 (by decide) (hts _ mf_X3_47) (fun _ h9 => h9) rfl dX3_write_114 ?_
                  refine lv_iload hx hb dX3_write_117 (lv_at hl 4 rfl) ?_
                  refine xzald (f := (r 6)) hx hb hK hP 13 (i) (rfl) (by omega) (by decide) rfl dX3_write_119 ?_
                  refine lv_topi (fun v18 ev18 => ?_)
                  have j129_19 : ∀ (z19 : Int32) (H : Heap) (locs : List Loc) (ls : Array Slot), PP G (uM G ua a b la uf f (upd (upd lf 0 (nI (rw))) 1 (nI (cl))) ur r (up2 lr 2 x7)) H → va_S A s.heap H locs → lv_has ls 10 [(8, .int z12), (6, .int (nI j)), (5, .int (nI i)), (4, .int z6), (0, .ref (ua 0)), (1, .ref (a 15)), (2, .int ba), (3, .ref (la 0))] → W p l e ({ frames := 1, cells := 0, slots := 0, locals := 21 }) s m ([.ref (ua 0), .ref (a 15), .int ba, .ref (la 0)] : List Value).toArray below meth c H locs 0 0 (MQ below (QwI G (fun q w => ∃ (n_lf_0 : Int32) (n_lf_1 : Int32) (n_lr_2 : Nat → Int32), w = uM G ua a b la uf f (upd (upd lf 0 n_lf_0) 1 n_lf_1) ur r (up2 lr 2 n_lr_2) ∧ (n_lf_0 = nI rw) ∧ (n_lf_1 = nI cl)) A) ([.ref (ua 0), .ref (a 15), .int ba, .ref (la 0)] : List Value).toArray s 0 0 A) (F0 m 129 ls [.int z19, .int (nI (i * 12 + j)), .ref (la 1)]) := by
                    intro z19  H locs ls hP hS hl
                    refine xiast (f := x7) (x := z19) hx hb hK hP (hDD _ _ _ _ _ _) hS 23 ((i * 12 + j)) (rfl) (by omega) (by decide) rfl dX3_write_129 (fun H locs hP _ hS => ?_)
                    have hP : PP G (uM G ua a b la uf f (upd (upd lf 0 (nI (rw))) 1 (nI (cl))) ur r (up2 lr 2 (upd x7 ((i * 12 + j)) (z19)))) H := hP
                    refine lv_iload hx hb dX3_write_130 (lv_at hl 3 rfl) ?_
                    refine lv_iload hx hb dX3_write_132 (lv_at hl 0 rfl) ?_
                    have j142_20 : ∀ (z20 : Int32) (gz20 : z20 = 0 ∨ z20 = 1) (H : Heap) (locs : List Loc) (ls : Array Slot), PP G (uM G ua a b la uf f (upd (upd lf 0 (nI (rw))) 1 (nI (cl))) ur r (up2 lr 2 (upd x7 ((i * 12 + j)) (z19)))) H → va_S A s.heap H locs → lv_has ls 10 [(6, .int (nI j)), (5, .int (nI i)), (0, .ref (ua 0)), (1, .ref (a 15)), (2, .int ba), (3, .ref (la 0))] → W p l e ({ frames := 1, cells := 0, slots := 0, locals := 21 }) s m ([.ref (ua 0), .ref (a 15), .int ba, .ref (la 0)] : List Value).toArray below meth c H locs 0 0 (MQ below (QwI G (fun q w => ∃ (n_lf_0 : Int32) (n_lf_1 : Int32) (n_lr_2 : Nat → Int32), w = uM G ua a b la uf f (upd (upd lf 0 n_lf_0) 1 n_lf_1) ur r (up2 lr 2 n_lr_2) ∧ (n_lf_0 = nI rw) ∧ (n_lf_1 = nI cl)) A) ([.ref (ua 0), .ref (a 15), .int ba, .ref (la 0)] : List Value).toArray s 0 0 A) (F0 m 142 ls [.int z20, .int z6]) := by
                      intro z20 gz20 H locs ls hP hS hl
                      refine lv_iadd hx hb dX3_write_142 ?_
                      refine lv_topi (fun v21 ev21 => ?_)
                      refine lv_istore (lv' := [(4, .int v21), (6, .int (nI j)), (5, .int (nI i)), (0, .ref (ua 0)), (1, .ref (a 15)), (2, .int ba), (3, .ref (la 0))]) hx hb dX3_write_143 hl (by decide) rfl (fun ls hl => ?_)
                      obtain ⟨v22, ev22⟩ : ∃ y9 : Int32, y9 = (nI j) + Int32.ofInt (1) := ⟨_, rfl⟩
                      refine lv_iinc (v := v22) (lv' := [(6, .int v22), (4, .int v21), (5, .int (nI i)), (0, .ref (ua 0)), (1, .ref (a 15)), (2, .int ba), (3, .ref (la 0))]) hx hb dX3_write_145 hl (k := 1) rfl ev22.symm (by decide) rfl (fun ls hl => ?_)
                      obtain rfl : v22 = nI (j + 1) := nI_plus (i := j) (j := 1) ev22 rfl (by decide)
                      refine lv_goto (tgt := 34) hx hb dX3_write_148 (by decide) ?_
                      exact ih34k5 (j + 1) v21 (upd x7 ((i * 12 + j)) (z19)) (by omega) (by omega) _ _ _ hP hS (lv_sub hl [0, 2, 1, 3, 4, 5, 6] rfl)
                    refine lv_if_eq (tgt := 141) hx hb dX3_write_134 (by decide) (fun c23 => ?_) (fun c23 => ?_)
                    · refine lv_iconst (v := 0) hx hb dX3_write_141 (by decide) ?_
                      exact j142_20 0 (Or.inl rfl) _ _ _ hP hS (lv_sub hl [1, 2, 4, 5, 6, 7] rfl)
                    · refine lv_iconst (v := 1) hx hb dX3_write_137 (by decide) ?_
                      refine lv_goto (tgt := 142) hx hb dX3_write_138 (by decide) ?_
                      exact j142_20 1 (Or.inr rfl) _ _ _ hP hS (lv_sub hl [1, 2, 4, 5, 6, 7] rfl)
                  refine lv_if_eq (tgt := 128) hx hb dX3_write_120 (by decide) (fun c24 => ?_) (fun c24 => ?_)
                  · refine lv_iconst (v := -1) hx hb dX3_write_128 (by decide) ?_
                    exact j129_19 (-1) _ _ _ hP hS (lv_sub hl [1, 3, 4, 5, 6, 7, 8, 9] rfl)
                  · refine lv_iload hx hb dX3_write_123 (lv_at hl 0 rfl) ?_
                    refine lv_goto (tgt := 129) hx hb dX3_write_125 (by decide) ?_
                    exact j129_19 v17 _ _ _ hP hS (lv_sub hl [1, 3, 4, 5, 6, 7, 8, 9] rfl)
                refine lv_if_eq (tgt := 103) hx hb dX3_write_96 (by decide) (fun c25 => ?_) (fun c25 => ?_)
                · refine lv_iconst (v := 0) hx hb dX3_write_103 (by decide) ?_
                  exact j104_16 0 _ _ _ hP hS (lv_sub hl [0, 1, 2, 3, 4, 5, 6, 7, 8] rfl)
                · refine lv_iload_n hx hb dX3_write_99 rfl (lv_at hl 7 rfl) ?_
                  refine lv_goto (tgt := 104) hx hb dX3_write_100 (by decide) ?_
                  exact j104_16 ba _ _ _ hP hS (lv_sub hl [0, 1, 2, 3, 4, 5, 6, 7, 8] rfl)
              refine lv_if_eq (tgt := 76) hx hb dX3_write_59 (by decide) (fun c26 => ?_) (fun c26 => ?_)
              · refine lv_iconst (v := 0) hx hb dX3_write_76 (by decide) ?_
                exact j77_12 0 (Or.inl rfl) _ _ _ hP hS (lv_sub hl [0, 1, 2, 3, 4, 5, 6, 7] rfl)
              · refine lv_aload_n hx hb dX3_write_62 rfl (lv_at hl 4 rfl) ?_
                refine va_get (D := G.1) (ci := 3) (v := .ref (ua 2)) (C := RX3) (T := TX3) (N := 8) hx hb hts inX3 hown hK.1 hP 0 rfl rfl 2 (by decide) (hts _ mf_X3_22) (fun _ h9 => h9) rfl dX3_write_63 ?_
                refine lv_iload hx hb dX3_write_66 (lv_at hl 0 rfl) ?_
                refine xzald (f := (ur 2)) hx hb hK hP 2 ((i * 12 + j)) (rfl) (by omega) (by decide) rfl dX3_write_68 ?_
                refine lv_topi (fun v27 ev27 => ?_)
                refine lv_if_eq (tgt := 76) hx hb dX3_write_69 (by decide) (fun c28 => ?_) (fun c28 => ?_)
                · refine lv_iconst (v := 0) hx hb dX3_write_76 (by decide) ?_
                  exact j77_12 0 (Or.inl rfl) _ _ _ hP hS (lv_sub hl [0, 1, 2, 3, 4, 5, 6, 7] rfl)
                · refine lv_iconst (v := 1) hx hb dX3_write_72 (by decide) ?_
                  refine lv_goto (tgt := 77) hx hb dX3_write_73 (by decide) ?_
                  exact j77_12 1 (Or.inr rfl) _ _ _ hP hS (lv_sub hl [0, 1, 2, 3, 4, 5, 6, 7] rfl)
        exact loop34 (cl + 1) 0 z2 x3 (by omega) (by omega) _ _ _ hP hS (lv_sub hl [0, 1, 2, 3, 4, 5, 6] rfl)
  exact loop22 (rw + 1) 0 0 (lr 2) (by omega) (by omega) _ _ _ hP hS (lv_sub hl [0, 1, 2, 3, 4, 5] rfl)
set_option maxHeartbeats 4000000 in
set_option maxRecDepth 100000 in
theorem c_X3_fill (l : Launch) (G : GG) (ua a b la : Nat → Nat) (uf f lf : Nat → Int32) (ur r lr : Nat → Nat → Int32) (ba : Int32) (rw : Nat) (cl : Nat) (hrw : rw ≤ 12) (hcl : cl ≤ 12) (h0 : (f 0) = nI rw) (h1 : (f 1) = nI cl) : WrI l yX3_fill cX3_fill 5 (some .int) ({ frames := 6, cells := 0, slots := 0, locals := 147 }) G (uM G ua a b la uf f lf ur r lr) [.ref (ua 0), .ref (a 15), .int ba, .ref (la 0)] (fun q w => ∃ (n_lf_0 : Int32) (n_lf_1 : Int32) (n_lr_2 : Nat → Int32) (n_uf_3 : Int32) (n_ur_1 : Nat → Int32) (n_ur_2 : Nat → Int32) (n_ur_3 : Nat → Int32) (n_ur_4 : Nat → Int32) (n_ur_5 : Nat → Int32) (n_ur_6 : Nat → Int32) (n_ur_7 : Nat → Int32) (n_ur_20 : Nat → Int32) (n_ur_21 : Nat → Int32) (n_ur_22 : Nat → Int32), w = uM G ua a b la (upd uf 3 n_uf_3) f (upd (upd lf 0 n_lf_0) 1 n_lf_1) (up2 (up2 (up2 (up2 (up2 (up2 (up2 (up2 (up2 (up2 ur 1 n_ur_1) 2 n_ur_2) 3 n_ur_3) 4 n_ur_4) 5 n_ur_5) 6 n_ur_6) 7 n_ur_7) 20 n_ur_20) 21 n_ur_21) 22 n_ur_22) r (up2 lr 2 n_lr_2) ∧ (n_lf_0 = nI rw) ∧ (n_lf_1 = nI cl)) := by
  refine wr_entryI (by decide +kernel) (Nat.le_of_ble_eq_true rfl) ?_
  intro p e s m below meth c A C0 hP hK hD hA ls hl
  have hS : va_S A s.heap s.heap [] := va_S.rf
  obtain ⟨hx, hb, hml, hown, hts, hr, hlocks, hin⟩ := C0
  have hown : s.vm.findClass RX3 = some m.cls := hown
  have hDD : ∀ uf' f' lf' ur' r' lr', va_D A (uM G ua a b la uf' f' lf' ur' r' lr') := fun uf' f' lf' ur' r' lr' => D_same hD rfl
  have hl : lv_has ls 5 [(0, .ref (ua 0)), (1, .ref (a 15)), (2, .int ba), (3, .ref (la 0))] := hl
  refine lv_iconst (v := 0) hx hb dX3_fill_0 (by decide) ?_
  refine lv_istore (lv' := [(4, .int 0), (0, .ref (ua 0)), (1, .ref (a 15)), (2, .int ba), (3, .ref (la 0))]) hx hb dX3_fill_1 hl (by decide) rfl (fun ls hl => ?_)
  have loop3 : ∀ (k1 i : Nat) (x2 : Int32) (x3 : Nat → Int32) (x4 : Nat → Int32) (x5 : Nat → Int32) (x6 : Nat → Int32) (x7 : Nat → Int32) (x8 : Nat → Int32) (x9 : Nat → Int32) (x10 : Nat → Int32) (x11 : Nat → Int32) (x12 : Nat → Int32), i ≤ rw → rw < i + k1 → ∀ (H : Heap) (locs : List Loc) (ls : Array Slot), PP G (uM G ua a b la (upd uf 3 x2) f lf (up2 (up2 (up2 (up2 (up2 (up2 (up2 (up2 (up2 (up2 ur 1 x3) 2 x4) 3 x5) 4 x6) 5 x7) 6 x8) 7 x9) 20 x10) 21 x11) 22 x12) r lr) H → va_S A s.heap H locs → lv_has ls 5 [(4, .int (nI i)), (0, .ref (ua 0)), (1, .ref (a 15)), (2, .int ba), (3, .ref (la 0))] → W p l e ({ frames := 6, cells := 0, slots := 0, locals := 147 }) s m ([.ref (ua 0), .ref (a 15), .int ba, .ref (la 0)] : List Value).toArray below meth c H locs 0 0 (MQ below (QwI G (fun q w => ∃ (n_lf_0 : Int32) (n_lf_1 : Int32) (n_lr_2 : Nat → Int32) (n_uf_3 : Int32) (n_ur_1 : Nat → Int32) (n_ur_2 : Nat → Int32) (n_ur_3 : Nat → Int32) (n_ur_4 : Nat → Int32) (n_ur_5 : Nat → Int32) (n_ur_6 : Nat → Int32) (n_ur_7 : Nat → Int32) (n_ur_20 : Nat → Int32) (n_ur_21 : Nat → Int32) (n_ur_22 : Nat → Int32), w = uM G ua a b la (upd uf 3 n_uf_3) f (upd (upd lf 0 n_lf_0) 1 n_lf_1) (up2 (up2 (up2 (up2 (up2 (up2 (up2 (up2 (up2 (up2 ur 1 n_ur_1) 2 n_ur_2) 3 n_ur_3) 4 n_ur_4) 5 n_ur_5) 6 n_ur_6) 7 n_ur_7) 20 n_ur_20) 21 n_ur_21) 22 n_ur_22) r (up2 lr 2 n_lr_2) ∧ (n_lf_0 = nI rw) ∧ (n_lf_1 = nI cl)) A) ([.ref (ua 0), .ref (a 15), .int ba, .ref (la 0)] : List Value).toArray s 0 0 A) (F0 m 3 ls []) := by
    intro k1
    induction k1 with
    | zero => intro i x2 x3 x4 x5 x6 x7 x8 x9 x10 x11 x12 h1 h2; exact absurd h1 (by omega)
    | succ k1 ih3k1 =>
      intro i x2 x3 x4 x5 x6 x7 x8 x9 x10 x11 x12 hi_i hk_i  H locs ls hP hS hl
      refine lv_iload hx hb dX3_fill_3 (lv_at hl 0 rfl) ?_
      refine lv_aload_n hx hb dX3_fill_5 rfl (lv_at hl 2 rfl) ?_
      refine va_get (D := G.1) (ci := 2) (v := .int (f 0)) (C := RX2) (T := TX2) (N := 15) hx hb hts inX2 hown hK.1 hP 12 rfl rfl 0 (by decide) (hts _ mf_X3_41) (fun _ h9 => h9) rfl dX3_fill_6 ?_
      rw [show (f 0) = nI (rw) from h0]
      refine lv_icmp_ge (tgt := 51) hx hb dX3_fill_9 (by decide) (fun c13 => ?_) (fun c13 => ?_)
      · have b9 := qge_t (a := i) (b := (rw)) (by omega) (by omega) c13
        refine lv_aload_n hx hb dX3_fill_51 rfl (lv_at hl 1 rfl) ?_
        refine lv_aload_n hx hb dX3_fill_52 rfl (lv_at hl 2 rfl) ?_
        refine lv_iload_n hx hb dX3_fill_53 rfl (lv_at hl 3 rfl) ?_
        refine lv_aload_n hx hb dX3_fill_54 rfl (lv_at hl 4 rfl) ?_
        refine wrVIa (rest := []) (q0 := 0) ⟨hx, hb, hml, hown, hts⟩ (c_X3_write l G ua a b la (upd uf 3 x2) f lf (up2 (up2 (up2 (up2 (up2 (up2 (up2 (up2 (up2 (up2 ur 1 x3) 2 x4) 3 x5) 4 x6) 5 x7) 6 x8) 7 x9) 20 x10) 21 x11) 22 x12) r lr ba rw cl (by omega) (by omega) h0 h1) mi_yX3_write mv_yX3_write ml_X3_61 ⟨rfl, rfl, Nat.le_of_ble_eq_true rfl, Nat.le_of_ble_eq_true rfl⟩ hK hP (hDD _ _ _ _ _ _) rfl rfl rfl hl.1 rfl (Nat.le_of_ble_eq_true rfl) dX3_fill_55 ⟨Nat.zero_le _, Nat.zero_le _⟩ hS hA (fun r14 w15 H locs hw15 hP hS => ?_)
        obtain ⟨x16, x17, x18, rfl, hl0, hl1⟩ := hw15
        have hP : PP G (uM G ua a b la (upd uf 3 x2) f (upd (upd lf 0 x16) 1 x17) (up2 (up2 (up2 (up2 (up2 (up2 (up2 (up2 (up2 (up2 ur 1 x3) 2 x4) 3 x5) 4 x6) 5 x7) 6 x8) 7 x9) 20 x10) 21 x11) 22 x12) r (up2 lr 2 x18)) H := hP
        have hl0 : x16 = nI rw := hl0
        have hl1 : x17 = nI cl := hl1
        exact wr_iret hx hb hr hlocks hS hP ⟨x16, x17, x18, x2, x3, x4, x5, x6, x7, x8, x9, x10, x11, x12, rfl, hl0, hl1⟩ dX3_fill_58
      · have b9 := qge_f (a := i) (b := (rw)) (by omega) (by omega) c13
        refine lv_aload_n hx hb dX3_fill_12 rfl (lv_at hl 2 rfl) ?_
        refine va_get (D := G.1) (ci := 2) (v := .ref (a 6)) (C := RX2) (T := TX2) (N := 15) hx hb hts inX2 hown hK.1 hP 12 rfl rfl 6 (by decide) (hts _ mf_X3_47) (fun _ h9 => h9) rfl dX3_fill_13 ?_
        refine lv_iload hx hb dX3_fill_16 (lv_at hl 0 rfl) ?_
        refine xzald (f := (r 6)) hx hb hK hP 13 (i) (rfl) (by omega) (by decide) rfl dX3_fill_18 ?_
        refine lv_topi (fun v19 ev19 => ?_)
        have j45_30 : ∀ (x20 : Int32) (x21 : Nat → Int32) (x22 : Nat → Int32) (x23 : Nat → Int32) (x24 : Nat → Int32) (x25 : Nat → Int32) (x26 : Nat → Int32) (x27 : Nat → Int32) (x28 : Nat → Int32) (x29 : Nat → Int32) (x30 : Nat → Int32) (H : Heap) (locs : List Loc) (ls : Array Slot), PP G (uM G ua a b la (upd uf 3 x20) f lf (up2 (up2 (up2 (up2 (up2 (up2 (up2 (up2 (up2 (up2 ur 1 x21) 2 x22) 3 x23) 4 x24) 5 x25) 6 x26) 7 x27) 20 x28) 21 x29) 22 x30) r lr) H → va_S A s.heap H locs → lv_has ls 5 [(4, .int (nI i)), (0, .ref (ua 0)), (1, .ref (a 15)), (2, .int ba), (3, .ref (la 0))] → W p l e ({ frames := 6, cells := 0, slots := 0, locals := 147 }) s m ([.ref (ua 0), .ref (a 15), .int ba, .ref (la 0)] : List Value).toArray below meth c H locs 0 0 (MQ below (QwI G (fun q w => ∃ (n_lf_0 : Int32) (n_lf_1 : Int32) (n_lr_2 : Nat → Int32) (n_uf_3 : Int32) (n_ur_1 : Nat → Int32) (n_ur_2 : Nat → Int32) (n_ur_3 : Nat → Int32) (n_ur_4 : Nat → Int32) (n_ur_5 : Nat → Int32) (n_ur_6 : Nat → Int32) (n_ur_7 : Nat → Int32) (n_ur_20 : Nat → Int32) (n_ur_21 : Nat → Int32) (n_ur_22 : Nat → Int32), w = uM G ua a b la (upd uf 3 n_uf_3) f (upd (upd lf 0 n_lf_0) 1 n_lf_1) (up2 (up2 (up2 (up2 (up2 (up2 (up2 (up2 (up2 (up2 ur 1 n_ur_1) 2 n_ur_2) 3 n_ur_3) 4 n_ur_4) 5 n_ur_5) 6 n_ur_6) 7 n_ur_7) 20 n_ur_20) 21 n_ur_21) 22 n_ur_22) r (up2 lr 2 n_lr_2) ∧ (n_lf_0 = nI rw) ∧ (n_lf_1 = nI cl)) A) ([.ref (ua 0), .ref (a 15), .int ba, .ref (la 0)] : List Value).toArray s 0 0 A) (F0 m 45 ls []) := by
          intro x20 x21 x22 x23 x24 x25 x26 x27 x28 x29 x30  H locs ls hP hS hl
          obtain ⟨v31, ev31⟩ : ∃ y9 : Int32, y9 = (nI i) + Int32.ofInt (1) := ⟨_, rfl⟩
          refine lv_iinc (v := v31) (lv' := [(4, .int v31), (0, .ref (ua 0)), (1, .ref (a 15)), (2, .int ba), (3, .ref (la 0))]) hx hb dX3_fill_45 hl (k := 0) rfl ev31.symm (by decide) rfl (fun ls hl => ?_)
          obtain rfl : v31 = nI (i + 1) := nI_plus (i := i) (j := 1) ev31 rfl (by decide)
          refine lv_goto (tgt := 3) hx hb dX3_fill_48 (by decide) ?_
          exact ih3k1 (i + 1) x20 x21 x22 x23 x24 x25 x26 x27 x28 x29 x30 (by omega) (by omega) _ _ _ hP hS (lv_sub hl [0, 1, 2, 3, 4] rfl)
        refine lv_if_eq (tgt := 45) hx hb dX3_fill_19 (by decide) (fun c32 => ?_) (fun c32 => ?_)
        · exact j45_30 x2 x3 x4 x5 x6 x7 x8 x9 x10 x11 x12 _ _ _ hP hS (lv_sub hl [0, 1, 2, 3, 4] rfl)
        · refine lv_aload_n hx hb dX3_fill_22 rfl (lv_at hl 1 rfl) ?_
          refine lv_aload_n hx hb dX3_fill_23 rfl (lv_at hl 2 rfl) ?_
          refine lv_iload hx hb dX3_fill_24 (lv_at hl 0 rfl) ?_
          refine rdV (rest := []) (q0 := 0) ⟨hx, hb, hml, hown, hts⟩ (c_X3_isFirstOfClass l G ua a b la (upd uf 3 x2) f lf (up2 (up2 (up2 (up2 (up2 (up2 (up2 (up2 (up2 (up2 ur 1 x3) 2 x4) 3 x5) 4 x6) 5 x7) 6 x8) 7 x9) 20 x10) 21 x11) 22 x12) r lr i  (by omega)) mi_yX3_isFirstOfClass mv_yX3_isFirstOfClass ml_X3_50 ⟨rfl, rfl, Nat.le_of_ble_eq_true rfl, Nat.le_of_ble_eq_true rfl⟩ hK (hP) rfl rfl rfl hl.1 rfl (Nat.le_of_ble_eq_true rfl) dX3_fill_26 ⟨Nat.zero_le _, Nat.zero_le _⟩ hS hA hP (fun r33 H locs hr33 hP hS => ?_)
          have hr33 : (r33 = 0 ∨ r33 = 1) := hr33
          refine lv_if_eq (tgt := 45) hx hb dX3_fill_29 (by decide) (fun c34 => ?_) (fun c34 => ?_)
          · exact j45_30 x2 x3 x4 x5 x6 x7 x8 x9 x10 x11 x12 _ _ _ hP hS (lv_sub hl [0, 1, 2, 3, 4] rfl)
          · refine lv_aload_n hx hb dX3_fill_32 rfl (lv_at hl 1 rfl) ?_
            refine lv_aload_n hx hb dX3_fill_33 rfl (lv_at hl 2 rfl) ?_
            refine lv_aload_n hx hb dX3_fill_34 rfl (lv_at hl 2 rfl) ?_
            refine va_get (D := G.1) (ci := 2) (v := .ref (a 7)) (C := RX2) (T := TX2) (N := 15) hx hb hts inX2 hown hK.1 hP 12 rfl rfl 7 (by decide) (hts _ mf_X3_54) (fun _ h9 => h9) rfl dX3_fill_35 ?_
            refine lv_iload hx hb dX3_fill_38 (lv_at hl 0 rfl) ?_
            refine xiald (f := (r 7)) hx hb hK hP 14 (i) (rfl) (by omega) (by decide) rfl dX3_fill_40 ?_
            refine lv_topi (fun v35 ev35 => ?_)
            refine lv_iload_n hx hb dX3_fill_41 rfl (lv_at hl 3 rfl) ?_
            refine wrVVa (rest := []) (q0 := 0) ⟨hx, hb, hml, hown, hts⟩ (c_X3_roundClass l G ua a b la (upd uf 3 x2) f lf (up2 (up2 (up2 (up2 (up2 (up2 (up2 (up2 (up2 (up2 ur 1 x3) 2 x4) 3 x5) 4 x6) 5 x7) 6 x8) 7 x9) 20 x10) 21 x11) 22 x12) r lr v35 ba rw cl (by omega) (by omega) h0 h1) mi_yX3_roundClass mv_yX3_roundClass ml_X3_57 ⟨rfl, rfl, Nat.le_of_ble_eq_true rfl, Nat.le_of_ble_eq_true rfl⟩ hK hP (hDD _ _ _ _ _ _) rfl rfl rfl hl.1 rfl (Nat.le_of_ble_eq_true rfl) dX3_fill_42 ⟨Nat.zero_le _, Nat.zero_le _⟩ hS hA (fun w37 H locs hw37 hP hS => ?_)
            obtain ⟨x38, x39, x40, x41, x42, x43, x44, x45, x46, x47, x48, rfl⟩ := hw37
            have hP : PP G (uM G ua a b la (upd uf 3 x38) f lf (up2 (up2 (up2 (up2 (up2 (up2 (up2 (up2 (up2 (up2 ur 1 x39) 2 x40) 3 x41) 4 x42) 5 x43) 6 x44) 7 x45) 20 x46) 21 x47) 22 x48) r lr) H := hP
            exact j45_30 x38 x39 x40 x41 x42 x43 x44 x45 x46 x47 x48 _ _ _ hP hS (lv_sub hl [0, 1, 2, 3, 4] rfl)
  exact loop3 (rw + 1) 0 (uf 3) (ur 1) (ur 2) (ur 3) (ur 4) (ur 5) (ur 6) (ur 7) (ur 20) (ur 21) (ur 22) (by omega) (by omega) _ _ _ hP hS (lv_sub hl [0, 1, 2, 3, 4] rfl)
abbrev l2M (G : GG) (la lb : Nat → Nat) (lf mf : Nat → Int32) (lr mr : Nat → Nat → Int32) : va_W := [((la 0), .inr (1, [.int (lf 0), .int (lf 1), .ref (la 1)])), ((la 1), .inl (G.2.1, 144, .inl (lr 2))), ((lb 0), .inr (1, [.int (mf 0), .int (mf 1), .ref (lb 1)])), ((lb 1), .inl (G.2.1, 144, .inl (mr 2)))]
set_option maxHeartbeats 4000000 in
set_option maxRecDepth 100000 in
theorem c_X1_firstUnlike (l : Launch) (G : GG) (la lb : Nat → Nat) (lf mf : Nat → Int32) (lr mr : Nat → Nat → Int32) (hl0 : nL 12 (lf 0)) (hl1 : nL 12 (lf 1)) (hm0 : nL 12 (mf 0)) (hm1 : nL 12 (mf 1)) : RdI l yX1_firstUnlike cX1_firstUnlike 8 (some .int) ({ frames := 1, cells := 0, slots := 0, locals := 21 }) G (l2M G la lb lf mf lr mr) [.ref (la 0), .ref (lb 0)] (fun q => True) := by
  refine rd_entry (by decide +kernel) (Nat.le_of_ble_eq_true rfl) ?_
  intro p e s m below meth c C0 hP hK ls hl
  have hS : va_S (fun q => s.heap.size ≤ q) s.heap s.heap [] := va_S.rf
  have hA : ∀ q, s.heap.size ≤ q → (fun q => s.heap.size ≤ q) q := fun _ h => h
  obtain ⟨hx, hb, hml, hown, hts, hr, hlocks, hin⟩ := C0
  have hown : s.vm.findClass RX1 = some m.cls := hown
  have hl : lv_has ls 8 [(0, .ref (la 0)), (1, .ref (lb 0))] := hl
  obtain ⟨n0, hn0, en0⟩ := hl0
  obtain ⟨n1, hn1, en1⟩ := hl1
  obtain ⟨p0, hp0, ep0⟩ := hm0
  obtain ⟨p1, hp1, ep1⟩ := hm1
  refine lv_aload_n hx hb dX1_firstUnlike_0 rfl (lv_at hl 0 rfl) ?_
  refine va_get (D := G.1) (ci := 1) (v := .int (lf 0)) (C := RX1) (T := TX1) (N := 3) hx hb hts inX1 hown hK.1 hP 0 rfl rfl 0 (by decide) (hts _ mf_X1_9) (fun _ h9 => h9) rfl dX1_firstUnlike_1 ?_
  rw [show (lf 0) = nI (n0) from en0]
  refine lv_aload_n hx hb dX1_firstUnlike_4 rfl (lv_at hl 1 rfl) ?_
  refine va_get (D := G.1) (ci := 1) (v := .int (mf 0)) (C := RX1) (T := TX1) (N := 3) hx hb hts inX1 hown hK.1 hP 2 rfl rfl 0 (by decide) (hts _ mf_X1_9) (fun _ h9 => h9) rfl dX1_firstUnlike_5 ?_
  rw [show (mf 0) = nI (p0) from ep0]
  refine va_mmin hx hb (hml.trans hl.1.symm) hown (hts _ ml_X1_26) (hts _ mst_yJ9_min_7cf53) (hts _ mz_RJ9) (hts _ mcode_yJ9_min_7cf53) (Nat.le_of_ble_eq_true rfl) (Nat.le_of_ble_eq_true rfl) (Nat.zero_le _) (Nat.zero_le _) dX1_firstUnlike_8 ?_
  refine lv_topi (fun v1 ev1 => ?_)
  obtain rfl : v1 = nI (min n0 p0) := min_nat ev1 (by omega) (by omega)
  refine lv_istore_n (lv' := [(2, .int (nI (min n0 p0))), (0, .ref (la 0)), (1, .ref (lb 0))]) hx hb dX1_firstUnlike_11 rfl hl (by decide) rfl (fun ls hl => ?_)
  refine lv_aload_n hx hb dX1_firstUnlike_12 rfl (lv_at hl 1 rfl) ?_
  refine va_get (D := G.1) (ci := 1) (v := .int (lf 1)) (C := RX1) (T := TX1) (N := 3) hx hb hts inX1 hown hK.1 hP 0 rfl rfl 1 (by decide) (hts _ mf_X1_15) (fun _ h9 => h9) rfl dX1_firstUnlike_13 ?_
  rw [show (lf 1) = nI (n1) from en1]
  refine lv_aload_n hx hb dX1_firstUnlike_16 rfl (lv_at hl 2 rfl) ?_
  refine va_get (D := G.1) (ci := 1) (v := .int (mf 1)) (C := RX1) (T := TX1) (N := 3) hx hb hts inX1 hown hK.1 hP 2 rfl rfl 1 (by decide) (hts _ mf_X1_15) (fun _ h9 => h9) rfl dX1_firstUnlike_17 ?_
  rw [show (mf 1) = nI (p1) from ep1]
  refine va_mmin hx hb (hml.trans hl.1.symm) hown (hts _ ml_X1_26) (hts _ mst_yJ9_min_7cf53) (hts _ mz_RJ9) (hts _ mcode_yJ9_min_7cf53) (Nat.le_of_ble_eq_true rfl) (Nat.le_of_ble_eq_true rfl) (Nat.zero_le _) (Nat.zero_le _) dX1_firstUnlike_20 ?_
  refine lv_topi (fun v2 ev2 => ?_)
  obtain rfl : v2 = nI (min n1 p1) := min_nat ev2 (by omega) (by omega)
  refine lv_istore_n (lv' := [(3, .int (nI (min n1 p1))), (2, .int (nI (min n0 p0))), (0, .ref (la 0)), (1, .ref (lb 0))]) hx hb dX1_firstUnlike_23 rfl hl (by decide) rfl (fun ls hl => ?_)
  refine lv_iconst (v := 0) hx hb dX1_firstUnlike_24 (by decide) ?_
  refine lv_istore (lv' := [(4, .int 0), (3, .int (nI (min n1 p1))), (2, .int (nI (min n0 p0))), (0, .ref (la 0)), (1, .ref (lb 0))]) hx hb dX1_firstUnlike_25 hl (by decide) rfl (fun ls hl => ?_)
  have loop27 : ∀ (k3 i : Nat) , i ≤ (min n0 p0) → (min n0 p0) < i + k3 → ∀ (H : Heap) (locs : List Loc) (ls : Array Slot), PP G (l2M G la lb lf mf lr mr) H → va_S (fun q => s.heap.size ≤ q) s.heap H locs → lv_has ls 8 [(4, .int (nI i)), (3, .int (nI (min n1 p1))), (2, .int (nI (min n0 p0))), (0, .ref (la 0)), (1, .ref (lb 0))] → W p l e ({ frames := 1, cells := 0, slots := 0, locals := 21 }) s m ([.ref (la 0), .ref (lb 0)] : List Value).toArray below meth c H locs 0 0 (MQ below (QrI (fun q => True) (fun q => s.heap.size ≤ q)) ([.ref (la 0), .ref (lb 0)] : List Value).toArray s 0 0 (fun q => s.heap.size ≤ q)) (F0 m 27 ls []) := by
    intro k3
    induction k3 with
    | zero => intro i  h1 h2; exact absurd h1 (by omega)
    | succ k3 ih27k3 =>
      intro i  hi_i hk_i  H locs ls hP hS hl
      refine lv_iload hx hb dX1_firstUnlike_27 (lv_at hl 0 rfl) ?_
      refine lv_iload_n hx hb dX1_firstUnlike_29 rfl (lv_at hl 2 rfl) ?_
      refine lv_icmp_ge (tgt := 108) hx hb dX1_firstUnlike_30 (by decide) (fun c4 => ?_) (fun c4 => ?_)
      · have b30 := qge_t (a := i) (b := (min n0 p0)) (by omega) (by omega) c4
        refine lv_bipush (v := -2) hx hb dX1_firstUnlike_108 (by decide) ?_
        exact rd_iret hx hb hr hlocks hS (trivial) dX1_firstUnlike_110
      · have b30 := qge_f (a := i) (b := (min n0 p0)) (by omega) (by omega) c4
        refine lv_iconst (v := 0) hx hb dX1_firstUnlike_33 (by decide) ?_
        refine lv_istore (lv' := [(5, .int 0), (4, .int (nI i)), (3, .int (nI (min n1 p1))), (2, .int (nI (min n0 p0))), (0, .ref (la 0)), (1, .ref (lb 0))]) hx hb dX1_firstUnlike_34 hl (by decide) rfl (fun ls hl => ?_)
        have loop36 : ∀ (k5 j : Nat) , j ≤ (min n1 p1) → (min n1 p1) < j + k5 → ∀ (H : Heap) (locs : List Loc) (ls : Array Slot), PP G (l2M G la lb lf mf lr mr) H → va_S (fun q => s.heap.size ≤ q) s.heap H locs → lv_has ls 8 [(5, .int (nI j)), (4, .int (nI i)), (3, .int (nI (min n1 p1))), (2, .int (nI (min n0 p0))), (0, .ref (la 0)), (1, .ref (lb 0))] → W p l e ({ frames := 1, cells := 0, slots := 0, locals := 21 }) s m ([.ref (la 0), .ref (lb 0)] : List Value).toArray below meth c H locs 0 0 (MQ below (QrI (fun q => True) (fun q => s.heap.size ≤ q)) ([.ref (la 0), .ref (lb 0)] : List Value).toArray s 0 0 (fun q => s.heap.size ≤ q)) (F0 m 36 ls []) := by
          intro k5
          induction k5 with
          | zero => intro j  h1 h2; exact absurd h1 (by omega)
          | succ k5 ih36k5 =>
            intro j  hi_j hk_j  H locs ls hP hS hl
            refine lv_iload hx hb dX1_firstUnlike_36 (lv_at hl 0 rfl) ?_
            refine lv_iload_n hx hb dX1_firstUnlike_38 rfl (lv_at hl 2 rfl) ?_
            refine lv_icmp_ge (tgt := 102) hx hb dX1_firstUnlike_39 (by decide) (fun c6 => ?_) (fun c6 => ?_)
            · have b39 := qge_t (a := j) (b := (min n1 p1)) (by omega) (by omega) c6
              obtain ⟨v7, ev7⟩ : ∃ y9 : Int32, y9 = (nI i) + Int32.ofInt (1) := ⟨_, rfl⟩
              refine lv_iinc (v := v7) (lv' := [(4, .int v7), (5, .int (nI j)), (3, .int (nI (min n1 p1))), (2, .int (nI (min n0 p0))), (0, .ref (la 0)), (1, .ref (lb 0))]) hx hb dX1_firstUnlike_102 hl (k := 1) rfl ev7.symm (by decide) rfl (fun ls hl => ?_)
              obtain rfl : v7 = nI (i + 1) := nI_plus (i := i) (j := 1) ev7 rfl (by decide)
              refine lv_goto (tgt := 27) hx hb dX1_firstUnlike_105 (by decide) ?_
              exact ih27k3 (i + 1) (by omega) (by omega) _ _ _ hP hS (lv_sub hl [0, 2, 3, 4, 5] rfl)
            · have b39 := qge_f (a := j) (b := (min n1 p1)) (by omega) (by omega) c6
              refine lv_aload_n hx hb dX1_firstUnlike_42 rfl (lv_at hl 4 rfl) ?_
              refine va_get (D := G.1) (ci := 1) (v := .ref (la 1)) (C := RX1) (T := TX1) (N := 3) hx hb hts inX1 hown hK.1 hP 0 rfl rfl 2 (by decide) (hts _ mf_X1_18) (fun _ h9 => h9) rfl dX1_firstUnlike_43 ?_
              refine lv_iload hx hb dX1_firstUnlike_46 (lv_at hl 1 rfl) ?_
              refine lv_iload hx hb dX1_firstUnlike_48 (lv_at hl 0 rfl) ?_
              refine rdSN (rest := [.ref (la 1)]) ⟨hx, hb, hml, hown, hts⟩ (c_X6_spotOf l G ((nI i)) ((nI j))) mi_yX6_spotOf mst_yX6_spotOf (by decide +kernel) ⟨rfl, rfl, Nat.le_of_ble_eq_true rfl, Nat.le_of_ble_eq_true rfl⟩ hK (fun k q h => by simp at h) rfl hl.1 rfl (Nat.le_of_ble_eq_true rfl) dX1_firstUnlike_50 ⟨Nat.zero_le _, Nat.zero_le _⟩ hS hA hP (fun r8 H locs hr8 hP hS => ?_)
              obtain rfl : r8 = nI (i * 12 + j) := spot_eq hr8
              refine xiald (f := (lr 2)) hx hb hK hP 1 ((i * 12 + j)) (rfl) (by omega) (by decide) rfl dX1_firstUnlike_53 ?_
              refine lv_topi (fun v9 ev9 => ?_)
              refine lv_istore (lv' := [(6, .int v9), (5, .int (nI j)), (4, .int (nI i)), (3, .int (nI (min n1 p1))), (2, .int (nI (min n0 p0))), (0, .ref (la 0)), (1, .ref (lb 0))]) hx hb dX1_firstUnlike_54 hl (by decide) rfl (fun ls hl => ?_)
              refine lv_aload_n hx hb dX1_firstUnlike_56 rfl (lv_at hl 6 rfl) ?_
              refine va_get (D := G.1) (ci := 1) (v := .ref (lb 1)) (C := RX1) (T := TX1) (N := 3) hx hb hts inX1 hown hK.1 hP 2 rfl rfl 2 (by decide) (hts _ mf_X1_18) (fun _ h9 => h9) rfl dX1_firstUnlike_57 ?_
              refine lv_iload hx hb dX1_firstUnlike_60 (lv_at hl 2 rfl) ?_
              refine lv_iload hx hb dX1_firstUnlike_62 (lv_at hl 1 rfl) ?_
              refine rdSN (rest := [.ref (lb 1)]) ⟨hx, hb, hml, hown, hts⟩ (c_X6_spotOf l G ((nI i)) ((nI j))) mi_yX6_spotOf mst_yX6_spotOf (by decide +kernel) ⟨rfl, rfl, Nat.le_of_ble_eq_true rfl, Nat.le_of_ble_eq_true rfl⟩ hK (fun k q h => by simp at h) rfl hl.1 rfl (Nat.le_of_ble_eq_true rfl) dX1_firstUnlike_64 ⟨Nat.zero_le _, Nat.zero_le _⟩ hS hA hP (fun r10 H locs hr10 hP hS => ?_)
              obtain rfl : r10 = nI (i * 12 + j) := spot_eq hr10
              refine xiald (f := (mr 2)) hx hb hK hP 3 ((i * 12 + j)) (rfl) (by omega) (by decide) rfl dX1_firstUnlike_67 ?_
              refine lv_topi (fun v11 ev11 => ?_)
              refine lv_istore (lv' := [(7, .int v11), (6, .int v9), (5, .int (nI j)), (4, .int (nI i)), (3, .int (nI (min n1 p1))), (2, .int (nI (min n0 p0))), (0, .ref (la 0)), (1, .ref (lb 0))]) hx hb dX1_firstUnlike_68 hl (by decide) rfl (fun ls hl => ?_)
              refine lv_iload hx hb dX1_firstUnlike_70 (lv_at hl 1 rfl) ?_
              refine lv_if_lt (tgt := 96) hx hb dX1_firstUnlike_72 (by decide) (fun c12 => ?_) (fun c12 => ?_)
              · obtain ⟨v13, ev13⟩ : ∃ y9 : Int32, y9 = (nI j) + Int32.ofInt (1) := ⟨_, rfl⟩
                refine lv_iinc (v := v13) (lv' := [(5, .int v13), (7, .int v11), (6, .int v9), (4, .int (nI i)), (3, .int (nI (min n1 p1))), (2, .int (nI (min n0 p0))), (0, .ref (la 0)), (1, .ref (lb 0))]) hx hb dX1_firstUnlike_96 hl (k := 2) rfl ev13.symm (by decide) rfl (fun ls hl => ?_)
                obtain rfl : v13 = nI (j + 1) := nI_plus (i := j) (j := 1) ev13 rfl (by decide)
                refine lv_goto (tgt := 36) hx hb dX1_firstUnlike_99 (by decide) ?_
                exact ih36k5 (j + 1) (by omega) (by omega) _ _ _ hP hS (lv_sub hl [0, 3, 4, 5, 6, 7] rfl)
              · refine lv_iload hx hb dX1_firstUnlike_75 (lv_at hl 0 rfl) ?_
                refine lv_if_lt (tgt := 96) hx hb dX1_firstUnlike_77 (by decide) (fun c14 => ?_) (fun c14 => ?_)
                · obtain ⟨v15, ev15⟩ : ∃ y9 : Int32, y9 = (nI j) + Int32.ofInt (1) := ⟨_, rfl⟩
                  refine lv_iinc (v := v15) (lv' := [(5, .int v15), (7, .int v11), (6, .int v9), (4, .int (nI i)), (3, .int (nI (min n1 p1))), (2, .int (nI (min n0 p0))), (0, .ref (la 0)), (1, .ref (lb 0))]) hx hb dX1_firstUnlike_96 hl (k := 2) rfl ev15.symm (by decide) rfl (fun ls hl => ?_)
                  obtain rfl : v15 = nI (j + 1) := nI_plus (i := j) (j := 1) ev15 rfl (by decide)
                  refine lv_goto (tgt := 36) hx hb dX1_firstUnlike_99 (by decide) ?_
                  exact ih36k5 (j + 1) (by omega) (by omega) _ _ _ hP hS (lv_sub hl [0, 3, 4, 5, 6, 7] rfl)
                · refine lv_iload hx hb dX1_firstUnlike_80 (lv_at hl 1 rfl) ?_
                  refine lv_iload hx hb dX1_firstUnlike_82 (lv_at hl 0 rfl) ?_
                  refine lv_icmp_eq (tgt := 96) hx hb dX1_firstUnlike_84 (by decide) (fun c16 => ?_) (fun c16 => ?_)
                  · obtain ⟨v17, ev17⟩ : ∃ y9 : Int32, y9 = (nI j) + Int32.ofInt (1) := ⟨_, rfl⟩
                    refine lv_iinc (v := v17) (lv' := [(5, .int v17), (7, .int v11), (6, .int v9), (4, .int (nI i)), (3, .int (nI (min n1 p1))), (2, .int (nI (min n0 p0))), (0, .ref (la 0)), (1, .ref (lb 0))]) hx hb dX1_firstUnlike_96 hl (k := 2) rfl ev17.symm (by decide) rfl (fun ls hl => ?_)
                    obtain rfl : v17 = nI (j + 1) := nI_plus (i := j) (j := 1) ev17 rfl (by decide)
                    refine lv_goto (tgt := 36) hx hb dX1_firstUnlike_99 (by decide) ?_
                    exact ih36k5 (j + 1) (by omega) (by omega) _ _ _ hP hS (lv_sub hl [0, 3, 4, 5, 6, 7] rfl)
                  · refine lv_bipush (v := 100) hx hb dX1_firstUnlike_87 (by decide) ?_
                    refine lv_iload hx hb dX1_firstUnlike_89 (lv_at hl 3 rfl) ?_
                    refine lv_imul hx hb dX1_firstUnlike_91 ?_
                    refine lv_topi (fun v18 ev18 => ?_)
                    obtain rfl : v18 = nI (100 * i) := nI_times ev18 rfl rfl
                    refine lv_iload hx hb dX1_firstUnlike_92 (lv_at hl 2 rfl) ?_
                    refine lv_iadd hx hb dX1_firstUnlike_94 ?_
                    refine lv_topi (fun v19 ev19 => ?_)
                    obtain rfl : v19 = nI ((100 * i) + j) := nI_plus ev19 rfl rfl
                    exact rd_iret hx hb hr hlocks hS (trivial) dX1_firstUnlike_95
        exact loop36 ((min n1 p1) + 1) 0 (by omega) (by omega) _ _ _ hP hS (lv_sub hl [0, 1, 2, 3, 4, 5] rfl)
  exact loop27 ((min n0 p0) + 1) 0 (by omega) (by omega) _ _ _ hP hS (lv_sub hl [0, 1, 2, 3, 4] rfl)
