theorem ml_X3_105 : Cond.methodLink RX3 105 yX5_join ∈ TB := TB_t4 39 rfl rfl
theorem ml_X3_94 : Cond.methodLink RX3 94 yX3_refreshNode ∈ TB := TB_t4 40 rfl rfl
theorem mcode_yX3_refreshNode : Cond.code yX3_refreshNode cX3_refreshNode 4 none ∈ TB := TB_t4 43 rfl rfl
theorem mi_yX3_refreshNode : MI yX3_refreshNode cX3_refreshNode 4 none 1 := ⟨mz_RX3, mcode_yX3_refreshNode, by decide +kernel, by decide +kernel, by decide +kernel⟩
theorem mim_yX3_refreshNode : Cond.instanceMethod yX3_refreshNode ∈ TB := TB_t4 42 rfl rfl
theorem msel_yX3_refreshNode : Cond.selects yX3_refreshNode.cls yX3_refreshNode yX3_refreshNode ∈ TB := TB_s (n := 8) 34 (by decide +kernel)
theorem mv_yX3_refreshNode : Cond.instanceMethod yX3_refreshNode ∈ TB ∧ Cond.selects yX3_refreshNode.cls yX3_refreshNode yX3_refreshNode ∈ TB := ⟨mim_yX3_refreshNode, msel_yX3_refreshNode⟩
theorem mf_X3_116 : Cond.fieldLink RX3 116 "CellKeeper$Walk" "before" "[I" ∈ TB := TB_t1 36 rfl rfl
theorem ml_X3_119 : Cond.methodLink RX3 119 yX3_turn ∈ TB := TB_t4 53 rfl rfl
theorem mcode_yX3_turn : Cond.code yX3_turn cX3_turn 6 none ∈ TB := TB_t4 56 rfl rfl
theorem mi_yX3_turn : MI yX3_turn cX3_turn 6 none 2 := ⟨mz_RX3, mcode_yX3_turn, by decide +kernel, by decide +kernel, by decide +kernel⟩
theorem mim_yX3_turn : Cond.instanceMethod yX3_turn ∈ TB := TB_t4 55 rfl rfl
theorem msel_yX3_turn : Cond.selects yX3_turn.cls yX3_turn yX3_turn ∈ TB := TB_s (n := 8) 37 (by decide +kernel)
theorem mv_yX3_turn : Cond.instanceMethod yX3_turn ∈ TB ∧ Cond.selects yX3_turn.cls yX3_turn yX3_turn ∈ TB := ⟨mim_yX3_turn, msel_yX3_turn⟩
theorem ml_X3_109 : Cond.methodLink RX3 109 yX5_leads ∈ TB := TB_t4 48 rfl rfl
theorem ml_X3_113 : Cond.methodLink RX3 113 yX3_shift ∈ TB := TB_t4 49 rfl rfl
theorem mcode_yX3_shift : Cond.code yX3_shift cX3_shift 6 none ∈ TB := TB_t4 52 rfl rfl
theorem mi_yX3_shift : MI yX3_shift cX3_shift 6 none 2 := ⟨mz_RX3, mcode_yX3_shift, by decide +kernel, by decide +kernel, by decide +kernel⟩
theorem mim_yX3_shift : Cond.instanceMethod yX3_shift ∈ TB := TB_t4 51 rfl rfl
theorem msel_yX3_shift : Cond.selects yX3_shift.cls yX3_shift yX3_shift ∈ TB := TB_s (n := 8) 36 (by decide +kernel)
theorem mv_yX3_shift : Cond.instanceMethod yX3_shift ∈ TB ∧ Cond.selects yX3_shift.cls yX3_shift yX3_shift ∈ TB := ⟨mim_yX3_shift, msel_yX3_shift⟩
theorem mf_X3_68 : Cond.fieldLink RX3 68 "CellKeeper$Reader" "columns" "I" ∈ TB := TB_t1 55 rfl rfl
theorem mf_X3_76 : Cond.fieldLink RX3 76 "CellKeeper$Reader" "number" "[I" ∈ TB := TB_t1 69 rfl rfl
theorem mf_X3_47 : Cond.fieldLink RX3 47 "CellKeeper$Reader" "sound" "[Z" ∈ TB := TB_t1 61 rfl rfl
theorem mf_X3_54 : Cond.fieldLink RX3 54 "CellKeeper$Reader" "classes" "[I" ∈ TB := TB_t1 64 rfl rfl
theorem ml_X3_82 : Cond.methodLink RX3 82 yX5_wipe ∈ TB := TB_t4 32 rfl rfl
theorem ml_X3_85 : Cond.methodLink RX3 85 yJ7_fill_53178 ∈ TB := TB_t4 33 rfl rfl
theorem mf_X3_41 : Cond.fieldLink RX3 41 "CellKeeper$Reader" "rows" "I" ∈ TB := TB_t1 51 rfl rfl
theorem ml_X3_91 : Cond.methodLink RX3 91 yX3_layRow ∈ TB := TB_t4 34 rfl rfl
theorem mcode_yX3_layRow : Cond.code yX3_layRow cX3_layRow 6 none ∈ TB := TB_t4 37 rfl rfl
theorem mi_yX3_layRow : MI yX3_layRow cX3_layRow 6 none 3 := ⟨mz_RX3, mcode_yX3_layRow, by decide +kernel, by decide +kernel, by decide +kernel⟩
theorem mim_yX3_layRow : Cond.instanceMethod yX3_layRow ∈ TB := TB_t4 36 rfl rfl
theorem msel_yX3_layRow : Cond.selects yX3_layRow.cls yX3_layRow yX3_layRow ∈ TB := TB_s (n := 8) 33 (by decide +kernel)
theorem mv_yX3_layRow : Cond.instanceMethod yX3_layRow ∈ TB ∧ Cond.selects yX3_layRow.cls yX3_layRow yX3_layRow ∈ TB := ⟨mim_yX3_layRow, msel_yX3_layRow⟩
theorem ml_X3_98 : Cond.methodLink RX3 98 yX3_reachFewest ∈ TB := TB_t4 44 rfl rfl
theorem mcode_yX3_reachFewest : Cond.code yX3_reachFewest cX3_reachFewest 5 none ∈ TB := TB_t4 47 rfl rfl
theorem mi_yX3_reachFewest : MI yX3_reachFewest cX3_reachFewest 5 none 0 := ⟨mz_RX3, mcode_yX3_reachFewest, by decide +kernel, by decide +kernel, by decide +kernel⟩
theorem mim_yX3_reachFewest : Cond.instanceMethod yX3_reachFewest ∈ TB := TB_t4 46 rfl rfl
theorem msel_yX3_reachFewest : Cond.selects yX3_reachFewest.cls yX3_reachFewest yX3_reachFewest ∈ TB := TB_s (n := 8) 35 (by decide +kernel)
theorem mv_yX3_reachFewest : Cond.instanceMethod yX3_reachFewest ∈ TB ∧ Cond.selects yX3_reachFewest.cls yX3_reachFewest yX3_reachFewest ∈ TB := ⟨mim_yX3_reachFewest, msel_yX3_reachFewest⟩
theorem ml_X3_101 : Cond.methodLink RX3 101 yX3_bringDown ∈ TB := TB_t4 57 rfl rfl
theorem mcode_yX3_bringDown : Cond.code yX3_bringDown cX3_bringDown 5 none ∈ TB := TB_t4 60 rfl rfl
theorem mi_yX3_bringDown : MI yX3_bringDown cX3_bringDown 5 none 2 := ⟨mz_RX3, mcode_yX3_bringDown, by decide +kernel, by decide +kernel, by decide +kernel⟩
theorem mim_yX3_bringDown : Cond.instanceMethod yX3_bringDown ∈ TB := TB_t4 59 rfl rfl
theorem msel_yX3_bringDown : Cond.selects yX3_bringDown.cls yX3_bringDown yX3_bringDown ∈ TB := TB_s (n := 8) 38 (by decide +kernel)
theorem mv_yX3_bringDown : Cond.instanceMethod yX3_bringDown ∈ TB ∧ Cond.selects yX3_bringDown.cls yX3_bringDown yX3_bringDown ∈ TB := ⟨mim_yX3_bringDown, msel_yX3_bringDown⟩
theorem mf_X3_65 : Cond.fieldLink RX3 65 "CellKeeper$Leaf" "rows" "I" ∈ TB := TB_t1 186 rfl rfl
theorem mf_X3_71 : Cond.fieldLink RX3 71 "CellKeeper$Leaf" "columns" "I" ∈ TB := TB_t1 190 rfl rfl
theorem mf_X3_79 : Cond.fieldLink RX3 79 "CellKeeper$Leaf" "shown" "[I" ∈ TB := TB_t1 194 rfl rfl
theorem ml_X3_50 : Cond.methodLink RX3 50 yX3_isFirstOfClass ∈ TB := TB_t4 24 rfl rfl
theorem mcode_yX3_isFirstOfClass : Cond.code yX3_isFirstOfClass cX3_isFirstOfClass 4 (some .boolean) ∈ TB := TB_t4 27 rfl rfl
theorem mi_yX3_isFirstOfClass : MI yX3_isFirstOfClass cX3_isFirstOfClass 4 (some .boolean) 2 := ⟨mz_RX3, mcode_yX3_isFirstOfClass, by decide +kernel, by decide +kernel, by decide +kernel⟩
theorem mim_yX3_isFirstOfClass : Cond.instanceMethod yX3_isFirstOfClass ∈ TB := TB_t4 26 rfl rfl
theorem msel_yX3_isFirstOfClass : Cond.selects yX3_isFirstOfClass.cls yX3_isFirstOfClass yX3_isFirstOfClass ∈ TB := TB_s (n := 8) 31 (by decide +kernel)
theorem mv_yX3_isFirstOfClass : Cond.instanceMethod yX3_isFirstOfClass ∈ TB ∧ Cond.selects yX3_isFirstOfClass.cls yX3_isFirstOfClass yX3_isFirstOfClass ∈ TB := ⟨mim_yX3_isFirstOfClass, msel_yX3_isFirstOfClass⟩
theorem ml_X3_57 : Cond.methodLink RX3 57 yX3_roundClass ∈ TB := TB_t4 28 rfl rfl
theorem mcode_yX3_roundClass : Cond.code yX3_roundClass cX3_roundClass 5 none ∈ TB := TB_t4 31 rfl rfl
theorem mi_yX3_roundClass : MI yX3_roundClass cX3_roundClass 5 none 3 := ⟨mz_RX3, mcode_yX3_roundClass, by decide +kernel, by decide +kernel, by decide +kernel⟩
theorem mim_yX3_roundClass : Cond.instanceMethod yX3_roundClass ∈ TB := TB_t4 30 rfl rfl
theorem msel_yX3_roundClass : Cond.selects yX3_roundClass.cls yX3_roundClass yX3_roundClass ∈ TB := TB_s (n := 8) 32 (by decide +kernel)
theorem mv_yX3_roundClass : Cond.instanceMethod yX3_roundClass ∈ TB ∧ Cond.selects yX3_roundClass.cls yX3_roundClass yX3_roundClass ∈ TB := ⟨mim_yX3_roundClass, msel_yX3_roundClass⟩
theorem ml_X3_61 : Cond.methodLink RX3 61 yX3_write ∈ TB := TB_t4 61 rfl rfl
theorem mcode_yX3_write : Cond.code yX3_write cX3_write 10 (some .int) ∈ TB := TB_t4 64 rfl rfl
theorem mi_yX3_write : MI yX3_write cX3_write 10 (some .int) 3 := ⟨mz_RX3, mcode_yX3_write, by decide +kernel, by decide +kernel, by decide +kernel⟩
theorem mim_yX3_write : Cond.instanceMethod yX3_write ∈ TB := TB_t4 63 rfl rfl
theorem msel_yX3_write : Cond.selects yX3_write.cls yX3_write yX3_write ∈ TB := TB_s (n := 8) 39 (by decide +kernel)
theorem mv_yX3_write : Cond.instanceMethod yX3_write ∈ TB ∧ Cond.selects yX3_write.cls yX3_write yX3_write ∈ TB := ⟨mim_yX3_write, msel_yX3_write⟩
theorem ml_X1_26 : Cond.methodLink RX1 26 yJ9_min_7cf53 ∈ TB := TB_t4 93 rfl rfl
theorem kcX3_refreshNode_0 : CHb cX3_refreshNode 0 [42, 180, 0, 29, 27, 46, 42, 180, 0, 35, 27, 46, 162, 0, 7, 4, 167, 0, 4, 3, 61, 42, 180, 0, 29, 27, 46, 42, 180, 0, 32, 27, 46, 164, 0, 7, 4, 167, 0, 4, 3, 62, 27, 16, 12, 162, 0, 18, 42, 180, 0, 12, 16, 24, 27, 28, 29, 182, 0, 105, 167, 0, 15, 42] := CHb_of (by decide +kernel)
theorem dX3_refreshNode_0 : decode cX3_refreshNode 0 = .ok (.aload_n 0, 1) := dw_42 (kcX3_refreshNode_0 0 42 rfl)
theorem dX3_refreshNode_1 : decode cX3_refreshNode 1 = .ok (.getfield 29, 3) := dw_180 (kcX3_refreshNode_0 1 180 rfl) (kcX3_refreshNode_0 2 0 rfl) (kcX3_refreshNode_0 3 29 rfl) rfl
theorem dX3_refreshNode_4 : decode cX3_refreshNode 4 = .ok (.iload_n 1, 1) := dw_27 (kcX3_refreshNode_0 4 27 rfl)
theorem dX3_refreshNode_5 : decode cX3_refreshNode 5 = .ok (.iaload, 1) := dw_46 (kcX3_refreshNode_0 5 46 rfl)
theorem dX3_refreshNode_6 : decode cX3_refreshNode 6 = .ok (.aload_n 0, 1) := dw_42 (kcX3_refreshNode_0 6 42 rfl)
theorem dX3_refreshNode_7 : decode cX3_refreshNode 7 = .ok (.getfield 35, 3) := dw_180 (kcX3_refreshNode_0 7 180 rfl) (kcX3_refreshNode_0 8 0 rfl) (kcX3_refreshNode_0 9 35 rfl) rfl
theorem dX3_refreshNode_10 : decode cX3_refreshNode 10 = .ok (.iload_n 1, 1) := dw_27 (kcX3_refreshNode_0 10 27 rfl)
theorem dX3_refreshNode_11 : decode cX3_refreshNode 11 = .ok (.iaload, 1) := dw_46 (kcX3_refreshNode_0 11 46 rfl)
theorem dX3_refreshNode_12 : decode cX3_refreshNode 12 = .ok (.if_icmp .ge 7, 3) := dw_162 (kcX3_refreshNode_0 12 162 rfl) (kcX3_refreshNode_0 13 0 rfl) (kcX3_refreshNode_0 14 7 rfl) rfl
theorem dX3_refreshNode_19 : decode cX3_refreshNode 19 = .ok (.iconst 0, 1) := dw_3 (kcX3_refreshNode_0 19 3 rfl)
theorem dX3_refreshNode_15 : decode cX3_refreshNode 15 = .ok (.iconst 1, 1) := dw_4 (kcX3_refreshNode_0 15 4 rfl)
theorem dX3_refreshNode_16 : decode cX3_refreshNode 16 = .ok (.goto 4, 3) := dw_167 (kcX3_refreshNode_0 16 167 rfl) (kcX3_refreshNode_0 17 0 rfl) (kcX3_refreshNode_0 18 4 rfl) rfl
theorem dX3_refreshNode_20 : decode cX3_refreshNode 20 = .ok (.istore_n 2, 1) := dw_61 (kcX3_refreshNode_0 20 61 rfl)
theorem dX3_refreshNode_21 : decode cX3_refreshNode 21 = .ok (.aload_n 0, 1) := dw_42 (kcX3_refreshNode_0 21 42 rfl)
theorem dX3_refreshNode_22 : decode cX3_refreshNode 22 = .ok (.getfield 29, 3) := dw_180 (kcX3_refreshNode_0 22 180 rfl) (kcX3_refreshNode_0 23 0 rfl) (kcX3_refreshNode_0 24 29 rfl) rfl
theorem dX3_refreshNode_25 : decode cX3_refreshNode 25 = .ok (.iload_n 1, 1) := dw_27 (kcX3_refreshNode_0 25 27 rfl)
theorem dX3_refreshNode_26 : decode cX3_refreshNode 26 = .ok (.iaload, 1) := dw_46 (kcX3_refreshNode_0 26 46 rfl)
theorem dX3_refreshNode_27 : decode cX3_refreshNode 27 = .ok (.aload_n 0, 1) := dw_42 (kcX3_refreshNode_0 27 42 rfl)
theorem dX3_refreshNode_28 : decode cX3_refreshNode 28 = .ok (.getfield 32, 3) := dw_180 (kcX3_refreshNode_0 28 180 rfl) (kcX3_refreshNode_0 29 0 rfl) (kcX3_refreshNode_0 30 32 rfl) rfl
theorem dX3_refreshNode_31 : decode cX3_refreshNode 31 = .ok (.iload_n 1, 1) := dw_27 (kcX3_refreshNode_0 31 27 rfl)
theorem dX3_refreshNode_32 : decode cX3_refreshNode 32 = .ok (.iaload, 1) := dw_46 (kcX3_refreshNode_0 32 46 rfl)
theorem dX3_refreshNode_33 : decode cX3_refreshNode 33 = .ok (.if_icmp .le 7, 3) := dw_164 (kcX3_refreshNode_0 33 164 rfl) (kcX3_refreshNode_0 34 0 rfl) (kcX3_refreshNode_0 35 7 rfl) rfl
theorem dX3_refreshNode_40 : decode cX3_refreshNode 40 = .ok (.iconst 0, 1) := dw_3 (kcX3_refreshNode_0 40 3 rfl)
theorem dX3_refreshNode_36 : decode cX3_refreshNode 36 = .ok (.iconst 1, 1) := dw_4 (kcX3_refreshNode_0 36 4 rfl)
theorem dX3_refreshNode_37 : decode cX3_refreshNode 37 = .ok (.goto 4, 3) := dw_167 (kcX3_refreshNode_0 37 167 rfl) (kcX3_refreshNode_0 38 0 rfl) (kcX3_refreshNode_0 39 4 rfl) rfl
theorem dX3_refreshNode_41 : decode cX3_refreshNode 41 = .ok (.istore_n 3, 1) := dw_62 (kcX3_refreshNode_0 41 62 rfl)
theorem dX3_refreshNode_42 : decode cX3_refreshNode 42 = .ok (.iload_n 1, 1) := dw_27 (kcX3_refreshNode_0 42 27 rfl)
theorem dX3_refreshNode_43 : decode cX3_refreshNode 43 = .ok (.bipush 12, 2) := dw_16 (kcX3_refreshNode_0 43 16 rfl) (kcX3_refreshNode_0 44 12 rfl) rfl
theorem dX3_refreshNode_45 : decode cX3_refreshNode 45 = .ok (.if_icmp .ge 18, 3) := dw_162 (kcX3_refreshNode_0 45 162 rfl) (kcX3_refreshNode_0 46 0 rfl) (kcX3_refreshNode_0 47 18 rfl) rfl
theorem dX3_refreshNode_63 : decode cX3_refreshNode 63 = .ok (.aload_n 0, 1) := dw_42 (kcX3_refreshNode_0 63 42 rfl)
theorem kcX3_refreshNode_1 : CHb cX3_refreshNode 64 [180, 0, 12, 27, 16, 24, 28, 29, 182, 0, 105, 177] := CHb_of (by decide +kernel)
theorem dX3_refreshNode_64 : decode cX3_refreshNode 64 = .ok (.getfield 12, 3) := dw_180 (kcX3_refreshNode_1 0 180 rfl) (kcX3_refreshNode_1 1 0 rfl) (kcX3_refreshNode_1 2 12 rfl) rfl
theorem dX3_refreshNode_67 : decode cX3_refreshNode 67 = .ok (.iload_n 1, 1) := dw_27 (kcX3_refreshNode_1 3 27 rfl)
theorem dX3_refreshNode_68 : decode cX3_refreshNode 68 = .ok (.bipush 24, 2) := dw_16 (kcX3_refreshNode_1 4 16 rfl) (kcX3_refreshNode_1 5 24 rfl) rfl
theorem dX3_refreshNode_70 : decode cX3_refreshNode 70 = .ok (.iload_n 2, 1) := dw_28 (kcX3_refreshNode_1 6 28 rfl)
theorem dX3_refreshNode_71 : decode cX3_refreshNode 71 = .ok (.iload_n 3, 1) := dw_29 (kcX3_refreshNode_1 7 29 rfl)
theorem dX3_refreshNode_72 : decode cX3_refreshNode 72 = .ok (.invokevirtual 105, 3) := dw_182 (kcX3_refreshNode_1 8 182 rfl) (kcX3_refreshNode_1 9 0 rfl) (kcX3_refreshNode_1 10 105 rfl) rfl
theorem dX3_refreshNode_75 : decode cX3_refreshNode 75 = .ok (.return_, 1) := dw_177 (kcX3_refreshNode_1 11 177 rfl)
theorem dX3_refreshNode_48 : decode cX3_refreshNode 48 = .ok (.aload_n 0, 1) := dw_42 (kcX3_refreshNode_0 48 42 rfl)
theorem dX3_refreshNode_49 : decode cX3_refreshNode 49 = .ok (.getfield 12, 3) := dw_180 (kcX3_refreshNode_0 49 180 rfl) (kcX3_refreshNode_0 50 0 rfl) (kcX3_refreshNode_0 51 12 rfl) rfl
theorem dX3_refreshNode_52 : decode cX3_refreshNode 52 = .ok (.bipush 24, 2) := dw_16 (kcX3_refreshNode_0 52 16 rfl) (kcX3_refreshNode_0 53 24 rfl) rfl
theorem dX3_refreshNode_54 : decode cX3_refreshNode 54 = .ok (.iload_n 1, 1) := dw_27 (kcX3_refreshNode_0 54 27 rfl)
theorem dX3_refreshNode_55 : decode cX3_refreshNode 55 = .ok (.iload_n 2, 1) := dw_28 (kcX3_refreshNode_0 55 28 rfl)
theorem dX3_refreshNode_56 : decode cX3_refreshNode 56 = .ok (.iload_n 3, 1) := dw_29 (kcX3_refreshNode_0 56 29 rfl)
theorem dX3_refreshNode_57 : decode cX3_refreshNode 57 = .ok (.invokevirtual 105, 3) := dw_182 (kcX3_refreshNode_0 57 182 rfl) (kcX3_refreshNode_0 58 0 rfl) (kcX3_refreshNode_0 59 105 rfl) rfl
theorem dX3_refreshNode_60 : decode cX3_refreshNode 60 = .ok (.goto 15, 3) := dw_167 (kcX3_refreshNode_0 60 167 rfl) (kcX3_refreshNode_0 61 0 rfl) (kcX3_refreshNode_0 62 15 rfl) rfl
theorem kcX3_turn_0 : CHb cX3_turn 0 [27, 16, 24, 160, 0, 31, 42, 180, 0, 29, 28, 92, 46, 28, 16, 12, 162, 0, 7, 4, 167, 0, 4, 2, 96, 79, 42, 28, 182, 0, 94, 167, 0, 108, 28, 16, 24, 160, 0, 31, 42, 180, 0, 29, 27, 92, 46, 27, 16, 12, 162, 0, 7, 2, 167, 0, 4, 4, 96, 79, 42, 27, 182, 0] := CHb_of (by decide +kernel)
theorem dX3_turn_0 : decode cX3_turn 0 = .ok (.iload_n 1, 1) := dw_27 (kcX3_turn_0 0 27 rfl)
theorem dX3_turn_1 : decode cX3_turn 1 = .ok (.bipush 24, 2) := dw_16 (kcX3_turn_0 1 16 rfl) (kcX3_turn_0 2 24 rfl) rfl
theorem dX3_turn_3 : decode cX3_turn 3 = .ok (.if_icmp .ne 31, 3) := dw_160 (kcX3_turn_0 3 160 rfl) (kcX3_turn_0 4 0 rfl) (kcX3_turn_0 5 31 rfl) rfl
theorem dX3_turn_34 : decode cX3_turn 34 = .ok (.iload_n 2, 1) := dw_28 (kcX3_turn_0 34 28 rfl)
theorem dX3_turn_35 : decode cX3_turn 35 = .ok (.bipush 24, 2) := dw_16 (kcX3_turn_0 35 16 rfl) (kcX3_turn_0 36 24 rfl) rfl
theorem dX3_turn_37 : decode cX3_turn 37 = .ok (.if_icmp .ne 31, 3) := dw_160 (kcX3_turn_0 37 160 rfl) (kcX3_turn_0 38 0 rfl) (kcX3_turn_0 39 31 rfl) rfl
theorem kcX3_turn_1 : CHb cX3_turn 64 [94, 167, 0, 74, 27, 16, 12, 162, 0, 7, 4, 167, 0, 4, 3, 62, 29, 153, 0, 7, 27, 167, 0, 4, 28, 54, 4, 29, 153, 0, 7, 28, 167, 0, 4, 27, 54, 5, 42, 180, 0, 22, 21, 4, 21, 5, 16, 12, 100, 184, 0, 72, 29, 84, 42, 180, 0, 12, 21, 4, 21, 5, 29, 154] := CHb_of (by decide +kernel)
theorem dX3_turn_68 : decode cX3_turn 68 = .ok (.iload_n 1, 1) := dw_27 (kcX3_turn_1 4 27 rfl)
theorem dX3_turn_69 : decode cX3_turn 69 = .ok (.bipush 12, 2) := dw_16 (kcX3_turn_1 5 16 rfl) (kcX3_turn_1 6 12 rfl) rfl
theorem dX3_turn_71 : decode cX3_turn 71 = .ok (.if_icmp .ge 7, 3) := dw_162 (kcX3_turn_1 7 162 rfl) (kcX3_turn_1 8 0 rfl) (kcX3_turn_1 9 7 rfl) rfl
theorem dX3_turn_78 : decode cX3_turn 78 = .ok (.iconst 0, 1) := dw_3 (kcX3_turn_1 14 3 rfl)
theorem dX3_turn_79 : decode cX3_turn 79 = .ok (.istore_n 3, 1) := dw_62 (kcX3_turn_1 15 62 rfl)
theorem dX3_turn_80 : decode cX3_turn 80 = .ok (.iload_n 3, 1) := dw_29 (kcX3_turn_1 16 29 rfl)
theorem dX3_turn_81 : decode cX3_turn 81 = .ok (.ifCond .eq 7, 3) := dw_153 (kcX3_turn_1 17 153 rfl) (kcX3_turn_1 18 0 rfl) (kcX3_turn_1 19 7 rfl) rfl
theorem dX3_turn_88 : decode cX3_turn 88 = .ok (.iload_n 2, 1) := dw_28 (kcX3_turn_1 24 28 rfl)
theorem dX3_turn_89 : decode cX3_turn 89 = .ok (.istore 4, 2) := dw_54 (kcX3_turn_1 25 54 rfl) (kcX3_turn_1 26 4 rfl)
theorem dX3_turn_91 : decode cX3_turn 91 = .ok (.iload_n 3, 1) := dw_29 (kcX3_turn_1 27 29 rfl)
theorem dX3_turn_92 : decode cX3_turn 92 = .ok (.ifCond .eq 7, 3) := dw_153 (kcX3_turn_1 28 153 rfl) (kcX3_turn_1 29 0 rfl) (kcX3_turn_1 30 7 rfl) rfl
theorem dX3_turn_99 : decode cX3_turn 99 = .ok (.iload_n 1, 1) := dw_27 (kcX3_turn_1 35 27 rfl)
theorem dX3_turn_100 : decode cX3_turn 100 = .ok (.istore 5, 2) := dw_54 (kcX3_turn_1 36 54 rfl) (kcX3_turn_1 37 5 rfl)
theorem dX3_turn_102 : decode cX3_turn 102 = .ok (.aload_n 0, 1) := dw_42 (kcX3_turn_1 38 42 rfl)
theorem dX3_turn_103 : decode cX3_turn 103 = .ok (.getfield 22, 3) := dw_180 (kcX3_turn_1 39 180 rfl) (kcX3_turn_1 40 0 rfl) (kcX3_turn_1 41 22 rfl) rfl
theorem dX3_turn_106 : decode cX3_turn 106 = .ok (.iload 4, 2) := dw_21 (kcX3_turn_1 42 21 rfl) (kcX3_turn_1 43 4 rfl)
theorem dX3_turn_108 : decode cX3_turn 108 = .ok (.iload 5, 2) := dw_21 (kcX3_turn_1 44 21 rfl) (kcX3_turn_1 45 5 rfl)
theorem dX3_turn_110 : decode cX3_turn 110 = .ok (.bipush 12, 2) := dw_16 (kcX3_turn_1 46 16 rfl) (kcX3_turn_1 47 12 rfl) rfl
theorem dX3_turn_112 : decode cX3_turn 112 = .ok (.isub, 1) := dw_100 (kcX3_turn_1 48 100 rfl)
theorem dX3_turn_113 : decode cX3_turn 113 = .ok (.invokestatic 72, 3) := dw_184 (kcX3_turn_1 49 184 rfl) (kcX3_turn_1 50 0 rfl) (kcX3_turn_1 51 72 rfl) rfl
theorem dX3_turn_116 : decode cX3_turn 116 = .ok (.iload_n 3, 1) := dw_29 (kcX3_turn_1 52 29 rfl)
theorem dX3_turn_117 : decode cX3_turn 117 = .ok (.bastore, 1) := dw_84 (kcX3_turn_1 53 84 rfl)
theorem dX3_turn_118 : decode cX3_turn 118 = .ok (.aload_n 0, 1) := dw_42 (kcX3_turn_1 54 42 rfl)
theorem dX3_turn_119 : decode cX3_turn 119 = .ok (.getfield 12, 3) := dw_180 (kcX3_turn_1 55 180 rfl) (kcX3_turn_1 56 0 rfl) (kcX3_turn_1 57 12 rfl) rfl
theorem dX3_turn_122 : decode cX3_turn 122 = .ok (.iload 4, 2) := dw_21 (kcX3_turn_1 58 21 rfl) (kcX3_turn_1 59 4 rfl)
theorem dX3_turn_124 : decode cX3_turn 124 = .ok (.iload 5, 2) := dw_21 (kcX3_turn_1 60 21 rfl) (kcX3_turn_1 61 5 rfl)
theorem dX3_turn_126 : decode cX3_turn 126 = .ok (.iload_n 3, 1) := dw_29 (kcX3_turn_1 62 29 rfl)
theorem kcX3_turn_2 : CHb cX3_turn 128 [0, 7, 4, 167, 0, 4, 3, 29, 182, 0, 105, 177] := CHb_of (by decide +kernel)
theorem dX3_turn_127 : decode cX3_turn 127 = .ok (.ifCond .ne 7, 3) := dw_154 (kcX3_turn_1 63 154 rfl) (kcX3_turn_2 0 0 rfl) (kcX3_turn_2 1 7 rfl) rfl
theorem dX3_turn_130 : decode cX3_turn 130 = .ok (.iconst 1, 1) := dw_4 (kcX3_turn_2 2 4 rfl)
theorem dX3_turn_131 : decode cX3_turn 131 = .ok (.goto 4, 3) := dw_167 (kcX3_turn_2 3 167 rfl) (kcX3_turn_2 4 0 rfl) (kcX3_turn_2 5 4 rfl) rfl
theorem dX3_turn_135 : decode cX3_turn 135 = .ok (.iload_n 3, 1) := dw_29 (kcX3_turn_2 7 29 rfl)
theorem dX3_turn_136 : decode cX3_turn 136 = .ok (.invokevirtual 105, 3) := dw_182 (kcX3_turn_2 8 182 rfl) (kcX3_turn_2 9 0 rfl) (kcX3_turn_2 10 105 rfl) rfl
theorem dX3_turn_139 : decode cX3_turn 139 = .ok (.return_, 1) := dw_177 (kcX3_turn_2 11 177 rfl)
theorem dX3_turn_74 : decode cX3_turn 74 = .ok (.iconst 1, 1) := dw_4 (kcX3_turn_1 10 4 rfl)
theorem dX3_turn_75 : decode cX3_turn 75 = .ok (.goto 4, 3) := dw_167 (kcX3_turn_1 11 167 rfl) (kcX3_turn_1 12 0 rfl) (kcX3_turn_1 13 4 rfl) rfl
theorem dX3_turn_84 : decode cX3_turn 84 = .ok (.iload_n 1, 1) := dw_27 (kcX3_turn_1 20 27 rfl)
theorem dX3_turn_85 : decode cX3_turn 85 = .ok (.goto 4, 3) := dw_167 (kcX3_turn_1 21 167 rfl) (kcX3_turn_1 22 0 rfl) (kcX3_turn_1 23 4 rfl) rfl
theorem dX3_turn_95 : decode cX3_turn 95 = .ok (.iload_n 2, 1) := dw_28 (kcX3_turn_1 31 28 rfl)
theorem dX3_turn_96 : decode cX3_turn 96 = .ok (.goto 4, 3) := dw_167 (kcX3_turn_1 32 167 rfl) (kcX3_turn_1 33 0 rfl) (kcX3_turn_1 34 4 rfl) rfl
theorem dX3_turn_134 : decode cX3_turn 134 = .ok (.iconst 0, 1) := dw_3 (kcX3_turn_2 6 3 rfl)
theorem dX3_turn_40 : decode cX3_turn 40 = .ok (.aload_n 0, 1) := dw_42 (kcX3_turn_0 40 42 rfl)
theorem dX3_turn_41 : decode cX3_turn 41 = .ok (.getfield 29, 3) := dw_180 (kcX3_turn_0 41 180 rfl) (kcX3_turn_0 42 0 rfl) (kcX3_turn_0 43 29 rfl) rfl
theorem dX3_turn_44 : decode cX3_turn 44 = .ok (.iload_n 1, 1) := dw_27 (kcX3_turn_0 44 27 rfl)
theorem dX3_turn_45 : decode cX3_turn 45 = .ok (.dup2, 1) := dw_92 (kcX3_turn_0 45 92 rfl)
theorem dX3_turn_46 : decode cX3_turn 46 = .ok (.iaload, 1) := dw_46 (kcX3_turn_0 46 46 rfl)
theorem dX3_turn_47 : decode cX3_turn 47 = .ok (.iload_n 1, 1) := dw_27 (kcX3_turn_0 47 27 rfl)
theorem dX3_turn_48 : decode cX3_turn 48 = .ok (.bipush 12, 2) := dw_16 (kcX3_turn_0 48 16 rfl) (kcX3_turn_0 49 12 rfl) rfl
theorem dX3_turn_50 : decode cX3_turn 50 = .ok (.if_icmp .ge 7, 3) := dw_162 (kcX3_turn_0 50 162 rfl) (kcX3_turn_0 51 0 rfl) (kcX3_turn_0 52 7 rfl) rfl
theorem dX3_turn_57 : decode cX3_turn 57 = .ok (.iconst 1, 1) := dw_4 (kcX3_turn_0 57 4 rfl)
theorem dX3_turn_53 : decode cX3_turn 53 = .ok (.iconst (-1), 1) := dw_2 (kcX3_turn_0 53 2 rfl)
theorem dX3_turn_54 : decode cX3_turn 54 = .ok (.goto 4, 3) := dw_167 (kcX3_turn_0 54 167 rfl) (kcX3_turn_0 55 0 rfl) (kcX3_turn_0 56 4 rfl) rfl
theorem dX3_turn_58 : decode cX3_turn 58 = .ok (.iadd, 1) := dw_96 (kcX3_turn_0 58 96 rfl)
theorem dX3_turn_59 : decode cX3_turn 59 = .ok (.iastore, 1) := dw_79 (kcX3_turn_0 59 79 rfl)
theorem dX3_turn_60 : decode cX3_turn 60 = .ok (.aload_n 0, 1) := dw_42 (kcX3_turn_0 60 42 rfl)
theorem dX3_turn_61 : decode cX3_turn 61 = .ok (.iload_n 1, 1) := dw_27 (kcX3_turn_0 61 27 rfl)
theorem dX3_turn_62 : decode cX3_turn 62 = .ok (.invokevirtual 94, 3) := dw_182 (kcX3_turn_0 62 182 rfl) (kcX3_turn_0 63 0 rfl) (kcX3_turn_1 0 94 rfl) rfl
theorem dX3_turn_65 : decode cX3_turn 65 = .ok (.goto 74, 3) := dw_167 (kcX3_turn_1 1 167 rfl) (kcX3_turn_1 2 0 rfl) (kcX3_turn_1 3 74 rfl) rfl
theorem dX3_turn_6 : decode cX3_turn 6 = .ok (.aload_n 0, 1) := dw_42 (kcX3_turn_0 6 42 rfl)
theorem dX3_turn_7 : decode cX3_turn 7 = .ok (.getfield 29, 3) := dw_180 (kcX3_turn_0 7 180 rfl) (kcX3_turn_0 8 0 rfl) (kcX3_turn_0 9 29 rfl) rfl
theorem dX3_turn_10 : decode cX3_turn 10 = .ok (.iload_n 2, 1) := dw_28 (kcX3_turn_0 10 28 rfl)
theorem dX3_turn_11 : decode cX3_turn 11 = .ok (.dup2, 1) := dw_92 (kcX3_turn_0 11 92 rfl)
theorem dX3_turn_12 : decode cX3_turn 12 = .ok (.iaload, 1) := dw_46 (kcX3_turn_0 12 46 rfl)
theorem dX3_turn_13 : decode cX3_turn 13 = .ok (.iload_n 2, 1) := dw_28 (kcX3_turn_0 13 28 rfl)
theorem dX3_turn_14 : decode cX3_turn 14 = .ok (.bipush 12, 2) := dw_16 (kcX3_turn_0 14 16 rfl) (kcX3_turn_0 15 12 rfl) rfl
theorem dX3_turn_16 : decode cX3_turn 16 = .ok (.if_icmp .ge 7, 3) := dw_162 (kcX3_turn_0 16 162 rfl) (kcX3_turn_0 17 0 rfl) (kcX3_turn_0 18 7 rfl) rfl
theorem dX3_turn_23 : decode cX3_turn 23 = .ok (.iconst (-1), 1) := dw_2 (kcX3_turn_0 23 2 rfl)
theorem dX3_turn_19 : decode cX3_turn 19 = .ok (.iconst 1, 1) := dw_4 (kcX3_turn_0 19 4 rfl)
theorem dX3_turn_20 : decode cX3_turn 20 = .ok (.goto 4, 3) := dw_167 (kcX3_turn_0 20 167 rfl) (kcX3_turn_0 21 0 rfl) (kcX3_turn_0 22 4 rfl) rfl
theorem dX3_turn_24 : decode cX3_turn 24 = .ok (.iadd, 1) := dw_96 (kcX3_turn_0 24 96 rfl)
theorem dX3_turn_25 : decode cX3_turn 25 = .ok (.iastore, 1) := dw_79 (kcX3_turn_0 25 79 rfl)
theorem dX3_turn_26 : decode cX3_turn 26 = .ok (.aload_n 0, 1) := dw_42 (kcX3_turn_0 26 42 rfl)
theorem dX3_turn_27 : decode cX3_turn 27 = .ok (.iload_n 2, 1) := dw_28 (kcX3_turn_0 27 28 rfl)
theorem dX3_turn_28 : decode cX3_turn 28 = .ok (.invokevirtual 94, 3) := dw_182 (kcX3_turn_0 28 182 rfl) (kcX3_turn_0 29 0 rfl) (kcX3_turn_0 30 94 rfl) rfl
theorem dX3_turn_31 : decode cX3_turn 31 = .ok (.goto 108, 3) := dw_167 (kcX3_turn_0 31 167 rfl) (kcX3_turn_0 32 0 rfl) (kcX3_turn_0 33 108 rfl) rfl
theorem kcX3_shift_0 : CHb cX3_shift 0 [28, 62, 3, 54, 4, 21, 4, 16, 25, 162, 0, 35, 29, 27, 159, 0, 30, 42, 180, 0, 12, 180, 0, 116, 29, 46, 54, 5, 42, 21, 5, 29, 182, 0, 119, 21, 5, 62, 132, 4, 1, 167, 255, 220, 177] := CHb_of (by decide +kernel)
theorem dX3_shift_0 : decode cX3_shift 0 = .ok (.iload_n 2, 1) := dw_28 (kcX3_shift_0 0 28 rfl)
theorem dX3_shift_1 : decode cX3_shift 1 = .ok (.istore_n 3, 1) := dw_62 (kcX3_shift_0 1 62 rfl)
theorem dX3_shift_2 : decode cX3_shift 2 = .ok (.iconst 0, 1) := dw_3 (kcX3_shift_0 2 3 rfl)
theorem dX3_shift_3 : decode cX3_shift 3 = .ok (.istore 4, 2) := dw_54 (kcX3_shift_0 3 54 rfl) (kcX3_shift_0 4 4 rfl)
theorem dX3_shift_5 : decode cX3_shift 5 = .ok (.iload 4, 2) := dw_21 (kcX3_shift_0 5 21 rfl) (kcX3_shift_0 6 4 rfl)
theorem dX3_shift_7 : decode cX3_shift 7 = .ok (.bipush 25, 2) := dw_16 (kcX3_shift_0 7 16 rfl) (kcX3_shift_0 8 25 rfl) rfl
theorem dX3_shift_9 : decode cX3_shift 9 = .ok (.if_icmp .ge 35, 3) := dw_162 (kcX3_shift_0 9 162 rfl) (kcX3_shift_0 10 0 rfl) (kcX3_shift_0 11 35 rfl) rfl
theorem dX3_shift_44 : decode cX3_shift 44 = .ok (.return_, 1) := dw_177 (kcX3_shift_0 44 177 rfl)
theorem dX3_shift_12 : decode cX3_shift 12 = .ok (.iload_n 3, 1) := dw_29 (kcX3_shift_0 12 29 rfl)
theorem dX3_shift_13 : decode cX3_shift 13 = .ok (.iload_n 1, 1) := dw_27 (kcX3_shift_0 13 27 rfl)
theorem dX3_shift_14 : decode cX3_shift 14 = .ok (.if_icmp .eq 30, 3) := dw_159 (kcX3_shift_0 14 159 rfl) (kcX3_shift_0 15 0 rfl) (kcX3_shift_0 16 30 rfl) rfl
theorem dX3_shift_17 : decode cX3_shift 17 = .ok (.aload_n 0, 1) := dw_42 (kcX3_shift_0 17 42 rfl)
theorem dX3_shift_18 : decode cX3_shift 18 = .ok (.getfield 12, 3) := dw_180 (kcX3_shift_0 18 180 rfl) (kcX3_shift_0 19 0 rfl) (kcX3_shift_0 20 12 rfl) rfl
theorem dX3_shift_21 : decode cX3_shift 21 = .ok (.getfield 116, 3) := dw_180 (kcX3_shift_0 21 180 rfl) (kcX3_shift_0 22 0 rfl) (kcX3_shift_0 23 116 rfl) rfl
theorem dX3_shift_24 : decode cX3_shift 24 = .ok (.iload_n 3, 1) := dw_29 (kcX3_shift_0 24 29 rfl)
theorem dX3_shift_25 : decode cX3_shift 25 = .ok (.iaload, 1) := dw_46 (kcX3_shift_0 25 46 rfl)
theorem dX3_shift_26 : decode cX3_shift 26 = .ok (.istore 5, 2) := dw_54 (kcX3_shift_0 26 54 rfl) (kcX3_shift_0 27 5 rfl)
theorem dX3_shift_28 : decode cX3_shift 28 = .ok (.aload_n 0, 1) := dw_42 (kcX3_shift_0 28 42 rfl)
theorem dX3_shift_29 : decode cX3_shift 29 = .ok (.iload 5, 2) := dw_21 (kcX3_shift_0 29 21 rfl) (kcX3_shift_0 30 5 rfl)
theorem dX3_shift_31 : decode cX3_shift 31 = .ok (.iload_n 3, 1) := dw_29 (kcX3_shift_0 31 29 rfl)
theorem dX3_shift_32 : decode cX3_shift 32 = .ok (.invokevirtual 119, 3) := dw_182 (kcX3_shift_0 32 182 rfl) (kcX3_shift_0 33 0 rfl) (kcX3_shift_0 34 119 rfl) rfl
theorem dX3_shift_35 : decode cX3_shift 35 = .ok (.iload 5, 2) := dw_21 (kcX3_shift_0 35 21 rfl) (kcX3_shift_0 36 5 rfl)
theorem dX3_shift_37 : decode cX3_shift 37 = .ok (.istore_n 3, 1) := dw_62 (kcX3_shift_0 37 62 rfl)
theorem dX3_shift_38 : decode cX3_shift 38 = .ok (.iinc 4 1, 3) := dw_132 (kcX3_shift_0 38 132 rfl) (kcX3_shift_0 39 4 rfl) (kcX3_shift_0 40 1 rfl) rfl
theorem dX3_shift_41 : decode cX3_shift 41 = .ok (.goto (-36), 3) := dw_167 (kcX3_shift_0 41 167 rfl) (kcX3_shift_0 42 255 rfl) (kcX3_shift_0 43 220 rfl) rfl
theorem kcX3_reachFewest_0 : CHb cX3_reachFewest 0 [3, 60, 27, 16, 24, 162, 0, 102, 27, 16, 12, 162, 0, 7, 27, 167, 0, 5, 16, 24, 61, 27, 16, 12, 162, 0, 8, 16, 24, 167, 0, 4, 27, 62, 3, 54, 4, 21, 4, 16, 12, 162, 0, 60, 42, 180, 0, 29, 27, 46, 42, 180, 0, 32, 27, 46, 162, 0, 45, 42, 180, 0, 12, 28] := CHb_of (by decide +kernel)
theorem dX3_reachFewest_0 : decode cX3_reachFewest 0 = .ok (.iconst 0, 1) := dw_3 (kcX3_reachFewest_0 0 3 rfl)
theorem dX3_reachFewest_1 : decode cX3_reachFewest 1 = .ok (.istore_n 1, 1) := dw_60 (kcX3_reachFewest_0 1 60 rfl)
theorem dX3_reachFewest_2 : decode cX3_reachFewest 2 = .ok (.iload_n 1, 1) := dw_27 (kcX3_reachFewest_0 2 27 rfl)
theorem dX3_reachFewest_3 : decode cX3_reachFewest 3 = .ok (.bipush 24, 2) := dw_16 (kcX3_reachFewest_0 3 16 rfl) (kcX3_reachFewest_0 4 24 rfl) rfl
theorem dX3_reachFewest_5 : decode cX3_reachFewest 5 = .ok (.if_icmp .ge 102, 3) := dw_162 (kcX3_reachFewest_0 5 162 rfl) (kcX3_reachFewest_0 6 0 rfl) (kcX3_reachFewest_0 7 102 rfl) rfl
theorem kcX3_reachFewest_1 : CHb cX3_reachFewest 64 [29, 182, 0, 109, 154, 0, 6, 167, 0, 30, 42, 28, 29, 182, 0, 113, 42, 180, 0, 29, 27, 92, 46, 4, 96, 79, 42, 27, 182, 0, 94, 132, 4, 1, 167, 255, 195, 132, 1, 1, 167, 255, 154, 177] := CHb_of (by decide +kernel)
theorem dX3_reachFewest_107 : decode cX3_reachFewest 107 = .ok (.return_, 1) := dw_177 (kcX3_reachFewest_1 43 177 rfl)
theorem dX3_reachFewest_8 : decode cX3_reachFewest 8 = .ok (.iload_n 1, 1) := dw_27 (kcX3_reachFewest_0 8 27 rfl)
theorem dX3_reachFewest_9 : decode cX3_reachFewest 9 = .ok (.bipush 12, 2) := dw_16 (kcX3_reachFewest_0 9 16 rfl) (kcX3_reachFewest_0 10 12 rfl) rfl
theorem dX3_reachFewest_11 : decode cX3_reachFewest 11 = .ok (.if_icmp .ge 7, 3) := dw_162 (kcX3_reachFewest_0 11 162 rfl) (kcX3_reachFewest_0 12 0 rfl) (kcX3_reachFewest_0 13 7 rfl) rfl
theorem dX3_reachFewest_18 : decode cX3_reachFewest 18 = .ok (.bipush 24, 2) := dw_16 (kcX3_reachFewest_0 18 16 rfl) (kcX3_reachFewest_0 19 24 rfl) rfl
theorem dX3_reachFewest_20 : decode cX3_reachFewest 20 = .ok (.istore_n 2, 1) := dw_61 (kcX3_reachFewest_0 20 61 rfl)
theorem dX3_reachFewest_21 : decode cX3_reachFewest 21 = .ok (.iload_n 1, 1) := dw_27 (kcX3_reachFewest_0 21 27 rfl)
theorem dX3_reachFewest_22 : decode cX3_reachFewest 22 = .ok (.bipush 12, 2) := dw_16 (kcX3_reachFewest_0 22 16 rfl) (kcX3_reachFewest_0 23 12 rfl) rfl
theorem dX3_reachFewest_24 : decode cX3_reachFewest 24 = .ok (.if_icmp .ge 8, 3) := dw_162 (kcX3_reachFewest_0 24 162 rfl) (kcX3_reachFewest_0 25 0 rfl) (kcX3_reachFewest_0 26 8 rfl) rfl
theorem dX3_reachFewest_32 : decode cX3_reachFewest 32 = .ok (.iload_n 1, 1) := dw_27 (kcX3_reachFewest_0 32 27 rfl)
theorem dX3_reachFewest_33 : decode cX3_reachFewest 33 = .ok (.istore_n 3, 1) := dw_62 (kcX3_reachFewest_0 33 62 rfl)
theorem dX3_reachFewest_34 : decode cX3_reachFewest 34 = .ok (.iconst 0, 1) := dw_3 (kcX3_reachFewest_0 34 3 rfl)
theorem dX3_reachFewest_35 : decode cX3_reachFewest 35 = .ok (.istore 4, 2) := dw_54 (kcX3_reachFewest_0 35 54 rfl) (kcX3_reachFewest_0 36 4 rfl)
theorem dX3_reachFewest_37 : decode cX3_reachFewest 37 = .ok (.iload 4, 2) := dw_21 (kcX3_reachFewest_0 37 21 rfl) (kcX3_reachFewest_0 38 4 rfl)
theorem dX3_reachFewest_39 : decode cX3_reachFewest 39 = .ok (.bipush 12, 2) := dw_16 (kcX3_reachFewest_0 39 16 rfl) (kcX3_reachFewest_0 40 12 rfl) rfl
theorem dX3_reachFewest_41 : decode cX3_reachFewest 41 = .ok (.if_icmp .ge 60, 3) := dw_162 (kcX3_reachFewest_0 41 162 rfl) (kcX3_reachFewest_0 42 0 rfl) (kcX3_reachFewest_0 43 60 rfl) rfl
theorem dX3_reachFewest_101 : decode cX3_reachFewest 101 = .ok (.iinc 1 1, 3) := dw_132 (kcX3_reachFewest_1 37 132 rfl) (kcX3_reachFewest_1 38 1 rfl) (kcX3_reachFewest_1 39 1 rfl) rfl
theorem dX3_reachFewest_104 : decode cX3_reachFewest 104 = .ok (.goto (-102), 3) := dw_167 (kcX3_reachFewest_1 40 167 rfl) (kcX3_reachFewest_1 41 255 rfl) (kcX3_reachFewest_1 42 154 rfl) rfl
theorem dX3_reachFewest_44 : decode cX3_reachFewest 44 = .ok (.aload_n 0, 1) := dw_42 (kcX3_reachFewest_0 44 42 rfl)
theorem dX3_reachFewest_45 : decode cX3_reachFewest 45 = .ok (.getfield 29, 3) := dw_180 (kcX3_reachFewest_0 45 180 rfl) (kcX3_reachFewest_0 46 0 rfl) (kcX3_reachFewest_0 47 29 rfl) rfl
theorem dX3_reachFewest_48 : decode cX3_reachFewest 48 = .ok (.iload_n 1, 1) := dw_27 (kcX3_reachFewest_0 48 27 rfl)
theorem dX3_reachFewest_49 : decode cX3_reachFewest 49 = .ok (.iaload, 1) := dw_46 (kcX3_reachFewest_0 49 46 rfl)
theorem dX3_reachFewest_50 : decode cX3_reachFewest 50 = .ok (.aload_n 0, 1) := dw_42 (kcX3_reachFewest_0 50 42 rfl)
theorem dX3_reachFewest_51 : decode cX3_reachFewest 51 = .ok (.getfield 32, 3) := dw_180 (kcX3_reachFewest_0 51 180 rfl) (kcX3_reachFewest_0 52 0 rfl) (kcX3_reachFewest_0 53 32 rfl) rfl
theorem dX3_reachFewest_54 : decode cX3_reachFewest 54 = .ok (.iload_n 1, 1) := dw_27 (kcX3_reachFewest_0 54 27 rfl)
theorem dX3_reachFewest_55 : decode cX3_reachFewest 55 = .ok (.iaload, 1) := dw_46 (kcX3_reachFewest_0 55 46 rfl)
theorem dX3_reachFewest_56 : decode cX3_reachFewest 56 = .ok (.if_icmp .ge 45, 3) := dw_162 (kcX3_reachFewest_0 56 162 rfl) (kcX3_reachFewest_0 57 0 rfl) (kcX3_reachFewest_0 58 45 rfl) rfl
theorem dX3_reachFewest_59 : decode cX3_reachFewest 59 = .ok (.aload_n 0, 1) := dw_42 (kcX3_reachFewest_0 59 42 rfl)
theorem dX3_reachFewest_60 : decode cX3_reachFewest 60 = .ok (.getfield 12, 3) := dw_180 (kcX3_reachFewest_0 60 180 rfl) (kcX3_reachFewest_0 61 0 rfl) (kcX3_reachFewest_0 62 12 rfl) rfl
theorem dX3_reachFewest_63 : decode cX3_reachFewest 63 = .ok (.iload_n 2, 1) := dw_28 (kcX3_reachFewest_0 63 28 rfl)
theorem dX3_reachFewest_64 : decode cX3_reachFewest 64 = .ok (.iload_n 3, 1) := dw_29 (kcX3_reachFewest_1 0 29 rfl)
theorem dX3_reachFewest_65 : decode cX3_reachFewest 65 = .ok (.invokevirtual 109, 3) := dw_182 (kcX3_reachFewest_1 1 182 rfl) (kcX3_reachFewest_1 2 0 rfl) (kcX3_reachFewest_1 3 109 rfl) rfl
theorem dX3_reachFewest_68 : decode cX3_reachFewest 68 = .ok (.ifCond .ne 6, 3) := dw_154 (kcX3_reachFewest_1 4 154 rfl) (kcX3_reachFewest_1 5 0 rfl) (kcX3_reachFewest_1 6 6 rfl) rfl
theorem dX3_reachFewest_74 : decode cX3_reachFewest 74 = .ok (.aload_n 0, 1) := dw_42 (kcX3_reachFewest_1 10 42 rfl)
theorem dX3_reachFewest_75 : decode cX3_reachFewest 75 = .ok (.iload_n 2, 1) := dw_28 (kcX3_reachFewest_1 11 28 rfl)
theorem dX3_reachFewest_76 : decode cX3_reachFewest 76 = .ok (.iload_n 3, 1) := dw_29 (kcX3_reachFewest_1 12 29 rfl)
theorem dX3_reachFewest_77 : decode cX3_reachFewest 77 = .ok (.invokevirtual 113, 3) := dw_182 (kcX3_reachFewest_1 13 182 rfl) (kcX3_reachFewest_1 14 0 rfl) (kcX3_reachFewest_1 15 113 rfl) rfl
theorem dX3_reachFewest_80 : decode cX3_reachFewest 80 = .ok (.aload_n 0, 1) := dw_42 (kcX3_reachFewest_1 16 42 rfl)
theorem dX3_reachFewest_81 : decode cX3_reachFewest 81 = .ok (.getfield 29, 3) := dw_180 (kcX3_reachFewest_1 17 180 rfl) (kcX3_reachFewest_1 18 0 rfl) (kcX3_reachFewest_1 19 29 rfl) rfl
theorem dX3_reachFewest_84 : decode cX3_reachFewest 84 = .ok (.iload_n 1, 1) := dw_27 (kcX3_reachFewest_1 20 27 rfl)
theorem dX3_reachFewest_85 : decode cX3_reachFewest 85 = .ok (.dup2, 1) := dw_92 (kcX3_reachFewest_1 21 92 rfl)
theorem dX3_reachFewest_86 : decode cX3_reachFewest 86 = .ok (.iaload, 1) := dw_46 (kcX3_reachFewest_1 22 46 rfl)
theorem dX3_reachFewest_87 : decode cX3_reachFewest 87 = .ok (.iconst 1, 1) := dw_4 (kcX3_reachFewest_1 23 4 rfl)
theorem dX3_reachFewest_88 : decode cX3_reachFewest 88 = .ok (.iadd, 1) := dw_96 (kcX3_reachFewest_1 24 96 rfl)
theorem dX3_reachFewest_89 : decode cX3_reachFewest 89 = .ok (.iastore, 1) := dw_79 (kcX3_reachFewest_1 25 79 rfl)
theorem dX3_reachFewest_90 : decode cX3_reachFewest 90 = .ok (.aload_n 0, 1) := dw_42 (kcX3_reachFewest_1 26 42 rfl)
theorem dX3_reachFewest_91 : decode cX3_reachFewest 91 = .ok (.iload_n 1, 1) := dw_27 (kcX3_reachFewest_1 27 27 rfl)
theorem dX3_reachFewest_92 : decode cX3_reachFewest 92 = .ok (.invokevirtual 94, 3) := dw_182 (kcX3_reachFewest_1 28 182 rfl) (kcX3_reachFewest_1 29 0 rfl) (kcX3_reachFewest_1 30 94 rfl) rfl
theorem dX3_reachFewest_95 : decode cX3_reachFewest 95 = .ok (.iinc 4 1, 3) := dw_132 (kcX3_reachFewest_1 31 132 rfl) (kcX3_reachFewest_1 32 4 rfl) (kcX3_reachFewest_1 33 1 rfl) rfl
theorem dX3_reachFewest_98 : decode cX3_reachFewest 98 = .ok (.goto (-61), 3) := dw_167 (kcX3_reachFewest_1 34 167 rfl) (kcX3_reachFewest_1 35 255 rfl) (kcX3_reachFewest_1 36 195 rfl) rfl
theorem dX3_reachFewest_14 : decode cX3_reachFewest 14 = .ok (.iload_n 1, 1) := dw_27 (kcX3_reachFewest_0 14 27 rfl)
theorem dX3_reachFewest_15 : decode cX3_reachFewest 15 = .ok (.goto 5, 3) := dw_167 (kcX3_reachFewest_0 15 167 rfl) (kcX3_reachFewest_0 16 0 rfl) (kcX3_reachFewest_0 17 5 rfl) rfl
theorem dX3_reachFewest_27 : decode cX3_reachFewest 27 = .ok (.bipush 24, 2) := dw_16 (kcX3_reachFewest_0 27 16 rfl) (kcX3_reachFewest_0 28 24 rfl) rfl
theorem dX3_reachFewest_29 : decode cX3_reachFewest 29 = .ok (.goto 4, 3) := dw_167 (kcX3_reachFewest_0 29 167 rfl) (kcX3_reachFewest_0 30 0 rfl) (kcX3_reachFewest_0 31 4 rfl) rfl
theorem kcX3_bringDown_0 : CHb cX3_bringDown 0 [3, 62, 29, 28, 162, 0, 85, 27, 29, 184, 0, 72, 54, 4, 42, 180, 0, 18, 21, 4, 46, 154, 0, 6, 167, 0, 59, 42, 180, 0, 12, 27, 16, 12, 29, 96, 3, 3, 182, 0, 105, 42, 180, 0, 22, 21, 4, 51, 153, 0, 35, 42, 180, 0, 12, 27, 16, 12, 29, 96, 182, 0, 109, 153] := CHb_of (by decide +kernel)
theorem dX3_bringDown_0 : decode cX3_bringDown 0 = .ok (.iconst 0, 1) := dw_3 (kcX3_bringDown_0 0 3 rfl)
theorem dX3_bringDown_1 : decode cX3_bringDown 1 = .ok (.istore_n 3, 1) := dw_62 (kcX3_bringDown_0 1 62 rfl)
theorem dX3_bringDown_2 : decode cX3_bringDown 2 = .ok (.iload_n 3, 1) := dw_29 (kcX3_bringDown_0 2 29 rfl)
theorem dX3_bringDown_3 : decode cX3_bringDown 3 = .ok (.iload_n 2, 1) := dw_28 (kcX3_bringDown_0 3 28 rfl)
theorem dX3_bringDown_4 : decode cX3_bringDown 4 = .ok (.if_icmp .ge 85, 3) := dw_162 (kcX3_bringDown_0 4 162 rfl) (kcX3_bringDown_0 5 0 rfl) (kcX3_bringDown_0 6 85 rfl) rfl
theorem kcX3_bringDown_1 : CHb cX3_bringDown 64 [0, 20, 42, 27, 16, 12, 29, 96, 182, 0, 113, 42, 180, 0, 22, 21, 4, 3, 84, 132, 3, 1, 167, 255, 172, 177] := CHb_of (by decide +kernel)
theorem dX3_bringDown_89 : decode cX3_bringDown 89 = .ok (.return_, 1) := dw_177 (kcX3_bringDown_1 25 177 rfl)
theorem dX3_bringDown_7 : decode cX3_bringDown 7 = .ok (.iload_n 1, 1) := dw_27 (kcX3_bringDown_0 7 27 rfl)
theorem dX3_bringDown_8 : decode cX3_bringDown 8 = .ok (.iload_n 3, 1) := dw_29 (kcX3_bringDown_0 8 29 rfl)
theorem dX3_bringDown_9 : decode cX3_bringDown 9 = .ok (.invokestatic 72, 3) := dw_184 (kcX3_bringDown_0 9 184 rfl) (kcX3_bringDown_0 10 0 rfl) (kcX3_bringDown_0 11 72 rfl) rfl
theorem dX3_bringDown_12 : decode cX3_bringDown 12 = .ok (.istore 4, 2) := dw_54 (kcX3_bringDown_0 12 54 rfl) (kcX3_bringDown_0 13 4 rfl)
theorem dX3_bringDown_14 : decode cX3_bringDown 14 = .ok (.aload_n 0, 1) := dw_42 (kcX3_bringDown_0 14 42 rfl)
theorem dX3_bringDown_15 : decode cX3_bringDown 15 = .ok (.getfield 18, 3) := dw_180 (kcX3_bringDown_0 15 180 rfl) (kcX3_bringDown_0 16 0 rfl) (kcX3_bringDown_0 17 18 rfl) rfl
theorem dX3_bringDown_18 : decode cX3_bringDown 18 = .ok (.iload 4, 2) := dw_21 (kcX3_bringDown_0 18 21 rfl) (kcX3_bringDown_0 19 4 rfl)
theorem dX3_bringDown_20 : decode cX3_bringDown 20 = .ok (.iaload, 1) := dw_46 (kcX3_bringDown_0 20 46 rfl)
theorem dX3_bringDown_21 : decode cX3_bringDown 21 = .ok (.ifCond .ne 6, 3) := dw_154 (kcX3_bringDown_0 21 154 rfl) (kcX3_bringDown_0 22 0 rfl) (kcX3_bringDown_0 23 6 rfl) rfl
theorem dX3_bringDown_27 : decode cX3_bringDown 27 = .ok (.aload_n 0, 1) := dw_42 (kcX3_bringDown_0 27 42 rfl)
theorem dX3_bringDown_28 : decode cX3_bringDown 28 = .ok (.getfield 12, 3) := dw_180 (kcX3_bringDown_0 28 180 rfl) (kcX3_bringDown_0 29 0 rfl) (kcX3_bringDown_0 30 12 rfl) rfl
theorem dX3_bringDown_31 : decode cX3_bringDown 31 = .ok (.iload_n 1, 1) := dw_27 (kcX3_bringDown_0 31 27 rfl)
theorem dX3_bringDown_32 : decode cX3_bringDown 32 = .ok (.bipush 12, 2) := dw_16 (kcX3_bringDown_0 32 16 rfl) (kcX3_bringDown_0 33 12 rfl) rfl
theorem dX3_bringDown_34 : decode cX3_bringDown 34 = .ok (.iload_n 3, 1) := dw_29 (kcX3_bringDown_0 34 29 rfl)
theorem dX3_bringDown_35 : decode cX3_bringDown 35 = .ok (.iadd, 1) := dw_96 (kcX3_bringDown_0 35 96 rfl)
theorem dX3_bringDown_36 : decode cX3_bringDown 36 = .ok (.iconst 0, 1) := dw_3 (kcX3_bringDown_0 36 3 rfl)
theorem dX3_bringDown_37 : decode cX3_bringDown 37 = .ok (.iconst 0, 1) := dw_3 (kcX3_bringDown_0 37 3 rfl)
theorem dX3_bringDown_38 : decode cX3_bringDown 38 = .ok (.invokevirtual 105, 3) := dw_182 (kcX3_bringDown_0 38 182 rfl) (kcX3_bringDown_0 39 0 rfl) (kcX3_bringDown_0 40 105 rfl) rfl
theorem dX3_bringDown_41 : decode cX3_bringDown 41 = .ok (.aload_n 0, 1) := dw_42 (kcX3_bringDown_0 41 42 rfl)
theorem dX3_bringDown_42 : decode cX3_bringDown 42 = .ok (.getfield 22, 3) := dw_180 (kcX3_bringDown_0 42 180 rfl) (kcX3_bringDown_0 43 0 rfl) (kcX3_bringDown_0 44 22 rfl) rfl
theorem dX3_bringDown_45 : decode cX3_bringDown 45 = .ok (.iload 4, 2) := dw_21 (kcX3_bringDown_0 45 21 rfl) (kcX3_bringDown_0 46 4 rfl)
theorem dX3_bringDown_47 : decode cX3_bringDown 47 = .ok (.baload, 1) := dw_51 (kcX3_bringDown_0 47 51 rfl)
theorem dX3_bringDown_48 : decode cX3_bringDown 48 = .ok (.ifCond .eq 35, 3) := dw_153 (kcX3_bringDown_0 48 153 rfl) (kcX3_bringDown_0 49 0 rfl) (kcX3_bringDown_0 50 35 rfl) rfl
theorem dX3_bringDown_51 : decode cX3_bringDown 51 = .ok (.aload_n 0, 1) := dw_42 (kcX3_bringDown_0 51 42 rfl)
theorem dX3_bringDown_52 : decode cX3_bringDown 52 = .ok (.getfield 12, 3) := dw_180 (kcX3_bringDown_0 52 180 rfl) (kcX3_bringDown_0 53 0 rfl) (kcX3_bringDown_0 54 12 rfl) rfl
theorem dX3_bringDown_55 : decode cX3_bringDown 55 = .ok (.iload_n 1, 1) := dw_27 (kcX3_bringDown_0 55 27 rfl)
theorem dX3_bringDown_56 : decode cX3_bringDown 56 = .ok (.bipush 12, 2) := dw_16 (kcX3_bringDown_0 56 16 rfl) (kcX3_bringDown_0 57 12 rfl) rfl
theorem dX3_bringDown_58 : decode cX3_bringDown 58 = .ok (.iload_n 3, 1) := dw_29 (kcX3_bringDown_0 58 29 rfl)
theorem dX3_bringDown_59 : decode cX3_bringDown 59 = .ok (.iadd, 1) := dw_96 (kcX3_bringDown_0 59 96 rfl)
theorem dX3_bringDown_60 : decode cX3_bringDown 60 = .ok (.invokevirtual 109, 3) := dw_182 (kcX3_bringDown_0 60 182 rfl) (kcX3_bringDown_0 61 0 rfl) (kcX3_bringDown_0 62 109 rfl) rfl
theorem dX3_bringDown_63 : decode cX3_bringDown 63 = .ok (.ifCond .eq 20, 3) := dw_153 (kcX3_bringDown_0 63 153 rfl) (kcX3_bringDown_1 0 0 rfl) (kcX3_bringDown_1 1 20 rfl) rfl
theorem dX3_bringDown_66 : decode cX3_bringDown 66 = .ok (.aload_n 0, 1) := dw_42 (kcX3_bringDown_1 2 42 rfl)
theorem dX3_bringDown_67 : decode cX3_bringDown 67 = .ok (.iload_n 1, 1) := dw_27 (kcX3_bringDown_1 3 27 rfl)
theorem dX3_bringDown_68 : decode cX3_bringDown 68 = .ok (.bipush 12, 2) := dw_16 (kcX3_bringDown_1 4 16 rfl) (kcX3_bringDown_1 5 12 rfl) rfl
theorem dX3_bringDown_70 : decode cX3_bringDown 70 = .ok (.iload_n 3, 1) := dw_29 (kcX3_bringDown_1 6 29 rfl)
theorem dX3_bringDown_71 : decode cX3_bringDown 71 = .ok (.iadd, 1) := dw_96 (kcX3_bringDown_1 7 96 rfl)
theorem dX3_bringDown_72 : decode cX3_bringDown 72 = .ok (.invokevirtual 113, 3) := dw_182 (kcX3_bringDown_1 8 182 rfl) (kcX3_bringDown_1 9 0 rfl) (kcX3_bringDown_1 10 113 rfl) rfl
theorem dX3_bringDown_75 : decode cX3_bringDown 75 = .ok (.aload_n 0, 1) := dw_42 (kcX3_bringDown_1 11 42 rfl)
theorem dX3_bringDown_76 : decode cX3_bringDown 76 = .ok (.getfield 22, 3) := dw_180 (kcX3_bringDown_1 12 180 rfl) (kcX3_bringDown_1 13 0 rfl) (kcX3_bringDown_1 14 22 rfl) rfl
theorem dX3_bringDown_79 : decode cX3_bringDown 79 = .ok (.iload 4, 2) := dw_21 (kcX3_bringDown_1 15 21 rfl) (kcX3_bringDown_1 16 4 rfl)
theorem dX3_bringDown_81 : decode cX3_bringDown 81 = .ok (.iconst 0, 1) := dw_3 (kcX3_bringDown_1 17 3 rfl)
theorem dX3_bringDown_82 : decode cX3_bringDown 82 = .ok (.bastore, 1) := dw_84 (kcX3_bringDown_1 18 84 rfl)
theorem dX3_bringDown_24 : decode cX3_bringDown 24 = .ok (.goto 59, 3) := dw_167 (kcX3_bringDown_0 24 167 rfl) (kcX3_bringDown_0 25 0 rfl) (kcX3_bringDown_0 26 59 rfl) rfl
theorem dX3_bringDown_83 : decode cX3_bringDown 83 = .ok (.iinc 3 1, 3) := dw_132 (kcX3_bringDown_1 19 132 rfl) (kcX3_bringDown_1 20 3 rfl) (kcX3_bringDown_1 21 1 rfl) rfl
theorem dX3_bringDown_86 : decode cX3_bringDown 86 = .ok (.goto (-84), 3) := dw_167 (kcX3_bringDown_1 22 167 rfl) (kcX3_bringDown_1 23 255 rfl) (kcX3_bringDown_1 24 172 rfl) rfl
theorem kcX3_layRow_0 : CHb cX3_layRow 0 [3, 54, 4, 21, 4, 43, 180, 0, 68, 162, 0, 110, 28, 21, 4, 184, 0, 72, 54, 5, 42, 180, 0, 18, 21, 5, 29, 158, 0, 15, 43, 180, 0, 76, 21, 5, 46, 29, 112, 167, 0, 4, 3, 79, 42, 180, 0, 22, 21, 5, 3, 84, 42, 180, 0, 26, 28, 92, 46, 42, 180, 0, 18, 21] := CHb_of (by decide +kernel)
theorem dX3_layRow_0 : decode cX3_layRow 0 = .ok (.iconst 0, 1) := dw_3 (kcX3_layRow_0 0 3 rfl)
theorem dX3_layRow_1 : decode cX3_layRow 1 = .ok (.istore 4, 2) := dw_54 (kcX3_layRow_0 1 54 rfl) (kcX3_layRow_0 2 4 rfl)
theorem dX3_layRow_3 : decode cX3_layRow 3 = .ok (.iload 4, 2) := dw_21 (kcX3_layRow_0 3 21 rfl) (kcX3_layRow_0 4 4 rfl)
theorem dX3_layRow_5 : decode cX3_layRow 5 = .ok (.aload_n 1, 1) := dw_43 (kcX3_layRow_0 5 43 rfl)
theorem dX3_layRow_6 : decode cX3_layRow 6 = .ok (.getfield 68, 3) := dw_180 (kcX3_layRow_0 6 180 rfl) (kcX3_layRow_0 7 0 rfl) (kcX3_layRow_0 8 68 rfl) rfl
theorem dX3_layRow_9 : decode cX3_layRow 9 = .ok (.if_icmp .ge 110, 3) := dw_162 (kcX3_layRow_0 9 162 rfl) (kcX3_layRow_0 10 0 rfl) (kcX3_layRow_0 11 110 rfl) rfl
theorem kcX3_layRow_1 : CHb cX3_layRow 64 [5, 46, 96, 79, 42, 180, 0, 26, 16, 12, 21, 4, 96, 92, 46, 42, 180, 0, 18, 21, 5, 46, 96, 79, 42, 180, 0, 18, 21, 5, 46, 158, 0, 18, 42, 180, 0, 12, 28, 16, 12, 21, 4, 96, 4, 3, 182, 0, 105, 132, 4, 1, 167, 255, 143, 177] := CHb_of (by decide +kernel)
theorem dX3_layRow_119 : decode cX3_layRow 119 = .ok (.return_, 1) := dw_177 (kcX3_layRow_1 55 177 rfl)
theorem dX3_layRow_12 : decode cX3_layRow 12 = .ok (.iload_n 2, 1) := dw_28 (kcX3_layRow_0 12 28 rfl)
theorem dX3_layRow_13 : decode cX3_layRow 13 = .ok (.iload 4, 2) := dw_21 (kcX3_layRow_0 13 21 rfl) (kcX3_layRow_0 14 4 rfl)
theorem dX3_layRow_15 : decode cX3_layRow 15 = .ok (.invokestatic 72, 3) := dw_184 (kcX3_layRow_0 15 184 rfl) (kcX3_layRow_0 16 0 rfl) (kcX3_layRow_0 17 72 rfl) rfl
theorem dX3_layRow_18 : decode cX3_layRow 18 = .ok (.istore 5, 2) := dw_54 (kcX3_layRow_0 18 54 rfl) (kcX3_layRow_0 19 5 rfl)
theorem dX3_layRow_20 : decode cX3_layRow 20 = .ok (.aload_n 0, 1) := dw_42 (kcX3_layRow_0 20 42 rfl)
theorem dX3_layRow_21 : decode cX3_layRow 21 = .ok (.getfield 18, 3) := dw_180 (kcX3_layRow_0 21 180 rfl) (kcX3_layRow_0 22 0 rfl) (kcX3_layRow_0 23 18 rfl) rfl
theorem dX3_layRow_24 : decode cX3_layRow 24 = .ok (.iload 5, 2) := dw_21 (kcX3_layRow_0 24 21 rfl) (kcX3_layRow_0 25 5 rfl)
theorem dX3_layRow_26 : decode cX3_layRow 26 = .ok (.iload_n 3, 1) := dw_29 (kcX3_layRow_0 26 29 rfl)
theorem dX3_layRow_27 : decode cX3_layRow 27 = .ok (.ifCond .le 15, 3) := dw_158 (kcX3_layRow_0 27 158 rfl) (kcX3_layRow_0 28 0 rfl) (kcX3_layRow_0 29 15 rfl) rfl
theorem dX3_layRow_30 : decode cX3_layRow 30 = .ok (.aload_n 1, 1) := dw_43 (kcX3_layRow_0 30 43 rfl)
theorem dX3_layRow_31 : decode cX3_layRow 31 = .ok (.getfield 76, 3) := dw_180 (kcX3_layRow_0 31 180 rfl) (kcX3_layRow_0 32 0 rfl) (kcX3_layRow_0 33 76 rfl) rfl
theorem dX3_layRow_34 : decode cX3_layRow 34 = .ok (.iload 5, 2) := dw_21 (kcX3_layRow_0 34 21 rfl) (kcX3_layRow_0 35 5 rfl)
theorem dX3_layRow_36 : decode cX3_layRow 36 = .ok (.iaload, 1) := dw_46 (kcX3_layRow_0 36 46 rfl)
theorem dX3_layRow_37 : decode cX3_layRow 37 = .ok (.iload_n 3, 1) := dw_29 (kcX3_layRow_0 37 29 rfl)
theorem dX3_layRow_38 : decode cX3_layRow 38 = .ok (.irem, 1) := dw_112 (kcX3_layRow_0 38 112 rfl)
theorem dX3_layRow_39 : decode cX3_layRow 39 = .ok (.goto 4, 3) := dw_167 (kcX3_layRow_0 39 167 rfl) (kcX3_layRow_0 40 0 rfl) (kcX3_layRow_0 41 4 rfl) rfl
theorem dX3_layRow_43 : decode cX3_layRow 43 = .ok (.iastore, 1) := dw_79 (kcX3_layRow_0 43 79 rfl)
theorem dX3_layRow_44 : decode cX3_layRow 44 = .ok (.aload_n 0, 1) := dw_42 (kcX3_layRow_0 44 42 rfl)
theorem dX3_layRow_45 : decode cX3_layRow 45 = .ok (.getfield 22, 3) := dw_180 (kcX3_layRow_0 45 180 rfl) (kcX3_layRow_0 46 0 rfl) (kcX3_layRow_0 47 22 rfl) rfl
theorem dX3_layRow_48 : decode cX3_layRow 48 = .ok (.iload 5, 2) := dw_21 (kcX3_layRow_0 48 21 rfl) (kcX3_layRow_0 49 5 rfl)
theorem dX3_layRow_50 : decode cX3_layRow 50 = .ok (.iconst 0, 1) := dw_3 (kcX3_layRow_0 50 3 rfl)
theorem dX3_layRow_51 : decode cX3_layRow 51 = .ok (.bastore, 1) := dw_84 (kcX3_layRow_0 51 84 rfl)
theorem dX3_layRow_52 : decode cX3_layRow 52 = .ok (.aload_n 0, 1) := dw_42 (kcX3_layRow_0 52 42 rfl)
theorem dX3_layRow_53 : decode cX3_layRow 53 = .ok (.getfield 26, 3) := dw_180 (kcX3_layRow_0 53 180 rfl) (kcX3_layRow_0 54 0 rfl) (kcX3_layRow_0 55 26 rfl) rfl
theorem dX3_layRow_56 : decode cX3_layRow 56 = .ok (.iload_n 2, 1) := dw_28 (kcX3_layRow_0 56 28 rfl)
theorem dX3_layRow_57 : decode cX3_layRow 57 = .ok (.dup2, 1) := dw_92 (kcX3_layRow_0 57 92 rfl)
theorem dX3_layRow_58 : decode cX3_layRow 58 = .ok (.iaload, 1) := dw_46 (kcX3_layRow_0 58 46 rfl)
theorem dX3_layRow_59 : decode cX3_layRow 59 = .ok (.aload_n 0, 1) := dw_42 (kcX3_layRow_0 59 42 rfl)
theorem dX3_layRow_60 : decode cX3_layRow 60 = .ok (.getfield 18, 3) := dw_180 (kcX3_layRow_0 60 180 rfl) (kcX3_layRow_0 61 0 rfl) (kcX3_layRow_0 62 18 rfl) rfl
theorem dX3_layRow_63 : decode cX3_layRow 63 = .ok (.iload 5, 2) := dw_21 (kcX3_layRow_0 63 21 rfl) (kcX3_layRow_1 0 5 rfl)
theorem dX3_layRow_65 : decode cX3_layRow 65 = .ok (.iaload, 1) := dw_46 (kcX3_layRow_1 1 46 rfl)
theorem dX3_layRow_66 : decode cX3_layRow 66 = .ok (.iadd, 1) := dw_96 (kcX3_layRow_1 2 96 rfl)
theorem dX3_layRow_67 : decode cX3_layRow 67 = .ok (.iastore, 1) := dw_79 (kcX3_layRow_1 3 79 rfl)
theorem dX3_layRow_68 : decode cX3_layRow 68 = .ok (.aload_n 0, 1) := dw_42 (kcX3_layRow_1 4 42 rfl)
theorem dX3_layRow_69 : decode cX3_layRow 69 = .ok (.getfield 26, 3) := dw_180 (kcX3_layRow_1 5 180 rfl) (kcX3_layRow_1 6 0 rfl) (kcX3_layRow_1 7 26 rfl) rfl
theorem dX3_layRow_72 : decode cX3_layRow 72 = .ok (.bipush 12, 2) := dw_16 (kcX3_layRow_1 8 16 rfl) (kcX3_layRow_1 9 12 rfl) rfl
theorem dX3_layRow_74 : decode cX3_layRow 74 = .ok (.iload 4, 2) := dw_21 (kcX3_layRow_1 10 21 rfl) (kcX3_layRow_1 11 4 rfl)
theorem dX3_layRow_76 : decode cX3_layRow 76 = .ok (.iadd, 1) := dw_96 (kcX3_layRow_1 12 96 rfl)
theorem dX3_layRow_77 : decode cX3_layRow 77 = .ok (.dup2, 1) := dw_92 (kcX3_layRow_1 13 92 rfl)
theorem dX3_layRow_78 : decode cX3_layRow 78 = .ok (.iaload, 1) := dw_46 (kcX3_layRow_1 14 46 rfl)
theorem dX3_layRow_79 : decode cX3_layRow 79 = .ok (.aload_n 0, 1) := dw_42 (kcX3_layRow_1 15 42 rfl)
theorem dX3_layRow_80 : decode cX3_layRow 80 = .ok (.getfield 18, 3) := dw_180 (kcX3_layRow_1 16 180 rfl) (kcX3_layRow_1 17 0 rfl) (kcX3_layRow_1 18 18 rfl) rfl
theorem dX3_layRow_83 : decode cX3_layRow 83 = .ok (.iload 5, 2) := dw_21 (kcX3_layRow_1 19 21 rfl) (kcX3_layRow_1 20 5 rfl)
theorem dX3_layRow_85 : decode cX3_layRow 85 = .ok (.iaload, 1) := dw_46 (kcX3_layRow_1 21 46 rfl)
theorem dX3_layRow_86 : decode cX3_layRow 86 = .ok (.iadd, 1) := dw_96 (kcX3_layRow_1 22 96 rfl)
theorem dX3_layRow_87 : decode cX3_layRow 87 = .ok (.iastore, 1) := dw_79 (kcX3_layRow_1 23 79 rfl)
theorem dX3_layRow_88 : decode cX3_layRow 88 = .ok (.aload_n 0, 1) := dw_42 (kcX3_layRow_1 24 42 rfl)
theorem dX3_layRow_89 : decode cX3_layRow 89 = .ok (.getfield 18, 3) := dw_180 (kcX3_layRow_1 25 180 rfl) (kcX3_layRow_1 26 0 rfl) (kcX3_layRow_1 27 18 rfl) rfl
theorem dX3_layRow_92 : decode cX3_layRow 92 = .ok (.iload 5, 2) := dw_21 (kcX3_layRow_1 28 21 rfl) (kcX3_layRow_1 29 5 rfl)
theorem dX3_layRow_94 : decode cX3_layRow 94 = .ok (.iaload, 1) := dw_46 (kcX3_layRow_1 30 46 rfl)
theorem dX3_layRow_95 : decode cX3_layRow 95 = .ok (.ifCond .le 18, 3) := dw_158 (kcX3_layRow_1 31 158 rfl) (kcX3_layRow_1 32 0 rfl) (kcX3_layRow_1 33 18 rfl) rfl
theorem dX3_layRow_98 : decode cX3_layRow 98 = .ok (.aload_n 0, 1) := dw_42 (kcX3_layRow_1 34 42 rfl)
theorem dX3_layRow_99 : decode cX3_layRow 99 = .ok (.getfield 12, 3) := dw_180 (kcX3_layRow_1 35 180 rfl) (kcX3_layRow_1 36 0 rfl) (kcX3_layRow_1 37 12 rfl) rfl
theorem dX3_layRow_102 : decode cX3_layRow 102 = .ok (.iload_n 2, 1) := dw_28 (kcX3_layRow_1 38 28 rfl)
theorem dX3_layRow_103 : decode cX3_layRow 103 = .ok (.bipush 12, 2) := dw_16 (kcX3_layRow_1 39 16 rfl) (kcX3_layRow_1 40 12 rfl) rfl
theorem dX3_layRow_105 : decode cX3_layRow 105 = .ok (.iload 4, 2) := dw_21 (kcX3_layRow_1 41 21 rfl) (kcX3_layRow_1 42 4 rfl)
theorem dX3_layRow_107 : decode cX3_layRow 107 = .ok (.iadd, 1) := dw_96 (kcX3_layRow_1 43 96 rfl)
theorem dX3_layRow_108 : decode cX3_layRow 108 = .ok (.iconst 1, 1) := dw_4 (kcX3_layRow_1 44 4 rfl)
theorem dX3_layRow_109 : decode cX3_layRow 109 = .ok (.iconst 0, 1) := dw_3 (kcX3_layRow_1 45 3 rfl)
theorem dX3_layRow_110 : decode cX3_layRow 110 = .ok (.invokevirtual 105, 3) := dw_182 (kcX3_layRow_1 46 182 rfl) (kcX3_layRow_1 47 0 rfl) (kcX3_layRow_1 48 105 rfl) rfl
theorem dX3_layRow_113 : decode cX3_layRow 113 = .ok (.iinc 4 1, 3) := dw_132 (kcX3_layRow_1 49 132 rfl) (kcX3_layRow_1 50 4 rfl) (kcX3_layRow_1 51 1 rfl) rfl
theorem dX3_layRow_116 : decode cX3_layRow 116 = .ok (.goto (-113), 3) := dw_167 (kcX3_layRow_1 52 167 rfl) (kcX3_layRow_1 53 255 rfl) (kcX3_layRow_1 54 143 rfl) rfl
theorem kcX3_isFirstOfClass_0 : CHb cX3_isFirstOfClass 0 [3, 62, 29, 28, 162, 0, 35, 43, 180, 0, 47, 29, 51, 153, 0, 20, 43, 180, 0, 54, 29, 46, 43, 180, 0, 54, 28, 46, 160, 0, 5, 3, 172, 132, 3, 1, 167, 255, 222, 4, 172] := CHb_of (by decide +kernel)
theorem dX3_isFirstOfClass_0 : decode cX3_isFirstOfClass 0 = .ok (.iconst 0, 1) := dw_3 (kcX3_isFirstOfClass_0 0 3 rfl)
theorem dX3_isFirstOfClass_1 : decode cX3_isFirstOfClass 1 = .ok (.istore_n 3, 1) := dw_62 (kcX3_isFirstOfClass_0 1 62 rfl)
theorem dX3_isFirstOfClass_2 : decode cX3_isFirstOfClass 2 = .ok (.iload_n 3, 1) := dw_29 (kcX3_isFirstOfClass_0 2 29 rfl)
theorem dX3_isFirstOfClass_3 : decode cX3_isFirstOfClass 3 = .ok (.iload_n 2, 1) := dw_28 (kcX3_isFirstOfClass_0 3 28 rfl)
theorem dX3_isFirstOfClass_4 : decode cX3_isFirstOfClass 4 = .ok (.if_icmp .ge 35, 3) := dw_162 (kcX3_isFirstOfClass_0 4 162 rfl) (kcX3_isFirstOfClass_0 5 0 rfl) (kcX3_isFirstOfClass_0 6 35 rfl) rfl
theorem dX3_isFirstOfClass_39 : decode cX3_isFirstOfClass 39 = .ok (.iconst 1, 1) := dw_4 (kcX3_isFirstOfClass_0 39 4 rfl)
theorem dX3_isFirstOfClass_40 : decode cX3_isFirstOfClass 40 = .ok (.ireturn, 1) := dw_172 (kcX3_isFirstOfClass_0 40 172 rfl)
theorem dX3_isFirstOfClass_7 : decode cX3_isFirstOfClass 7 = .ok (.aload_n 1, 1) := dw_43 (kcX3_isFirstOfClass_0 7 43 rfl)
theorem dX3_isFirstOfClass_8 : decode cX3_isFirstOfClass 8 = .ok (.getfield 47, 3) := dw_180 (kcX3_isFirstOfClass_0 8 180 rfl) (kcX3_isFirstOfClass_0 9 0 rfl) (kcX3_isFirstOfClass_0 10 47 rfl) rfl
theorem dX3_isFirstOfClass_11 : decode cX3_isFirstOfClass 11 = .ok (.iload_n 3, 1) := dw_29 (kcX3_isFirstOfClass_0 11 29 rfl)
theorem dX3_isFirstOfClass_12 : decode cX3_isFirstOfClass 12 = .ok (.baload, 1) := dw_51 (kcX3_isFirstOfClass_0 12 51 rfl)
theorem dX3_isFirstOfClass_13 : decode cX3_isFirstOfClass 13 = .ok (.ifCond .eq 20, 3) := dw_153 (kcX3_isFirstOfClass_0 13 153 rfl) (kcX3_isFirstOfClass_0 14 0 rfl) (kcX3_isFirstOfClass_0 15 20 rfl) rfl
theorem dX3_isFirstOfClass_33 : decode cX3_isFirstOfClass 33 = .ok (.iinc 3 1, 3) := dw_132 (kcX3_isFirstOfClass_0 33 132 rfl) (kcX3_isFirstOfClass_0 34 3 rfl) (kcX3_isFirstOfClass_0 35 1 rfl) rfl
theorem dX3_isFirstOfClass_36 : decode cX3_isFirstOfClass 36 = .ok (.goto (-34), 3) := dw_167 (kcX3_isFirstOfClass_0 36 167 rfl) (kcX3_isFirstOfClass_0 37 255 rfl) (kcX3_isFirstOfClass_0 38 222 rfl) rfl
theorem dX3_isFirstOfClass_16 : decode cX3_isFirstOfClass 16 = .ok (.aload_n 1, 1) := dw_43 (kcX3_isFirstOfClass_0 16 43 rfl)
theorem dX3_isFirstOfClass_17 : decode cX3_isFirstOfClass 17 = .ok (.getfield 54, 3) := dw_180 (kcX3_isFirstOfClass_0 17 180 rfl) (kcX3_isFirstOfClass_0 18 0 rfl) (kcX3_isFirstOfClass_0 19 54 rfl) rfl
theorem dX3_isFirstOfClass_20 : decode cX3_isFirstOfClass 20 = .ok (.iload_n 3, 1) := dw_29 (kcX3_isFirstOfClass_0 20 29 rfl)
theorem dX3_isFirstOfClass_21 : decode cX3_isFirstOfClass 21 = .ok (.iaload, 1) := dw_46 (kcX3_isFirstOfClass_0 21 46 rfl)
theorem dX3_isFirstOfClass_22 : decode cX3_isFirstOfClass 22 = .ok (.aload_n 1, 1) := dw_43 (kcX3_isFirstOfClass_0 22 43 rfl)
theorem dX3_isFirstOfClass_23 : decode cX3_isFirstOfClass 23 = .ok (.getfield 54, 3) := dw_180 (kcX3_isFirstOfClass_0 23 180 rfl) (kcX3_isFirstOfClass_0 24 0 rfl) (kcX3_isFirstOfClass_0 25 54 rfl) rfl
theorem dX3_isFirstOfClass_26 : decode cX3_isFirstOfClass 26 = .ok (.iload_n 2, 1) := dw_28 (kcX3_isFirstOfClass_0 26 28 rfl)
theorem dX3_isFirstOfClass_27 : decode cX3_isFirstOfClass 27 = .ok (.iaload, 1) := dw_46 (kcX3_isFirstOfClass_0 27 46 rfl)
theorem dX3_isFirstOfClass_28 : decode cX3_isFirstOfClass 28 = .ok (.if_icmp .ne 5, 3) := dw_160 (kcX3_isFirstOfClass_0 28 160 rfl) (kcX3_isFirstOfClass_0 29 0 rfl) (kcX3_isFirstOfClass_0 30 5 rfl) rfl
theorem dX3_isFirstOfClass_31 : decode cX3_isFirstOfClass 31 = .ok (.iconst 0, 1) := dw_3 (kcX3_isFirstOfClass_0 31 3 rfl)
theorem dX3_isFirstOfClass_32 : decode cX3_isFirstOfClass 32 = .ok (.ireturn, 1) := dw_172 (kcX3_isFirstOfClass_0 32 172 rfl)
theorem kcX3_roundClass_0 : CHb cX3_roundClass 0 [42, 180, 0, 12, 182, 0, 82, 42, 180, 0, 29, 3, 184, 0, 85, 42, 180, 0, 26, 3, 184, 0, 85, 3, 54, 4, 21, 4, 43, 180, 0, 41, 162, 0, 60, 42, 180, 0, 38, 21, 4, 43, 180, 0, 47, 21, 4, 51, 153, 0, 18, 43, 180, 0, 54, 21, 4, 46, 28, 160, 0, 7, 4, 167] := CHb_of (by decide +kernel)
theorem dX3_roundClass_0 : decode cX3_roundClass 0 = .ok (.aload_n 0, 1) := dw_42 (kcX3_roundClass_0 0 42 rfl)
theorem dX3_roundClass_1 : decode cX3_roundClass 1 = .ok (.getfield 12, 3) := dw_180 (kcX3_roundClass_0 1 180 rfl) (kcX3_roundClass_0 2 0 rfl) (kcX3_roundClass_0 3 12 rfl) rfl
theorem dX3_roundClass_4 : decode cX3_roundClass 4 = .ok (.invokevirtual 82, 3) := dw_182 (kcX3_roundClass_0 4 182 rfl) (kcX3_roundClass_0 5 0 rfl) (kcX3_roundClass_0 6 82 rfl) rfl
theorem dX3_roundClass_7 : decode cX3_roundClass 7 = .ok (.aload_n 0, 1) := dw_42 (kcX3_roundClass_0 7 42 rfl)
theorem dX3_roundClass_8 : decode cX3_roundClass 8 = .ok (.getfield 29, 3) := dw_180 (kcX3_roundClass_0 8 180 rfl) (kcX3_roundClass_0 9 0 rfl) (kcX3_roundClass_0 10 29 rfl) rfl
theorem dX3_roundClass_11 : decode cX3_roundClass 11 = .ok (.iconst 0, 1) := dw_3 (kcX3_roundClass_0 11 3 rfl)
theorem dX3_roundClass_12 : decode cX3_roundClass 12 = .ok (.invokestatic 85, 3) := dw_184 (kcX3_roundClass_0 12 184 rfl) (kcX3_roundClass_0 13 0 rfl) (kcX3_roundClass_0 14 85 rfl) rfl
theorem dX3_roundClass_15 : decode cX3_roundClass 15 = .ok (.aload_n 0, 1) := dw_42 (kcX3_roundClass_0 15 42 rfl)
theorem dX3_roundClass_16 : decode cX3_roundClass 16 = .ok (.getfield 26, 3) := dw_180 (kcX3_roundClass_0 16 180 rfl) (kcX3_roundClass_0 17 0 rfl) (kcX3_roundClass_0 18 26 rfl) rfl
theorem dX3_roundClass_19 : decode cX3_roundClass 19 = .ok (.iconst 0, 1) := dw_3 (kcX3_roundClass_0 19 3 rfl)
theorem dX3_roundClass_20 : decode cX3_roundClass 20 = .ok (.invokestatic 85, 3) := dw_184 (kcX3_roundClass_0 20 184 rfl) (kcX3_roundClass_0 21 0 rfl) (kcX3_roundClass_0 22 85 rfl) rfl
theorem dX3_roundClass_23 : decode cX3_roundClass 23 = .ok (.iconst 0, 1) := dw_3 (kcX3_roundClass_0 23 3 rfl)
theorem dX3_roundClass_24 : decode cX3_roundClass 24 = .ok (.istore 4, 2) := dw_54 (kcX3_roundClass_0 24 54 rfl) (kcX3_roundClass_0 25 4 rfl)
theorem dX3_roundClass_26 : decode cX3_roundClass 26 = .ok (.iload 4, 2) := dw_21 (kcX3_roundClass_0 26 21 rfl) (kcX3_roundClass_0 27 4 rfl)
theorem dX3_roundClass_28 : decode cX3_roundClass 28 = .ok (.aload_n 1, 1) := dw_43 (kcX3_roundClass_0 28 43 rfl)
theorem dX3_roundClass_29 : decode cX3_roundClass 29 = .ok (.getfield 41, 3) := dw_180 (kcX3_roundClass_0 29 180 rfl) (kcX3_roundClass_0 30 0 rfl) (kcX3_roundClass_0 31 41 rfl) rfl
theorem dX3_roundClass_32 : decode cX3_roundClass 32 = .ok (.if_icmp .ge 60, 3) := dw_162 (kcX3_roundClass_0 32 162 rfl) (kcX3_roundClass_0 33 0 rfl) (kcX3_roundClass_0 34 60 rfl) rfl
theorem dX3_roundClass_35 : decode cX3_roundClass 35 = .ok (.aload_n 0, 1) := dw_42 (kcX3_roundClass_0 35 42 rfl)
theorem dX3_roundClass_36 : decode cX3_roundClass 36 = .ok (.getfield 38, 3) := dw_180 (kcX3_roundClass_0 36 180 rfl) (kcX3_roundClass_0 37 0 rfl) (kcX3_roundClass_0 38 38 rfl) rfl
theorem dX3_roundClass_39 : decode cX3_roundClass 39 = .ok (.iload 4, 2) := dw_21 (kcX3_roundClass_0 39 21 rfl) (kcX3_roundClass_0 40 4 rfl)
theorem dX3_roundClass_41 : decode cX3_roundClass 41 = .ok (.aload_n 1, 1) := dw_43 (kcX3_roundClass_0 41 43 rfl)
theorem dX3_roundClass_42 : decode cX3_roundClass 42 = .ok (.getfield 47, 3) := dw_180 (kcX3_roundClass_0 42 180 rfl) (kcX3_roundClass_0 43 0 rfl) (kcX3_roundClass_0 44 47 rfl) rfl
theorem dX3_roundClass_45 : decode cX3_roundClass 45 = .ok (.iload 4, 2) := dw_21 (kcX3_roundClass_0 45 21 rfl) (kcX3_roundClass_0 46 4 rfl)
theorem dX3_roundClass_47 : decode cX3_roundClass 47 = .ok (.baload, 1) := dw_51 (kcX3_roundClass_0 47 51 rfl)
theorem dX3_roundClass_48 : decode cX3_roundClass 48 = .ok (.ifCond .eq 18, 3) := dw_153 (kcX3_roundClass_0 48 153 rfl) (kcX3_roundClass_0 49 0 rfl) (kcX3_roundClass_0 50 18 rfl) rfl
theorem kcX3_roundClass_1 : CHb cX3_roundClass 64 [0, 4, 3, 84, 42, 180, 0, 38, 21, 4, 51, 153, 0, 11, 42, 43, 21, 4, 29, 182, 0, 91, 132, 4, 1, 167, 255, 193, 3, 54, 4, 21, 4, 16, 24, 162, 0, 67, 42, 180, 0, 32, 21, 4, 29, 158, 0, 15, 42, 180, 0, 26, 21, 4, 46, 29, 108, 167, 0, 4, 3, 79, 42, 180] := CHb_of (by decide +kernel)
theorem dX3_roundClass_66 : decode cX3_roundClass 66 = .ok (.iconst 0, 1) := dw_3 (kcX3_roundClass_1 2 3 rfl)
theorem dX3_roundClass_51 : decode cX3_roundClass 51 = .ok (.aload_n 1, 1) := dw_43 (kcX3_roundClass_0 51 43 rfl)
theorem dX3_roundClass_52 : decode cX3_roundClass 52 = .ok (.getfield 54, 3) := dw_180 (kcX3_roundClass_0 52 180 rfl) (kcX3_roundClass_0 53 0 rfl) (kcX3_roundClass_0 54 54 rfl) rfl
theorem dX3_roundClass_55 : decode cX3_roundClass 55 = .ok (.iload 4, 2) := dw_21 (kcX3_roundClass_0 55 21 rfl) (kcX3_roundClass_0 56 4 rfl)
theorem dX3_roundClass_57 : decode cX3_roundClass 57 = .ok (.iaload, 1) := dw_46 (kcX3_roundClass_0 57 46 rfl)
theorem dX3_roundClass_58 : decode cX3_roundClass 58 = .ok (.iload_n 2, 1) := dw_28 (kcX3_roundClass_0 58 28 rfl)
theorem dX3_roundClass_59 : decode cX3_roundClass 59 = .ok (.if_icmp .ne 7, 3) := dw_160 (kcX3_roundClass_0 59 160 rfl) (kcX3_roundClass_0 60 0 rfl) (kcX3_roundClass_0 61 7 rfl) rfl
theorem dX3_roundClass_62 : decode cX3_roundClass 62 = .ok (.iconst 1, 1) := dw_4 (kcX3_roundClass_0 62 4 rfl)
theorem dX3_roundClass_63 : decode cX3_roundClass 63 = .ok (.goto 4, 3) := dw_167 (kcX3_roundClass_0 63 167 rfl) (kcX3_roundClass_1 0 0 rfl) (kcX3_roundClass_1 1 4 rfl) rfl
theorem dX3_roundClass_67 : decode cX3_roundClass 67 = .ok (.bastore, 1) := dw_84 (kcX3_roundClass_1 3 84 rfl)
theorem dX3_roundClass_68 : decode cX3_roundClass 68 = .ok (.aload_n 0, 1) := dw_42 (kcX3_roundClass_1 4 42 rfl)
theorem dX3_roundClass_69 : decode cX3_roundClass 69 = .ok (.getfield 38, 3) := dw_180 (kcX3_roundClass_1 5 180 rfl) (kcX3_roundClass_1 6 0 rfl) (kcX3_roundClass_1 7 38 rfl) rfl
theorem dX3_roundClass_72 : decode cX3_roundClass 72 = .ok (.iload 4, 2) := dw_21 (kcX3_roundClass_1 8 21 rfl) (kcX3_roundClass_1 9 4 rfl)
theorem dX3_roundClass_74 : decode cX3_roundClass 74 = .ok (.baload, 1) := dw_51 (kcX3_roundClass_1 10 51 rfl)
theorem dX3_roundClass_75 : decode cX3_roundClass 75 = .ok (.ifCond .eq 11, 3) := dw_153 (kcX3_roundClass_1 11 153 rfl) (kcX3_roundClass_1 12 0 rfl) (kcX3_roundClass_1 13 11 rfl) rfl
theorem dX3_roundClass_78 : decode cX3_roundClass 78 = .ok (.aload_n 0, 1) := dw_42 (kcX3_roundClass_1 14 42 rfl)
theorem dX3_roundClass_79 : decode cX3_roundClass 79 = .ok (.aload_n 1, 1) := dw_43 (kcX3_roundClass_1 15 43 rfl)
theorem dX3_roundClass_80 : decode cX3_roundClass 80 = .ok (.iload 4, 2) := dw_21 (kcX3_roundClass_1 16 21 rfl) (kcX3_roundClass_1 17 4 rfl)
theorem dX3_roundClass_82 : decode cX3_roundClass 82 = .ok (.iload_n 3, 1) := dw_29 (kcX3_roundClass_1 18 29 rfl)
theorem dX3_roundClass_83 : decode cX3_roundClass 83 = .ok (.invokevirtual 91, 3) := dw_182 (kcX3_roundClass_1 19 182 rfl) (kcX3_roundClass_1 20 0 rfl) (kcX3_roundClass_1 21 91 rfl) rfl
theorem dX3_roundClass_86 : decode cX3_roundClass 86 = .ok (.iinc 4 1, 3) := dw_132 (kcX3_roundClass_1 22 132 rfl) (kcX3_roundClass_1 23 4 rfl) (kcX3_roundClass_1 24 1 rfl) rfl
theorem dX3_roundClass_89 : decode cX3_roundClass 89 = .ok (.goto (-63), 3) := dw_167 (kcX3_roundClass_1 25 167 rfl) (kcX3_roundClass_1 26 255 rfl) (kcX3_roundClass_1 27 193 rfl) rfl
theorem dX3_roundClass_92 : decode cX3_roundClass 92 = .ok (.iconst 0, 1) := dw_3 (kcX3_roundClass_1 28 3 rfl)
theorem dX3_roundClass_93 : decode cX3_roundClass 93 = .ok (.istore 4, 2) := dw_54 (kcX3_roundClass_1 29 54 rfl) (kcX3_roundClass_1 30 4 rfl)
theorem dX3_roundClass_95 : decode cX3_roundClass 95 = .ok (.iload 4, 2) := dw_21 (kcX3_roundClass_1 31 21 rfl) (kcX3_roundClass_1 32 4 rfl)
theorem dX3_roundClass_97 : decode cX3_roundClass 97 = .ok (.bipush 24, 2) := dw_16 (kcX3_roundClass_1 33 16 rfl) (kcX3_roundClass_1 34 24 rfl) rfl
theorem dX3_roundClass_99 : decode cX3_roundClass 99 = .ok (.if_icmp .ge 67, 3) := dw_162 (kcX3_roundClass_1 35 162 rfl) (kcX3_roundClass_1 36 0 rfl) (kcX3_roundClass_1 37 67 rfl) rfl
theorem dX3_roundClass_102 : decode cX3_roundClass 102 = .ok (.aload_n 0, 1) := dw_42 (kcX3_roundClass_1 38 42 rfl)
theorem dX3_roundClass_103 : decode cX3_roundClass 103 = .ok (.getfield 32, 3) := dw_180 (kcX3_roundClass_1 39 180 rfl) (kcX3_roundClass_1 40 0 rfl) (kcX3_roundClass_1 41 32 rfl) rfl
theorem dX3_roundClass_106 : decode cX3_roundClass 106 = .ok (.iload 4, 2) := dw_21 (kcX3_roundClass_1 42 21 rfl) (kcX3_roundClass_1 43 4 rfl)
theorem dX3_roundClass_108 : decode cX3_roundClass 108 = .ok (.iload_n 3, 1) := dw_29 (kcX3_roundClass_1 44 29 rfl)
theorem dX3_roundClass_109 : decode cX3_roundClass 109 = .ok (.ifCond .le 15, 3) := dw_158 (kcX3_roundClass_1 45 158 rfl) (kcX3_roundClass_1 46 0 rfl) (kcX3_roundClass_1 47 15 rfl) rfl
theorem dX3_roundClass_112 : decode cX3_roundClass 112 = .ok (.aload_n 0, 1) := dw_42 (kcX3_roundClass_1 48 42 rfl)
theorem dX3_roundClass_113 : decode cX3_roundClass 113 = .ok (.getfield 26, 3) := dw_180 (kcX3_roundClass_1 49 180 rfl) (kcX3_roundClass_1 50 0 rfl) (kcX3_roundClass_1 51 26 rfl) rfl
theorem dX3_roundClass_116 : decode cX3_roundClass 116 = .ok (.iload 4, 2) := dw_21 (kcX3_roundClass_1 52 21 rfl) (kcX3_roundClass_1 53 4 rfl)
theorem dX3_roundClass_118 : decode cX3_roundClass 118 = .ok (.iaload, 1) := dw_46 (kcX3_roundClass_1 54 46 rfl)
theorem dX3_roundClass_119 : decode cX3_roundClass 119 = .ok (.iload_n 3, 1) := dw_29 (kcX3_roundClass_1 55 29 rfl)
theorem dX3_roundClass_120 : decode cX3_roundClass 120 = .ok (.idiv, 1) := dw_108 (kcX3_roundClass_1 56 108 rfl)
theorem dX3_roundClass_121 : decode cX3_roundClass 121 = .ok (.goto 4, 3) := dw_167 (kcX3_roundClass_1 57 167 rfl) (kcX3_roundClass_1 58 0 rfl) (kcX3_roundClass_1 59 4 rfl) rfl
theorem dX3_roundClass_125 : decode cX3_roundClass 125 = .ok (.iastore, 1) := dw_79 (kcX3_roundClass_1 61 79 rfl)
theorem dX3_roundClass_126 : decode cX3_roundClass 126 = .ok (.aload_n 0, 1) := dw_42 (kcX3_roundClass_1 62 42 rfl)
theorem kcX3_roundClass_2 : CHb cX3_roundClass 128 [0, 35, 21, 4, 29, 158, 0, 19, 42, 180, 0, 26, 21, 4, 46, 29, 96, 4, 100, 29, 108, 167, 0, 4, 3, 79, 42, 21, 4, 182, 0, 94, 132, 4, 1, 167, 255, 188, 42, 182, 0, 98, 3, 54, 4, 21, 4, 43, 180, 0, 41, 162, 0, 29, 42, 180, 0, 38, 21, 4, 51, 153, 0, 13] := CHb_of (by decide +kernel)
theorem dX3_roundClass_127 : decode cX3_roundClass 127 = .ok (.getfield 35, 3) := dw_180 (kcX3_roundClass_1 63 180 rfl) (kcX3_roundClass_2 0 0 rfl) (kcX3_roundClass_2 1 35 rfl) rfl
theorem dX3_roundClass_130 : decode cX3_roundClass 130 = .ok (.iload 4, 2) := dw_21 (kcX3_roundClass_2 2 21 rfl) (kcX3_roundClass_2 3 4 rfl)
theorem dX3_roundClass_132 : decode cX3_roundClass 132 = .ok (.iload_n 3, 1) := dw_29 (kcX3_roundClass_2 4 29 rfl)
theorem dX3_roundClass_133 : decode cX3_roundClass 133 = .ok (.ifCond .le 19, 3) := dw_158 (kcX3_roundClass_2 5 158 rfl) (kcX3_roundClass_2 6 0 rfl) (kcX3_roundClass_2 7 19 rfl) rfl
theorem dX3_roundClass_136 : decode cX3_roundClass 136 = .ok (.aload_n 0, 1) := dw_42 (kcX3_roundClass_2 8 42 rfl)
theorem dX3_roundClass_137 : decode cX3_roundClass 137 = .ok (.getfield 26, 3) := dw_180 (kcX3_roundClass_2 9 180 rfl) (kcX3_roundClass_2 10 0 rfl) (kcX3_roundClass_2 11 26 rfl) rfl
theorem dX3_roundClass_140 : decode cX3_roundClass 140 = .ok (.iload 4, 2) := dw_21 (kcX3_roundClass_2 12 21 rfl) (kcX3_roundClass_2 13 4 rfl)
theorem dX3_roundClass_142 : decode cX3_roundClass 142 = .ok (.iaload, 1) := dw_46 (kcX3_roundClass_2 14 46 rfl)
theorem dX3_roundClass_143 : decode cX3_roundClass 143 = .ok (.iload_n 3, 1) := dw_29 (kcX3_roundClass_2 15 29 rfl)
theorem dX3_roundClass_144 : decode cX3_roundClass 144 = .ok (.iadd, 1) := dw_96 (kcX3_roundClass_2 16 96 rfl)
theorem dX3_roundClass_145 : decode cX3_roundClass 145 = .ok (.iconst 1, 1) := dw_4 (kcX3_roundClass_2 17 4 rfl)
theorem dX3_roundClass_146 : decode cX3_roundClass 146 = .ok (.isub, 1) := dw_100 (kcX3_roundClass_2 18 100 rfl)
theorem dX3_roundClass_147 : decode cX3_roundClass 147 = .ok (.iload_n 3, 1) := dw_29 (kcX3_roundClass_2 19 29 rfl)
theorem dX3_roundClass_148 : decode cX3_roundClass 148 = .ok (.idiv, 1) := dw_108 (kcX3_roundClass_2 20 108 rfl)
theorem dX3_roundClass_149 : decode cX3_roundClass 149 = .ok (.goto 4, 3) := dw_167 (kcX3_roundClass_2 21 167 rfl) (kcX3_roundClass_2 22 0 rfl) (kcX3_roundClass_2 23 4 rfl) rfl
theorem dX3_roundClass_153 : decode cX3_roundClass 153 = .ok (.iastore, 1) := dw_79 (kcX3_roundClass_2 25 79 rfl)
theorem dX3_roundClass_154 : decode cX3_roundClass 154 = .ok (.aload_n 0, 1) := dw_42 (kcX3_roundClass_2 26 42 rfl)
theorem dX3_roundClass_155 : decode cX3_roundClass 155 = .ok (.iload 4, 2) := dw_21 (kcX3_roundClass_2 27 21 rfl) (kcX3_roundClass_2 28 4 rfl)
theorem dX3_roundClass_157 : decode cX3_roundClass 157 = .ok (.invokevirtual 94, 3) := dw_182 (kcX3_roundClass_2 29 182 rfl) (kcX3_roundClass_2 30 0 rfl) (kcX3_roundClass_2 31 94 rfl) rfl
theorem dX3_roundClass_160 : decode cX3_roundClass 160 = .ok (.iinc 4 1, 3) := dw_132 (kcX3_roundClass_2 32 132 rfl) (kcX3_roundClass_2 33 4 rfl) (kcX3_roundClass_2 34 1 rfl) rfl
theorem dX3_roundClass_163 : decode cX3_roundClass 163 = .ok (.goto (-68), 3) := dw_167 (kcX3_roundClass_2 35 167 rfl) (kcX3_roundClass_2 36 255 rfl) (kcX3_roundClass_2 37 188 rfl) rfl
theorem dX3_roundClass_166 : decode cX3_roundClass 166 = .ok (.aload_n 0, 1) := dw_42 (kcX3_roundClass_2 38 42 rfl)
theorem dX3_roundClass_167 : decode cX3_roundClass 167 = .ok (.invokevirtual 98, 3) := dw_182 (kcX3_roundClass_2 39 182 rfl) (kcX3_roundClass_2 40 0 rfl) (kcX3_roundClass_2 41 98 rfl) rfl
theorem dX3_roundClass_170 : decode cX3_roundClass 170 = .ok (.iconst 0, 1) := dw_3 (kcX3_roundClass_2 42 3 rfl)
theorem dX3_roundClass_171 : decode cX3_roundClass 171 = .ok (.istore 4, 2) := dw_54 (kcX3_roundClass_2 43 54 rfl) (kcX3_roundClass_2 44 4 rfl)
theorem dX3_roundClass_173 : decode cX3_roundClass 173 = .ok (.iload 4, 2) := dw_21 (kcX3_roundClass_2 45 21 rfl) (kcX3_roundClass_2 46 4 rfl)
theorem dX3_roundClass_175 : decode cX3_roundClass 175 = .ok (.aload_n 1, 1) := dw_43 (kcX3_roundClass_2 47 43 rfl)
theorem dX3_roundClass_176 : decode cX3_roundClass 176 = .ok (.getfield 41, 3) := dw_180 (kcX3_roundClass_2 48 180 rfl) (kcX3_roundClass_2 49 0 rfl) (kcX3_roundClass_2 50 41 rfl) rfl
theorem dX3_roundClass_179 : decode cX3_roundClass 179 = .ok (.if_icmp .ge 29, 3) := dw_162 (kcX3_roundClass_2 51 162 rfl) (kcX3_roundClass_2 52 0 rfl) (kcX3_roundClass_2 53 29 rfl) rfl
theorem kcX3_roundClass_3 : CHb cX3_roundClass 192 [42, 21, 4, 43, 180, 0, 68, 182, 0, 101, 132, 4, 1, 167, 255, 224, 177] := CHb_of (by decide +kernel)
theorem dX3_roundClass_208 : decode cX3_roundClass 208 = .ok (.return_, 1) := dw_177 (kcX3_roundClass_3 16 177 rfl)
theorem dX3_roundClass_182 : decode cX3_roundClass 182 = .ok (.aload_n 0, 1) := dw_42 (kcX3_roundClass_2 54 42 rfl)
theorem dX3_roundClass_183 : decode cX3_roundClass 183 = .ok (.getfield 38, 3) := dw_180 (kcX3_roundClass_2 55 180 rfl) (kcX3_roundClass_2 56 0 rfl) (kcX3_roundClass_2 57 38 rfl) rfl
theorem dX3_roundClass_186 : decode cX3_roundClass 186 = .ok (.iload 4, 2) := dw_21 (kcX3_roundClass_2 58 21 rfl) (kcX3_roundClass_2 59 4 rfl)
theorem dX3_roundClass_188 : decode cX3_roundClass 188 = .ok (.baload, 1) := dw_51 (kcX3_roundClass_2 60 51 rfl)
theorem dX3_roundClass_189 : decode cX3_roundClass 189 = .ok (.ifCond .eq 13, 3) := dw_153 (kcX3_roundClass_2 61 153 rfl) (kcX3_roundClass_2 62 0 rfl) (kcX3_roundClass_2 63 13 rfl) rfl
theorem dX3_roundClass_192 : decode cX3_roundClass 192 = .ok (.aload_n 0, 1) := dw_42 (kcX3_roundClass_3 0 42 rfl)
theorem dX3_roundClass_193 : decode cX3_roundClass 193 = .ok (.iload 4, 2) := dw_21 (kcX3_roundClass_3 1 21 rfl) (kcX3_roundClass_3 2 4 rfl)
theorem dX3_roundClass_195 : decode cX3_roundClass 195 = .ok (.aload_n 1, 1) := dw_43 (kcX3_roundClass_3 3 43 rfl)
theorem dX3_roundClass_196 : decode cX3_roundClass 196 = .ok (.getfield 68, 3) := dw_180 (kcX3_roundClass_3 4 180 rfl) (kcX3_roundClass_3 5 0 rfl) (kcX3_roundClass_3 6 68 rfl) rfl
theorem dX3_roundClass_199 : decode cX3_roundClass 199 = .ok (.invokevirtual 101, 3) := dw_182 (kcX3_roundClass_3 7 182 rfl) (kcX3_roundClass_3 8 0 rfl) (kcX3_roundClass_3 9 101 rfl) rfl
theorem dX3_roundClass_202 : decode cX3_roundClass 202 = .ok (.iinc 4 1, 3) := dw_132 (kcX3_roundClass_3 10 132 rfl) (kcX3_roundClass_3 11 4 rfl) (kcX3_roundClass_3 12 1 rfl) rfl
theorem dX3_roundClass_205 : decode cX3_roundClass 205 = .ok (.goto (-32), 3) := dw_167 (kcX3_roundClass_3 13 167 rfl) (kcX3_roundClass_3 14 255 rfl) (kcX3_roundClass_3 15 224 rfl) rfl
theorem kcX3_write_0 : CHb cX3_write 0 [45, 43, 180, 0, 41, 181, 0, 65, 45, 43, 180, 0, 68, 181, 0, 71, 3, 54, 4, 3, 54, 5, 21, 5, 43, 180, 0, 41, 162, 0, 129, 3, 54, 6, 21, 6, 43, 180, 0, 68, 162, 0, 111, 21, 5, 21, 6, 184, 0, 72, 54, 7, 43, 180, 0, 47, 21, 5, 51, 153, 0, 17, 42, 180] := CHb_of (by decide +kernel)
theorem dX3_write_0 : decode cX3_write 0 = .ok (.aload_n 3, 1) := dw_45 (kcX3_write_0 0 45 rfl)
theorem dX3_write_1 : decode cX3_write 1 = .ok (.aload_n 1, 1) := dw_43 (kcX3_write_0 1 43 rfl)
theorem dX3_write_2 : decode cX3_write 2 = .ok (.getfield 41, 3) := dw_180 (kcX3_write_0 2 180 rfl) (kcX3_write_0 3 0 rfl) (kcX3_write_0 4 41 rfl) rfl
theorem dX3_write_5 : decode cX3_write 5 = .ok (.putfield 65, 3) := dw_181 (kcX3_write_0 5 181 rfl) (kcX3_write_0 6 0 rfl) (kcX3_write_0 7 65 rfl) rfl
theorem dX3_write_8 : decode cX3_write 8 = .ok (.aload_n 3, 1) := dw_45 (kcX3_write_0 8 45 rfl)
theorem dX3_write_9 : decode cX3_write 9 = .ok (.aload_n 1, 1) := dw_43 (kcX3_write_0 9 43 rfl)
theorem dX3_write_10 : decode cX3_write 10 = .ok (.getfield 68, 3) := dw_180 (kcX3_write_0 10 180 rfl) (kcX3_write_0 11 0 rfl) (kcX3_write_0 12 68 rfl) rfl
theorem dX3_write_13 : decode cX3_write 13 = .ok (.putfield 71, 3) := dw_181 (kcX3_write_0 13 181 rfl) (kcX3_write_0 14 0 rfl) (kcX3_write_0 15 71 rfl) rfl
theorem dX3_write_16 : decode cX3_write 16 = .ok (.iconst 0, 1) := dw_3 (kcX3_write_0 16 3 rfl)
theorem dX3_write_17 : decode cX3_write 17 = .ok (.istore 4, 2) := dw_54 (kcX3_write_0 17 54 rfl) (kcX3_write_0 18 4 rfl)
theorem dX3_write_19 : decode cX3_write 19 = .ok (.iconst 0, 1) := dw_3 (kcX3_write_0 19 3 rfl)
theorem dX3_write_20 : decode cX3_write 20 = .ok (.istore 5, 2) := dw_54 (kcX3_write_0 20 54 rfl) (kcX3_write_0 21 5 rfl)
theorem dX3_write_22 : decode cX3_write 22 = .ok (.iload 5, 2) := dw_21 (kcX3_write_0 22 21 rfl) (kcX3_write_0 23 5 rfl)
theorem dX3_write_24 : decode cX3_write 24 = .ok (.aload_n 1, 1) := dw_43 (kcX3_write_0 24 43 rfl)
theorem dX3_write_25 : decode cX3_write 25 = .ok (.getfield 41, 3) := dw_180 (kcX3_write_0 25 180 rfl) (kcX3_write_0 26 0 rfl) (kcX3_write_0 27 41 rfl) rfl
theorem dX3_write_28 : decode cX3_write 28 = .ok (.if_icmp .ge 129, 3) := dw_162 (kcX3_write_0 28 162 rfl) (kcX3_write_0 29 0 rfl) (kcX3_write_0 30 129 rfl) rfl
theorem dX3_write_31 : decode cX3_write 31 = .ok (.iconst 0, 1) := dw_3 (kcX3_write_0 31 3 rfl)
theorem dX3_write_32 : decode cX3_write 32 = .ok (.istore 6, 2) := dw_54 (kcX3_write_0 32 54 rfl) (kcX3_write_0 33 6 rfl)
theorem dX3_write_34 : decode cX3_write 34 = .ok (.iload 6, 2) := dw_21 (kcX3_write_0 34 21 rfl) (kcX3_write_0 35 6 rfl)
theorem dX3_write_36 : decode cX3_write 36 = .ok (.aload_n 1, 1) := dw_43 (kcX3_write_0 36 43 rfl)
theorem dX3_write_37 : decode cX3_write 37 = .ok (.getfield 68, 3) := dw_180 (kcX3_write_0 37 180 rfl) (kcX3_write_0 38 0 rfl) (kcX3_write_0 39 68 rfl) rfl
theorem dX3_write_40 : decode cX3_write 40 = .ok (.if_icmp .ge 111, 3) := dw_162 (kcX3_write_0 40 162 rfl) (kcX3_write_0 41 0 rfl) (kcX3_write_0 42 111 rfl) rfl
theorem dX3_write_43 : decode cX3_write 43 = .ok (.iload 5, 2) := dw_21 (kcX3_write_0 43 21 rfl) (kcX3_write_0 44 5 rfl)
theorem dX3_write_45 : decode cX3_write 45 = .ok (.iload 6, 2) := dw_21 (kcX3_write_0 45 21 rfl) (kcX3_write_0 46 6 rfl)
theorem dX3_write_47 : decode cX3_write 47 = .ok (.invokestatic 72, 3) := dw_184 (kcX3_write_0 47 184 rfl) (kcX3_write_0 48 0 rfl) (kcX3_write_0 49 72 rfl) rfl
theorem dX3_write_50 : decode cX3_write 50 = .ok (.istore 7, 2) := dw_54 (kcX3_write_0 50 54 rfl) (kcX3_write_0 51 7 rfl)
theorem dX3_write_52 : decode cX3_write 52 = .ok (.aload_n 1, 1) := dw_43 (kcX3_write_0 52 43 rfl)
theorem dX3_write_53 : decode cX3_write 53 = .ok (.getfield 47, 3) := dw_180 (kcX3_write_0 53 180 rfl) (kcX3_write_0 54 0 rfl) (kcX3_write_0 55 47 rfl) rfl
theorem dX3_write_56 : decode cX3_write 56 = .ok (.iload 5, 2) := dw_21 (kcX3_write_0 56 21 rfl) (kcX3_write_0 57 5 rfl)
theorem dX3_write_58 : decode cX3_write 58 = .ok (.baload, 1) := dw_51 (kcX3_write_0 58 51 rfl)
theorem dX3_write_59 : decode cX3_write 59 = .ok (.ifCond .eq 17, 3) := dw_153 (kcX3_write_0 59 153 rfl) (kcX3_write_0 60 0 rfl) (kcX3_write_0 61 17 rfl) rfl
theorem kcX3_write_1 : CHb cX3_write 64 [0, 22, 21, 7, 51, 153, 0, 7, 4, 167, 0, 4, 3, 54, 8, 43, 180, 0, 76, 21, 7, 46, 42, 180, 0, 18, 21, 7, 46, 100, 21, 8, 153, 0, 7, 28, 167, 0, 4, 3, 96, 54, 9, 45, 180, 0, 79, 21, 7, 43, 180, 0, 47, 21, 5, 51, 153, 0, 8, 21, 9, 167, 0, 4] := CHb_of (by decide +kernel)
theorem dX3_write_76 : decode cX3_write 76 = .ok (.iconst 0, 1) := dw_3 (kcX3_write_1 12 3 rfl)
theorem dX3_write_62 : decode cX3_write 62 = .ok (.aload_n 0, 1) := dw_42 (kcX3_write_0 62 42 rfl)
theorem dX3_write_63 : decode cX3_write 63 = .ok (.getfield 22, 3) := dw_180 (kcX3_write_0 63 180 rfl) (kcX3_write_1 0 0 rfl) (kcX3_write_1 1 22 rfl) rfl
theorem dX3_write_66 : decode cX3_write 66 = .ok (.iload 7, 2) := dw_21 (kcX3_write_1 2 21 rfl) (kcX3_write_1 3 7 rfl)
theorem dX3_write_68 : decode cX3_write 68 = .ok (.baload, 1) := dw_51 (kcX3_write_1 4 51 rfl)
theorem dX3_write_69 : decode cX3_write 69 = .ok (.ifCond .eq 7, 3) := dw_153 (kcX3_write_1 5 153 rfl) (kcX3_write_1 6 0 rfl) (kcX3_write_1 7 7 rfl) rfl
theorem dX3_write_72 : decode cX3_write 72 = .ok (.iconst 1, 1) := dw_4 (kcX3_write_1 8 4 rfl)
theorem dX3_write_73 : decode cX3_write 73 = .ok (.goto 4, 3) := dw_167 (kcX3_write_1 9 167 rfl) (kcX3_write_1 10 0 rfl) (kcX3_write_1 11 4 rfl) rfl
theorem dX3_write_77 : decode cX3_write 77 = .ok (.istore 8, 2) := dw_54 (kcX3_write_1 13 54 rfl) (kcX3_write_1 14 8 rfl)
theorem dX3_write_79 : decode cX3_write 79 = .ok (.aload_n 1, 1) := dw_43 (kcX3_write_1 15 43 rfl)
theorem dX3_write_80 : decode cX3_write 80 = .ok (.getfield 76, 3) := dw_180 (kcX3_write_1 16 180 rfl) (kcX3_write_1 17 0 rfl) (kcX3_write_1 18 76 rfl) rfl
theorem dX3_write_83 : decode cX3_write 83 = .ok (.iload 7, 2) := dw_21 (kcX3_write_1 19 21 rfl) (kcX3_write_1 20 7 rfl)
theorem dX3_write_85 : decode cX3_write 85 = .ok (.iaload, 1) := dw_46 (kcX3_write_1 21 46 rfl)
theorem dX3_write_86 : decode cX3_write 86 = .ok (.aload_n 0, 1) := dw_42 (kcX3_write_1 22 42 rfl)
theorem dX3_write_87 : decode cX3_write 87 = .ok (.getfield 18, 3) := dw_180 (kcX3_write_1 23 180 rfl) (kcX3_write_1 24 0 rfl) (kcX3_write_1 25 18 rfl) rfl
theorem dX3_write_90 : decode cX3_write 90 = .ok (.iload 7, 2) := dw_21 (kcX3_write_1 26 21 rfl) (kcX3_write_1 27 7 rfl)
theorem dX3_write_92 : decode cX3_write 92 = .ok (.iaload, 1) := dw_46 (kcX3_write_1 28 46 rfl)
theorem dX3_write_93 : decode cX3_write 93 = .ok (.isub, 1) := dw_100 (kcX3_write_1 29 100 rfl)
theorem dX3_write_94 : decode cX3_write 94 = .ok (.iload 8, 2) := dw_21 (kcX3_write_1 30 21 rfl) (kcX3_write_1 31 8 rfl)
theorem dX3_write_96 : decode cX3_write 96 = .ok (.ifCond .eq 7, 3) := dw_153 (kcX3_write_1 32 153 rfl) (kcX3_write_1 33 0 rfl) (kcX3_write_1 34 7 rfl) rfl
theorem dX3_write_103 : decode cX3_write 103 = .ok (.iconst 0, 1) := dw_3 (kcX3_write_1 39 3 rfl)
theorem dX3_write_99 : decode cX3_write 99 = .ok (.iload_n 2, 1) := dw_28 (kcX3_write_1 35 28 rfl)
theorem dX3_write_100 : decode cX3_write 100 = .ok (.goto 4, 3) := dw_167 (kcX3_write_1 36 167 rfl) (kcX3_write_1 37 0 rfl) (kcX3_write_1 38 4 rfl) rfl
theorem dX3_write_104 : decode cX3_write 104 = .ok (.iadd, 1) := dw_96 (kcX3_write_1 40 96 rfl)
theorem dX3_write_105 : decode cX3_write 105 = .ok (.istore 9, 2) := dw_54 (kcX3_write_1 41 54 rfl) (kcX3_write_1 42 9 rfl)
theorem dX3_write_107 : decode cX3_write 107 = .ok (.aload_n 3, 1) := dw_45 (kcX3_write_1 43 45 rfl)
theorem dX3_write_108 : decode cX3_write 108 = .ok (.getfield 79, 3) := dw_180 (kcX3_write_1 44 180 rfl) (kcX3_write_1 45 0 rfl) (kcX3_write_1 46 79 rfl) rfl
theorem dX3_write_111 : decode cX3_write 111 = .ok (.iload 7, 2) := dw_21 (kcX3_write_1 47 21 rfl) (kcX3_write_1 48 7 rfl)
theorem dX3_write_113 : decode cX3_write 113 = .ok (.aload_n 1, 1) := dw_43 (kcX3_write_1 49 43 rfl)
theorem dX3_write_114 : decode cX3_write 114 = .ok (.getfield 47, 3) := dw_180 (kcX3_write_1 50 180 rfl) (kcX3_write_1 51 0 rfl) (kcX3_write_1 52 47 rfl) rfl
theorem dX3_write_117 : decode cX3_write 117 = .ok (.iload 5, 2) := dw_21 (kcX3_write_1 53 21 rfl) (kcX3_write_1 54 5 rfl)
theorem dX3_write_119 : decode cX3_write 119 = .ok (.baload, 1) := dw_51 (kcX3_write_1 55 51 rfl)
theorem dX3_write_120 : decode cX3_write 120 = .ok (.ifCond .eq 8, 3) := dw_153 (kcX3_write_1 56 153 rfl) (kcX3_write_1 57 0 rfl) (kcX3_write_1 58 8 rfl) rfl
theorem kcX3_write_2 : CHb cX3_write 128 [2, 79, 21, 4, 21, 8, 153, 0, 7, 4, 167, 0, 4, 3, 96, 54, 4, 132, 6, 1, 167, 255, 142, 132, 5, 1, 167, 255, 124, 21, 4, 172] := CHb_of (by decide +kernel)
theorem dX3_write_128 : decode cX3_write 128 = .ok (.iconst (-1), 1) := dw_2 (kcX3_write_2 0 2 rfl)
theorem dX3_write_123 : decode cX3_write 123 = .ok (.iload 9, 2) := dw_21 (kcX3_write_1 59 21 rfl) (kcX3_write_1 60 9 rfl)
theorem dX3_write_125 : decode cX3_write 125 = .ok (.goto 4, 3) := dw_167 (kcX3_write_1 61 167 rfl) (kcX3_write_1 62 0 rfl) (kcX3_write_1 63 4 rfl) rfl
theorem dX3_write_129 : decode cX3_write 129 = .ok (.iastore, 1) := dw_79 (kcX3_write_2 1 79 rfl)
theorem dX3_write_130 : decode cX3_write 130 = .ok (.iload 4, 2) := dw_21 (kcX3_write_2 2 21 rfl) (kcX3_write_2 3 4 rfl)
theorem dX3_write_132 : decode cX3_write 132 = .ok (.iload 8, 2) := dw_21 (kcX3_write_2 4 21 rfl) (kcX3_write_2 5 8 rfl)
theorem dX3_write_134 : decode cX3_write 134 = .ok (.ifCond .eq 7, 3) := dw_153 (kcX3_write_2 6 153 rfl) (kcX3_write_2 7 0 rfl) (kcX3_write_2 8 7 rfl) rfl
theorem dX3_write_141 : decode cX3_write 141 = .ok (.iconst 0, 1) := dw_3 (kcX3_write_2 13 3 rfl)
theorem dX3_write_137 : decode cX3_write 137 = .ok (.iconst 1, 1) := dw_4 (kcX3_write_2 9 4 rfl)
theorem dX3_write_138 : decode cX3_write 138 = .ok (.goto 4, 3) := dw_167 (kcX3_write_2 10 167 rfl) (kcX3_write_2 11 0 rfl) (kcX3_write_2 12 4 rfl) rfl
theorem dX3_write_142 : decode cX3_write 142 = .ok (.iadd, 1) := dw_96 (kcX3_write_2 14 96 rfl)
theorem dX3_write_143 : decode cX3_write 143 = .ok (.istore 4, 2) := dw_54 (kcX3_write_2 15 54 rfl) (kcX3_write_2 16 4 rfl)
theorem dX3_write_145 : decode cX3_write 145 = .ok (.iinc 6 1, 3) := dw_132 (kcX3_write_2 17 132 rfl) (kcX3_write_2 18 6 rfl) (kcX3_write_2 19 1 rfl) rfl
theorem dX3_write_148 : decode cX3_write 148 = .ok (.goto (-114), 3) := dw_167 (kcX3_write_2 20 167 rfl) (kcX3_write_2 21 255 rfl) (kcX3_write_2 22 142 rfl) rfl
theorem dX3_write_151 : decode cX3_write 151 = .ok (.iinc 5 1, 3) := dw_132 (kcX3_write_2 23 132 rfl) (kcX3_write_2 24 5 rfl) (kcX3_write_2 25 1 rfl) rfl
theorem dX3_write_154 : decode cX3_write 154 = .ok (.goto (-132), 3) := dw_167 (kcX3_write_2 26 167 rfl) (kcX3_write_2 27 255 rfl) (kcX3_write_2 28 124 rfl) rfl
theorem dX3_write_157 : decode cX3_write 157 = .ok (.iload 4, 2) := dw_21 (kcX3_write_2 29 21 rfl) (kcX3_write_2 30 4 rfl)
theorem dX3_write_159 : decode cX3_write 159 = .ok (.ireturn, 1) := dw_172 (kcX3_write_2 31 172 rfl)
theorem kcX3_fill_0 : CHb cX3_fill 0 [3, 54, 4, 21, 4, 43, 180, 0, 41, 162, 0, 42, 43, 180, 0, 47, 21, 4, 51, 153, 0, 26, 42, 43, 21, 4, 182, 0, 50, 153, 0, 16, 42, 43, 43, 180, 0, 54, 21, 4, 46, 28, 182, 0, 57, 132, 4, 1, 167, 255, 211, 42, 43, 28, 45, 182, 0, 61, 172] := CHb_of (by decide +kernel)
theorem dX3_fill_0 : decode cX3_fill 0 = .ok (.iconst 0, 1) := dw_3 (kcX3_fill_0 0 3 rfl)
theorem dX3_fill_1 : decode cX3_fill 1 = .ok (.istore 4, 2) := dw_54 (kcX3_fill_0 1 54 rfl) (kcX3_fill_0 2 4 rfl)
theorem dX3_fill_3 : decode cX3_fill 3 = .ok (.iload 4, 2) := dw_21 (kcX3_fill_0 3 21 rfl) (kcX3_fill_0 4 4 rfl)
theorem dX3_fill_5 : decode cX3_fill 5 = .ok (.aload_n 1, 1) := dw_43 (kcX3_fill_0 5 43 rfl)
theorem dX3_fill_6 : decode cX3_fill 6 = .ok (.getfield 41, 3) := dw_180 (kcX3_fill_0 6 180 rfl) (kcX3_fill_0 7 0 rfl) (kcX3_fill_0 8 41 rfl) rfl
theorem dX3_fill_9 : decode cX3_fill 9 = .ok (.if_icmp .ge 42, 3) := dw_162 (kcX3_fill_0 9 162 rfl) (kcX3_fill_0 10 0 rfl) (kcX3_fill_0 11 42 rfl) rfl
theorem dX3_fill_12 : decode cX3_fill 12 = .ok (.aload_n 1, 1) := dw_43 (kcX3_fill_0 12 43 rfl)
theorem dX3_fill_13 : decode cX3_fill 13 = .ok (.getfield 47, 3) := dw_180 (kcX3_fill_0 13 180 rfl) (kcX3_fill_0 14 0 rfl) (kcX3_fill_0 15 47 rfl) rfl
theorem dX3_fill_16 : decode cX3_fill 16 = .ok (.iload 4, 2) := dw_21 (kcX3_fill_0 16 21 rfl) (kcX3_fill_0 17 4 rfl)
theorem dX3_fill_18 : decode cX3_fill 18 = .ok (.baload, 1) := dw_51 (kcX3_fill_0 18 51 rfl)
theorem dX3_fill_19 : decode cX3_fill 19 = .ok (.ifCond .eq 26, 3) := dw_153 (kcX3_fill_0 19 153 rfl) (kcX3_fill_0 20 0 rfl) (kcX3_fill_0 21 26 rfl) rfl
theorem dX3_fill_22 : decode cX3_fill 22 = .ok (.aload_n 0, 1) := dw_42 (kcX3_fill_0 22 42 rfl)
theorem dX3_fill_23 : decode cX3_fill 23 = .ok (.aload_n 1, 1) := dw_43 (kcX3_fill_0 23 43 rfl)
theorem dX3_fill_24 : decode cX3_fill 24 = .ok (.iload 4, 2) := dw_21 (kcX3_fill_0 24 21 rfl) (kcX3_fill_0 25 4 rfl)
theorem dX3_fill_26 : decode cX3_fill 26 = .ok (.invokevirtual 50, 3) := dw_182 (kcX3_fill_0 26 182 rfl) (kcX3_fill_0 27 0 rfl) (kcX3_fill_0 28 50 rfl) rfl
theorem dX3_fill_29 : decode cX3_fill 29 = .ok (.ifCond .eq 16, 3) := dw_153 (kcX3_fill_0 29 153 rfl) (kcX3_fill_0 30 0 rfl) (kcX3_fill_0 31 16 rfl) rfl
theorem dX3_fill_32 : decode cX3_fill 32 = .ok (.aload_n 0, 1) := dw_42 (kcX3_fill_0 32 42 rfl)
theorem dX3_fill_33 : decode cX3_fill 33 = .ok (.aload_n 1, 1) := dw_43 (kcX3_fill_0 33 43 rfl)
theorem dX3_fill_34 : decode cX3_fill 34 = .ok (.aload_n 1, 1) := dw_43 (kcX3_fill_0 34 43 rfl)
theorem dX3_fill_35 : decode cX3_fill 35 = .ok (.getfield 54, 3) := dw_180 (kcX3_fill_0 35 180 rfl) (kcX3_fill_0 36 0 rfl) (kcX3_fill_0 37 54 rfl) rfl
theorem dX3_fill_38 : decode cX3_fill 38 = .ok (.iload 4, 2) := dw_21 (kcX3_fill_0 38 21 rfl) (kcX3_fill_0 39 4 rfl)
theorem dX3_fill_40 : decode cX3_fill 40 = .ok (.iaload, 1) := dw_46 (kcX3_fill_0 40 46 rfl)
theorem dX3_fill_41 : decode cX3_fill 41 = .ok (.iload_n 2, 1) := dw_28 (kcX3_fill_0 41 28 rfl)
theorem dX3_fill_42 : decode cX3_fill 42 = .ok (.invokevirtual 57, 3) := dw_182 (kcX3_fill_0 42 182 rfl) (kcX3_fill_0 43 0 rfl) (kcX3_fill_0 44 57 rfl) rfl
theorem dX3_fill_45 : decode cX3_fill 45 = .ok (.iinc 4 1, 3) := dw_132 (kcX3_fill_0 45 132 rfl) (kcX3_fill_0 46 4 rfl) (kcX3_fill_0 47 1 rfl) rfl
theorem dX3_fill_48 : decode cX3_fill 48 = .ok (.goto (-45), 3) := dw_167 (kcX3_fill_0 48 167 rfl) (kcX3_fill_0 49 255 rfl) (kcX3_fill_0 50 211 rfl) rfl
theorem dX3_fill_51 : decode cX3_fill 51 = .ok (.aload_n 0, 1) := dw_42 (kcX3_fill_0 51 42 rfl)
theorem dX3_fill_52 : decode cX3_fill 52 = .ok (.aload_n 1, 1) := dw_43 (kcX3_fill_0 52 43 rfl)
theorem dX3_fill_53 : decode cX3_fill 53 = .ok (.iload_n 2, 1) := dw_28 (kcX3_fill_0 53 28 rfl)
theorem dX3_fill_54 : decode cX3_fill 54 = .ok (.aload_n 3, 1) := dw_45 (kcX3_fill_0 54 45 rfl)
theorem dX3_fill_55 : decode cX3_fill 55 = .ok (.invokevirtual 61, 3) := dw_182 (kcX3_fill_0 55 182 rfl) (kcX3_fill_0 56 0 rfl) (kcX3_fill_0 57 61 rfl) rfl
theorem dX3_fill_58 : decode cX3_fill 58 = .ok (.ireturn, 1) := dw_172 (kcX3_fill_0 58 172 rfl)
theorem kcX1_firstUnlike_0 : CHb cX1_firstUnlike 0 [42, 180, 0, 9, 43, 180, 0, 9, 184, 0, 26, 61, 42, 180, 0, 15, 43, 180, 0, 15, 184, 0, 26, 62, 3, 54, 4, 21, 4, 28, 162, 0, 78, 3, 54, 5, 21, 5, 29, 162, 0, 63, 42, 180, 0, 18, 21, 4, 21, 5, 184, 0, 22, 46, 54, 6, 43, 180, 0, 18, 21, 4, 21, 5] := CHb_of (by decide +kernel)
theorem dX1_firstUnlike_0 : decode cX1_firstUnlike 0 = .ok (.aload_n 0, 1) := dw_42 (kcX1_firstUnlike_0 0 42 rfl)
theorem dX1_firstUnlike_1 : decode cX1_firstUnlike 1 = .ok (.getfield 9, 3) := dw_180 (kcX1_firstUnlike_0 1 180 rfl) (kcX1_firstUnlike_0 2 0 rfl) (kcX1_firstUnlike_0 3 9 rfl) rfl
theorem dX1_firstUnlike_4 : decode cX1_firstUnlike 4 = .ok (.aload_n 1, 1) := dw_43 (kcX1_firstUnlike_0 4 43 rfl)
theorem dX1_firstUnlike_5 : decode cX1_firstUnlike 5 = .ok (.getfield 9, 3) := dw_180 (kcX1_firstUnlike_0 5 180 rfl) (kcX1_firstUnlike_0 6 0 rfl) (kcX1_firstUnlike_0 7 9 rfl) rfl
theorem dX1_firstUnlike_8 : decode cX1_firstUnlike 8 = .ok (.invokestatic 26, 3) := dw_184 (kcX1_firstUnlike_0 8 184 rfl) (kcX1_firstUnlike_0 9 0 rfl) (kcX1_firstUnlike_0 10 26 rfl) rfl
theorem dX1_firstUnlike_11 : decode cX1_firstUnlike 11 = .ok (.istore_n 2, 1) := dw_61 (kcX1_firstUnlike_0 11 61 rfl)
theorem dX1_firstUnlike_12 : decode cX1_firstUnlike 12 = .ok (.aload_n 0, 1) := dw_42 (kcX1_firstUnlike_0 12 42 rfl)
theorem dX1_firstUnlike_13 : decode cX1_firstUnlike 13 = .ok (.getfield 15, 3) := dw_180 (kcX1_firstUnlike_0 13 180 rfl) (kcX1_firstUnlike_0 14 0 rfl) (kcX1_firstUnlike_0 15 15 rfl) rfl
theorem dX1_firstUnlike_16 : decode cX1_firstUnlike 16 = .ok (.aload_n 1, 1) := dw_43 (kcX1_firstUnlike_0 16 43 rfl)
theorem dX1_firstUnlike_17 : decode cX1_firstUnlike 17 = .ok (.getfield 15, 3) := dw_180 (kcX1_firstUnlike_0 17 180 rfl) (kcX1_firstUnlike_0 18 0 rfl) (kcX1_firstUnlike_0 19 15 rfl) rfl
theorem dX1_firstUnlike_20 : decode cX1_firstUnlike 20 = .ok (.invokestatic 26, 3) := dw_184 (kcX1_firstUnlike_0 20 184 rfl) (kcX1_firstUnlike_0 21 0 rfl) (kcX1_firstUnlike_0 22 26 rfl) rfl
theorem dX1_firstUnlike_23 : decode cX1_firstUnlike 23 = .ok (.istore_n 3, 1) := dw_62 (kcX1_firstUnlike_0 23 62 rfl)
theorem dX1_firstUnlike_24 : decode cX1_firstUnlike 24 = .ok (.iconst 0, 1) := dw_3 (kcX1_firstUnlike_0 24 3 rfl)
theorem dX1_firstUnlike_25 : decode cX1_firstUnlike 25 = .ok (.istore 4, 2) := dw_54 (kcX1_firstUnlike_0 25 54 rfl) (kcX1_firstUnlike_0 26 4 rfl)
theorem dX1_firstUnlike_27 : decode cX1_firstUnlike 27 = .ok (.iload 4, 2) := dw_21 (kcX1_firstUnlike_0 27 21 rfl) (kcX1_firstUnlike_0 28 4 rfl)
theorem dX1_firstUnlike_29 : decode cX1_firstUnlike 29 = .ok (.iload_n 2, 1) := dw_28 (kcX1_firstUnlike_0 29 28 rfl)
theorem dX1_firstUnlike_30 : decode cX1_firstUnlike 30 = .ok (.if_icmp .ge 78, 3) := dw_162 (kcX1_firstUnlike_0 30 162 rfl) (kcX1_firstUnlike_0 31 0 rfl) (kcX1_firstUnlike_0 32 78 rfl) rfl
theorem kcX1_firstUnlike_1 : CHb cX1_firstUnlike 64 [184, 0, 22, 46, 54, 7, 21, 6, 155, 0, 24, 21, 7, 155, 0, 19, 21, 6, 21, 7, 159, 0, 12, 16, 100, 21, 4, 104, 21, 5, 96, 172, 132, 5, 1, 167, 255, 193, 132, 4, 1, 167, 255, 178, 16, 254, 172] := CHb_of (by decide +kernel)
theorem dX1_firstUnlike_108 : decode cX1_firstUnlike 108 = .ok (.bipush (-2), 2) := dw_16 (kcX1_firstUnlike_1 44 16 rfl) (kcX1_firstUnlike_1 45 254 rfl) rfl
theorem dX1_firstUnlike_110 : decode cX1_firstUnlike 110 = .ok (.ireturn, 1) := dw_172 (kcX1_firstUnlike_1 46 172 rfl)
theorem dX1_firstUnlike_33 : decode cX1_firstUnlike 33 = .ok (.iconst 0, 1) := dw_3 (kcX1_firstUnlike_0 33 3 rfl)
theorem dX1_firstUnlike_34 : decode cX1_firstUnlike 34 = .ok (.istore 5, 2) := dw_54 (kcX1_firstUnlike_0 34 54 rfl) (kcX1_firstUnlike_0 35 5 rfl)
theorem dX1_firstUnlike_36 : decode cX1_firstUnlike 36 = .ok (.iload 5, 2) := dw_21 (kcX1_firstUnlike_0 36 21 rfl) (kcX1_firstUnlike_0 37 5 rfl)
theorem dX1_firstUnlike_38 : decode cX1_firstUnlike 38 = .ok (.iload_n 3, 1) := dw_29 (kcX1_firstUnlike_0 38 29 rfl)
theorem dX1_firstUnlike_39 : decode cX1_firstUnlike 39 = .ok (.if_icmp .ge 63, 3) := dw_162 (kcX1_firstUnlike_0 39 162 rfl) (kcX1_firstUnlike_0 40 0 rfl) (kcX1_firstUnlike_0 41 63 rfl) rfl
theorem dX1_firstUnlike_102 : decode cX1_firstUnlike 102 = .ok (.iinc 4 1, 3) := dw_132 (kcX1_firstUnlike_1 38 132 rfl) (kcX1_firstUnlike_1 39 4 rfl) (kcX1_firstUnlike_1 40 1 rfl) rfl
theorem dX1_firstUnlike_105 : decode cX1_firstUnlike 105 = .ok (.goto (-78), 3) := dw_167 (kcX1_firstUnlike_1 41 167 rfl) (kcX1_firstUnlike_1 42 255 rfl) (kcX1_firstUnlike_1 43 178 rfl) rfl
theorem dX1_firstUnlike_42 : decode cX1_firstUnlike 42 = .ok (.aload_n 0, 1) := dw_42 (kcX1_firstUnlike_0 42 42 rfl)
theorem dX1_firstUnlike_43 : decode cX1_firstUnlike 43 = .ok (.getfield 18, 3) := dw_180 (kcX1_firstUnlike_0 43 180 rfl) (kcX1_firstUnlike_0 44 0 rfl) (kcX1_firstUnlike_0 45 18 rfl) rfl
theorem dX1_firstUnlike_46 : decode cX1_firstUnlike 46 = .ok (.iload 4, 2) := dw_21 (kcX1_firstUnlike_0 46 21 rfl) (kcX1_firstUnlike_0 47 4 rfl)
theorem dX1_firstUnlike_48 : decode cX1_firstUnlike 48 = .ok (.iload 5, 2) := dw_21 (kcX1_firstUnlike_0 48 21 rfl) (kcX1_firstUnlike_0 49 5 rfl)
theorem dX1_firstUnlike_50 : decode cX1_firstUnlike 50 = .ok (.invokestatic 22, 3) := dw_184 (kcX1_firstUnlike_0 50 184 rfl) (kcX1_firstUnlike_0 51 0 rfl) (kcX1_firstUnlike_0 52 22 rfl) rfl
theorem dX1_firstUnlike_53 : decode cX1_firstUnlike 53 = .ok (.iaload, 1) := dw_46 (kcX1_firstUnlike_0 53 46 rfl)
theorem dX1_firstUnlike_54 : decode cX1_firstUnlike 54 = .ok (.istore 6, 2) := dw_54 (kcX1_firstUnlike_0 54 54 rfl) (kcX1_firstUnlike_0 55 6 rfl)
theorem dX1_firstUnlike_56 : decode cX1_firstUnlike 56 = .ok (.aload_n 1, 1) := dw_43 (kcX1_firstUnlike_0 56 43 rfl)
theorem dX1_firstUnlike_57 : decode cX1_firstUnlike 57 = .ok (.getfield 18, 3) := dw_180 (kcX1_firstUnlike_0 57 180 rfl) (kcX1_firstUnlike_0 58 0 rfl) (kcX1_firstUnlike_0 59 18 rfl) rfl
theorem dX1_firstUnlike_60 : decode cX1_firstUnlike 60 = .ok (.iload 4, 2) := dw_21 (kcX1_firstUnlike_0 60 21 rfl) (kcX1_firstUnlike_0 61 4 rfl)
theorem dX1_firstUnlike_62 : decode cX1_firstUnlike 62 = .ok (.iload 5, 2) := dw_21 (kcX1_firstUnlike_0 62 21 rfl) (kcX1_firstUnlike_0 63 5 rfl)
theorem dX1_firstUnlike_64 : decode cX1_firstUnlike 64 = .ok (.invokestatic 22, 3) := dw_184 (kcX1_firstUnlike_1 0 184 rfl) (kcX1_firstUnlike_1 1 0 rfl) (kcX1_firstUnlike_1 2 22 rfl) rfl
theorem dX1_firstUnlike_67 : decode cX1_firstUnlike 67 = .ok (.iaload, 1) := dw_46 (kcX1_firstUnlike_1 3 46 rfl)
theorem dX1_firstUnlike_68 : decode cX1_firstUnlike 68 = .ok (.istore 7, 2) := dw_54 (kcX1_firstUnlike_1 4 54 rfl) (kcX1_firstUnlike_1 5 7 rfl)
theorem dX1_firstUnlike_70 : decode cX1_firstUnlike 70 = .ok (.iload 6, 2) := dw_21 (kcX1_firstUnlike_1 6 21 rfl) (kcX1_firstUnlike_1 7 6 rfl)
theorem dX1_firstUnlike_72 : decode cX1_firstUnlike 72 = .ok (.ifCond .lt 24, 3) := dw_155 (kcX1_firstUnlike_1 8 155 rfl) (kcX1_firstUnlike_1 9 0 rfl) (kcX1_firstUnlike_1 10 24 rfl) rfl
theorem dX1_firstUnlike_96 : decode cX1_firstUnlike 96 = .ok (.iinc 5 1, 3) := dw_132 (kcX1_firstUnlike_1 32 132 rfl) (kcX1_firstUnlike_1 33 5 rfl) (kcX1_firstUnlike_1 34 1 rfl) rfl
theorem dX1_firstUnlike_99 : decode cX1_firstUnlike 99 = .ok (.goto (-63), 3) := dw_167 (kcX1_firstUnlike_1 35 167 rfl) (kcX1_firstUnlike_1 36 255 rfl) (kcX1_firstUnlike_1 37 193 rfl) rfl
theorem dX1_firstUnlike_75 : decode cX1_firstUnlike 75 = .ok (.iload 7, 2) := dw_21 (kcX1_firstUnlike_1 11 21 rfl) (kcX1_firstUnlike_1 12 7 rfl)
theorem dX1_firstUnlike_77 : decode cX1_firstUnlike 77 = .ok (.ifCond .lt 19, 3) := dw_155 (kcX1_firstUnlike_1 13 155 rfl) (kcX1_firstUnlike_1 14 0 rfl) (kcX1_firstUnlike_1 15 19 rfl) rfl
theorem dX1_firstUnlike_80 : decode cX1_firstUnlike 80 = .ok (.iload 6, 2) := dw_21 (kcX1_firstUnlike_1 16 21 rfl) (kcX1_firstUnlike_1 17 6 rfl)
theorem dX1_firstUnlike_82 : decode cX1_firstUnlike 82 = .ok (.iload 7, 2) := dw_21 (kcX1_firstUnlike_1 18 21 rfl) (kcX1_firstUnlike_1 19 7 rfl)
theorem dX1_firstUnlike_84 : decode cX1_firstUnlike 84 = .ok (.if_icmp .eq 12, 3) := dw_159 (kcX1_firstUnlike_1 20 159 rfl) (kcX1_firstUnlike_1 21 0 rfl) (kcX1_firstUnlike_1 22 12 rfl) rfl
theorem dX1_firstUnlike_87 : decode cX1_firstUnlike 87 = .ok (.bipush 100, 2) := dw_16 (kcX1_firstUnlike_1 23 16 rfl) (kcX1_firstUnlike_1 24 100 rfl) rfl
theorem dX1_firstUnlike_89 : decode cX1_firstUnlike 89 = .ok (.iload 4, 2) := dw_21 (kcX1_firstUnlike_1 25 21 rfl) (kcX1_firstUnlike_1 26 4 rfl)
theorem dX1_firstUnlike_91 : decode cX1_firstUnlike 91 = .ok (.imul, 1) := dw_104 (kcX1_firstUnlike_1 27 104 rfl)
theorem dX1_firstUnlike_92 : decode cX1_firstUnlike 92 = .ok (.iload 5, 2) := dw_21 (kcX1_firstUnlike_1 28 21 rfl) (kcX1_firstUnlike_1 29 5 rfl)
theorem dX1_firstUnlike_94 : decode cX1_firstUnlike 94 = .ok (.iadd, 1) := dw_96 (kcX1_firstUnlike_1 30 96 rfl)
theorem dX1_firstUnlike_95 : decode cX1_firstUnlike 95 = .ok (.ireturn, 1) := dw_172 (kcX1_firstUnlike_1 31 172 rfl)
abbrev uM (G : GG) (ua a b la : Nat → Nat) (uf f lf : Nat → Int32) (ur r lr : Nat → Nat → Int32) : va_W := [((ua 0), .inr (3, [.ref (ua 23), .ref (ua 1), .ref (ua 2), .ref (ua 3), .ref (ua 4), .ref (ua 5), .ref (ua 6), .ref (ua 7)])), ((ua 1), .inl (G.2.1, 144, .inl (ur 1))), ((ua 2), .inl (G.2.2.1, 144, .inl (ur 2))), ((ua 3), .inl (G.2.1, 25, .inl (ur 3))), ((ua 4), .inl (G.2.1, 25, .inl (ur 4))), ((ua 5), .inl (G.2.1, 25, .inl (ur 5))), ((ua 6), .inl (G.2.1, 25, .inl (ur 6))), ((ua 7), .inl (G.2.2.1, 12, .inl (ur 7))), ((ua 23), .inr (5, [.ref (ua 20), .ref (ua 21), .ref (ua 22), .int (uf 3)])), ((ua 20), .inl (G.2.1, 25, .inl (ur 20))), ((ua 21), .inl (G.2.1, 25, .inl (ur 21))), ((ua 22), .inl (G.2.1, 25, .inl (ur 22))), ((a 15), .inr (2, [.int (f 0), .int (f 1), .int (f 2), .int (f 3), .int (f 4), .ref (b 3), .ref (a 6), .ref (a 7), .ref (a 8), .ref (a 9), .ref (a 10), .ref (a 11), .ref (a 12), .ref (a 13), .ref (a 14)])), ((a 6), .inl (G.2.2.1, 12, .inl (r 6))), ((a 7), .inl (G.2.1, 12, .inl (r 7))), ((a 8), .inl (G.2.1, 144, .inl (r 8))), ((a 9), .inl (G.2.1, 144, .inl (r 9))), ((a 10), .inl (G.2.1, 144, .inl (r 10))), ((a 11), .inl (G.2.2.1, 144, .inl (r 11))), ((a 12), .inl (G.2.1, 144, .inl (r 12))), ((a 13), .inl (G.2.1, 144, .inl (r 13))), ((a 14), .inl (G.2.1, 144, .inl (r 14))), ((la 0), .inr (1, [.int (lf 0), .int (lf 1), .ref (la 1)])), ((la 1), .inl (G.2.1, 144, .inl (lr 2)))]
abbrev l2M (G : GG) (la lb : Nat → Nat) (lf mf : Nat → Int32) (lr mr : Nat → Nat → Int32) : va_W := [((la 0), .inr (1, [.int (lf 0), .int (lf 1), .ref (la 1)])), ((la 1), .inl (G.2.1, 144, .inl (lr 2))), ((lb 0), .inr (1, [.int (mf 0), .int (mf 1), .ref (lb 1)])), ((lb 1), .inl (G.2.1, 144, .inl (mr 2)))]
set_option maxHeartbeats 4000000 in
set_option maxRecDepth 100000 in
theorem c_X1_firstUnlike (l : Launch) (G : GG) (la lb : Nat → Nat) (lf mf : Nat → Int32) (lr mr : Nat → Nat → Int32) (hl0 : nL 12 (lf 0)) (hl1 : nL 12 (lf 1)) (hm0 : nL 12 (mf 0)) (hm1 : nL 12 (mf 1)) : RdI l yX1_firstUnlike cX1_firstUnlike 8 (some .int) ({ frames := 1, cells := 0, slots := 0, locals := 21 }) G (l2M G la lb lf mf lr mr) [.ref (la 0), .ref (lb 0)] (fun q => True) := by
  refine rd_entry (by decide +kernel) (Nat.le_of_ble_eq_true rfl) ?_
  intro p e s m below meth c C0 hP hK ls hl
  have hS : va_S (fun q => s.heap.size ≤ q) s.heap s.heap [] := va_S.rf
  have hA : ∀ q, s.heap.size ≤ q → (fun q => s.heap.size ≤ q) q := fun _ h => h
  obtain ⟨hx, hb, hml, hown, hts, hr, hlocks, hin⟩ := C0
  have hown : s.vm.findClass RX1 = some m.cls := hown
  have hl : lv_has ls 8 [(0, .ref (la 0)), (1, .ref (lb 0))] := hl
  obtain ⟨n0, hn0, en0⟩ := hl0
  obtain ⟨n1, hn1, en1⟩ := hl1
  obtain ⟨p0, hp0, ep0⟩ := hm0
  obtain ⟨p1, hp1, ep1⟩ := hm1
  refine lv_aload_n hx hb dX1_firstUnlike_0 rfl (lv_at hl 0 rfl) ?_
  refine va_get (D := G.1) (ci := 1) (v := .int (lf 0)) (C := RX1) (T := TX1) (N := 3) hx hb hts inX1 hown hK.1 hP 0 rfl rfl 0 (by decide) (hts _ mf_X1_9) (fun _ h9 => h9) rfl dX1_firstUnlike_1 ?_
  rw [show (lf 0) = nI (n0) from en0]
  refine lv_aload_n hx hb dX1_firstUnlike_4 rfl (lv_at hl 1 rfl) ?_
  refine va_get (D := G.1) (ci := 1) (v := .int (mf 0)) (C := RX1) (T := TX1) (N := 3) hx hb hts inX1 hown hK.1 hP 2 rfl rfl 0 (by decide) (hts _ mf_X1_9) (fun _ h9 => h9) rfl dX1_firstUnlike_5 ?_
  rw [show (mf 0) = nI (p0) from ep0]
  refine va_mmin hx hb (hml.trans hl.1.symm) hown (hts _ ml_X1_26) (hts _ mst_yJ9_min_7cf53) (hts _ mz_RJ9) (hts _ mcode_yJ9_min_7cf53) (Nat.le_of_ble_eq_true rfl) (Nat.le_of_ble_eq_true rfl) (Nat.zero_le _) (Nat.zero_le _) dX1_firstUnlike_8 ?_
  refine lv_topi (fun v1 ev1 => ?_)
  obtain rfl : v1 = nI (min n0 p0) := min_nat ev1 (by omega) (by omega)
  refine lv_istore_n (lv' := [(2, .int (nI (min n0 p0))), (0, .ref (la 0)), (1, .ref (lb 0))]) hx hb dX1_firstUnlike_11 rfl hl (by decide) rfl (fun ls hl => ?_)
  refine lv_aload_n hx hb dX1_firstUnlike_12 rfl (lv_at hl 1 rfl) ?_
  refine va_get (D := G.1) (ci := 1) (v := .int (lf 1)) (C := RX1) (T := TX1) (N := 3) hx hb hts inX1 hown hK.1 hP 0 rfl rfl 1 (by decide) (hts _ mf_X1_15) (fun _ h9 => h9) rfl dX1_firstUnlike_13 ?_
  rw [show (lf 1) = nI (n1) from en1]
  refine lv_aload_n hx hb dX1_firstUnlike_16 rfl (lv_at hl 2 rfl) ?_
  refine va_get (D := G.1) (ci := 1) (v := .int (mf 1)) (C := RX1) (T := TX1) (N := 3) hx hb hts inX1 hown hK.1 hP 2 rfl rfl 1 (by decide) (hts _ mf_X1_15) (fun _ h9 => h9) rfl dX1_firstUnlike_17 ?_
  rw [show (mf 1) = nI (p1) from ep1]
  refine va_mmin hx hb (hml.trans hl.1.symm) hown (hts _ ml_X1_26) (hts _ mst_yJ9_min_7cf53) (hts _ mz_RJ9) (hts _ mcode_yJ9_min_7cf53) (Nat.le_of_ble_eq_true rfl) (Nat.le_of_ble_eq_true rfl) (Nat.zero_le _) (Nat.zero_le _) dX1_firstUnlike_20 ?_
  refine lv_topi (fun v2 ev2 => ?_)
  obtain rfl : v2 = nI (min n1 p1) := min_nat ev2 (by omega) (by omega)
  refine lv_istore_n (lv' := [(3, .int (nI (min n1 p1))), (2, .int (nI (min n0 p0))), (0, .ref (la 0)), (1, .ref (lb 0))]) hx hb dX1_firstUnlike_23 rfl hl (by decide) rfl (fun ls hl => ?_)
  refine lv_iconst (v := 0) hx hb dX1_firstUnlike_24 (by decide) ?_
  refine lv_istore (lv' := [(4, .int 0), (3, .int (nI (min n1 p1))), (2, .int (nI (min n0 p0))), (0, .ref (la 0)), (1, .ref (lb 0))]) hx hb dX1_firstUnlike_25 hl (by decide) rfl (fun ls hl => ?_)
  have loop27 : ∀ (k3 i : Nat) , i ≤ (min n0 p0) → (min n0 p0) < i + k3 → ∀ (H : Heap) (locs : List Loc) (ls : Array Slot), PP G (l2M G la lb lf mf lr mr) H → va_S (fun q => s.heap.size ≤ q) s.heap H locs → lv_has ls 8 [(4, .int (nI i)), (3, .int (nI (min n1 p1))), (2, .int (nI (min n0 p0))), (0, .ref (la 0)), (1, .ref (lb 0))] → W p l e ({ frames := 1, cells := 0, slots := 0, locals := 21 }) s m ([.ref (la 0), .ref (lb 0)] : List Value).toArray below meth c H locs 0 0 (MQ below (QrI (fun q => True) (fun q => s.heap.size ≤ q)) ([.ref (la 0), .ref (lb 0)] : List Value).toArray s 0 0 (fun q => s.heap.size ≤ q)) (F0 m 27 ls []) := by
    intro k3
    induction k3 with
    | zero => intro i  h1 h2; exact absurd h1 (by omega)
    | succ k3 ih27k3 =>
      intro i  hi_i hk_i  H locs ls hP hS hl
      refine lv_iload hx hb dX1_firstUnlike_27 (lv_at hl 0 rfl) ?_
      refine lv_iload_n hx hb dX1_firstUnlike_29 rfl (lv_at hl 2 rfl) ?_
      refine lv_icmp_ge (tgt := 108) hx hb dX1_firstUnlike_30 (by decide) (fun c4 => ?_) (fun c4 => ?_)
      · have b30 := qge_t (a := i) (b := (min n0 p0)) (by omega) (by omega) c4
        refine lv_bipush (v := -2) hx hb dX1_firstUnlike_108 (by decide) ?_
        exact rd_iret hx hb hr hlocks hS (trivial) dX1_firstUnlike_110
      · have b30 := qge_f (a := i) (b := (min n0 p0)) (by omega) (by omega) c4
        refine lv_iconst (v := 0) hx hb dX1_firstUnlike_33 (by decide) ?_
        refine lv_istore (lv' := [(5, .int 0), (4, .int (nI i)), (3, .int (nI (min n1 p1))), (2, .int (nI (min n0 p0))), (0, .ref (la 0)), (1, .ref (lb 0))]) hx hb dX1_firstUnlike_34 hl (by decide) rfl (fun ls hl => ?_)
        have loop36 : ∀ (k5 j : Nat) , j ≤ (min n1 p1) → (min n1 p1) < j + k5 → ∀ (H : Heap) (locs : List Loc) (ls : Array Slot), PP G (l2M G la lb lf mf lr mr) H → va_S (fun q => s.heap.size ≤ q) s.heap H locs → lv_has ls 8 [(5, .int (nI j)), (4, .int (nI i)), (3, .int (nI (min n1 p1))), (2, .int (nI (min n0 p0))), (0, .ref (la 0)), (1, .ref (lb 0))] → W p l e ({ frames := 1, cells := 0, slots := 0, locals := 21 }) s m ([.ref (la 0), .ref (lb 0)] : List Value).toArray below meth c H locs 0 0 (MQ below (QrI (fun q => True) (fun q => s.heap.size ≤ q)) ([.ref (la 0), .ref (lb 0)] : List Value).toArray s 0 0 (fun q => s.heap.size ≤ q)) (F0 m 36 ls []) := by
          intro k5
          induction k5 with
          | zero => intro j  h1 h2; exact absurd h1 (by omega)
          | succ k5 ih36k5 =>
            intro j  hi_j hk_j  H locs ls hP hS hl
            refine lv_iload hx hb dX1_firstUnlike_36 (lv_at hl 0 rfl) ?_
            refine lv_iload_n hx hb dX1_firstUnlike_38 rfl (lv_at hl 2 rfl) ?_
            refine lv_icmp_ge (tgt := 102) hx hb dX1_firstUnlike_39 (by decide) (fun c6 => ?_) (fun c6 => ?_)
            · have b39 := qge_t (a := j) (b := (min n1 p1)) (by omega) (by omega) c6
              obtain ⟨v7, ev7⟩ : ∃ y9 : Int32, y9 = (nI i) + Int32.ofInt (1) := ⟨_, rfl⟩
              refine lv_iinc (v := v7) (lv' := [(4, .int v7), (5, .int (nI j)), (3, .int (nI (min n1 p1))), (2, .int (nI (min n0 p0))), (0, .ref (la 0)), (1, .ref (lb 0))]) hx hb dX1_firstUnlike_102 hl (k := 1) rfl ev7.symm (by decide) rfl (fun ls hl => ?_)
              obtain rfl : v7 = nI (i + 1) := nI_plus (i := i) (j := 1) ev7 rfl (by decide)
              refine lv_goto (tgt := 27) hx hb dX1_firstUnlike_105 (by decide) ?_
              exact ih27k3 (i + 1) (by omega) (by omega) _ _ _ hP hS (lv_sub hl [0, 2, 3, 4, 5] rfl)
            · have b39 := qge_f (a := j) (b := (min n1 p1)) (by omega) (by omega) c6
              refine lv_aload_n hx hb dX1_firstUnlike_42 rfl (lv_at hl 4 rfl) ?_
              refine va_get (D := G.1) (ci := 1) (v := .ref (la 1)) (C := RX1) (T := TX1) (N := 3) hx hb hts inX1 hown hK.1 hP 0 rfl rfl 2 (by decide) (hts _ mf_X1_18) (fun _ h9 => h9) rfl dX1_firstUnlike_43 ?_
              refine lv_iload hx hb dX1_firstUnlike_46 (lv_at hl 1 rfl) ?_
              refine lv_iload hx hb dX1_firstUnlike_48 (lv_at hl 0 rfl) ?_
              refine rdSN (rest := [.ref (la 1)]) ⟨hx, hb, hml, hown, hts⟩ (c_X6_spotOf l G ((nI i)) ((nI j))) mi_yX6_spotOf mst_yX6_spotOf (by decide +kernel) ⟨rfl, rfl, Nat.le_of_ble_eq_true rfl, Nat.le_of_ble_eq_true rfl⟩ hK (fun k q h => by simp at h) rfl hl.1 rfl (Nat.le_of_ble_eq_true rfl) dX1_firstUnlike_50 ⟨Nat.zero_le _, Nat.zero_le _⟩ hS hA hP (fun r8 H locs hr8 hP hS => ?_)
              obtain rfl : r8 = nI (i * 12 + j) := spot_eq hr8
              refine xiald (f := (lr 2)) hx hb hK hP 1 ((i * 12 + j)) (rfl) (by omega) (by decide) rfl dX1_firstUnlike_53 ?_
              refine lv_topi (fun v9 ev9 => ?_)
              refine lv_istore (lv' := [(6, .int v9), (5, .int (nI j)), (4, .int (nI i)), (3, .int (nI (min n1 p1))), (2, .int (nI (min n0 p0))), (0, .ref (la 0)), (1, .ref (lb 0))]) hx hb dX1_firstUnlike_54 hl (by decide) rfl (fun ls hl => ?_)
              refine lv_aload_n hx hb dX1_firstUnlike_56 rfl (lv_at hl 6 rfl) ?_
              refine va_get (D := G.1) (ci := 1) (v := .ref (lb 1)) (C := RX1) (T := TX1) (N := 3) hx hb hts inX1 hown hK.1 hP 2 rfl rfl 2 (by decide) (hts _ mf_X1_18) (fun _ h9 => h9) rfl dX1_firstUnlike_57 ?_
              refine lv_iload hx hb dX1_firstUnlike_60 (lv_at hl 2 rfl) ?_
              refine lv_iload hx hb dX1_firstUnlike_62 (lv_at hl 1 rfl) ?_
              refine rdSN (rest := [.ref (lb 1)]) ⟨hx, hb, hml, hown, hts⟩ (c_X6_spotOf l G ((nI i)) ((nI j))) mi_yX6_spotOf mst_yX6_spotOf (by decide +kernel) ⟨rfl, rfl, Nat.le_of_ble_eq_true rfl, Nat.le_of_ble_eq_true rfl⟩ hK (fun k q h => by simp at h) rfl hl.1 rfl (Nat.le_of_ble_eq_true rfl) dX1_firstUnlike_64 ⟨Nat.zero_le _, Nat.zero_le _⟩ hS hA hP (fun r10 H locs hr10 hP hS => ?_)
              obtain rfl : r10 = nI (i * 12 + j) := spot_eq hr10
              refine xiald (f := (mr 2)) hx hb hK hP 3 ((i * 12 + j)) (rfl) (by omega) (by decide) rfl dX1_firstUnlike_67 ?_
              refine lv_topi (fun v11 ev11 => ?_)
              refine lv_istore (lv' := [(7, .int v11), (6, .int v9), (5, .int (nI j)), (4, .int (nI i)), (3, .int (nI (min n1 p1))), (2, .int (nI (min n0 p0))), (0, .ref (la 0)), (1, .ref (lb 0))]) hx hb dX1_firstUnlike_68 hl (by decide) rfl (fun ls hl => ?_)
              refine lv_iload hx hb dX1_firstUnlike_70 (lv_at hl 1 rfl) ?_
              refine lv_if_lt (tgt := 96) hx hb dX1_firstUnlike_72 (by decide) (fun c12 => ?_) (fun c12 => ?_)
              · obtain ⟨v13, ev13⟩ : ∃ y9 : Int32, y9 = (nI j) + Int32.ofInt (1) := ⟨_, rfl⟩
                refine lv_iinc (v := v13) (lv' := [(5, .int v13), (7, .int v11), (6, .int v9), (4, .int (nI i)), (3, .int (nI (min n1 p1))), (2, .int (nI (min n0 p0))), (0, .ref (la 0)), (1, .ref (lb 0))]) hx hb dX1_firstUnlike_96 hl (k := 2) rfl ev13.symm (by decide) rfl (fun ls hl => ?_)
                obtain rfl : v13 = nI (j + 1) := nI_plus (i := j) (j := 1) ev13 rfl (by decide)
                refine lv_goto (tgt := 36) hx hb dX1_firstUnlike_99 (by decide) ?_
                exact ih36k5 (j + 1) (by omega) (by omega) _ _ _ hP hS (lv_sub hl [0, 3, 4, 5, 6, 7] rfl)
              · refine lv_iload hx hb dX1_firstUnlike_75 (lv_at hl 0 rfl) ?_
                refine lv_if_lt (tgt := 96) hx hb dX1_firstUnlike_77 (by decide) (fun c14 => ?_) (fun c14 => ?_)
                · obtain ⟨v15, ev15⟩ : ∃ y9 : Int32, y9 = (nI j) + Int32.ofInt (1) := ⟨_, rfl⟩
                  refine lv_iinc (v := v15) (lv' := [(5, .int v15), (7, .int v11), (6, .int v9), (4, .int (nI i)), (3, .int (nI (min n1 p1))), (2, .int (nI (min n0 p0))), (0, .ref (la 0)), (1, .ref (lb 0))]) hx hb dX1_firstUnlike_96 hl (k := 2) rfl ev15.symm (by decide) rfl (fun ls hl => ?_)
                  obtain rfl : v15 = nI (j + 1) := nI_plus (i := j) (j := 1) ev15 rfl (by decide)
                  refine lv_goto (tgt := 36) hx hb dX1_firstUnlike_99 (by decide) ?_
                  exact ih36k5 (j + 1) (by omega) (by omega) _ _ _ hP hS (lv_sub hl [0, 3, 4, 5, 6, 7] rfl)
                · refine lv_iload hx hb dX1_firstUnlike_80 (lv_at hl 1 rfl) ?_
                  refine lv_iload hx hb dX1_firstUnlike_82 (lv_at hl 0 rfl) ?_
                  refine lv_icmp_eq (tgt := 96) hx hb dX1_firstUnlike_84 (by decide) (fun c16 => ?_) (fun c16 => ?_)
                  · obtain ⟨v17, ev17⟩ : ∃ y9 : Int32, y9 = (nI j) + Int32.ofInt (1) := ⟨_, rfl⟩
                    refine lv_iinc (v := v17) (lv' := [(5, .int v17), (7, .int v11), (6, .int v9), (4, .int (nI i)), (3, .int (nI (min n1 p1))), (2, .int (nI (min n0 p0))), (0, .ref (la 0)), (1, .ref (lb 0))]) hx hb dX1_firstUnlike_96 hl (k := 2) rfl ev17.symm (by decide) rfl (fun ls hl => ?_)
                    obtain rfl : v17 = nI (j + 1) := nI_plus (i := j) (j := 1) ev17 rfl (by decide)
                    refine lv_goto (tgt := 36) hx hb dX1_firstUnlike_99 (by decide) ?_
                    exact ih36k5 (j + 1) (by omega) (by omega) _ _ _ hP hS (lv_sub hl [0, 3, 4, 5, 6, 7] rfl)
                  · refine lv_bipush (v := 100) hx hb dX1_firstUnlike_87 (by decide) ?_
                    refine lv_iload hx hb dX1_firstUnlike_89 (lv_at hl 3 rfl) ?_
                    refine lv_imul hx hb dX1_firstUnlike_91 ?_
                    refine lv_topi (fun v18 ev18 => ?_)
                    obtain rfl : v18 = nI (100 * i) := nI_times ev18 rfl rfl
                    refine lv_iload hx hb dX1_firstUnlike_92 (lv_at hl 2 rfl) ?_
                    refine lv_iadd hx hb dX1_firstUnlike_94 ?_
                    refine lv_topi (fun v19 ev19 => ?_)
                    obtain rfl : v19 = nI ((100 * i) + j) := nI_plus ev19 rfl rfl
                    exact rd_iret hx hb hr hlocks hS (trivial) dX1_firstUnlike_95
        exact loop36 ((min n1 p1) + 1) 0 (by omega) (by omega) _ _ _ hP hS (lv_sub hl [0, 1, 2, 3, 4, 5] rfl)
  exact loop27 ((min n0 p0) + 1) 0 (by omega) (by omega) _ _ _ hP hS (lv_sub hl [0, 1, 2, 3, 4] rfl)
