theorem ml_X3_105 : Cond.methodLink RX3 105 yX5_join ∈ TB := TB_t4 39 (by decide +kernel) rfl
theorem ml_X3_94 : Cond.methodLink RX3 94 yX3_refreshNode ∈ TB := TB_t4 40 (by decide +kernel) rfl
theorem mcode_yX3_refreshNode : Cond.code yX3_refreshNode cX3_refreshNode 4 none ∈ TB := TB_t4 43 (by decide +kernel) rfl
theorem mi_yX3_refreshNode : MI yX3_refreshNode cX3_refreshNode 4 none 1 := ⟨mz_RX3, mcode_yX3_refreshNode, by decide +kernel, by decide +kernel, by decide +kernel⟩
theorem mim_yX3_refreshNode : Cond.instanceMethod yX3_refreshNode ∈ TB := TB_t4 42 (by decide +kernel) rfl
theorem msel_yX3_refreshNode : Cond.selects yX3_refreshNode.cls yX3_refreshNode yX3_refreshNode ∈ TB := TB_s (n := 8) 34 (by decide +kernel)
theorem mv_yX3_refreshNode : Cond.instanceMethod yX3_refreshNode ∈ TB ∧ Cond.selects yX3_refreshNode.cls yX3_refreshNode yX3_refreshNode ∈ TB := ⟨mim_yX3_refreshNode, msel_yX3_refreshNode⟩
theorem mf_X3_116 : Cond.fieldLink RX3 116 "CellKeeper$Walk" "before" "[I" ∈ TB := TB_t1 36 (by decide +kernel) rfl
theorem ml_X3_119 : Cond.methodLink RX3 119 yX3_turn ∈ TB := TB_t4 53 (by decide +kernel) rfl
theorem mcode_yX3_turn : Cond.code yX3_turn cX3_turn 6 none ∈ TB := TB_t4 56 (by decide +kernel) rfl
theorem mi_yX3_turn : MI yX3_turn cX3_turn 6 none 2 := ⟨mz_RX3, mcode_yX3_turn, by decide +kernel, by decide +kernel, by decide +kernel⟩
theorem mim_yX3_turn : Cond.instanceMethod yX3_turn ∈ TB := TB_t4 55 (by decide +kernel) rfl
theorem msel_yX3_turn : Cond.selects yX3_turn.cls yX3_turn yX3_turn ∈ TB := TB_s (n := 8) 37 (by decide +kernel)
theorem mv_yX3_turn : Cond.instanceMethod yX3_turn ∈ TB ∧ Cond.selects yX3_turn.cls yX3_turn yX3_turn ∈ TB := ⟨mim_yX3_turn, msel_yX3_turn⟩
theorem ml_X3_109 : Cond.methodLink RX3 109 yX5_leads ∈ TB := TB_t4 48 (by decide +kernel) rfl
theorem ml_X3_113 : Cond.methodLink RX3 113 yX3_shift ∈ TB := TB_t4 49 (by decide +kernel) rfl
theorem mcode_yX3_shift : Cond.code yX3_shift cX3_shift 6 none ∈ TB := TB_t4 52 (by decide +kernel) rfl
theorem mi_yX3_shift : MI yX3_shift cX3_shift 6 none 2 := ⟨mz_RX3, mcode_yX3_shift, by decide +kernel, by decide +kernel, by decide +kernel⟩
theorem mim_yX3_shift : Cond.instanceMethod yX3_shift ∈ TB := TB_t4 51 (by decide +kernel) rfl
theorem msel_yX3_shift : Cond.selects yX3_shift.cls yX3_shift yX3_shift ∈ TB := TB_s (n := 8) 36 (by decide +kernel)
theorem mv_yX3_shift : Cond.instanceMethod yX3_shift ∈ TB ∧ Cond.selects yX3_shift.cls yX3_shift yX3_shift ∈ TB := ⟨mim_yX3_shift, msel_yX3_shift⟩
theorem mf_X3_68 : Cond.fieldLink RX3 68 "CellKeeper$Reader" "columns" "I" ∈ TB := TB_t1 55 (by decide +kernel) rfl
theorem mf_X3_76 : Cond.fieldLink RX3 76 "CellKeeper$Reader" "number" "[I" ∈ TB := TB_t1 69 (by decide +kernel) rfl
theorem mf_X3_47 : Cond.fieldLink RX3 47 "CellKeeper$Reader" "sound" "[Z" ∈ TB := TB_t1 61 (by decide +kernel) rfl
theorem mf_X3_54 : Cond.fieldLink RX3 54 "CellKeeper$Reader" "classes" "[I" ∈ TB := TB_t1 64 (by decide +kernel) rfl
theorem ml_X3_82 : Cond.methodLink RX3 82 yX5_wipe ∈ TB := TB_t4 32 (by decide +kernel) rfl
theorem ml_X3_85 : Cond.methodLink RX3 85 yJ7_fill_53178 ∈ TB := TB_t4 33 (by decide +kernel) rfl
theorem mf_X3_41 : Cond.fieldLink RX3 41 "CellKeeper$Reader" "rows" "I" ∈ TB := TB_t1 51 (by decide +kernel) rfl
theorem ml_X3_91 : Cond.methodLink RX3 91 yX3_layRow ∈ TB := TB_t4 34 (by decide +kernel) rfl
theorem mcode_yX3_layRow : Cond.code yX3_layRow cX3_layRow 6 none ∈ TB := TB_t4 37 (by decide +kernel) rfl
theorem mi_yX3_layRow : MI yX3_layRow cX3_layRow 6 none 3 := ⟨mz_RX3, mcode_yX3_layRow, by decide +kernel, by decide +kernel, by decide +kernel⟩
theorem mim_yX3_layRow : Cond.instanceMethod yX3_layRow ∈ TB := TB_t4 36 (by decide +kernel) rfl
theorem msel_yX3_layRow : Cond.selects yX3_layRow.cls yX3_layRow yX3_layRow ∈ TB := TB_s (n := 8) 33 (by decide +kernel)
theorem mv_yX3_layRow : Cond.instanceMethod yX3_layRow ∈ TB ∧ Cond.selects yX3_layRow.cls yX3_layRow yX3_layRow ∈ TB := ⟨mim_yX3_layRow, msel_yX3_layRow⟩
theorem ml_X3_98 : Cond.methodLink RX3 98 yX3_reachFewest ∈ TB := TB_t4 44 (by decide +kernel) rfl
theorem mcode_yX3_reachFewest : Cond.code yX3_reachFewest cX3_reachFewest 5 none ∈ TB := TB_t4 47 (by decide +kernel) rfl
theorem mi_yX3_reachFewest : MI yX3_reachFewest cX3_reachFewest 5 none 0 := ⟨mz_RX3, mcode_yX3_reachFewest, by decide +kernel, by decide +kernel, by decide +kernel⟩
theorem mim_yX3_reachFewest : Cond.instanceMethod yX3_reachFewest ∈ TB := TB_t4 46 (by decide +kernel) rfl
theorem msel_yX3_reachFewest : Cond.selects yX3_reachFewest.cls yX3_reachFewest yX3_reachFewest ∈ TB := TB_s (n := 8) 35 (by decide +kernel)
theorem mv_yX3_reachFewest : Cond.instanceMethod yX3_reachFewest ∈ TB ∧ Cond.selects yX3_reachFewest.cls yX3_reachFewest yX3_reachFewest ∈ TB := ⟨mim_yX3_reachFewest, msel_yX3_reachFewest⟩
theorem ml_X3_101 : Cond.methodLink RX3 101 yX3_bringDown ∈ TB := TB_t4 57 (by decide +kernel) rfl
theorem mcode_yX3_bringDown : Cond.code yX3_bringDown cX3_bringDown 5 none ∈ TB := TB_t4 60 (by decide +kernel) rfl
theorem mi_yX3_bringDown : MI yX3_bringDown cX3_bringDown 5 none 2 := ⟨mz_RX3, mcode_yX3_bringDown, by decide +kernel, by decide +kernel, by decide +kernel⟩
theorem mim_yX3_bringDown : Cond.instanceMethod yX3_bringDown ∈ TB := TB_t4 59 (by decide +kernel) rfl
theorem msel_yX3_bringDown : Cond.selects yX3_bringDown.cls yX3_bringDown yX3_bringDown ∈ TB := TB_s (n := 8) 38 (by decide +kernel)
theorem mv_yX3_bringDown : Cond.instanceMethod yX3_bringDown ∈ TB ∧ Cond.selects yX3_bringDown.cls yX3_bringDown yX3_bringDown ∈ TB := ⟨mim_yX3_bringDown, msel_yX3_bringDown⟩
theorem mf_X3_65 : Cond.fieldLink RX3 65 "CellKeeper$Leaf" "rows" "I" ∈ TB := TB_t1 186 (by decide +kernel) rfl
theorem mf_X3_71 : Cond.fieldLink RX3 71 "CellKeeper$Leaf" "columns" "I" ∈ TB := TB_t1 190 (by decide +kernel) rfl
theorem mf_X3_79 : Cond.fieldLink RX3 79 "CellKeeper$Leaf" "shown" "[I" ∈ TB := TB_t1 194 (by decide +kernel) rfl
theorem ml_X3_50 : Cond.methodLink RX3 50 yX3_isFirstOfClass ∈ TB := TB_t4 24 (by decide +kernel) rfl
theorem mcode_yX3_isFirstOfClass : Cond.code yX3_isFirstOfClass cX3_isFirstOfClass 4 (some .boolean) ∈ TB := TB_t4 27 (by decide +kernel) rfl
theorem mi_yX3_isFirstOfClass : MI yX3_isFirstOfClass cX3_isFirstOfClass 4 (some .boolean) 2 := ⟨mz_RX3, mcode_yX3_isFirstOfClass, by decide +kernel, by decide +kernel, by decide +kernel⟩
theorem mim_yX3_isFirstOfClass : Cond.instanceMethod yX3_isFirstOfClass ∈ TB := TB_t4 26 (by decide +kernel) rfl
theorem msel_yX3_isFirstOfClass : Cond.selects yX3_isFirstOfClass.cls yX3_isFirstOfClass yX3_isFirstOfClass ∈ TB := TB_s (n := 8) 31 (by decide +kernel)
theorem mv_yX3_isFirstOfClass : Cond.instanceMethod yX3_isFirstOfClass ∈ TB ∧ Cond.selects yX3_isFirstOfClass.cls yX3_isFirstOfClass yX3_isFirstOfClass ∈ TB := ⟨mim_yX3_isFirstOfClass, msel_yX3_isFirstOfClass⟩
theorem ml_X3_57 : Cond.methodLink RX3 57 yX3_roundClass ∈ TB := TB_t4 28 (by decide +kernel) rfl
theorem mcode_yX3_roundClass : Cond.code yX3_roundClass cX3_roundClass 5 none ∈ TB := TB_t4 31 (by decide +kernel) rfl
theorem mi_yX3_roundClass : MI yX3_roundClass cX3_roundClass 5 none 3 := ⟨mz_RX3, mcode_yX3_roundClass, by decide +kernel, by decide +kernel, by decide +kernel⟩
theorem mim_yX3_roundClass : Cond.instanceMethod yX3_roundClass ∈ TB := TB_t4 30 (by decide +kernel) rfl
theorem msel_yX3_roundClass : Cond.selects yX3_roundClass.cls yX3_roundClass yX3_roundClass ∈ TB := TB_s (n := 8) 32 (by decide +kernel)
theorem mv_yX3_roundClass : Cond.instanceMethod yX3_roundClass ∈ TB ∧ Cond.selects yX3_roundClass.cls yX3_roundClass yX3_roundClass ∈ TB := ⟨mim_yX3_roundClass, msel_yX3_roundClass⟩
theorem ml_X3_61 : Cond.methodLink RX3 61 yX3_write ∈ TB := TB_t4 61 (by decide +kernel) rfl
theorem mcode_yX3_write : Cond.code yX3_write cX3_write 10 (some .int) ∈ TB := TB_t4 64 (by decide +kernel) rfl
theorem mi_yX3_write : MI yX3_write cX3_write 10 (some .int) 3 := ⟨mz_RX3, mcode_yX3_write, by decide +kernel, by decide +kernel, by decide +kernel⟩
theorem mim_yX3_write : Cond.instanceMethod yX3_write ∈ TB := TB_t4 63 (by decide +kernel) rfl
theorem msel_yX3_write : Cond.selects yX3_write.cls yX3_write yX3_write ∈ TB := TB_s (n := 8) 39 (by decide +kernel)
theorem mv_yX3_write : Cond.instanceMethod yX3_write ∈ TB ∧ Cond.selects yX3_write.cls yX3_write yX3_write ∈ TB := ⟨mim_yX3_write, msel_yX3_write⟩
theorem ml_X1_26 : Cond.methodLink RX1 26 yJ9_min_7cf53 ∈ TB := TB_t4 93 (by decide +kernel) rfl
theorem dX3_refreshNode_0 : decode cX3_refreshNode 0 = .ok (.aload_n 0, 1) := by decide +kernel
theorem dX3_refreshNode_1 : decode cX3_refreshNode 1 = .ok (.getfield 29, 3) := by decide +kernel
theorem dX3_refreshNode_4 : decode cX3_refreshNode 4 = .ok (.iload_n 1, 1) := by decide +kernel
theorem dX3_refreshNode_5 : decode cX3_refreshNode 5 = .ok (.iaload, 1) := by decide +kernel
theorem dX3_refreshNode_6 : decode cX3_refreshNode 6 = .ok (.aload_n 0, 1) := by decide +kernel
theorem dX3_refreshNode_7 : decode cX3_refreshNode 7 = .ok (.getfield 35, 3) := by decide +kernel
theorem dX3_refreshNode_10 : decode cX3_refreshNode 10 = .ok (.iload_n 1, 1) := by decide +kernel
theorem dX3_refreshNode_11 : decode cX3_refreshNode 11 = .ok (.iaload, 1) := by decide +kernel
theorem dX3_refreshNode_12 : decode cX3_refreshNode 12 = .ok (.if_icmp .ge 7, 3) := by decide +kernel
theorem dX3_refreshNode_19 : decode cX3_refreshNode 19 = .ok (.iconst 0, 1) := by decide +kernel
theorem dX3_refreshNode_15 : decode cX3_refreshNode 15 = .ok (.iconst 1, 1) := by decide +kernel
theorem dX3_refreshNode_16 : decode cX3_refreshNode 16 = .ok (.goto 4, 3) := by decide +kernel
theorem dX3_refreshNode_20 : decode cX3_refreshNode 20 = .ok (.istore_n 2, 1) := by decide +kernel
theorem dX3_refreshNode_21 : decode cX3_refreshNode 21 = .ok (.aload_n 0, 1) := by decide +kernel
theorem dX3_refreshNode_22 : decode cX3_refreshNode 22 = .ok (.getfield 29, 3) := by decide +kernel
theorem dX3_refreshNode_25 : decode cX3_refreshNode 25 = .ok (.iload_n 1, 1) := by decide +kernel
theorem dX3_refreshNode_26 : decode cX3_refreshNode 26 = .ok (.iaload, 1) := by decide +kernel
theorem dX3_refreshNode_27 : decode cX3_refreshNode 27 = .ok (.aload_n 0, 1) := by decide +kernel
theorem dX3_refreshNode_28 : decode cX3_refreshNode 28 = .ok (.getfield 32, 3) := by decide +kernel
theorem dX3_refreshNode_31 : decode cX3_refreshNode 31 = .ok (.iload_n 1, 1) := by decide +kernel
theorem dX3_refreshNode_32 : decode cX3_refreshNode 32 = .ok (.iaload, 1) := by decide +kernel
theorem dX3_refreshNode_33 : decode cX3_refreshNode 33 = .ok (.if_icmp .le 7, 3) := by decide +kernel
theorem dX3_refreshNode_40 : decode cX3_refreshNode 40 = .ok (.iconst 0, 1) := by decide +kernel
theorem dX3_refreshNode_36 : decode cX3_refreshNode 36 = .ok (.iconst 1, 1) := by decide +kernel
theorem dX3_refreshNode_37 : decode cX3_refreshNode 37 = .ok (.goto 4, 3) := by decide +kernel
theorem dX3_refreshNode_41 : decode cX3_refreshNode 41 = .ok (.istore_n 3, 1) := by decide +kernel
theorem dX3_refreshNode_42 : decode cX3_refreshNode 42 = .ok (.iload_n 1, 1) := by decide +kernel
theorem dX3_refreshNode_43 : decode cX3_refreshNode 43 = .ok (.bipush 12, 2) := by decide +kernel
theorem dX3_refreshNode_45 : decode cX3_refreshNode 45 = .ok (.if_icmp .ge 18, 3) := by decide +kernel
theorem dX3_refreshNode_63 : decode cX3_refreshNode 63 = .ok (.aload_n 0, 1) := by decide +kernel
theorem dX3_refreshNode_64 : decode cX3_refreshNode 64 = .ok (.getfield 12, 3) := by decide +kernel
theorem dX3_refreshNode_67 : decode cX3_refreshNode 67 = .ok (.iload_n 1, 1) := by decide +kernel
theorem dX3_refreshNode_68 : decode cX3_refreshNode 68 = .ok (.bipush 24, 2) := by decide +kernel
theorem dX3_refreshNode_70 : decode cX3_refreshNode 70 = .ok (.iload_n 2, 1) := by decide +kernel
theorem dX3_refreshNode_71 : decode cX3_refreshNode 71 = .ok (.iload_n 3, 1) := by decide +kernel
theorem dX3_refreshNode_72 : decode cX3_refreshNode 72 = .ok (.invokevirtual 105, 3) := by decide +kernel
theorem dX3_refreshNode_75 : decode cX3_refreshNode 75 = .ok (.return_, 1) := by decide +kernel
theorem dX3_refreshNode_48 : decode cX3_refreshNode 48 = .ok (.aload_n 0, 1) := by decide +kernel
theorem dX3_refreshNode_49 : decode cX3_refreshNode 49 = .ok (.getfield 12, 3) := by decide +kernel
theorem dX3_refreshNode_52 : decode cX3_refreshNode 52 = .ok (.bipush 24, 2) := by decide +kernel
theorem dX3_refreshNode_54 : decode cX3_refreshNode 54 = .ok (.iload_n 1, 1) := by decide +kernel
theorem dX3_refreshNode_55 : decode cX3_refreshNode 55 = .ok (.iload_n 2, 1) := by decide +kernel
theorem dX3_refreshNode_56 : decode cX3_refreshNode 56 = .ok (.iload_n 3, 1) := by decide +kernel
theorem dX3_refreshNode_57 : decode cX3_refreshNode 57 = .ok (.invokevirtual 105, 3) := by decide +kernel
theorem dX3_refreshNode_60 : decode cX3_refreshNode 60 = .ok (.goto 15, 3) := by decide +kernel
theorem dX3_turn_0 : decode cX3_turn 0 = .ok (.iload_n 1, 1) := by decide +kernel
theorem dX3_turn_1 : decode cX3_turn 1 = .ok (.bipush 24, 2) := by decide +kernel
theorem dX3_turn_3 : decode cX3_turn 3 = .ok (.if_icmp .ne 31, 3) := by decide +kernel
theorem dX3_turn_34 : decode cX3_turn 34 = .ok (.iload_n 2, 1) := by decide +kernel
theorem dX3_turn_35 : decode cX3_turn 35 = .ok (.bipush 24, 2) := by decide +kernel
theorem dX3_turn_37 : decode cX3_turn 37 = .ok (.if_icmp .ne 31, 3) := by decide +kernel
theorem dX3_turn_68 : decode cX3_turn 68 = .ok (.iload_n 1, 1) := by decide +kernel
theorem dX3_turn_69 : decode cX3_turn 69 = .ok (.bipush 12, 2) := by decide +kernel
theorem dX3_turn_71 : decode cX3_turn 71 = .ok (.if_icmp .ge 7, 3) := by decide +kernel
theorem dX3_turn_78 : decode cX3_turn 78 = .ok (.iconst 0, 1) := by decide +kernel
theorem dX3_turn_79 : decode cX3_turn 79 = .ok (.istore_n 3, 1) := by decide +kernel
theorem dX3_turn_80 : decode cX3_turn 80 = .ok (.iload_n 3, 1) := by decide +kernel
theorem dX3_turn_81 : decode cX3_turn 81 = .ok (.ifCond .eq 7, 3) := by decide +kernel
theorem dX3_turn_88 : decode cX3_turn 88 = .ok (.iload_n 2, 1) := by decide +kernel
theorem dX3_turn_89 : decode cX3_turn 89 = .ok (.istore 4, 2) := by decide +kernel
theorem dX3_turn_91 : decode cX3_turn 91 = .ok (.iload_n 3, 1) := by decide +kernel
theorem dX3_turn_92 : decode cX3_turn 92 = .ok (.ifCond .eq 7, 3) := by decide +kernel
theorem dX3_turn_99 : decode cX3_turn 99 = .ok (.iload_n 1, 1) := by decide +kernel
theorem dX3_turn_100 : decode cX3_turn 100 = .ok (.istore 5, 2) := by decide +kernel
theorem dX3_turn_102 : decode cX3_turn 102 = .ok (.aload_n 0, 1) := by decide +kernel
theorem dX3_turn_103 : decode cX3_turn 103 = .ok (.getfield 22, 3) := by decide +kernel
theorem dX3_turn_106 : decode cX3_turn 106 = .ok (.iload 4, 2) := by decide +kernel
theorem dX3_turn_108 : decode cX3_turn 108 = .ok (.iload 5, 2) := by decide +kernel
theorem dX3_turn_110 : decode cX3_turn 110 = .ok (.bipush 12, 2) := by decide +kernel
theorem dX3_turn_112 : decode cX3_turn 112 = .ok (.isub, 1) := by decide +kernel
theorem dX3_turn_113 : decode cX3_turn 113 = .ok (.invokestatic 72, 3) := by decide +kernel
theorem dX3_turn_116 : decode cX3_turn 116 = .ok (.iload_n 3, 1) := by decide +kernel
theorem dX3_turn_117 : decode cX3_turn 117 = .ok (.bastore, 1) := by decide +kernel
theorem dX3_turn_118 : decode cX3_turn 118 = .ok (.aload_n 0, 1) := by decide +kernel
theorem dX3_turn_119 : decode cX3_turn 119 = .ok (.getfield 12, 3) := by decide +kernel
theorem dX3_turn_122 : decode cX3_turn 122 = .ok (.iload 4, 2) := by decide +kernel
theorem dX3_turn_124 : decode cX3_turn 124 = .ok (.iload 5, 2) := by decide +kernel
theorem dX3_turn_126 : decode cX3_turn 126 = .ok (.iload_n 3, 1) := by decide +kernel
theorem dX3_turn_127 : decode cX3_turn 127 = .ok (.ifCond .ne 7, 3) := by decide +kernel
theorem dX3_turn_130 : decode cX3_turn 130 = .ok (.iconst 1, 1) := by decide +kernel
theorem dX3_turn_131 : decode cX3_turn 131 = .ok (.goto 4, 3) := by decide +kernel
theorem dX3_turn_135 : decode cX3_turn 135 = .ok (.iload_n 3, 1) := by decide +kernel
theorem dX3_turn_136 : decode cX3_turn 136 = .ok (.invokevirtual 105, 3) := by decide +kernel
theorem dX3_turn_139 : decode cX3_turn 139 = .ok (.return_, 1) := by decide +kernel
theorem dX3_turn_74 : decode cX3_turn 74 = .ok (.iconst 1, 1) := by decide +kernel
theorem dX3_turn_75 : decode cX3_turn 75 = .ok (.goto 4, 3) := by decide +kernel
theorem dX3_turn_84 : decode cX3_turn 84 = .ok (.iload_n 1, 1) := by decide +kernel
theorem dX3_turn_85 : decode cX3_turn 85 = .ok (.goto 4, 3) := by decide +kernel
theorem dX3_turn_95 : decode cX3_turn 95 = .ok (.iload_n 2, 1) := by decide +kernel
theorem dX3_turn_96 : decode cX3_turn 96 = .ok (.goto 4, 3) := by decide +kernel
theorem dX3_turn_134 : decode cX3_turn 134 = .ok (.iconst 0, 1) := by decide +kernel
theorem dX3_turn_40 : decode cX3_turn 40 = .ok (.aload_n 0, 1) := by decide +kernel
theorem dX3_turn_41 : decode cX3_turn 41 = .ok (.getfield 29, 3) := by decide +kernel
theorem dX3_turn_44 : decode cX3_turn 44 = .ok (.iload_n 1, 1) := by decide +kernel
theorem dX3_turn_45 : decode cX3_turn 45 = .ok (.dup2, 1) := by decide +kernel
theorem dX3_turn_46 : decode cX3_turn 46 = .ok (.iaload, 1) := by decide +kernel
theorem dX3_turn_47 : decode cX3_turn 47 = .ok (.iload_n 1, 1) := by decide +kernel
theorem dX3_turn_48 : decode cX3_turn 48 = .ok (.bipush 12, 2) := by decide +kernel
theorem dX3_turn_50 : decode cX3_turn 50 = .ok (.if_icmp .ge 7, 3) := by decide +kernel
theorem dX3_turn_57 : decode cX3_turn 57 = .ok (.iconst 1, 1) := by decide +kernel
theorem dX3_turn_53 : decode cX3_turn 53 = .ok (.iconst (-1), 1) := by decide +kernel
theorem dX3_turn_54 : decode cX3_turn 54 = .ok (.goto 4, 3) := by decide +kernel
theorem dX3_turn_58 : decode cX3_turn 58 = .ok (.iadd, 1) := by decide +kernel
theorem dX3_turn_59 : decode cX3_turn 59 = .ok (.iastore, 1) := by decide +kernel
theorem dX3_turn_60 : decode cX3_turn 60 = .ok (.aload_n 0, 1) := by decide +kernel
theorem dX3_turn_61 : decode cX3_turn 61 = .ok (.iload_n 1, 1) := by decide +kernel
theorem dX3_turn_62 : decode cX3_turn 62 = .ok (.invokevirtual 94, 3) := by decide +kernel
theorem dX3_turn_65 : decode cX3_turn 65 = .ok (.goto 74, 3) := by decide +kernel
theorem dX3_turn_6 : decode cX3_turn 6 = .ok (.aload_n 0, 1) := by decide +kernel
theorem dX3_turn_7 : decode cX3_turn 7 = .ok (.getfield 29, 3) := by decide +kernel
theorem dX3_turn_10 : decode cX3_turn 10 = .ok (.iload_n 2, 1) := by decide +kernel
theorem dX3_turn_11 : decode cX3_turn 11 = .ok (.dup2, 1) := by decide +kernel
theorem dX3_turn_12 : decode cX3_turn 12 = .ok (.iaload, 1) := by decide +kernel
theorem dX3_turn_13 : decode cX3_turn 13 = .ok (.iload_n 2, 1) := by decide +kernel
theorem dX3_turn_14 : decode cX3_turn 14 = .ok (.bipush 12, 2) := by decide +kernel
theorem dX3_turn_16 : decode cX3_turn 16 = .ok (.if_icmp .ge 7, 3) := by decide +kernel
theorem dX3_turn_23 : decode cX3_turn 23 = .ok (.iconst (-1), 1) := by decide +kernel
theorem dX3_turn_19 : decode cX3_turn 19 = .ok (.iconst 1, 1) := by decide +kernel
theorem dX3_turn_20 : decode cX3_turn 20 = .ok (.goto 4, 3) := by decide +kernel
theorem dX3_turn_24 : decode cX3_turn 24 = .ok (.iadd, 1) := by decide +kernel
theorem dX3_turn_25 : decode cX3_turn 25 = .ok (.iastore, 1) := by decide +kernel
theorem dX3_turn_26 : decode cX3_turn 26 = .ok (.aload_n 0, 1) := by decide +kernel
theorem dX3_turn_27 : decode cX3_turn 27 = .ok (.iload_n 2, 1) := by decide +kernel
theorem dX3_turn_28 : decode cX3_turn 28 = .ok (.invokevirtual 94, 3) := by decide +kernel
theorem dX3_turn_31 : decode cX3_turn 31 = .ok (.goto 108, 3) := by decide +kernel
theorem dX3_shift_0 : decode cX3_shift 0 = .ok (.iload_n 2, 1) := by decide +kernel
theorem dX3_shift_1 : decode cX3_shift 1 = .ok (.istore_n 3, 1) := by decide +kernel
theorem dX3_shift_2 : decode cX3_shift 2 = .ok (.iconst 0, 1) := by decide +kernel
theorem dX3_shift_3 : decode cX3_shift 3 = .ok (.istore 4, 2) := by decide +kernel
theorem dX3_shift_5 : decode cX3_shift 5 = .ok (.iload 4, 2) := by decide +kernel
theorem dX3_shift_7 : decode cX3_shift 7 = .ok (.bipush 25, 2) := by decide +kernel
theorem dX3_shift_9 : decode cX3_shift 9 = .ok (.if_icmp .ge 35, 3) := by decide +kernel
theorem dX3_shift_44 : decode cX3_shift 44 = .ok (.return_, 1) := by decide +kernel
theorem dX3_shift_12 : decode cX3_shift 12 = .ok (.iload_n 3, 1) := by decide +kernel
theorem dX3_shift_13 : decode cX3_shift 13 = .ok (.iload_n 1, 1) := by decide +kernel
theorem dX3_shift_14 : decode cX3_shift 14 = .ok (.if_icmp .eq 30, 3) := by decide +kernel
theorem dX3_shift_17 : decode cX3_shift 17 = .ok (.aload_n 0, 1) := by decide +kernel
theorem dX3_shift_18 : decode cX3_shift 18 = .ok (.getfield 12, 3) := by decide +kernel
theorem dX3_shift_21 : decode cX3_shift 21 = .ok (.getfield 116, 3) := by decide +kernel
theorem dX3_shift_24 : decode cX3_shift 24 = .ok (.iload_n 3, 1) := by decide +kernel
theorem dX3_shift_25 : decode cX3_shift 25 = .ok (.iaload, 1) := by decide +kernel
theorem dX3_shift_26 : decode cX3_shift 26 = .ok (.istore 5, 2) := by decide +kernel
theorem dX3_shift_28 : decode cX3_shift 28 = .ok (.aload_n 0, 1) := by decide +kernel
theorem dX3_shift_29 : decode cX3_shift 29 = .ok (.iload 5, 2) := by decide +kernel
theorem dX3_shift_31 : decode cX3_shift 31 = .ok (.iload_n 3, 1) := by decide +kernel
theorem dX3_shift_32 : decode cX3_shift 32 = .ok (.invokevirtual 119, 3) := by decide +kernel
theorem dX3_shift_35 : decode cX3_shift 35 = .ok (.iload 5, 2) := by decide +kernel
theorem dX3_shift_37 : decode cX3_shift 37 = .ok (.istore_n 3, 1) := by decide +kernel
theorem dX3_shift_38 : decode cX3_shift 38 = .ok (.iinc 4 1, 3) := by decide +kernel
theorem dX3_shift_41 : decode cX3_shift 41 = .ok (.goto (-36), 3) := by decide +kernel
theorem dX3_reachFewest_0 : decode cX3_reachFewest 0 = .ok (.iconst 0, 1) := by decide +kernel
theorem dX3_reachFewest_1 : decode cX3_reachFewest 1 = .ok (.istore_n 1, 1) := by decide +kernel
theorem dX3_reachFewest_2 : decode cX3_reachFewest 2 = .ok (.iload_n 1, 1) := by decide +kernel
theorem dX3_reachFewest_3 : decode cX3_reachFewest 3 = .ok (.bipush 24, 2) := by decide +kernel
theorem dX3_reachFewest_5 : decode cX3_reachFewest 5 = .ok (.if_icmp .ge 102, 3) := by decide +kernel
theorem dX3_reachFewest_107 : decode cX3_reachFewest 107 = .ok (.return_, 1) := by decide +kernel
theorem dX3_reachFewest_8 : decode cX3_reachFewest 8 = .ok (.iload_n 1, 1) := by decide +kernel
theorem dX3_reachFewest_9 : decode cX3_reachFewest 9 = .ok (.bipush 12, 2) := by decide +kernel
theorem dX3_reachFewest_11 : decode cX3_reachFewest 11 = .ok (.if_icmp .ge 7, 3) := by decide +kernel
theorem dX3_reachFewest_18 : decode cX3_reachFewest 18 = .ok (.bipush 24, 2) := by decide +kernel
theorem dX3_reachFewest_20 : decode cX3_reachFewest 20 = .ok (.istore_n 2, 1) := by decide +kernel
theorem dX3_reachFewest_21 : decode cX3_reachFewest 21 = .ok (.iload_n 1, 1) := by decide +kernel
theorem dX3_reachFewest_22 : decode cX3_reachFewest 22 = .ok (.bipush 12, 2) := by decide +kernel
theorem dX3_reachFewest_24 : decode cX3_reachFewest 24 = .ok (.if_icmp .ge 8, 3) := by decide +kernel
theorem dX3_reachFewest_32 : decode cX3_reachFewest 32 = .ok (.iload_n 1, 1) := by decide +kernel
theorem dX3_reachFewest_33 : decode cX3_reachFewest 33 = .ok (.istore_n 3, 1) := by decide +kernel
theorem dX3_reachFewest_34 : decode cX3_reachFewest 34 = .ok (.iconst 0, 1) := by decide +kernel
theorem dX3_reachFewest_35 : decode cX3_reachFewest 35 = .ok (.istore 4, 2) := by decide +kernel
theorem dX3_reachFewest_37 : decode cX3_reachFewest 37 = .ok (.iload 4, 2) := by decide +kernel
theorem dX3_reachFewest_39 : decode cX3_reachFewest 39 = .ok (.bipush 12, 2) := by decide +kernel
theorem dX3_reachFewest_41 : decode cX3_reachFewest 41 = .ok (.if_icmp .ge 60, 3) := by decide +kernel
theorem dX3_reachFewest_101 : decode cX3_reachFewest 101 = .ok (.iinc 1 1, 3) := by decide +kernel
theorem dX3_reachFewest_104 : decode cX3_reachFewest 104 = .ok (.goto (-102), 3) := by decide +kernel
theorem dX3_reachFewest_44 : decode cX3_reachFewest 44 = .ok (.aload_n 0, 1) := by decide +kernel
theorem dX3_reachFewest_45 : decode cX3_reachFewest 45 = .ok (.getfield 29, 3) := by decide +kernel
theorem dX3_reachFewest_48 : decode cX3_reachFewest 48 = .ok (.iload_n 1, 1) := by decide +kernel
theorem dX3_reachFewest_49 : decode cX3_reachFewest 49 = .ok (.iaload, 1) := by decide +kernel
theorem dX3_reachFewest_50 : decode cX3_reachFewest 50 = .ok (.aload_n 0, 1) := by decide +kernel
theorem dX3_reachFewest_51 : decode cX3_reachFewest 51 = .ok (.getfield 32, 3) := by decide +kernel
theorem dX3_reachFewest_54 : decode cX3_reachFewest 54 = .ok (.iload_n 1, 1) := by decide +kernel
theorem dX3_reachFewest_55 : decode cX3_reachFewest 55 = .ok (.iaload, 1) := by decide +kernel
theorem dX3_reachFewest_56 : decode cX3_reachFewest 56 = .ok (.if_icmp .ge 45, 3) := by decide +kernel
theorem dX3_reachFewest_59 : decode cX3_reachFewest 59 = .ok (.aload_n 0, 1) := by decide +kernel
theorem dX3_reachFewest_60 : decode cX3_reachFewest 60 = .ok (.getfield 12, 3) := by decide +kernel
theorem dX3_reachFewest_63 : decode cX3_reachFewest 63 = .ok (.iload_n 2, 1) := by decide +kernel
theorem dX3_reachFewest_64 : decode cX3_reachFewest 64 = .ok (.iload_n 3, 1) := by decide +kernel
theorem dX3_reachFewest_65 : decode cX3_reachFewest 65 = .ok (.invokevirtual 109, 3) := by decide +kernel
theorem dX3_reachFewest_68 : decode cX3_reachFewest 68 = .ok (.ifCond .ne 6, 3) := by decide +kernel
theorem dX3_reachFewest_74 : decode cX3_reachFewest 74 = .ok (.aload_n 0, 1) := by decide +kernel
theorem dX3_reachFewest_75 : decode cX3_reachFewest 75 = .ok (.iload_n 2, 1) := by decide +kernel
theorem dX3_reachFewest_76 : decode cX3_reachFewest 76 = .ok (.iload_n 3, 1) := by decide +kernel
theorem dX3_reachFewest_77 : decode cX3_reachFewest 77 = .ok (.invokevirtual 113, 3) := by decide +kernel
theorem dX3_reachFewest_80 : decode cX3_reachFewest 80 = .ok (.aload_n 0, 1) := by decide +kernel
theorem dX3_reachFewest_81 : decode cX3_reachFewest 81 = .ok (.getfield 29, 3) := by decide +kernel
theorem dX3_reachFewest_84 : decode cX3_reachFewest 84 = .ok (.iload_n 1, 1) := by decide +kernel
theorem dX3_reachFewest_85 : decode cX3_reachFewest 85 = .ok (.dup2, 1) := by decide +kernel
theorem dX3_reachFewest_86 : decode cX3_reachFewest 86 = .ok (.iaload, 1) := by decide +kernel
theorem dX3_reachFewest_87 : decode cX3_reachFewest 87 = .ok (.iconst 1, 1) := by decide +kernel
theorem dX3_reachFewest_88 : decode cX3_reachFewest 88 = .ok (.iadd, 1) := by decide +kernel
theorem dX3_reachFewest_89 : decode cX3_reachFewest 89 = .ok (.iastore, 1) := by decide +kernel
theorem dX3_reachFewest_90 : decode cX3_reachFewest 90 = .ok (.aload_n 0, 1) := by decide +kernel
theorem dX3_reachFewest_91 : decode cX3_reachFewest 91 = .ok (.iload_n 1, 1) := by decide +kernel
theorem dX3_reachFewest_92 : decode cX3_reachFewest 92 = .ok (.invokevirtual 94, 3) := by decide +kernel
theorem dX3_reachFewest_95 : decode cX3_reachFewest 95 = .ok (.iinc 4 1, 3) := by decide +kernel
theorem dX3_reachFewest_98 : decode cX3_reachFewest 98 = .ok (.goto (-61), 3) := by decide +kernel
theorem dX3_reachFewest_14 : decode cX3_reachFewest 14 = .ok (.iload_n 1, 1) := by decide +kernel
theorem dX3_reachFewest_15 : decode cX3_reachFewest 15 = .ok (.goto 5, 3) := by decide +kernel
theorem dX3_reachFewest_27 : decode cX3_reachFewest 27 = .ok (.bipush 24, 2) := by decide +kernel
theorem dX3_reachFewest_29 : decode cX3_reachFewest 29 = .ok (.goto 4, 3) := by decide +kernel
theorem dX3_bringDown_0 : decode cX3_bringDown 0 = .ok (.iconst 0, 1) := by decide +kernel
theorem dX3_bringDown_1 : decode cX3_bringDown 1 = .ok (.istore_n 3, 1) := by decide +kernel
theorem dX3_bringDown_2 : decode cX3_bringDown 2 = .ok (.iload_n 3, 1) := by decide +kernel
theorem dX3_bringDown_3 : decode cX3_bringDown 3 = .ok (.iload_n 2, 1) := by decide +kernel
theorem dX3_bringDown_4 : decode cX3_bringDown 4 = .ok (.if_icmp .ge 85, 3) := by decide +kernel
theorem dX3_bringDown_89 : decode cX3_bringDown 89 = .ok (.return_, 1) := by decide +kernel
theorem dX3_bringDown_7 : decode cX3_bringDown 7 = .ok (.iload_n 1, 1) := by decide +kernel
theorem dX3_bringDown_8 : decode cX3_bringDown 8 = .ok (.iload_n 3, 1) := by decide +kernel
theorem dX3_bringDown_9 : decode cX3_bringDown 9 = .ok (.invokestatic 72, 3) := by decide +kernel
theorem dX3_bringDown_12 : decode cX3_bringDown 12 = .ok (.istore 4, 2) := by decide +kernel
theorem dX3_bringDown_14 : decode cX3_bringDown 14 = .ok (.aload_n 0, 1) := by decide +kernel
theorem dX3_bringDown_15 : decode cX3_bringDown 15 = .ok (.getfield 18, 3) := by decide +kernel
theorem dX3_bringDown_18 : decode cX3_bringDown 18 = .ok (.iload 4, 2) := by decide +kernel
theorem dX3_bringDown_20 : decode cX3_bringDown 20 = .ok (.iaload, 1) := by decide +kernel
theorem dX3_bringDown_21 : decode cX3_bringDown 21 = .ok (.ifCond .ne 6, 3) := by decide +kernel
theorem dX3_bringDown_27 : decode cX3_bringDown 27 = .ok (.aload_n 0, 1) := by decide +kernel
theorem dX3_bringDown_28 : decode cX3_bringDown 28 = .ok (.getfield 12, 3) := by decide +kernel
theorem dX3_bringDown_31 : decode cX3_bringDown 31 = .ok (.iload_n 1, 1) := by decide +kernel
theorem dX3_bringDown_32 : decode cX3_bringDown 32 = .ok (.bipush 12, 2) := by decide +kernel
theorem dX3_bringDown_34 : decode cX3_bringDown 34 = .ok (.iload_n 3, 1) := by decide +kernel
theorem dX3_bringDown_35 : decode cX3_bringDown 35 = .ok (.iadd, 1) := by decide +kernel
theorem dX3_bringDown_36 : decode cX3_bringDown 36 = .ok (.iconst 0, 1) := by decide +kernel
theorem dX3_bringDown_37 : decode cX3_bringDown 37 = .ok (.iconst 0, 1) := by decide +kernel
theorem dX3_bringDown_38 : decode cX3_bringDown 38 = .ok (.invokevirtual 105, 3) := by decide +kernel
theorem dX3_bringDown_41 : decode cX3_bringDown 41 = .ok (.aload_n 0, 1) := by decide +kernel
theorem dX3_bringDown_42 : decode cX3_bringDown 42 = .ok (.getfield 22, 3) := by decide +kernel
theorem dX3_bringDown_45 : decode cX3_bringDown 45 = .ok (.iload 4, 2) := by decide +kernel
theorem dX3_bringDown_47 : decode cX3_bringDown 47 = .ok (.baload, 1) := by decide +kernel
theorem dX3_bringDown_48 : decode cX3_bringDown 48 = .ok (.ifCond .eq 35, 3) := by decide +kernel
theorem dX3_bringDown_51 : decode cX3_bringDown 51 = .ok (.aload_n 0, 1) := by decide +kernel
theorem dX3_bringDown_52 : decode cX3_bringDown 52 = .ok (.getfield 12, 3) := by decide +kernel
theorem dX3_bringDown_55 : decode cX3_bringDown 55 = .ok (.iload_n 1, 1) := by decide +kernel
theorem dX3_bringDown_56 : decode cX3_bringDown 56 = .ok (.bipush 12, 2) := by decide +kernel
theorem dX3_bringDown_58 : decode cX3_bringDown 58 = .ok (.iload_n 3, 1) := by decide +kernel
theorem dX3_bringDown_59 : decode cX3_bringDown 59 = .ok (.iadd, 1) := by decide +kernel
theorem dX3_bringDown_60 : decode cX3_bringDown 60 = .ok (.invokevirtual 109, 3) := by decide +kernel
theorem dX3_bringDown_63 : decode cX3_bringDown 63 = .ok (.ifCond .eq 20, 3) := by decide +kernel
theorem dX3_bringDown_66 : decode cX3_bringDown 66 = .ok (.aload_n 0, 1) := by decide +kernel
theorem dX3_bringDown_67 : decode cX3_bringDown 67 = .ok (.iload_n 1, 1) := by decide +kernel
theorem dX3_bringDown_68 : decode cX3_bringDown 68 = .ok (.bipush 12, 2) := by decide +kernel
theorem dX3_bringDown_70 : decode cX3_bringDown 70 = .ok (.iload_n 3, 1) := by decide +kernel
theorem dX3_bringDown_71 : decode cX3_bringDown 71 = .ok (.iadd, 1) := by decide +kernel
theorem dX3_bringDown_72 : decode cX3_bringDown 72 = .ok (.invokevirtual 113, 3) := by decide +kernel
theorem dX3_bringDown_75 : decode cX3_bringDown 75 = .ok (.aload_n 0, 1) := by decide +kernel
theorem dX3_bringDown_76 : decode cX3_bringDown 76 = .ok (.getfield 22, 3) := by decide +kernel
theorem dX3_bringDown_79 : decode cX3_bringDown 79 = .ok (.iload 4, 2) := by decide +kernel
theorem dX3_bringDown_81 : decode cX3_bringDown 81 = .ok (.iconst 0, 1) := by decide +kernel
theorem dX3_bringDown_82 : decode cX3_bringDown 82 = .ok (.bastore, 1) := by decide +kernel
theorem dX3_bringDown_24 : decode cX3_bringDown 24 = .ok (.goto 59, 3) := by decide +kernel
theorem dX3_bringDown_83 : decode cX3_bringDown 83 = .ok (.iinc 3 1, 3) := by decide +kernel
theorem dX3_bringDown_86 : decode cX3_bringDown 86 = .ok (.goto (-84), 3) := by decide +kernel
theorem dX3_layRow_0 : decode cX3_layRow 0 = .ok (.iconst 0, 1) := by decide +kernel
theorem dX3_layRow_1 : decode cX3_layRow 1 = .ok (.istore 4, 2) := by decide +kernel
theorem dX3_layRow_3 : decode cX3_layRow 3 = .ok (.iload 4, 2) := by decide +kernel
theorem dX3_layRow_5 : decode cX3_layRow 5 = .ok (.aload_n 1, 1) := by decide +kernel
theorem dX3_layRow_6 : decode cX3_layRow 6 = .ok (.getfield 68, 3) := by decide +kernel
theorem dX3_layRow_9 : decode cX3_layRow 9 = .ok (.if_icmp .ge 110, 3) := by decide +kernel
theorem dX3_layRow_119 : decode cX3_layRow 119 = .ok (.return_, 1) := by decide +kernel
theorem dX3_layRow_12 : decode cX3_layRow 12 = .ok (.iload_n 2, 1) := by decide +kernel
theorem dX3_layRow_13 : decode cX3_layRow 13 = .ok (.iload 4, 2) := by decide +kernel
theorem dX3_layRow_15 : decode cX3_layRow 15 = .ok (.invokestatic 72, 3) := by decide +kernel
theorem dX3_layRow_18 : decode cX3_layRow 18 = .ok (.istore 5, 2) := by decide +kernel
theorem dX3_layRow_20 : decode cX3_layRow 20 = .ok (.aload_n 0, 1) := by decide +kernel
theorem dX3_layRow_21 : decode cX3_layRow 21 = .ok (.getfield 18, 3) := by decide +kernel
theorem dX3_layRow_24 : decode cX3_layRow 24 = .ok (.iload 5, 2) := by decide +kernel
theorem dX3_layRow_26 : decode cX3_layRow 26 = .ok (.iload_n 3, 1) := by decide +kernel
theorem dX3_layRow_27 : decode cX3_layRow 27 = .ok (.ifCond .le 15, 3) := by decide +kernel
theorem dX3_layRow_30 : decode cX3_layRow 30 = .ok (.aload_n 1, 1) := by decide +kernel
theorem dX3_layRow_31 : decode cX3_layRow 31 = .ok (.getfield 76, 3) := by decide +kernel
theorem dX3_layRow_34 : decode cX3_layRow 34 = .ok (.iload 5, 2) := by decide +kernel
theorem dX3_layRow_36 : decode cX3_layRow 36 = .ok (.iaload, 1) := by decide +kernel
theorem dX3_layRow_37 : decode cX3_layRow 37 = .ok (.iload_n 3, 1) := by decide +kernel
theorem dX3_layRow_38 : decode cX3_layRow 38 = .ok (.irem, 1) := by decide +kernel
theorem dX3_layRow_39 : decode cX3_layRow 39 = .ok (.goto 4, 3) := by decide +kernel
theorem dX3_layRow_43 : decode cX3_layRow 43 = .ok (.iastore, 1) := by decide +kernel
theorem dX3_layRow_44 : decode cX3_layRow 44 = .ok (.aload_n 0, 1) := by decide +kernel
theorem dX3_layRow_45 : decode cX3_layRow 45 = .ok (.getfield 22, 3) := by decide +kernel
theorem dX3_layRow_48 : decode cX3_layRow 48 = .ok (.iload 5, 2) := by decide +kernel
theorem dX3_layRow_50 : decode cX3_layRow 50 = .ok (.iconst 0, 1) := by decide +kernel
theorem dX3_layRow_51 : decode cX3_layRow 51 = .ok (.bastore, 1) := by decide +kernel
theorem dX3_layRow_52 : decode cX3_layRow 52 = .ok (.aload_n 0, 1) := by decide +kernel
theorem dX3_layRow_53 : decode cX3_layRow 53 = .ok (.getfield 26, 3) := by decide +kernel
theorem dX3_layRow_56 : decode cX3_layRow 56 = .ok (.iload_n 2, 1) := by decide +kernel
theorem dX3_layRow_57 : decode cX3_layRow 57 = .ok (.dup2, 1) := by decide +kernel
theorem dX3_layRow_58 : decode cX3_layRow 58 = .ok (.iaload, 1) := by decide +kernel
theorem dX3_layRow_59 : decode cX3_layRow 59 = .ok (.aload_n 0, 1) := by decide +kernel
theorem dX3_layRow_60 : decode cX3_layRow 60 = .ok (.getfield 18, 3) := by decide +kernel
theorem dX3_layRow_63 : decode cX3_layRow 63 = .ok (.iload 5, 2) := by decide +kernel
theorem dX3_layRow_65 : decode cX3_layRow 65 = .ok (.iaload, 1) := by decide +kernel
theorem dX3_layRow_66 : decode cX3_layRow 66 = .ok (.iadd, 1) := by decide +kernel
theorem dX3_layRow_67 : decode cX3_layRow 67 = .ok (.iastore, 1) := by decide +kernel
theorem dX3_layRow_68 : decode cX3_layRow 68 = .ok (.aload_n 0, 1) := by decide +kernel
theorem dX3_layRow_69 : decode cX3_layRow 69 = .ok (.getfield 26, 3) := by decide +kernel
theorem dX3_layRow_72 : decode cX3_layRow 72 = .ok (.bipush 12, 2) := by decide +kernel
theorem dX3_layRow_74 : decode cX3_layRow 74 = .ok (.iload 4, 2) := by decide +kernel
theorem dX3_layRow_76 : decode cX3_layRow 76 = .ok (.iadd, 1) := by decide +kernel
theorem dX3_layRow_77 : decode cX3_layRow 77 = .ok (.dup2, 1) := by decide +kernel
theorem dX3_layRow_78 : decode cX3_layRow 78 = .ok (.iaload, 1) := by decide +kernel
theorem dX3_layRow_79 : decode cX3_layRow 79 = .ok (.aload_n 0, 1) := by decide +kernel
theorem dX3_layRow_80 : decode cX3_layRow 80 = .ok (.getfield 18, 3) := by decide +kernel
theorem dX3_layRow_83 : decode cX3_layRow 83 = .ok (.iload 5, 2) := by decide +kernel
theorem dX3_layRow_85 : decode cX3_layRow 85 = .ok (.iaload, 1) := by decide +kernel
theorem dX3_layRow_86 : decode cX3_layRow 86 = .ok (.iadd, 1) := by decide +kernel
theorem dX3_layRow_87 : decode cX3_layRow 87 = .ok (.iastore, 1) := by decide +kernel
theorem dX3_layRow_88 : decode cX3_layRow 88 = .ok (.aload_n 0, 1) := by decide +kernel
theorem dX3_layRow_89 : decode cX3_layRow 89 = .ok (.getfield 18, 3) := by decide +kernel
theorem dX3_layRow_92 : decode cX3_layRow 92 = .ok (.iload 5, 2) := by decide +kernel
theorem dX3_layRow_94 : decode cX3_layRow 94 = .ok (.iaload, 1) := by decide +kernel
theorem dX3_layRow_95 : decode cX3_layRow 95 = .ok (.ifCond .le 18, 3) := by decide +kernel
theorem dX3_layRow_98 : decode cX3_layRow 98 = .ok (.aload_n 0, 1) := by decide +kernel
theorem dX3_layRow_99 : decode cX3_layRow 99 = .ok (.getfield 12, 3) := by decide +kernel
theorem dX3_layRow_102 : decode cX3_layRow 102 = .ok (.iload_n 2, 1) := by decide +kernel
theorem dX3_layRow_103 : decode cX3_layRow 103 = .ok (.bipush 12, 2) := by decide +kernel
theorem dX3_layRow_105 : decode cX3_layRow 105 = .ok (.iload 4, 2) := by decide +kernel
theorem dX3_layRow_107 : decode cX3_layRow 107 = .ok (.iadd, 1) := by decide +kernel
theorem dX3_layRow_108 : decode cX3_layRow 108 = .ok (.iconst 1, 1) := by decide +kernel
theorem dX3_layRow_109 : decode cX3_layRow 109 = .ok (.iconst 0, 1) := by decide +kernel
theorem dX3_layRow_110 : decode cX3_layRow 110 = .ok (.invokevirtual 105, 3) := by decide +kernel
theorem dX3_layRow_113 : decode cX3_layRow 113 = .ok (.iinc 4 1, 3) := by decide +kernel
theorem dX3_layRow_116 : decode cX3_layRow 116 = .ok (.goto (-113), 3) := by decide +kernel
theorem dX3_isFirstOfClass_0 : decode cX3_isFirstOfClass 0 = .ok (.iconst 0, 1) := by decide +kernel
theorem dX3_isFirstOfClass_1 : decode cX3_isFirstOfClass 1 = .ok (.istore_n 3, 1) := by decide +kernel
theorem dX3_isFirstOfClass_2 : decode cX3_isFirstOfClass 2 = .ok (.iload_n 3, 1) := by decide +kernel
theorem dX3_isFirstOfClass_3 : decode cX3_isFirstOfClass 3 = .ok (.iload_n 2, 1) := by decide +kernel
theorem dX3_isFirstOfClass_4 : decode cX3_isFirstOfClass 4 = .ok (.if_icmp .ge 35, 3) := by decide +kernel
theorem dX3_isFirstOfClass_39 : decode cX3_isFirstOfClass 39 = .ok (.iconst 1, 1) := by decide +kernel
theorem dX3_isFirstOfClass_40 : decode cX3_isFirstOfClass 40 = .ok (.ireturn, 1) := by decide +kernel
theorem dX3_isFirstOfClass_7 : decode cX3_isFirstOfClass 7 = .ok (.aload_n 1, 1) := by decide +kernel
theorem dX3_isFirstOfClass_8 : decode cX3_isFirstOfClass 8 = .ok (.getfield 47, 3) := by decide +kernel
theorem dX3_isFirstOfClass_11 : decode cX3_isFirstOfClass 11 = .ok (.iload_n 3, 1) := by decide +kernel
theorem dX3_isFirstOfClass_12 : decode cX3_isFirstOfClass 12 = .ok (.baload, 1) := by decide +kernel
theorem dX3_isFirstOfClass_13 : decode cX3_isFirstOfClass 13 = .ok (.ifCond .eq 20, 3) := by decide +kernel
theorem dX3_isFirstOfClass_33 : decode cX3_isFirstOfClass 33 = .ok (.iinc 3 1, 3) := by decide +kernel
theorem dX3_isFirstOfClass_36 : decode cX3_isFirstOfClass 36 = .ok (.goto (-34), 3) := by decide +kernel
theorem dX3_isFirstOfClass_16 : decode cX3_isFirstOfClass 16 = .ok (.aload_n 1, 1) := by decide +kernel
theorem dX3_isFirstOfClass_17 : decode cX3_isFirstOfClass 17 = .ok (.getfield 54, 3) := by decide +kernel
theorem dX3_isFirstOfClass_20 : decode cX3_isFirstOfClass 20 = .ok (.iload_n 3, 1) := by decide +kernel
theorem dX3_isFirstOfClass_21 : decode cX3_isFirstOfClass 21 = .ok (.iaload, 1) := by decide +kernel
theorem dX3_isFirstOfClass_22 : decode cX3_isFirstOfClass 22 = .ok (.aload_n 1, 1) := by decide +kernel
theorem dX3_isFirstOfClass_23 : decode cX3_isFirstOfClass 23 = .ok (.getfield 54, 3) := by decide +kernel
theorem dX3_isFirstOfClass_26 : decode cX3_isFirstOfClass 26 = .ok (.iload_n 2, 1) := by decide +kernel
theorem dX3_isFirstOfClass_27 : decode cX3_isFirstOfClass 27 = .ok (.iaload, 1) := by decide +kernel
theorem dX3_isFirstOfClass_28 : decode cX3_isFirstOfClass 28 = .ok (.if_icmp .ne 5, 3) := by decide +kernel
theorem dX3_isFirstOfClass_31 : decode cX3_isFirstOfClass 31 = .ok (.iconst 0, 1) := by decide +kernel
theorem dX3_isFirstOfClass_32 : decode cX3_isFirstOfClass 32 = .ok (.ireturn, 1) := by decide +kernel
theorem dX3_roundClass_0 : decode cX3_roundClass 0 = .ok (.aload_n 0, 1) := by decide +kernel
theorem dX3_roundClass_1 : decode cX3_roundClass 1 = .ok (.getfield 12, 3) := by decide +kernel
theorem dX3_roundClass_4 : decode cX3_roundClass 4 = .ok (.invokevirtual 82, 3) := by decide +kernel
theorem dX3_roundClass_7 : decode cX3_roundClass 7 = .ok (.aload_n 0, 1) := by decide +kernel
theorem dX3_roundClass_8 : decode cX3_roundClass 8 = .ok (.getfield 29, 3) := by decide +kernel
theorem dX3_roundClass_11 : decode cX3_roundClass 11 = .ok (.iconst 0, 1) := by decide +kernel
theorem dX3_roundClass_12 : decode cX3_roundClass 12 = .ok (.invokestatic 85, 3) := by decide +kernel
theorem dX3_roundClass_15 : decode cX3_roundClass 15 = .ok (.aload_n 0, 1) := by decide +kernel
theorem dX3_roundClass_16 : decode cX3_roundClass 16 = .ok (.getfield 26, 3) := by decide +kernel
theorem dX3_roundClass_19 : decode cX3_roundClass 19 = .ok (.iconst 0, 1) := by decide +kernel
theorem dX3_roundClass_20 : decode cX3_roundClass 20 = .ok (.invokestatic 85, 3) := by decide +kernel
theorem dX3_roundClass_23 : decode cX3_roundClass 23 = .ok (.iconst 0, 1) := by decide +kernel
theorem dX3_roundClass_24 : decode cX3_roundClass 24 = .ok (.istore 4, 2) := by decide +kernel
theorem dX3_roundClass_26 : decode cX3_roundClass 26 = .ok (.iload 4, 2) := by decide +kernel
theorem dX3_roundClass_28 : decode cX3_roundClass 28 = .ok (.aload_n 1, 1) := by decide +kernel
theorem dX3_roundClass_29 : decode cX3_roundClass 29 = .ok (.getfield 41, 3) := by decide +kernel
theorem dX3_roundClass_32 : decode cX3_roundClass 32 = .ok (.if_icmp .ge 60, 3) := by decide +kernel
theorem dX3_roundClass_35 : decode cX3_roundClass 35 = .ok (.aload_n 0, 1) := by decide +kernel
theorem dX3_roundClass_36 : decode cX3_roundClass 36 = .ok (.getfield 38, 3) := by decide +kernel
theorem dX3_roundClass_39 : decode cX3_roundClass 39 = .ok (.iload 4, 2) := by decide +kernel
theorem dX3_roundClass_41 : decode cX3_roundClass 41 = .ok (.aload_n 1, 1) := by decide +kernel
theorem dX3_roundClass_42 : decode cX3_roundClass 42 = .ok (.getfield 47, 3) := by decide +kernel
theorem dX3_roundClass_45 : decode cX3_roundClass 45 = .ok (.iload 4, 2) := by decide +kernel
theorem dX3_roundClass_47 : decode cX3_roundClass 47 = .ok (.baload, 1) := by decide +kernel
theorem dX3_roundClass_48 : decode cX3_roundClass 48 = .ok (.ifCond .eq 18, 3) := by decide +kernel
theorem dX3_roundClass_66 : decode cX3_roundClass 66 = .ok (.iconst 0, 1) := by decide +kernel
theorem dX3_roundClass_51 : decode cX3_roundClass 51 = .ok (.aload_n 1, 1) := by decide +kernel
theorem dX3_roundClass_52 : decode cX3_roundClass 52 = .ok (.getfield 54, 3) := by decide +kernel
theorem dX3_roundClass_55 : decode cX3_roundClass 55 = .ok (.iload 4, 2) := by decide +kernel
theorem dX3_roundClass_57 : decode cX3_roundClass 57 = .ok (.iaload, 1) := by decide +kernel
theorem dX3_roundClass_58 : decode cX3_roundClass 58 = .ok (.iload_n 2, 1) := by decide +kernel
theorem dX3_roundClass_59 : decode cX3_roundClass 59 = .ok (.if_icmp .ne 7, 3) := by decide +kernel
theorem dX3_roundClass_62 : decode cX3_roundClass 62 = .ok (.iconst 1, 1) := by decide +kernel
theorem dX3_roundClass_63 : decode cX3_roundClass 63 = .ok (.goto 4, 3) := by decide +kernel
theorem dX3_roundClass_67 : decode cX3_roundClass 67 = .ok (.bastore, 1) := by decide +kernel
theorem dX3_roundClass_68 : decode cX3_roundClass 68 = .ok (.aload_n 0, 1) := by decide +kernel
theorem dX3_roundClass_69 : decode cX3_roundClass 69 = .ok (.getfield 38, 3) := by decide +kernel
theorem dX3_roundClass_72 : decode cX3_roundClass 72 = .ok (.iload 4, 2) := by decide +kernel
theorem dX3_roundClass_74 : decode cX3_roundClass 74 = .ok (.baload, 1) := by decide +kernel
theorem dX3_roundClass_75 : decode cX3_roundClass 75 = .ok (.ifCond .eq 11, 3) := by decide +kernel
theorem dX3_roundClass_78 : decode cX3_roundClass 78 = .ok (.aload_n 0, 1) := by decide +kernel
theorem dX3_roundClass_79 : decode cX3_roundClass 79 = .ok (.aload_n 1, 1) := by decide +kernel
theorem dX3_roundClass_80 : decode cX3_roundClass 80 = .ok (.iload 4, 2) := by decide +kernel
theorem dX3_roundClass_82 : decode cX3_roundClass 82 = .ok (.iload_n 3, 1) := by decide +kernel
theorem dX3_roundClass_83 : decode cX3_roundClass 83 = .ok (.invokevirtual 91, 3) := by decide +kernel
theorem dX3_roundClass_86 : decode cX3_roundClass 86 = .ok (.iinc 4 1, 3) := by decide +kernel
theorem dX3_roundClass_89 : decode cX3_roundClass 89 = .ok (.goto (-63), 3) := by decide +kernel
theorem dX3_roundClass_92 : decode cX3_roundClass 92 = .ok (.iconst 0, 1) := by decide +kernel
theorem dX3_roundClass_93 : decode cX3_roundClass 93 = .ok (.istore 4, 2) := by decide +kernel
theorem dX3_roundClass_95 : decode cX3_roundClass 95 = .ok (.iload 4, 2) := by decide +kernel
theorem dX3_roundClass_97 : decode cX3_roundClass 97 = .ok (.bipush 24, 2) := by decide +kernel
theorem dX3_roundClass_99 : decode cX3_roundClass 99 = .ok (.if_icmp .ge 67, 3) := by decide +kernel
theorem dX3_roundClass_102 : decode cX3_roundClass 102 = .ok (.aload_n 0, 1) := by decide +kernel
theorem dX3_roundClass_103 : decode cX3_roundClass 103 = .ok (.getfield 32, 3) := by decide +kernel
theorem dX3_roundClass_106 : decode cX3_roundClass 106 = .ok (.iload 4, 2) := by decide +kernel
theorem dX3_roundClass_108 : decode cX3_roundClass 108 = .ok (.iload_n 3, 1) := by decide +kernel
theorem dX3_roundClass_109 : decode cX3_roundClass 109 = .ok (.ifCond .le 15, 3) := by decide +kernel
theorem dX3_roundClass_112 : decode cX3_roundClass 112 = .ok (.aload_n 0, 1) := by decide +kernel
theorem dX3_roundClass_113 : decode cX3_roundClass 113 = .ok (.getfield 26, 3) := by decide +kernel
theorem dX3_roundClass_116 : decode cX3_roundClass 116 = .ok (.iload 4, 2) := by decide +kernel
theorem dX3_roundClass_118 : decode cX3_roundClass 118 = .ok (.iaload, 1) := by decide +kernel
theorem dX3_roundClass_119 : decode cX3_roundClass 119 = .ok (.iload_n 3, 1) := by decide +kernel
theorem dX3_roundClass_120 : decode cX3_roundClass 120 = .ok (.idiv, 1) := by decide +kernel
theorem dX3_roundClass_121 : decode cX3_roundClass 121 = .ok (.goto 4, 3) := by decide +kernel
theorem dX3_roundClass_125 : decode cX3_roundClass 125 = .ok (.iastore, 1) := by decide +kernel
theorem dX3_roundClass_126 : decode cX3_roundClass 126 = .ok (.aload_n 0, 1) := by decide +kernel
theorem dX3_roundClass_127 : decode cX3_roundClass 127 = .ok (.getfield 35, 3) := by decide +kernel
theorem dX3_roundClass_130 : decode cX3_roundClass 130 = .ok (.iload 4, 2) := by decide +kernel
theorem dX3_roundClass_132 : decode cX3_roundClass 132 = .ok (.iload_n 3, 1) := by decide +kernel
theorem dX3_roundClass_133 : decode cX3_roundClass 133 = .ok (.ifCond .le 19, 3) := by decide +kernel
theorem dX3_roundClass_136 : decode cX3_roundClass 136 = .ok (.aload_n 0, 1) := by decide +kernel
theorem dX3_roundClass_137 : decode cX3_roundClass 137 = .ok (.getfield 26, 3) := by decide +kernel
theorem dX3_roundClass_140 : decode cX3_roundClass 140 = .ok (.iload 4, 2) := by decide +kernel
theorem dX3_roundClass_142 : decode cX3_roundClass 142 = .ok (.iaload, 1) := by decide +kernel
theorem dX3_roundClass_143 : decode cX3_roundClass 143 = .ok (.iload_n 3, 1) := by decide +kernel
theorem dX3_roundClass_144 : decode cX3_roundClass 144 = .ok (.iadd, 1) := by decide +kernel
theorem dX3_roundClass_145 : decode cX3_roundClass 145 = .ok (.iconst 1, 1) := by decide +kernel
theorem dX3_roundClass_146 : decode cX3_roundClass 146 = .ok (.isub, 1) := by decide +kernel
theorem dX3_roundClass_147 : decode cX3_roundClass 147 = .ok (.iload_n 3, 1) := by decide +kernel
theorem dX3_roundClass_148 : decode cX3_roundClass 148 = .ok (.idiv, 1) := by decide +kernel
theorem dX3_roundClass_149 : decode cX3_roundClass 149 = .ok (.goto 4, 3) := by decide +kernel
theorem dX3_roundClass_153 : decode cX3_roundClass 153 = .ok (.iastore, 1) := by decide +kernel
theorem dX3_roundClass_154 : decode cX3_roundClass 154 = .ok (.aload_n 0, 1) := by decide +kernel
theorem dX3_roundClass_155 : decode cX3_roundClass 155 = .ok (.iload 4, 2) := by decide +kernel
theorem dX3_roundClass_157 : decode cX3_roundClass 157 = .ok (.invokevirtual 94, 3) := by decide +kernel
theorem dX3_roundClass_160 : decode cX3_roundClass 160 = .ok (.iinc 4 1, 3) := by decide +kernel
theorem dX3_roundClass_163 : decode cX3_roundClass 163 = .ok (.goto (-68), 3) := by decide +kernel
theorem dX3_roundClass_166 : decode cX3_roundClass 166 = .ok (.aload_n 0, 1) := by decide +kernel
theorem dX3_roundClass_167 : decode cX3_roundClass 167 = .ok (.invokevirtual 98, 3) := by decide +kernel
theorem dX3_roundClass_170 : decode cX3_roundClass 170 = .ok (.iconst 0, 1) := by decide +kernel
theorem dX3_roundClass_171 : decode cX3_roundClass 171 = .ok (.istore 4, 2) := by decide +kernel
theorem dX3_roundClass_173 : decode cX3_roundClass 173 = .ok (.iload 4, 2) := by decide +kernel
theorem dX3_roundClass_175 : decode cX3_roundClass 175 = .ok (.aload_n 1, 1) := by decide +kernel
theorem dX3_roundClass_176 : decode cX3_roundClass 176 = .ok (.getfield 41, 3) := by decide +kernel
theorem dX3_roundClass_179 : decode cX3_roundClass 179 = .ok (.if_icmp .ge 29, 3) := by decide +kernel
theorem dX3_roundClass_208 : decode cX3_roundClass 208 = .ok (.return_, 1) := by decide +kernel
theorem dX3_roundClass_182 : decode cX3_roundClass 182 = .ok (.aload_n 0, 1) := by decide +kernel
theorem dX3_roundClass_183 : decode cX3_roundClass 183 = .ok (.getfield 38, 3) := by decide +kernel
theorem dX3_roundClass_186 : decode cX3_roundClass 186 = .ok (.iload 4, 2) := by decide +kernel
theorem dX3_roundClass_188 : decode cX3_roundClass 188 = .ok (.baload, 1) := by decide +kernel
theorem dX3_roundClass_189 : decode cX3_roundClass 189 = .ok (.ifCond .eq 13, 3) := by decide +kernel
theorem dX3_roundClass_192 : decode cX3_roundClass 192 = .ok (.aload_n 0, 1) := by decide +kernel
theorem dX3_roundClass_193 : decode cX3_roundClass 193 = .ok (.iload 4, 2) := by decide +kernel
theorem dX3_roundClass_195 : decode cX3_roundClass 195 = .ok (.aload_n 1, 1) := by decide +kernel
theorem dX3_roundClass_196 : decode cX3_roundClass 196 = .ok (.getfield 68, 3) := by decide +kernel
theorem dX3_roundClass_199 : decode cX3_roundClass 199 = .ok (.invokevirtual 101, 3) := by decide +kernel
theorem dX3_roundClass_202 : decode cX3_roundClass 202 = .ok (.iinc 4 1, 3) := by decide +kernel
theorem dX3_roundClass_205 : decode cX3_roundClass 205 = .ok (.goto (-32), 3) := by decide +kernel
theorem dX3_write_0 : decode cX3_write 0 = .ok (.aload_n 3, 1) := by decide +kernel
theorem dX3_write_1 : decode cX3_write 1 = .ok (.aload_n 1, 1) := by decide +kernel
theorem dX3_write_2 : decode cX3_write 2 = .ok (.getfield 41, 3) := by decide +kernel
theorem dX3_write_5 : decode cX3_write 5 = .ok (.putfield 65, 3) := by decide +kernel
theorem dX3_write_8 : decode cX3_write 8 = .ok (.aload_n 3, 1) := by decide +kernel
theorem dX3_write_9 : decode cX3_write 9 = .ok (.aload_n 1, 1) := by decide +kernel
theorem dX3_write_10 : decode cX3_write 10 = .ok (.getfield 68, 3) := by decide +kernel
theorem dX3_write_13 : decode cX3_write 13 = .ok (.putfield 71, 3) := by decide +kernel
theorem dX3_write_16 : decode cX3_write 16 = .ok (.iconst 0, 1) := by decide +kernel
theorem dX3_write_17 : decode cX3_write 17 = .ok (.istore 4, 2) := by decide +kernel
theorem dX3_write_19 : decode cX3_write 19 = .ok (.iconst 0, 1) := by decide +kernel
theorem dX3_write_20 : decode cX3_write 20 = .ok (.istore 5, 2) := by decide +kernel
theorem dX3_write_22 : decode cX3_write 22 = .ok (.iload 5, 2) := by decide +kernel
theorem dX3_write_24 : decode cX3_write 24 = .ok (.aload_n 1, 1) := by decide +kernel
theorem dX3_write_25 : decode cX3_write 25 = .ok (.getfield 41, 3) := by decide +kernel
theorem dX3_write_28 : decode cX3_write 28 = .ok (.if_icmp .ge 129, 3) := by decide +kernel
theorem dX3_write_31 : decode cX3_write 31 = .ok (.iconst 0, 1) := by decide +kernel
theorem dX3_write_32 : decode cX3_write 32 = .ok (.istore 6, 2) := by decide +kernel
theorem dX3_write_34 : decode cX3_write 34 = .ok (.iload 6, 2) := by decide +kernel
theorem dX3_write_36 : decode cX3_write 36 = .ok (.aload_n 1, 1) := by decide +kernel
theorem dX3_write_37 : decode cX3_write 37 = .ok (.getfield 68, 3) := by decide +kernel
theorem dX3_write_40 : decode cX3_write 40 = .ok (.if_icmp .ge 111, 3) := by decide +kernel
theorem dX3_write_43 : decode cX3_write 43 = .ok (.iload 5, 2) := by decide +kernel
theorem dX3_write_45 : decode cX3_write 45 = .ok (.iload 6, 2) := by decide +kernel
theorem dX3_write_47 : decode cX3_write 47 = .ok (.invokestatic 72, 3) := by decide +kernel
theorem dX3_write_50 : decode cX3_write 50 = .ok (.istore 7, 2) := by decide +kernel
theorem dX3_write_52 : decode cX3_write 52 = .ok (.aload_n 1, 1) := by decide +kernel
theorem dX3_write_53 : decode cX3_write 53 = .ok (.getfield 47, 3) := by decide +kernel
theorem dX3_write_56 : decode cX3_write 56 = .ok (.iload 5, 2) := by decide +kernel
theorem dX3_write_58 : decode cX3_write 58 = .ok (.baload, 1) := by decide +kernel
theorem dX3_write_59 : decode cX3_write 59 = .ok (.ifCond .eq 17, 3) := by decide +kernel
theorem dX3_write_76 : decode cX3_write 76 = .ok (.iconst 0, 1) := by decide +kernel
theorem dX3_write_62 : decode cX3_write 62 = .ok (.aload_n 0, 1) := by decide +kernel
theorem dX3_write_63 : decode cX3_write 63 = .ok (.getfield 22, 3) := by decide +kernel
theorem dX3_write_66 : decode cX3_write 66 = .ok (.iload 7, 2) := by decide +kernel
theorem dX3_write_68 : decode cX3_write 68 = .ok (.baload, 1) := by decide +kernel
theorem dX3_write_69 : decode cX3_write 69 = .ok (.ifCond .eq 7, 3) := by decide +kernel
theorem dX3_write_72 : decode cX3_write 72 = .ok (.iconst 1, 1) := by decide +kernel
theorem dX3_write_73 : decode cX3_write 73 = .ok (.goto 4, 3) := by decide +kernel
theorem dX3_write_77 : decode cX3_write 77 = .ok (.istore 8, 2) := by decide +kernel
theorem dX3_write_79 : decode cX3_write 79 = .ok (.aload_n 1, 1) := by decide +kernel
theorem dX3_write_80 : decode cX3_write 80 = .ok (.getfield 76, 3) := by decide +kernel
theorem dX3_write_83 : decode cX3_write 83 = .ok (.iload 7, 2) := by decide +kernel
theorem dX3_write_85 : decode cX3_write 85 = .ok (.iaload, 1) := by decide +kernel
theorem dX3_write_86 : decode cX3_write 86 = .ok (.aload_n 0, 1) := by decide +kernel
theorem dX3_write_87 : decode cX3_write 87 = .ok (.getfield 18, 3) := by decide +kernel
theorem dX3_write_90 : decode cX3_write 90 = .ok (.iload 7, 2) := by decide +kernel
theorem dX3_write_92 : decode cX3_write 92 = .ok (.iaload, 1) := by decide +kernel
theorem dX3_write_93 : decode cX3_write 93 = .ok (.isub, 1) := by decide +kernel
theorem dX3_write_94 : decode cX3_write 94 = .ok (.iload 8, 2) := by decide +kernel
theorem dX3_write_96 : decode cX3_write 96 = .ok (.ifCond .eq 7, 3) := by decide +kernel
theorem dX3_write_103 : decode cX3_write 103 = .ok (.iconst 0, 1) := by decide +kernel
theorem dX3_write_99 : decode cX3_write 99 = .ok (.iload_n 2, 1) := by decide +kernel
theorem dX3_write_100 : decode cX3_write 100 = .ok (.goto 4, 3) := by decide +kernel
theorem dX3_write_104 : decode cX3_write 104 = .ok (.iadd, 1) := by decide +kernel
theorem dX3_write_105 : decode cX3_write 105 = .ok (.istore 9, 2) := by decide +kernel
theorem dX3_write_107 : decode cX3_write 107 = .ok (.aload_n 3, 1) := by decide +kernel
theorem dX3_write_108 : decode cX3_write 108 = .ok (.getfield 79, 3) := by decide +kernel
theorem dX3_write_111 : decode cX3_write 111 = .ok (.iload 7, 2) := by decide +kernel
theorem dX3_write_113 : decode cX3_write 113 = .ok (.aload_n 1, 1) := by decide +kernel
theorem dX3_write_114 : decode cX3_write 114 = .ok (.getfield 47, 3) := by decide +kernel
theorem dX3_write_117 : decode cX3_write 117 = .ok (.iload 5, 2) := by decide +kernel
theorem dX3_write_119 : decode cX3_write 119 = .ok (.baload, 1) := by decide +kernel
theorem dX3_write_120 : decode cX3_write 120 = .ok (.ifCond .eq 8, 3) := by decide +kernel
theorem dX3_write_128 : decode cX3_write 128 = .ok (.iconst (-1), 1) := by decide +kernel
theorem dX3_write_123 : decode cX3_write 123 = .ok (.iload 9, 2) := by decide +kernel
theorem dX3_write_125 : decode cX3_write 125 = .ok (.goto 4, 3) := by decide +kernel
theorem dX3_write_129 : decode cX3_write 129 = .ok (.iastore, 1) := by decide +kernel
theorem dX3_write_130 : decode cX3_write 130 = .ok (.iload 4, 2) := by decide +kernel
theorem dX3_write_132 : decode cX3_write 132 = .ok (.iload 8, 2) := by decide +kernel
theorem dX3_write_134 : decode cX3_write 134 = .ok (.ifCond .eq 7, 3) := by decide +kernel
theorem dX3_write_141 : decode cX3_write 141 = .ok (.iconst 0, 1) := by decide +kernel
theorem dX3_write_137 : decode cX3_write 137 = .ok (.iconst 1, 1) := by decide +kernel
theorem dX3_write_138 : decode cX3_write 138 = .ok (.goto 4, 3) := by decide +kernel
theorem dX3_write_142 : decode cX3_write 142 = .ok (.iadd, 1) := by decide +kernel
theorem dX3_write_143 : decode cX3_write 143 = .ok (.istore 4, 2) := by decide +kernel
theorem dX3_write_145 : decode cX3_write 145 = .ok (.iinc 6 1, 3) := by decide +kernel
theorem dX3_write_148 : decode cX3_write 148 = .ok (.goto (-114), 3) := by decide +kernel
theorem dX3_write_151 : decode cX3_write 151 = .ok (.iinc 5 1, 3) := by decide +kernel
theorem dX3_write_154 : decode cX3_write 154 = .ok (.goto (-132), 3) := by decide +kernel
theorem dX3_write_157 : decode cX3_write 157 = .ok (.iload 4, 2) := by decide +kernel
theorem dX3_write_159 : decode cX3_write 159 = .ok (.ireturn, 1) := by decide +kernel
theorem dX3_fill_0 : decode cX3_fill 0 = .ok (.iconst 0, 1) := by decide +kernel
theorem dX3_fill_1 : decode cX3_fill 1 = .ok (.istore 4, 2) := by decide +kernel
theorem dX3_fill_3 : decode cX3_fill 3 = .ok (.iload 4, 2) := by decide +kernel
theorem dX3_fill_5 : decode cX3_fill 5 = .ok (.aload_n 1, 1) := by decide +kernel
theorem dX3_fill_6 : decode cX3_fill 6 = .ok (.getfield 41, 3) := by decide +kernel
theorem dX3_fill_9 : decode cX3_fill 9 = .ok (.if_icmp .ge 42, 3) := by decide +kernel
theorem dX3_fill_12 : decode cX3_fill 12 = .ok (.aload_n 1, 1) := by decide +kernel
theorem dX3_fill_13 : decode cX3_fill 13 = .ok (.getfield 47, 3) := by decide +kernel
theorem dX3_fill_16 : decode cX3_fill 16 = .ok (.iload 4, 2) := by decide +kernel
theorem dX3_fill_18 : decode cX3_fill 18 = .ok (.baload, 1) := by decide +kernel
theorem dX3_fill_19 : decode cX3_fill 19 = .ok (.ifCond .eq 26, 3) := by decide +kernel
theorem dX3_fill_22 : decode cX3_fill 22 = .ok (.aload_n 0, 1) := by decide +kernel
theorem dX3_fill_23 : decode cX3_fill 23 = .ok (.aload_n 1, 1) := by decide +kernel
theorem dX3_fill_24 : decode cX3_fill 24 = .ok (.iload 4, 2) := by decide +kernel
theorem dX3_fill_26 : decode cX3_fill 26 = .ok (.invokevirtual 50, 3) := by decide +kernel
theorem dX3_fill_29 : decode cX3_fill 29 = .ok (.ifCond .eq 16, 3) := by decide +kernel
theorem dX3_fill_32 : decode cX3_fill 32 = .ok (.aload_n 0, 1) := by decide +kernel
theorem dX3_fill_33 : decode cX3_fill 33 = .ok (.aload_n 1, 1) := by decide +kernel
theorem dX3_fill_34 : decode cX3_fill 34 = .ok (.aload_n 1, 1) := by decide +kernel
theorem dX3_fill_35 : decode cX3_fill 35 = .ok (.getfield 54, 3) := by decide +kernel
theorem dX3_fill_38 : decode cX3_fill 38 = .ok (.iload 4, 2) := by decide +kernel
theorem dX3_fill_40 : decode cX3_fill 40 = .ok (.iaload, 1) := by decide +kernel
theorem dX3_fill_41 : decode cX3_fill 41 = .ok (.iload_n 2, 1) := by decide +kernel
theorem dX3_fill_42 : decode cX3_fill 42 = .ok (.invokevirtual 57, 3) := by decide +kernel
theorem dX3_fill_45 : decode cX3_fill 45 = .ok (.iinc 4 1, 3) := by decide +kernel
theorem dX3_fill_48 : decode cX3_fill 48 = .ok (.goto (-45), 3) := by decide +kernel
theorem dX3_fill_51 : decode cX3_fill 51 = .ok (.aload_n 0, 1) := by decide +kernel
theorem dX3_fill_52 : decode cX3_fill 52 = .ok (.aload_n 1, 1) := by decide +kernel
theorem dX3_fill_53 : decode cX3_fill 53 = .ok (.iload_n 2, 1) := by decide +kernel
theorem dX3_fill_54 : decode cX3_fill 54 = .ok (.aload_n 3, 1) := by decide +kernel
theorem dX3_fill_55 : decode cX3_fill 55 = .ok (.invokevirtual 61, 3) := by decide +kernel
theorem dX3_fill_58 : decode cX3_fill 58 = .ok (.ireturn, 1) := by decide +kernel
theorem dX1_firstUnlike_0 : decode cX1_firstUnlike 0 = .ok (.aload_n 0, 1) := by decide +kernel
theorem dX1_firstUnlike_1 : decode cX1_firstUnlike 1 = .ok (.getfield 9, 3) := by decide +kernel
theorem dX1_firstUnlike_4 : decode cX1_firstUnlike 4 = .ok (.aload_n 1, 1) := by decide +kernel
theorem dX1_firstUnlike_5 : decode cX1_firstUnlike 5 = .ok (.getfield 9, 3) := by decide +kernel
theorem dX1_firstUnlike_8 : decode cX1_firstUnlike 8 = .ok (.invokestatic 26, 3) := by decide +kernel
theorem dX1_firstUnlike_11 : decode cX1_firstUnlike 11 = .ok (.istore_n 2, 1) := by decide +kernel
theorem dX1_firstUnlike_12 : decode cX1_firstUnlike 12 = .ok (.aload_n 0, 1) := by decide +kernel
theorem dX1_firstUnlike_13 : decode cX1_firstUnlike 13 = .ok (.getfield 15, 3) := by decide +kernel
theorem dX1_firstUnlike_16 : decode cX1_firstUnlike 16 = .ok (.aload_n 1, 1) := by decide +kernel
theorem dX1_firstUnlike_17 : decode cX1_firstUnlike 17 = .ok (.getfield 15, 3) := by decide +kernel
theorem dX1_firstUnlike_20 : decode cX1_firstUnlike 20 = .ok (.invokestatic 26, 3) := by decide +kernel
theorem dX1_firstUnlike_23 : decode cX1_firstUnlike 23 = .ok (.istore_n 3, 1) := by decide +kernel
theorem dX1_firstUnlike_24 : decode cX1_firstUnlike 24 = .ok (.iconst 0, 1) := by decide +kernel
theorem dX1_firstUnlike_25 : decode cX1_firstUnlike 25 = .ok (.istore 4, 2) := by decide +kernel
theorem dX1_firstUnlike_27 : decode cX1_firstUnlike 27 = .ok (.iload 4, 2) := by decide +kernel
theorem dX1_firstUnlike_29 : decode cX1_firstUnlike 29 = .ok (.iload_n 2, 1) := by decide +kernel
theorem dX1_firstUnlike_30 : decode cX1_firstUnlike 30 = .ok (.if_icmp .ge 78, 3) := by decide +kernel
theorem dX1_firstUnlike_108 : decode cX1_firstUnlike 108 = .ok (.bipush (-2), 2) := by decide +kernel
theorem dX1_firstUnlike_110 : decode cX1_firstUnlike 110 = .ok (.ireturn, 1) := by decide +kernel
theorem dX1_firstUnlike_33 : decode cX1_firstUnlike 33 = .ok (.iconst 0, 1) := by decide +kernel
theorem dX1_firstUnlike_34 : decode cX1_firstUnlike 34 = .ok (.istore 5, 2) := by decide +kernel
theorem dX1_firstUnlike_36 : decode cX1_firstUnlike 36 = .ok (.iload 5, 2) := by decide +kernel
theorem dX1_firstUnlike_38 : decode cX1_firstUnlike 38 = .ok (.iload_n 3, 1) := by decide +kernel
theorem dX1_firstUnlike_39 : decode cX1_firstUnlike 39 = .ok (.if_icmp .ge 63, 3) := by decide +kernel
theorem dX1_firstUnlike_102 : decode cX1_firstUnlike 102 = .ok (.iinc 4 1, 3) := by decide +kernel
theorem dX1_firstUnlike_105 : decode cX1_firstUnlike 105 = .ok (.goto (-78), 3) := by decide +kernel
theorem dX1_firstUnlike_42 : decode cX1_firstUnlike 42 = .ok (.aload_n 0, 1) := by decide +kernel
theorem dX1_firstUnlike_43 : decode cX1_firstUnlike 43 = .ok (.getfield 18, 3) := by decide +kernel
theorem dX1_firstUnlike_46 : decode cX1_firstUnlike 46 = .ok (.iload 4, 2) := by decide +kernel
theorem dX1_firstUnlike_48 : decode cX1_firstUnlike 48 = .ok (.iload 5, 2) := by decide +kernel
theorem dX1_firstUnlike_50 : decode cX1_firstUnlike 50 = .ok (.invokestatic 22, 3) := by decide +kernel
theorem dX1_firstUnlike_53 : decode cX1_firstUnlike 53 = .ok (.iaload, 1) := by decide +kernel
theorem dX1_firstUnlike_54 : decode cX1_firstUnlike 54 = .ok (.istore 6, 2) := by decide +kernel
theorem dX1_firstUnlike_56 : decode cX1_firstUnlike 56 = .ok (.aload_n 1, 1) := by decide +kernel
theorem dX1_firstUnlike_57 : decode cX1_firstUnlike 57 = .ok (.getfield 18, 3) := by decide +kernel
theorem dX1_firstUnlike_60 : decode cX1_firstUnlike 60 = .ok (.iload 4, 2) := by decide +kernel
theorem dX1_firstUnlike_62 : decode cX1_firstUnlike 62 = .ok (.iload 5, 2) := by decide +kernel
theorem dX1_firstUnlike_64 : decode cX1_firstUnlike 64 = .ok (.invokestatic 22, 3) := by decide +kernel
theorem dX1_firstUnlike_67 : decode cX1_firstUnlike 67 = .ok (.iaload, 1) := by decide +kernel
theorem dX1_firstUnlike_68 : decode cX1_firstUnlike 68 = .ok (.istore 7, 2) := by decide +kernel
theorem dX1_firstUnlike_70 : decode cX1_firstUnlike 70 = .ok (.iload 6, 2) := by decide +kernel
theorem dX1_firstUnlike_72 : decode cX1_firstUnlike 72 = .ok (.ifCond .lt 24, 3) := by decide +kernel
theorem dX1_firstUnlike_96 : decode cX1_firstUnlike 96 = .ok (.iinc 5 1, 3) := by decide +kernel
theorem dX1_firstUnlike_99 : decode cX1_firstUnlike 99 = .ok (.goto (-63), 3) := by decide +kernel
theorem dX1_firstUnlike_75 : decode cX1_firstUnlike 75 = .ok (.iload 7, 2) := by decide +kernel
theorem dX1_firstUnlike_77 : decode cX1_firstUnlike 77 = .ok (.ifCond .lt 19, 3) := by decide +kernel
theorem dX1_firstUnlike_80 : decode cX1_firstUnlike 80 = .ok (.iload 6, 2) := by decide +kernel
theorem dX1_firstUnlike_82 : decode cX1_firstUnlike 82 = .ok (.iload 7, 2) := by decide +kernel
theorem dX1_firstUnlike_84 : decode cX1_firstUnlike 84 = .ok (.if_icmp .eq 12, 3) := by decide +kernel
theorem dX1_firstUnlike_87 : decode cX1_firstUnlike 87 = .ok (.bipush 100, 2) := by decide +kernel
theorem dX1_firstUnlike_89 : decode cX1_firstUnlike 89 = .ok (.iload 4, 2) := by decide +kernel
theorem dX1_firstUnlike_91 : decode cX1_firstUnlike 91 = .ok (.imul, 1) := by decide +kernel
theorem dX1_firstUnlike_92 : decode cX1_firstUnlike 92 = .ok (.iload 5, 2) := by decide +kernel
theorem dX1_firstUnlike_94 : decode cX1_firstUnlike 94 = .ok (.iadd, 1) := by decide +kernel
theorem dX1_firstUnlike_95 : decode cX1_firstUnlike 95 = .ok (.ireturn, 1) := by decide +kernel
abbrev uM (G : GG) (ua a b la : Nat → Nat) (uf f lf : Nat → Int32) (ur r lr : Nat → Nat → Int32) : va_W := [((ua 0), .inr (3, [.ref (ua 23), .ref (ua 1), .ref (ua 2), .ref (ua 3), .ref (ua 4), .ref (ua 5), .ref (ua 6), .ref (ua 7)])), ((ua 1), .inl (G.2.1, 144, .inl (ur 1))), ((ua 2), .inl (G.2.2.1, 144, .inl (ur 2))), ((ua 3), .inl (G.2.1, 25, .inl (ur 3))), ((ua 4), .inl (G.2.1, 25, .inl (ur 4))), ((ua 5), .inl (G.2.1, 25, .inl (ur 5))), ((ua 6), .inl (G.2.1, 25, .inl (ur 6))), ((ua 7), .inl (G.2.2.1, 12, .inl (ur 7))), ((ua 23), .inr (5, [.ref (ua 20), .ref (ua 21), .ref (ua 22), .int (uf 3)])), ((ua 20), .inl (G.2.1, 25, .inl (ur 20))), ((ua 21), .inl (G.2.1, 25, .inl (ur 21))), ((ua 22), .inl (G.2.1, 25, .inl (ur 22))), ((a 15), .inr (2, [.int (f 0), .int (f 1), .int (f 2), .int (f 3), .int (f 4), .ref (b 3), .ref (a 6), .ref (a 7), .ref (a 8), .ref (a 9), .ref (a 10), .ref (a 11), .ref (a 12), .ref (a 13), .ref (a 14)])), ((a 6), .inl (G.2.2.1, 12, .inl (r 6))), ((a 7), .inl (G.2.1, 12, .inl (r 7))), ((a 8), .inl (G.2.1, 144, .inl (r 8))), ((a 9), .inl (G.2.1, 144, .inl (r 9))), ((a 10), .inl (G.2.1, 144, .inl (r 10))), ((a 11), .inl (G.2.2.1, 144, .inl (r 11))), ((a 12), .inl (G.2.1, 144, .inl (r 12))), ((a 13), .inl (G.2.1, 144, .inl (r 13))), ((a 14), .inl (G.2.1, 144, .inl (r 14))), ((la 0), .inr (1, [.int (lf 0), .int (lf 1), .ref (la 1)])), ((la 1), .inl (G.2.1, 144, .inl (lr 2)))]
abbrev l2M (G : GG) (la lb : Nat → Nat) (lf mf : Nat → Int32) (lr mr : Nat → Nat → Int32) : va_W := [((la 0), .inr (1, [.int (lf 0), .int (lf 1), .ref (la 1)])), ((la 1), .inl (G.2.1, 144, .inl (lr 2))), ((lb 0), .inr (1, [.int (mf 0), .int (mf 1), .ref (lb 1)])), ((lb 1), .inl (G.2.1, 144, .inl (mr 2)))]
set_option maxHeartbeats 4000000 in
set_option maxRecDepth 100000 in
theorem c_X1_firstUnlike (l : Launch) (G : GG) (la lb : Nat → Nat) (lf mf : Nat → Int32) (lr mr : Nat → Nat → Int32) (hl0 : nL 12 (lf 0)) (hl1 : nL 12 (lf 1)) (hm0 : nL 12 (mf 0)) (hm1 : nL 12 (mf 1)) : RdI l yX1_firstUnlike cX1_firstUnlike 8 (some .int) ({ frames := 1, cells := 0, slots := 0, locals := 21 }) G (l2M G la lb lf mf lr mr) [.ref (la 0), .ref (lb 0)] (fun q => True) := by
  refine rd_entry (by decide +kernel) (Nat.le_of_ble_eq_true rfl) ?_
  intro p e s m below meth c C0 hP hK ls hl
  have hS : va_S (fun q => s.heap.size ≤ q) s.heap s.heap [] := va_S.rf
  have hA : ∀ q, s.heap.size ≤ q → (fun q => s.heap.size ≤ q) q := fun _ h => h
  obtain ⟨hx, hb, hml, hown, hts, hr, hlocks, hin⟩ := C0
  have hown : s.vm.findClass RX1 = some m.cls := hown
  have hl : lv_has ls 8 [(0, .ref (la 0)), (1, .ref (lb 0))] := hl
  obtain ⟨n0, hn0, en0⟩ := hl0
  obtain ⟨n1, hn1, en1⟩ := hl1
  obtain ⟨p0, hp0, ep0⟩ := hm0
  obtain ⟨p1, hp1, ep1⟩ := hm1
  refine lv_aload_n hx hb dX1_firstUnlike_0 rfl (lv_at hl 0 rfl) ?_
  refine va_get (D := G.1) (ci := 1) (v := .int (lf 0)) (C := RX1) (T := TX1) (N := 3) hx hb hts inX1 hown hK.1 hP 0 rfl rfl 0 (by decide) (hts _ mf_X1_9) (fun _ h9 => h9) rfl dX1_firstUnlike_1 ?_
  rw [show (lf 0) = nI (n0) from en0]
  refine lv_aload_n hx hb dX1_firstUnlike_4 rfl (lv_at hl 1 rfl) ?_
  refine va_get (D := G.1) (ci := 1) (v := .int (mf 0)) (C := RX1) (T := TX1) (N := 3) hx hb hts inX1 hown hK.1 hP 2 rfl rfl 0 (by decide) (hts _ mf_X1_9) (fun _ h9 => h9) rfl dX1_firstUnlike_5 ?_
  rw [show (mf 0) = nI (p0) from ep0]
  refine va_mmin hx hb (hml.trans hl.1.symm) hown (hts _ ml_X1_26) (hts _ mst_yJ9_min_7cf53) (hts _ mz_RJ9) (hts _ mcode_yJ9_min_7cf53) (Nat.le_of_ble_eq_true rfl) (Nat.le_of_ble_eq_true rfl) (Nat.zero_le _) (Nat.zero_le _) dX1_firstUnlike_8 ?_
  refine lv_topi (fun v1 ev1 => ?_)
  obtain rfl : v1 = nI (min n0 p0) := min_nat ev1 (by omega) (by omega)
  refine lv_istore_n (lv' := [(2, .int (nI (min n0 p0))), (0, .ref (la 0)), (1, .ref (lb 0))]) hx hb dX1_firstUnlike_11 rfl hl (by decide) rfl (fun ls hl => ?_)
  refine lv_aload_n hx hb dX1_firstUnlike_12 rfl (lv_at hl 1 rfl) ?_
  refine va_get (D := G.1) (ci := 1) (v := .int (lf 1)) (C := RX1) (T := TX1) (N := 3) hx hb hts inX1 hown hK.1 hP 0 rfl rfl 1 (by decide) (hts _ mf_X1_15) (fun _ h9 => h9) rfl dX1_firstUnlike_13 ?_
  rw [show (lf 1) = nI (n1) from en1]
  refine lv_aload_n hx hb dX1_firstUnlike_16 rfl (lv_at hl 2 rfl) ?_
  refine va_get (D := G.1) (ci := 1) (v := .int (mf 1)) (C := RX1) (T := TX1) (N := 3) hx hb hts inX1 hown hK.1 hP 2 rfl rfl 1 (by decide) (hts _ mf_X1_15) (fun _ h9 => h9) rfl dX1_firstUnlike_17 ?_
  rw [show (mf 1) = nI (p1) from ep1]
  refine va_mmin hx hb (hml.trans hl.1.symm) hown (hts _ ml_X1_26) (hts _ mst_yJ9_min_7cf53) (hts _ mz_RJ9) (hts _ mcode_yJ9_min_7cf53) (Nat.le_of_ble_eq_true rfl) (Nat.le_of_ble_eq_true rfl) (Nat.zero_le _) (Nat.zero_le _) dX1_firstUnlike_20 ?_
  refine lv_topi (fun v2 ev2 => ?_)
  obtain rfl : v2 = nI (min n1 p1) := min_nat ev2 (by omega) (by omega)
  refine lv_istore_n (lv' := [(3, .int (nI (min n1 p1))), (2, .int (nI (min n0 p0))), (0, .ref (la 0)), (1, .ref (lb 0))]) hx hb dX1_firstUnlike_23 rfl hl (by decide) rfl (fun ls hl => ?_)
  refine lv_iconst (v := 0) hx hb dX1_firstUnlike_24 (by decide) ?_
  refine lv_istore (lv' := [(4, .int 0), (3, .int (nI (min n1 p1))), (2, .int (nI (min n0 p0))), (0, .ref (la 0)), (1, .ref (lb 0))]) hx hb dX1_firstUnlike_25 hl (by decide) rfl (fun ls hl => ?_)
  have loop27 : ∀ (k3 i : Nat) , i ≤ (min n0 p0) → (min n0 p0) < i + k3 → ∀ (H : Heap) (locs : List Loc) (ls : Array Slot), PP G (l2M G la lb lf mf lr mr) H → va_S (fun q => s.heap.size ≤ q) s.heap H locs → lv_has ls 8 [(4, .int (nI i)), (3, .int (nI (min n1 p1))), (2, .int (nI (min n0 p0))), (0, .ref (la 0)), (1, .ref (lb 0))] → W p l e ({ frames := 1, cells := 0, slots := 0, locals := 21 }) s m ([.ref (la 0), .ref (lb 0)] : List Value).toArray below meth c H locs 0 0 (MQ below (QrI (fun q => True) (fun q => s.heap.size ≤ q)) ([.ref (la 0), .ref (lb 0)] : List Value).toArray s 0 0 (fun q => s.heap.size ≤ q)) (F0 m 27 ls []) := by
    intro k3
    induction k3 with
    | zero => intro i  h1 h2; exact absurd h1 (by omega)
    | succ k3 ih27k3 =>
      intro i  hi_i hk_i  H locs ls hP hS hl
      refine lv_iload hx hb dX1_firstUnlike_27 (lv_at hl 0 rfl) ?_
      refine lv_iload_n hx hb dX1_firstUnlike_29 rfl (lv_at hl 2 rfl) ?_
      refine lv_icmp_ge (tgt := 108) hx hb dX1_firstUnlike_30 (by decide) (fun c4 => ?_) (fun c4 => ?_)
      · have b30 := qge_t (a := i) (b := (min n0 p0)) (by omega) (by omega) c4
        refine lv_bipush (v := -2) hx hb dX1_firstUnlike_108 (by decide) ?_
        exact rd_iret hx hb hr hlocks hS (trivial) dX1_firstUnlike_110
      · have b30 := qge_f (a := i) (b := (min n0 p0)) (by omega) (by omega) c4
        refine lv_iconst (v := 0) hx hb dX1_firstUnlike_33 (by decide) ?_
        refine lv_istore (lv' := [(5, .int 0), (4, .int (nI i)), (3, .int (nI (min n1 p1))), (2, .int (nI (min n0 p0))), (0, .ref (la 0)), (1, .ref (lb 0))]) hx hb dX1_firstUnlike_34 hl (by decide) rfl (fun ls hl => ?_)
        have loop36 : ∀ (k5 j : Nat) , j ≤ (min n1 p1) → (min n1 p1) < j + k5 → ∀ (H : Heap) (locs : List Loc) (ls : Array Slot), PP G (l2M G la lb lf mf lr mr) H → va_S (fun q => s.heap.size ≤ q) s.heap H locs → lv_has ls 8 [(5, .int (nI j)), (4, .int (nI i)), (3, .int (nI (min n1 p1))), (2, .int (nI (min n0 p0))), (0, .ref (la 0)), (1, .ref (lb 0))] → W p l e ({ frames := 1, cells := 0, slots := 0, locals := 21 }) s m ([.ref (la 0), .ref (lb 0)] : List Value).toArray below meth c H locs 0 0 (MQ below (QrI (fun q => True) (fun q => s.heap.size ≤ q)) ([.ref (la 0), .ref (lb 0)] : List Value).toArray s 0 0 (fun q => s.heap.size ≤ q)) (F0 m 36 ls []) := by
          intro k5
          induction k5 with
          | zero => intro j  h1 h2; exact absurd h1 (by omega)
          | succ k5 ih36k5 =>
            intro j  hi_j hk_j  H locs ls hP hS hl
            refine lv_iload hx hb dX1_firstUnlike_36 (lv_at hl 0 rfl) ?_
            refine lv_iload_n hx hb dX1_firstUnlike_38 rfl (lv_at hl 2 rfl) ?_
            refine lv_icmp_ge (tgt := 102) hx hb dX1_firstUnlike_39 (by decide) (fun c6 => ?_) (fun c6 => ?_)
            · have b39 := qge_t (a := j) (b := (min n1 p1)) (by omega) (by omega) c6
              obtain ⟨v7, ev7⟩ : ∃ y9 : Int32, y9 = (nI i) + Int32.ofInt (1) := ⟨_, rfl⟩
              refine lv_iinc (v := v7) (lv' := [(4, .int v7), (5, .int (nI j)), (3, .int (nI (min n1 p1))), (2, .int (nI (min n0 p0))), (0, .ref (la 0)), (1, .ref (lb 0))]) hx hb dX1_firstUnlike_102 hl (k := 1) rfl ev7.symm (by decide) rfl (fun ls hl => ?_)
              obtain rfl : v7 = nI (i + 1) := nI_plus (i := i) (j := 1) ev7 rfl (by decide)
              refine lv_goto (tgt := 27) hx hb dX1_firstUnlike_105 (by decide) ?_
              exact ih27k3 (i + 1) (by omega) (by omega) _ _ _ hP hS (lv_sub hl [0, 2, 3, 4, 5] rfl)
            · have b39 := qge_f (a := j) (b := (min n1 p1)) (by omega) (by omega) c6
              refine lv_aload_n hx hb dX1_firstUnlike_42 rfl (lv_at hl 4 rfl) ?_
              refine va_get (D := G.1) (ci := 1) (v := .ref (la 1)) (C := RX1) (T := TX1) (N := 3) hx hb hts inX1 hown hK.1 hP 0 rfl rfl 2 (by decide) (hts _ mf_X1_18) (fun _ h9 => h9) rfl dX1_firstUnlike_43 ?_
              refine lv_iload hx hb dX1_firstUnlike_46 (lv_at hl 1 rfl) ?_
              refine lv_iload hx hb dX1_firstUnlike_48 (lv_at hl 0 rfl) ?_
              refine rdSN (rest := [.ref (la 1)]) ⟨hx, hb, hml, hown, hts⟩ (c_X6_spotOf l G ((nI i)) ((nI j))) mi_yX6_spotOf mst_yX6_spotOf (by decide +kernel) ⟨rfl, rfl, Nat.le_of_ble_eq_true rfl, Nat.le_of_ble_eq_true rfl⟩ hK (fun k q h => by simp at h) rfl hl.1 rfl (Nat.le_of_ble_eq_true rfl) dX1_firstUnlike_50 ⟨Nat.zero_le _, Nat.zero_le _⟩ hS hA hP (fun r8 H locs hr8 hP hS => ?_)
              obtain rfl : r8 = nI (i * 12 + j) := spot_eq hr8
              refine xiald (f := (lr 2)) hx hb hK hP 1 ((i * 12 + j)) (rfl) (by omega) (by decide) rfl dX1_firstUnlike_53 ?_
              refine lv_topi (fun v9 ev9 => ?_)
              refine lv_istore (lv' := [(6, .int v9), (5, .int (nI j)), (4, .int (nI i)), (3, .int (nI (min n1 p1))), (2, .int (nI (min n0 p0))), (0, .ref (la 0)), (1, .ref (lb 0))]) hx hb dX1_firstUnlike_54 hl (by decide) rfl (fun ls hl => ?_)
              refine lv_aload_n hx hb dX1_firstUnlike_56 rfl (lv_at hl 6 rfl) ?_
              refine va_get (D := G.1) (ci := 1) (v := .ref (lb 1)) (C := RX1) (T := TX1) (N := 3) hx hb hts inX1 hown hK.1 hP 2 rfl rfl 2 (by decide) (hts _ mf_X1_18) (fun _ h9 => h9) rfl dX1_firstUnlike_57 ?_
              refine lv_iload hx hb dX1_firstUnlike_60 (lv_at hl 2 rfl) ?_
              refine lv_iload hx hb dX1_firstUnlike_62 (lv_at hl 1 rfl) ?_
              refine rdSN (rest := [.ref (lb 1)]) ⟨hx, hb, hml, hown, hts⟩ (c_X6_spotOf l G ((nI i)) ((nI j))) mi_yX6_spotOf mst_yX6_spotOf (by decide +kernel) ⟨rfl, rfl, Nat.le_of_ble_eq_true rfl, Nat.le_of_ble_eq_true rfl⟩ hK (fun k q h => by simp at h) rfl hl.1 rfl (Nat.le_of_ble_eq_true rfl) dX1_firstUnlike_64 ⟨Nat.zero_le _, Nat.zero_le _⟩ hS hA hP (fun r10 H locs hr10 hP hS => ?_)
              obtain rfl : r10 = nI (i * 12 + j) := spot_eq hr10
              refine xiald (f := (mr 2)) hx hb hK hP 3 ((i * 12 + j)) (rfl) (by omega) (by decide) rfl dX1_firstUnlike_67 ?_
              refine lv_topi (fun v11 ev11 => ?_)
              refine lv_istore (lv' := [(7, .int v11), (6, .int v9), (5, .int (nI j)), (4, .int (nI i)), (3, .int (nI (min n1 p1))), (2, .int (nI (min n0 p0))), (0, .ref (la 0)), (1, .ref (lb 0))]) hx hb dX1_firstUnlike_68 hl (by decide) rfl (fun ls hl => ?_)
              refine lv_iload hx hb dX1_firstUnlike_70 (lv_at hl 1 rfl) ?_
              refine lv_if_lt (tgt := 96) hx hb dX1_firstUnlike_72 (by decide) (fun c12 => ?_) (fun c12 => ?_)
              · obtain ⟨v13, ev13⟩ : ∃ y9 : Int32, y9 = (nI j) + Int32.ofInt (1) := ⟨_, rfl⟩
                refine lv_iinc (v := v13) (lv' := [(5, .int v13), (7, .int v11), (6, .int v9), (4, .int (nI i)), (3, .int (nI (min n1 p1))), (2, .int (nI (min n0 p0))), (0, .ref (la 0)), (1, .ref (lb 0))]) hx hb dX1_firstUnlike_96 hl (k := 2) rfl ev13.symm (by decide) rfl (fun ls hl => ?_)
                obtain rfl : v13 = nI (j + 1) := nI_plus (i := j) (j := 1) ev13 rfl (by decide)
                refine lv_goto (tgt := 36) hx hb dX1_firstUnlike_99 (by decide) ?_
                exact ih36k5 (j + 1) (by omega) (by omega) _ _ _ hP hS (lv_sub hl [0, 3, 4, 5, 6, 7] rfl)
              · refine lv_iload hx hb dX1_firstUnlike_75 (lv_at hl 0 rfl) ?_
                refine lv_if_lt (tgt := 96) hx hb dX1_firstUnlike_77 (by decide) (fun c14 => ?_) (fun c14 => ?_)
                · obtain ⟨v15, ev15⟩ : ∃ y9 : Int32, y9 = (nI j) + Int32.ofInt (1) := ⟨_, rfl⟩
                  refine lv_iinc (v := v15) (lv' := [(5, .int v15), (7, .int v11), (6, .int v9), (4, .int (nI i)), (3, .int (nI (min n1 p1))), (2, .int (nI (min n0 p0))), (0, .ref (la 0)), (1, .ref (lb 0))]) hx hb dX1_firstUnlike_96 hl (k := 2) rfl ev15.symm (by decide) rfl (fun ls hl => ?_)
                  obtain rfl : v15 = nI (j + 1) := nI_plus (i := j) (j := 1) ev15 rfl (by decide)
                  refine lv_goto (tgt := 36) hx hb dX1_firstUnlike_99 (by decide) ?_
                  exact ih36k5 (j + 1) (by omega) (by omega) _ _ _ hP hS (lv_sub hl [0, 3, 4, 5, 6, 7] rfl)
                · refine lv_iload hx hb dX1_firstUnlike_80 (lv_at hl 1 rfl) ?_
                  refine lv_iload hx hb dX1_firstUnlike_82 (lv_at hl 0 rfl) ?_
                  refine lv_icmp_eq (tgt := 96) hx hb dX1_firstUnlike_84 (by decide) (fun c16 => ?_) (fun c16 => ?_)
                  · obtain ⟨v17, ev17⟩ : ∃ y9 : Int32, y9 = (nI j) + Int32.ofInt (1) := ⟨_, rfl⟩
                    refine lv_iinc (v := v17) (lv' := [(5, .int v17), (7, .int v11), (6, .int v9), (4, .int (nI i)), (3, .int (nI (min n1 p1))), (2, .int (nI (min n0 p0))), (0, .ref (la 0)), (1, .ref (lb 0))]) hx hb dX1_firstUnlike_96 hl (k := 2) rfl ev17.symm (by decide) rfl (fun ls hl => ?_)
                    obtain rfl : v17 = nI (j + 1) := nI_plus (i := j) (j := 1) ev17 rfl (by decide)
                    refine lv_goto (tgt := 36) hx hb dX1_firstUnlike_99 (by decide) ?_
                    exact ih36k5 (j + 1) (by omega) (by omega) _ _ _ hP hS (lv_sub hl [0, 3, 4, 5, 6, 7] rfl)
                  · refine lv_bipush (v := 100) hx hb dX1_firstUnlike_87 (by decide) ?_
                    refine lv_iload hx hb dX1_firstUnlike_89 (lv_at hl 3 rfl) ?_
                    refine lv_imul hx hb dX1_firstUnlike_91 ?_
                    refine lv_topi (fun v18 ev18 => ?_)
                    obtain rfl : v18 = nI (100 * i) := nI_times ev18 rfl rfl
                    refine lv_iload hx hb dX1_firstUnlike_92 (lv_at hl 2 rfl) ?_
                    refine lv_iadd hx hb dX1_firstUnlike_94 ?_
                    refine lv_topi (fun v19 ev19 => ?_)
                    obtain rfl : v19 = nI ((100 * i) + j) := nI_plus ev19 rfl rfl
                    exact rd_iret hx hb hr hlocks hS (trivial) dX1_firstUnlike_95
        exact loop36 ((min n1 p1) + 1) 0 (by omega) (by omega) _ _ _ hP hS (lv_sub hl [0, 1, 2, 3, 4, 5] rfl)
  exact loop27 ((min n0 p0) + 1) 0 (by omega) (by omega) _ _ _ hP hS (lv_sub hl [0, 1, 2, 3, 4] rfl)
