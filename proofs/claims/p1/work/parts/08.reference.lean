theorem ml_X7_120 : Cond.methodLink RX7 120 yX7_isTable ∈ TB := TB_t5 14 (by decide +kernel) rfl
theorem mz_RX7 : Cond.initialized RX7 ∈ TB := TB_t1 8 (by decide +kernel) rfl
theorem mcode_yX7_isTable : Cond.code yX7_isTable cX7_isTable 2 (some .boolean) ∈ TB := TB_t5 17 (by decide +kernel) rfl
theorem mi_yX7_isTable : MI yX7_isTable cX7_isTable 2 (some .boolean) 1 := ⟨mz_RX7, mcode_yX7_isTable, by decide +kernel, by decide +kernel, by decide +kernel⟩
theorem mim_yX7_isTable : Cond.instanceMethod yX7_isTable ∈ TB := TB_t5 16 (by decide +kernel) rfl
theorem msel_yX7_isTable : Cond.selects yX7_isTable.cls yX7_isTable yX7_isTable ∈ TB := TB_s (n := 43) 44 (by decide +kernel)
theorem mv_yX7_isTable : Cond.instanceMethod yX7_isTable ∈ TB ∧ Cond.selects yX7_isTable.cls yX7_isTable yX7_isTable ∈ TB := ⟨mim_yX7_isTable, msel_yX7_isTable⟩
theorem ml_X7_143 : Cond.methodLink RX7 143 yX7_wrongPlace ∈ TB := TB_t5 27 (by decide +kernel) rfl
theorem mcode_yX7_wrongPlace : Cond.code yX7_wrongPlace cX7_wrongPlace 4 (some .int) ∈ TB := TB_t5 30 (by decide +kernel) rfl
theorem mi_yX7_wrongPlace : MI yX7_wrongPlace cX7_wrongPlace 4 (some .int) 3 := ⟨mz_RX7, mcode_yX7_wrongPlace, by decide +kernel, by decide +kernel, by decide +kernel⟩
theorem mim_yX7_wrongPlace : Cond.instanceMethod yX7_wrongPlace ∈ TB := TB_t5 29 (by decide +kernel) rfl
theorem msel_yX7_wrongPlace : Cond.selects yX7_wrongPlace.cls yX7_wrongPlace yX7_wrongPlace ∈ TB := TB_s (n := 43) 45 (by decide +kernel)
theorem mv_yX7_wrongPlace : Cond.instanceMethod yX7_wrongPlace ∈ TB ∧ Cond.selects yX7_wrongPlace.cls yX7_wrongPlace yX7_wrongPlace ∈ TB := ⟨mim_yX7_wrongPlace, msel_yX7_wrongPlace⟩
theorem ml_X7_131 : Cond.methodLink RX7 131 yX7_refuse ∈ TB := TB_t4 238 (by decide +kernel) rfl
theorem mcode_yX7_refuse : Cond.code yX7_refuse cX7_refuse 2 (some .boolean) ∈ TB := TB_t5 1 (by decide +kernel) rfl
theorem mi_yX7_refuse : MI yX7_refuse cX7_refuse 2 (some .boolean) 1 := ⟨mz_RX7, mcode_yX7_refuse, by decide +kernel, by decide +kernel, by decide +kernel⟩
theorem mim_yX7_refuse : Cond.instanceMethod yX7_refuse ∈ TB := TB_t5 0 (by decide +kernel) rfl
theorem msel_yX7_refuse : Cond.selects yX7_refuse.cls yX7_refuse yX7_refuse ∈ TB := TB_s (n := 43) 41 (by decide +kernel)
theorem mv_yX7_refuse : Cond.instanceMethod yX7_refuse ∈ TB ∧ Cond.selects yX7_refuse.cls yX7_refuse yX7_refuse ∈ TB := ⟨mim_yX7_refuse, msel_yX7_refuse⟩
theorem ml_X7_155 : Cond.methodLink RX7 155 yX7_wrongAmount ∈ TB := TB_t5 75 (by decide +kernel) rfl
theorem mcode_yX7_wrongAmount : Cond.code yX7_wrongAmount cX7_wrongAmount 6 (some .int) ∈ TB := TB_t5 78 (by decide +kernel) rfl
theorem mi_yX7_wrongAmount : MI yX7_wrongAmount cX7_wrongAmount 6 (some .int) 3 := ⟨mz_RX7, mcode_yX7_wrongAmount, by decide +kernel, by decide +kernel, by decide +kernel⟩
theorem mim_yX7_wrongAmount : Cond.instanceMethod yX7_wrongAmount ∈ TB := TB_t5 77 (by decide +kernel) rfl
theorem msel_yX7_wrongAmount : Cond.selects yX7_wrongAmount.cls yX7_wrongAmount yX7_wrongAmount ∈ TB := TB_s (n := 43) 49 (by decide +kernel)
theorem mv_yX7_wrongAmount : Cond.instanceMethod yX7_wrongAmount ∈ TB ∧ Cond.selects yX7_wrongAmount.cls yX7_wrongAmount yX7_wrongAmount ∈ TB := ⟨mim_yX7_wrongAmount, msel_yX7_wrongAmount⟩
theorem ml_X7_158 : Cond.methodLink RX7 158 yX7_wrongToTell ∈ TB := TB_t5 87 (by decide +kernel) rfl
theorem mcode_yX7_wrongToTell : Cond.code yX7_wrongToTell cX7_wrongToTell 6 (some .int) ∈ TB := TB_t5 90 (by decide +kernel) rfl
theorem mi_yX7_wrongToTell : MI yX7_wrongToTell cX7_wrongToTell 6 (some .int) 3 := ⟨mz_RX7, mcode_yX7_wrongToTell, by decide +kernel, by decide +kernel, by decide +kernel⟩
theorem mim_yX7_wrongToTell : Cond.instanceMethod yX7_wrongToTell ∈ TB := TB_t5 89 (by decide +kernel) rfl
theorem msel_yX7_wrongToTell : Cond.selects yX7_wrongToTell.cls yX7_wrongToTell yX7_wrongToTell ∈ TB := TB_s (n := 43) 50 (by decide +kernel)
theorem mv_yX7_wrongToTell : Cond.instanceMethod yX7_wrongToTell ∈ TB ∧ Cond.selects yX7_wrongToTell.cls yX7_wrongToTell yX7_wrongToTell ∈ TB := ⟨mim_yX7_wrongToTell, msel_yX7_wrongToTell⟩
theorem ml_X7_178 : Cond.methodLink RX7 178 yX7_wrongSound ∈ TB := TB_t5 123 (by decide +kernel) rfl
theorem mcode_yX7_wrongSound : Cond.code yX7_wrongSound cX7_wrongSound 6 (some .int) ∈ TB := TB_t5 126 (by decide +kernel) rfl
theorem mi_yX7_wrongSound : MI yX7_wrongSound cX7_wrongSound 6 (some .int) 3 := ⟨mz_RX7, mcode_yX7_wrongSound, by decide +kernel, by decide +kernel, by decide +kernel⟩
theorem mim_yX7_wrongSound : Cond.instanceMethod yX7_wrongSound ∈ TB := TB_t5 125 (by decide +kernel) rfl
theorem msel_yX7_wrongSound : Cond.selects yX7_wrongSound.cls yX7_wrongSound yX7_wrongSound ∈ TB := TB_s (n := 43) 54 (by decide +kernel)
theorem mv_yX7_wrongSound : Cond.instanceMethod yX7_wrongSound ∈ TB ∧ Cond.selects yX7_wrongSound.cls yX7_wrongSound yX7_wrongSound ∈ TB := ⟨mim_yX7_wrongSound, msel_yX7_wrongSound⟩
theorem mf_X7_233 : Cond.fieldLink RX7 233 "CellKeeperModel" "witnessRows" "I" ∈ TB := TB_t4 127 (by decide +kernel) rfl
theorem mf_X7_265 : Cond.fieldLink RX7 265 "CellKeeperModel" "roundedRows" "I" ∈ TB := TB_t4 134 (by decide +kernel) rfl
theorem mf_X7_236 : Cond.fieldLink RX7 236 "CellKeeperModel" "witnessColumns" "I" ∈ TB := TB_t4 128 (by decide +kernel) rfl
theorem mf_X7_274 : Cond.fieldLink RX7 274 "CellKeeperModel" "giftMany" "I" ∈ TB := TB_t4 142 (by decide +kernel) rfl
theorem ml_X7_277 : Cond.methodLink RX7 277 yX7_isIn ∈ TB := TB_t6 40 (by decide +kernel) rfl
theorem mcode_yX7_isIn : Cond.code yX7_isIn cX7_isIn 4 (some .boolean) ∈ TB := TB_t6 43 (by decide +kernel) rfl
theorem mi_yX7_isIn : MI yX7_isIn cX7_isIn 4 (some .boolean) 3 := ⟨mz_RX7, mcode_yX7_isIn, by decide +kernel, by decide +kernel, by decide +kernel⟩
theorem mim_yX7_isIn : Cond.instanceMethod yX7_isIn ∈ TB := TB_t6 42 (by decide +kernel) rfl
theorem msel_yX7_isIn : Cond.selects yX7_isIn.cls yX7_isIn yX7_isIn ∈ TB := TB_s (n := 43) 76 (by decide +kernel)
theorem mv_yX7_isIn : Cond.instanceMethod yX7_isIn ∈ TB ∧ Cond.selects yX7_isIn.cls yX7_isIn yX7_isIn ∈ TB := ⟨mim_yX7_isIn, msel_yX7_isIn⟩
theorem dX7_wrongPlace_0 : decode cX7_wrongPlace 0 = .ok (.aload_n 0, 1) := by decide +kernel
theorem dX7_wrongPlace_1 : decode cX7_wrongPlace 1 = .ok (.iload_n 1, 1) := by decide +kernel
theorem dX7_wrongPlace_2 : decode cX7_wrongPlace 2 = .ok (.invokevirtual 120, 3) := by decide +kernel
theorem dX7_wrongPlace_5 : decode cX7_wrongPlace 5 = .ok (.ifCond .ne 5, 3) := by decide +kernel
theorem dX7_wrongPlace_8 : decode cX7_wrongPlace 8 = .ok (.iconst 1, 1) := by decide +kernel
theorem dX7_wrongPlace_9 : decode cX7_wrongPlace 9 = .ok (.ireturn, 1) := by decide +kernel
theorem dX7_wrongAmount_0 : decode cX7_wrongAmount 0 = .ok (.aload_n 0, 1) := by decide +kernel
theorem dX7_wrongAmount_1 : decode cX7_wrongAmount 1 = .ok (.iload_n 1, 1) := by decide +kernel
theorem dX7_wrongAmount_2 : decode cX7_wrongAmount 2 = .ok (.iload_n 2, 1) := by decide +kernel
theorem dX7_wrongAmount_3 : decode cX7_wrongAmount 3 = .ok (.iload_n 3, 1) := by decide +kernel
theorem dX7_wrongAmount_4 : decode cX7_wrongAmount 4 = .ok (.invokevirtual 143, 3) := by decide +kernel
theorem dX7_wrongAmount_7 : decode cX7_wrongAmount 7 = .ok (.istore 4, 2) := by decide +kernel
theorem dX7_wrongAmount_9 : decode cX7_wrongAmount 9 = .ok (.iload 4, 2) := by decide +kernel
theorem dX7_wrongAmount_11 : decode cX7_wrongAmount 11 = .ok (.ifCond .le 6, 3) := by decide +kernel
theorem dX7_wrongAmount_14 : decode cX7_wrongAmount 14 = .ok (.iload 4, 2) := by decide +kernel
theorem dX7_wrongAmount_16 : decode cX7_wrongAmount 16 = .ok (.ireturn, 1) := by decide +kernel
theorem dX7_wrongToTell_0 : decode cX7_wrongToTell 0 = .ok (.aload_n 0, 1) := by decide +kernel
theorem dX7_wrongToTell_1 : decode cX7_wrongToTell 1 = .ok (.iload_n 1, 1) := by decide +kernel
theorem dX7_wrongToTell_2 : decode cX7_wrongToTell 2 = .ok (.iload_n 2, 1) := by decide +kernel
theorem dX7_wrongToTell_3 : decode cX7_wrongToTell 3 = .ok (.iload_n 3, 1) := by decide +kernel
theorem dX7_wrongToTell_4 : decode cX7_wrongToTell 4 = .ok (.invokevirtual 143, 3) := by decide +kernel
theorem dX7_wrongToTell_7 : decode cX7_wrongToTell 7 = .ok (.istore 4, 2) := by decide +kernel
theorem dX7_wrongToTell_9 : decode cX7_wrongToTell 9 = .ok (.iload 4, 2) := by decide +kernel
theorem dX7_wrongToTell_11 : decode cX7_wrongToTell 11 = .ok (.ifCond .le 6, 3) := by decide +kernel
theorem dX7_wrongToTell_14 : decode cX7_wrongToTell 14 = .ok (.iload 4, 2) := by decide +kernel
theorem dX7_wrongToTell_16 : decode cX7_wrongToTell 16 = .ok (.ireturn, 1) := by decide +kernel
theorem dX7_wrongSound_0 : decode cX7_wrongSound 0 = .ok (.aload_n 0, 1) := by decide +kernel
theorem dX7_wrongSound_1 : decode cX7_wrongSound 1 = .ok (.iload_n 1, 1) := by decide +kernel
theorem dX7_wrongSound_2 : decode cX7_wrongSound 2 = .ok (.iload_n 2, 1) := by decide +kernel
theorem dX7_wrongSound_3 : decode cX7_wrongSound 3 = .ok (.iload_n 3, 1) := by decide +kernel
theorem dX7_wrongSound_4 : decode cX7_wrongSound 4 = .ok (.invokevirtual 143, 3) := by decide +kernel
theorem dX7_wrongSound_7 : decode cX7_wrongSound 7 = .ok (.istore 4, 2) := by decide +kernel
theorem dX7_wrongSound_9 : decode cX7_wrongSound 9 = .ok (.iload 4, 2) := by decide +kernel
theorem dX7_wrongSound_11 : decode cX7_wrongSound 11 = .ok (.ifCond .le 6, 3) := by decide +kernel
theorem dX7_wrongSound_14 : decode cX7_wrongSound 14 = .ok (.iload 4, 2) := by decide +kernel
theorem dX7_wrongSound_16 : decode cX7_wrongSound 16 = .ok (.ireturn, 1) := by decide +kernel
theorem dX7_close_0 : decode cX7_close 0 = .ok (.aload_n 0, 1) := by decide +kernel
theorem dX7_close_1 : decode cX7_close 1 = .ok (.iload_n 1, 1) := by decide +kernel
theorem dX7_close_2 : decode cX7_close 2 = .ok (.invokevirtual 120, 3) := by decide +kernel
theorem dX7_close_5 : decode cX7_close 5 = .ok (.ifCond .ne 9, 3) := by decide +kernel
theorem dX7_close_8 : decode cX7_close 8 = .ok (.aload_n 0, 1) := by decide +kernel
theorem dX7_close_9 : decode cX7_close 9 = .ok (.iconst 1, 1) := by decide +kernel
theorem dX7_close_10 : decode cX7_close 10 = .ok (.invokevirtual 131, 3) := by decide +kernel
theorem dX7_close_13 : decode cX7_close 13 = .ok (.ireturn, 1) := by decide +kernel
theorem dX7_rule_0 : decode cX7_rule 0 = .ok (.aload_n 0, 1) := by decide +kernel
theorem dX7_rule_1 : decode cX7_rule 1 = .ok (.iload_n 1, 1) := by decide +kernel
theorem dX7_rule_2 : decode cX7_rule 2 = .ok (.invokevirtual 120, 3) := by decide +kernel
theorem dX7_rule_5 : decode cX7_rule 5 = .ok (.ifCond .ne 9, 3) := by decide +kernel
theorem dX7_rule_8 : decode cX7_rule 8 = .ok (.aload_n 0, 1) := by decide +kernel
theorem dX7_rule_9 : decode cX7_rule 9 = .ok (.iconst 1, 1) := by decide +kernel
theorem dX7_rule_10 : decode cX7_rule 10 = .ok (.invokevirtual 131, 3) := by decide +kernel
theorem dX7_rule_13 : decode cX7_rule 13 = .ok (.ireturn, 1) := by decide +kernel
theorem dX7_cell_0 : decode cX7_cell 0 = .ok (.aload_n 0, 1) := by decide +kernel
theorem dX7_cell_1 : decode cX7_cell 1 = .ok (.iload_n 1, 1) := by decide +kernel
theorem dX7_cell_2 : decode cX7_cell 2 = .ok (.iload_n 2, 1) := by decide +kernel
theorem dX7_cell_3 : decode cX7_cell 3 = .ok (.iload_n 3, 1) := by decide +kernel
theorem dX7_cell_4 : decode cX7_cell 4 = .ok (.invokevirtual 143, 3) := by decide +kernel
theorem dX7_cell_7 : decode cX7_cell 7 = .ok (.istore 6, 2) := by decide +kernel
theorem dX7_cell_9 : decode cX7_cell 9 = .ok (.iload 6, 2) := by decide +kernel
theorem dX7_cell_11 : decode cX7_cell 11 = .ok (.ifCond .le 10, 3) := by decide +kernel
theorem dX7_cell_14 : decode cX7_cell 14 = .ok (.aload_n 0, 1) := by decide +kernel
theorem dX7_cell_15 : decode cX7_cell 15 = .ok (.iload 6, 2) := by decide +kernel
theorem dX7_cell_17 : decode cX7_cell 17 = .ok (.invokevirtual 131, 3) := by decide +kernel
theorem dX7_cell_20 : decode cX7_cell 20 = .ok (.ireturn, 1) := by decide +kernel
theorem dX7_giver_0 : decode cX7_giver 0 = .ok (.aload_n 0, 1) := by decide +kernel
theorem dX7_giver_1 : decode cX7_giver 1 = .ok (.iload_n 1, 1) := by decide +kernel
theorem dX7_giver_2 : decode cX7_giver 2 = .ok (.iload_n 2, 1) := by decide +kernel
theorem dX7_giver_3 : decode cX7_giver 3 = .ok (.iload_n 3, 1) := by decide +kernel
theorem dX7_giver_4 : decode cX7_giver 4 = .ok (.invokevirtual 143, 3) := by decide +kernel
theorem dX7_giver_7 : decode cX7_giver 7 = .ok (.istore 5, 2) := by decide +kernel
theorem dX7_giver_9 : decode cX7_giver 9 = .ok (.iload 5, 2) := by decide +kernel
theorem dX7_giver_11 : decode cX7_giver 11 = .ok (.ifCond .le 10, 3) := by decide +kernel
theorem dX7_giver_14 : decode cX7_giver 14 = .ok (.aload_n 0, 1) := by decide +kernel
theorem dX7_giver_15 : decode cX7_giver 15 = .ok (.iload 5, 2) := by decide +kernel
theorem dX7_giver_17 : decode cX7_giver 17 = .ok (.invokevirtual 131, 3) := by decide +kernel
theorem dX7_giver_20 : decode cX7_giver 20 = .ok (.ireturn, 1) := by decide +kernel
theorem dX7_clear_0 : decode cX7_clear 0 = .ok (.aload_n 0, 1) := by decide +kernel
theorem dX7_clear_1 : decode cX7_clear 1 = .ok (.iload_n 1, 1) := by decide +kernel
theorem dX7_clear_2 : decode cX7_clear 2 = .ok (.iload_n 2, 1) := by decide +kernel
theorem dX7_clear_3 : decode cX7_clear 3 = .ok (.iload_n 3, 1) := by decide +kernel
theorem dX7_clear_4 : decode cX7_clear 4 = .ok (.invokevirtual 143, 3) := by decide +kernel
theorem dX7_clear_7 : decode cX7_clear 7 = .ok (.istore 4, 2) := by decide +kernel
theorem dX7_clear_9 : decode cX7_clear 9 = .ok (.iload 4, 2) := by decide +kernel
theorem dX7_clear_11 : decode cX7_clear 11 = .ok (.ifCond .le 10, 3) := by decide +kernel
theorem dX7_clear_14 : decode cX7_clear 14 = .ok (.aload_n 0, 1) := by decide +kernel
theorem dX7_clear_15 : decode cX7_clear 15 = .ok (.iload 4, 2) := by decide +kernel
theorem dX7_clear_17 : decode cX7_clear 17 = .ok (.invokevirtual 131, 3) := by decide +kernel
theorem dX7_clear_20 : decode cX7_clear 20 = .ok (.ireturn, 1) := by decide +kernel
theorem dX7_tear_0 : decode cX7_tear 0 = .ok (.aload_n 0, 1) := by decide +kernel
theorem dX7_tear_1 : decode cX7_tear 1 = .ok (.iload_n 1, 1) := by decide +kernel
theorem dX7_tear_2 : decode cX7_tear 2 = .ok (.invokevirtual 120, 3) := by decide +kernel
theorem dX7_tear_5 : decode cX7_tear 5 = .ok (.ifCond .ne 9, 3) := by decide +kernel
theorem dX7_tear_8 : decode cX7_tear 8 = .ok (.aload_n 0, 1) := by decide +kernel
theorem dX7_tear_9 : decode cX7_tear 9 = .ok (.iconst 1, 1) := by decide +kernel
theorem dX7_tear_10 : decode cX7_tear 10 = .ok (.invokevirtual 131, 3) := by decide +kernel
theorem dX7_tear_13 : decode cX7_tear 13 = .ok (.ireturn, 1) := by decide +kernel
theorem dX7_block_0 : decode cX7_block 0 = .ok (.aload_n 0, 1) := by decide +kernel
theorem dX7_block_1 : decode cX7_block 1 = .ok (.iload_n 1, 1) := by decide +kernel
theorem dX7_block_2 : decode cX7_block 2 = .ok (.invokevirtual 120, 3) := by decide +kernel
theorem dX7_block_5 : decode cX7_block 5 = .ok (.ifCond .ne 7, 3) := by decide +kernel
theorem dX7_block_8 : decode cX7_block 8 = .ok (.iconst 1, 1) := by decide +kernel
theorem dX7_block_9 : decode cX7_block 9 = .ok (.goto 62, 3) := by decide +kernel
theorem dX7_block_71 : decode cX7_block 71 = .ok (.istore 4, 2) := by decide +kernel
theorem dX7_block_73 : decode cX7_block 73 = .ok (.aload_n 0, 1) := by decide +kernel
theorem dX7_block_74 : decode cX7_block 74 = .ok (.iload 4, 2) := by decide +kernel
theorem dX7_block_76 : decode cX7_block 76 = .ok (.putfield 116, 3) := by decide +kernel
theorem dX7_block_79 : decode cX7_block 79 = .ok (.iload 4, 2) := by decide +kernel
theorem dX7_block_81 : decode cX7_block 81 = .ok (.ifCond .le 5, 3) := by decide +kernel
theorem dX7_block_84 : decode cX7_block 84 = .ok (.iconst (-1), 1) := by decide +kernel
theorem dX7_block_85 : decode cX7_block 85 = .ok (.ireturn, 1) := by decide +kernel
theorem dX7_kind_0 : decode cX7_kind 0 = .ok (.aload_n 0, 1) := by decide +kernel
theorem dX7_kind_1 : decode cX7_kind 1 = .ok (.aload_n 0, 1) := by decide +kernel
theorem dX7_kind_2 : decode cX7_kind 2 = .ok (.iload_n 1, 1) := by decide +kernel
theorem dX7_kind_3 : decode cX7_kind 3 = .ok (.iload_n 2, 1) := by decide +kernel
theorem dX7_kind_4 : decode cX7_kind 4 = .ok (.iload_n 3, 1) := by decide +kernel
theorem dX7_kind_5 : decode cX7_kind 5 = .ok (.invokevirtual 143, 3) := by decide +kernel
theorem dX7_kind_8 : decode cX7_kind 8 = .ok (.putfield 116, 3) := by decide +kernel
theorem dX7_kind_11 : decode cX7_kind 11 = .ok (.aload_n 0, 1) := by decide +kernel
theorem dX7_kind_12 : decode cX7_kind 12 = .ok (.getfield 116, 3) := by decide +kernel
theorem dX7_kind_15 : decode cX7_kind 15 = .ok (.ifCond .le 7, 3) := by decide +kernel
theorem dX7_kind_18 : decode cX7_kind 18 = .ok (.iconst (-1), 1) := by decide +kernel
theorem dX7_kind_19 : decode cX7_kind 19 = .ok (.goto 14, 3) := by decide +kernel
theorem dX7_kind_33 : decode cX7_kind 33 = .ok (.ireturn, 1) := by decide +kernel
theorem dX7_number_0 : decode cX7_number 0 = .ok (.aload_n 0, 1) := by decide +kernel
theorem dX7_number_1 : decode cX7_number 1 = .ok (.aload_n 0, 1) := by decide +kernel
theorem dX7_number_2 : decode cX7_number 2 = .ok (.iload_n 1, 1) := by decide +kernel
theorem dX7_number_3 : decode cX7_number 3 = .ok (.iload_n 2, 1) := by decide +kernel
theorem dX7_number_4 : decode cX7_number 4 = .ok (.iload_n 3, 1) := by decide +kernel
theorem dX7_number_5 : decode cX7_number 5 = .ok (.invokevirtual 143, 3) := by decide +kernel
theorem dX7_number_8 : decode cX7_number 8 = .ok (.putfield 116, 3) := by decide +kernel
theorem dX7_number_11 : decode cX7_number 11 = .ok (.aload_n 0, 1) := by decide +kernel
theorem dX7_number_12 : decode cX7_number 12 = .ok (.getfield 116, 3) := by decide +kernel
theorem dX7_number_15 : decode cX7_number 15 = .ok (.ifCond .ne 22, 3) := by decide +kernel
theorem dX7_number_37 : decode cX7_number 37 = .ok (.aload_n 0, 1) := by decide +kernel
theorem dX7_number_38 : decode cX7_number 38 = .ok (.getfield 116, 3) := by decide +kernel
theorem dX7_number_41 : decode cX7_number 41 = .ok (.ifCond .le 7, 3) := by decide +kernel
theorem dX7_number_44 : decode cX7_number 44 = .ok (.iconst (-1), 1) := by decide +kernel
theorem dX7_number_45 : decode cX7_number 45 = .ok (.goto 14, 3) := by decide +kernel
theorem dX7_number_59 : decode cX7_number 59 = .ok (.ireturn, 1) := by decide +kernel
theorem dX7_givers_0 : decode cX7_givers 0 = .ok (.aload_n 0, 1) := by decide +kernel
theorem dX7_givers_1 : decode cX7_givers 1 = .ok (.aload_n 0, 1) := by decide +kernel
theorem dX7_givers_2 : decode cX7_givers 2 = .ok (.iload_n 1, 1) := by decide +kernel
theorem dX7_givers_3 : decode cX7_givers 3 = .ok (.iload_n 2, 1) := by decide +kernel
theorem dX7_givers_4 : decode cX7_givers 4 = .ok (.iload_n 3, 1) := by decide +kernel
theorem dX7_givers_5 : decode cX7_givers 5 = .ok (.invokevirtual 155, 3) := by decide +kernel
theorem dX7_givers_8 : decode cX7_givers 8 = .ok (.putfield 116, 3) := by decide +kernel
theorem dX7_givers_11 : decode cX7_givers 11 = .ok (.aload_n 0, 1) := by decide +kernel
theorem dX7_givers_12 : decode cX7_givers 12 = .ok (.getfield 116, 3) := by decide +kernel
theorem dX7_givers_15 : decode cX7_givers 15 = .ok (.ifCond .le 7, 3) := by decide +kernel
theorem dX7_givers_18 : decode cX7_givers 18 = .ok (.iconst (-1), 1) := by decide +kernel
theorem dX7_givers_19 : decode cX7_givers 19 = .ok (.goto 14, 3) := by decide +kernel
theorem dX7_givers_33 : decode cX7_givers 33 = .ok (.ireturn, 1) := by decide +kernel
theorem dX7_part_0 : decode cX7_part 0 = .ok (.aload_n 0, 1) := by decide +kernel
theorem dX7_part_1 : decode cX7_part 1 = .ok (.aload_n 0, 1) := by decide +kernel
theorem dX7_part_2 : decode cX7_part 2 = .ok (.iload_n 1, 1) := by decide +kernel
theorem dX7_part_3 : decode cX7_part 3 = .ok (.iload_n 2, 1) := by decide +kernel
theorem dX7_part_4 : decode cX7_part 4 = .ok (.iload_n 3, 1) := by decide +kernel
theorem dX7_part_5 : decode cX7_part 5 = .ok (.invokevirtual 155, 3) := by decide +kernel
theorem dX7_part_8 : decode cX7_part 8 = .ok (.putfield 116, 3) := by decide +kernel
theorem dX7_part_11 : decode cX7_part 11 = .ok (.aload_n 0, 1) := by decide +kernel
theorem dX7_part_12 : decode cX7_part 12 = .ok (.getfield 116, 3) := by decide +kernel
theorem dX7_part_15 : decode cX7_part 15 = .ok (.ifCond .ne 30, 3) := by decide +kernel
theorem dX7_part_45 : decode cX7_part 45 = .ok (.aload_n 0, 1) := by decide +kernel
theorem dX7_part_46 : decode cX7_part 46 = .ok (.getfield 116, 3) := by decide +kernel
theorem dX7_part_49 : decode cX7_part 49 = .ok (.ifCond .le 7, 3) := by decide +kernel
theorem dX7_part_52 : decode cX7_part 52 = .ok (.iconst (-1), 1) := by decide +kernel
theorem dX7_part_53 : decode cX7_part 53 = .ok (.goto 20, 3) := by decide +kernel
theorem dX7_part_73 : decode cX7_part 73 = .ok (.ireturn, 1) := by decide +kernel
theorem dX7_hand_0 : decode cX7_hand 0 = .ok (.aload_n 0, 1) := by decide +kernel
theorem dX7_hand_1 : decode cX7_hand 1 = .ok (.aload_n 0, 1) := by decide +kernel
theorem dX7_hand_2 : decode cX7_hand 2 = .ok (.iload_n 1, 1) := by decide +kernel
theorem dX7_hand_3 : decode cX7_hand 3 = .ok (.iload_n 2, 1) := by decide +kernel
theorem dX7_hand_4 : decode cX7_hand 4 = .ok (.iload_n 3, 1) := by decide +kernel
theorem dX7_hand_5 : decode cX7_hand 5 = .ok (.invokevirtual 158, 3) := by decide +kernel
theorem dX7_hand_8 : decode cX7_hand 8 = .ok (.putfield 116, 3) := by decide +kernel
theorem dX7_hand_11 : decode cX7_hand 11 = .ok (.aload_n 0, 1) := by decide +kernel
theorem dX7_hand_12 : decode cX7_hand 12 = .ok (.getfield 116, 3) := by decide +kernel
theorem dX7_hand_15 : decode cX7_hand 15 = .ok (.ifCond .le 5, 3) := by decide +kernel
theorem dX7_hand_18 : decode cX7_hand 18 = .ok (.iconst 0, 1) := by decide +kernel
theorem dX7_hand_19 : decode cX7_hand 19 = .ok (.ireturn, 1) := by decide +kernel
theorem dX7_keep_0 : decode cX7_keep 0 = .ok (.aload_n 0, 1) := by decide +kernel
theorem dX7_keep_1 : decode cX7_keep 1 = .ok (.aload_n 0, 1) := by decide +kernel
theorem dX7_keep_2 : decode cX7_keep 2 = .ok (.iload_n 1, 1) := by decide +kernel
theorem dX7_keep_3 : decode cX7_keep 3 = .ok (.iload_n 2, 1) := by decide +kernel
theorem dX7_keep_4 : decode cX7_keep 4 = .ok (.iload_n 3, 1) := by decide +kernel
theorem dX7_keep_5 : decode cX7_keep 5 = .ok (.invokevirtual 158, 3) := by decide +kernel
theorem dX7_keep_8 : decode cX7_keep 8 = .ok (.putfield 116, 3) := by decide +kernel
theorem dX7_keep_11 : decode cX7_keep 11 = .ok (.aload_n 0, 1) := by decide +kernel
theorem dX7_keep_12 : decode cX7_keep 12 = .ok (.getfield 116, 3) := by decide +kernel
theorem dX7_keep_15 : decode cX7_keep 15 = .ok (.ifCond .le 5, 3) := by decide +kernel
theorem dX7_keep_18 : decode cX7_keep 18 = .ok (.iconst 0, 1) := by decide +kernel
theorem dX7_keep_19 : decode cX7_keep 19 = .ok (.ireturn, 1) := by decide +kernel
theorem dX7_sound_0 : decode cX7_sound 0 = .ok (.aload_n 0, 1) := by decide +kernel
theorem dX7_sound_1 : decode cX7_sound 1 = .ok (.aload_n 0, 1) := by decide +kernel
theorem dX7_sound_2 : decode cX7_sound 2 = .ok (.iload_n 1, 1) := by decide +kernel
theorem dX7_sound_3 : decode cX7_sound 3 = .ok (.invokevirtual 120, 3) := by decide +kernel
theorem dX7_sound_6 : decode cX7_sound 6 = .ok (.ifCond .ne 7, 3) := by decide +kernel
theorem dX7_sound_9 : decode cX7_sound 9 = .ok (.iconst 1, 1) := by decide +kernel
theorem dX7_sound_10 : decode cX7_sound 10 = .ok (.goto 17, 3) := by decide +kernel
theorem dX7_sound_27 : decode cX7_sound 27 = .ok (.putfield 116, 3) := by decide +kernel
theorem dX7_sound_30 : decode cX7_sound 30 = .ok (.aload_n 0, 1) := by decide +kernel
theorem dX7_sound_31 : decode cX7_sound 31 = .ok (.getfield 116, 3) := by decide +kernel
theorem dX7_sound_34 : decode cX7_sound 34 = .ok (.ifCond .le 7, 3) := by decide +kernel
theorem dX7_sound_37 : decode cX7_sound 37 = .ok (.iconst (-1), 1) := by decide +kernel
theorem dX7_sound_38 : decode cX7_sound 38 = .ok (.goto 17, 3) := by decide +kernel
theorem dX7_sound_55 : decode cX7_sound 55 = .ok (.ireturn, 1) := by decide +kernel
theorem dX7_sum_0 : decode cX7_sum 0 = .ok (.aload_n 0, 1) := by decide +kernel
theorem dX7_sum_1 : decode cX7_sum 1 = .ok (.aload_n 0, 1) := by decide +kernel
theorem dX7_sum_2 : decode cX7_sum 2 = .ok (.iload_n 1, 1) := by decide +kernel
theorem dX7_sum_3 : decode cX7_sum 3 = .ok (.invokevirtual 120, 3) := by decide +kernel
theorem dX7_sum_6 : decode cX7_sum 6 = .ok (.ifCond .ne 7, 3) := by decide +kernel
theorem dX7_sum_9 : decode cX7_sum 9 = .ok (.iconst 1, 1) := by decide +kernel
theorem dX7_sum_10 : decode cX7_sum 10 = .ok (.goto 31, 3) := by decide +kernel
theorem dX7_sum_41 : decode cX7_sum 41 = .ok (.putfield 116, 3) := by decide +kernel
theorem dX7_sum_44 : decode cX7_sum 44 = .ok (.aload_n 0, 1) := by decide +kernel
theorem dX7_sum_45 : decode cX7_sum 45 = .ok (.getfield 116, 3) := by decide +kernel
theorem dX7_sum_48 : decode cX7_sum 48 = .ok (.ifCond .le 7, 3) := by decide +kernel
theorem dX7_sum_51 : decode cX7_sum 51 = .ok (.iconst (-1), 1) := by decide +kernel
theorem dX7_sum_52 : decode cX7_sum 52 = .ok (.goto 9, 3) := by decide +kernel
theorem dX7_sum_61 : decode cX7_sum 61 = .ok (.ireturn, 1) := by decide +kernel
theorem dX7_total_0 : decode cX7_total 0 = .ok (.aload_n 0, 1) := by decide +kernel
theorem dX7_total_1 : decode cX7_total 1 = .ok (.aload_n 0, 1) := by decide +kernel
theorem dX7_total_2 : decode cX7_total 2 = .ok (.iload_n 1, 1) := by decide +kernel
theorem dX7_total_3 : decode cX7_total 3 = .ok (.invokevirtual 120, 3) := by decide +kernel
theorem dX7_total_6 : decode cX7_total 6 = .ok (.ifCond .ne 7, 3) := by decide +kernel
theorem dX7_total_9 : decode cX7_total 9 = .ok (.iconst 1, 1) := by decide +kernel
theorem dX7_total_10 : decode cX7_total 10 = .ok (.goto 40, 3) := by decide +kernel
theorem dX7_total_50 : decode cX7_total 50 = .ok (.putfield 116, 3) := by decide +kernel
theorem dX7_total_53 : decode cX7_total 53 = .ok (.aload_n 0, 1) := by decide +kernel
theorem dX7_total_54 : decode cX7_total 54 = .ok (.getfield 116, 3) := by decide +kernel
theorem dX7_total_57 : decode cX7_total 57 = .ok (.ifCond .le 5, 3) := by decide +kernel
theorem dX7_total_60 : decode cX7_total 60 = .ok (.iconst (-1), 1) := by decide +kernel
theorem dX7_total_61 : decode cX7_total 61 = .ok (.ireturn, 1) := by decide +kernel
theorem dX7_secret_0 : decode cX7_secret 0 = .ok (.aload_n 0, 1) := by decide +kernel
theorem dX7_secret_1 : decode cX7_secret 1 = .ok (.aload_n 0, 1) := by decide +kernel
theorem dX7_secret_2 : decode cX7_secret 2 = .ok (.iload_n 1, 1) := by decide +kernel
theorem dX7_secret_3 : decode cX7_secret 3 = .ok (.iload_n 2, 1) := by decide +kernel
theorem dX7_secret_4 : decode cX7_secret 4 = .ok (.iload_n 3, 1) := by decide +kernel
theorem dX7_secret_5 : decode cX7_secret 5 = .ok (.invokevirtual 178, 3) := by decide +kernel
theorem dX7_secret_8 : decode cX7_secret 8 = .ok (.putfield 116, 3) := by decide +kernel
theorem dX7_secret_11 : decode cX7_secret 11 = .ok (.aload_n 0, 1) := by decide +kernel
theorem dX7_secret_12 : decode cX7_secret 12 = .ok (.getfield 116, 3) := by decide +kernel
theorem dX7_secret_15 : decode cX7_secret 15 = .ok (.ifCond .le 7, 3) := by decide +kernel
theorem dX7_secret_18 : decode cX7_secret 18 = .ok (.iconst (-1), 1) := by decide +kernel
theorem dX7_secret_19 : decode cX7_secret 19 = .ok (.goto 14, 3) := by decide +kernel
theorem dX7_secret_33 : decode cX7_secret 33 = .ok (.ireturn, 1) := by decide +kernel
theorem dX7_kept_0 : decode cX7_kept 0 = .ok (.aload_n 0, 1) := by decide +kernel
theorem dX7_kept_1 : decode cX7_kept 1 = .ok (.aload_n 0, 1) := by decide +kernel
theorem dX7_kept_2 : decode cX7_kept 2 = .ok (.iload_n 1, 1) := by decide +kernel
theorem dX7_kept_3 : decode cX7_kept 3 = .ok (.iload_n 2, 1) := by decide +kernel
theorem dX7_kept_4 : decode cX7_kept 4 = .ok (.iload_n 3, 1) := by decide +kernel
theorem dX7_kept_5 : decode cX7_kept 5 = .ok (.invokevirtual 178, 3) := by decide +kernel
theorem dX7_kept_8 : decode cX7_kept 8 = .ok (.putfield 116, 3) := by decide +kernel
theorem dX7_kept_11 : decode cX7_kept 11 = .ok (.aload_n 0, 1) := by decide +kernel
theorem dX7_kept_12 : decode cX7_kept 12 = .ok (.getfield 116, 3) := by decide +kernel
theorem dX7_kept_15 : decode cX7_kept 15 = .ok (.ifCond .le 7, 3) := by decide +kernel
theorem dX7_kept_18 : decode cX7_kept 18 = .ok (.iconst (-1), 1) := by decide +kernel
theorem dX7_kept_19 : decode cX7_kept 19 = .ok (.goto 22, 3) := by decide +kernel
theorem dX7_kept_41 : decode cX7_kept 41 = .ok (.ireturn, 1) := by decide +kernel
theorem dX7_thousandths_0 : decode cX7_thousandths 0 = .ok (.aload_n 0, 1) := by decide +kernel
theorem dX7_thousandths_1 : decode cX7_thousandths 1 = .ok (.aload_n 0, 1) := by decide +kernel
theorem dX7_thousandths_2 : decode cX7_thousandths 2 = .ok (.iload_n 1, 1) := by decide +kernel
theorem dX7_thousandths_3 : decode cX7_thousandths 3 = .ok (.iload_n 2, 1) := by decide +kernel
theorem dX7_thousandths_4 : decode cX7_thousandths 4 = .ok (.iload_n 3, 1) := by decide +kernel
theorem dX7_thousandths_5 : decode cX7_thousandths 5 = .ok (.invokevirtual 143, 3) := by decide +kernel
theorem dX7_thousandths_8 : decode cX7_thousandths 8 = .ok (.putfield 116, 3) := by decide +kernel
theorem dX7_thousandths_11 : decode cX7_thousandths 11 = .ok (.aload_n 0, 1) := by decide +kernel
theorem dX7_thousandths_12 : decode cX7_thousandths 12 = .ok (.getfield 116, 3) := by decide +kernel
theorem dX7_thousandths_15 : decode cX7_thousandths 15 = .ok (.ifCond .ne 55, 3) := by decide +kernel
theorem dX7_thousandths_70 : decode cX7_thousandths 70 = .ok (.aload_n 0, 1) := by decide +kernel
theorem dX7_thousandths_71 : decode cX7_thousandths 71 = .ok (.getfield 116, 3) := by decide +kernel
theorem dX7_thousandths_74 : decode cX7_thousandths 74 = .ok (.ifCond .le 7, 3) := by decide +kernel
theorem dX7_thousandths_77 : decode cX7_thousandths 77 = .ok (.iconst (-1), 1) := by decide +kernel
theorem dX7_thousandths_78 : decode cX7_thousandths 78 = .ok (.goto 10, 3) := by decide +kernel
theorem dX7_thousandths_88 : decode cX7_thousandths 88 = .ok (.ireturn, 1) := by decide +kernel
theorem dX7_least_0 : decode cX7_least 0 = .ok (.aload_n 0, 1) := by decide +kernel
theorem dX7_least_1 : decode cX7_least 1 = .ok (.aload_n 0, 1) := by decide +kernel
theorem dX7_least_2 : decode cX7_least 2 = .ok (.iload_n 1, 1) := by decide +kernel
theorem dX7_least_3 : decode cX7_least 3 = .ok (.iload_n 2, 1) := by decide +kernel
theorem dX7_least_4 : decode cX7_least 4 = .ok (.iload_n 3, 1) := by decide +kernel
theorem dX7_least_5 : decode cX7_least 5 = .ok (.invokevirtual 178, 3) := by decide +kernel
theorem dX7_least_8 : decode cX7_least 8 = .ok (.putfield 116, 3) := by decide +kernel
theorem dX7_least_11 : decode cX7_least 11 = .ok (.aload_n 0, 1) := by decide +kernel
theorem dX7_least_12 : decode cX7_least 12 = .ok (.getfield 116, 3) := by decide +kernel
theorem dX7_least_15 : decode cX7_least 15 = .ok (.ifCond .le 7, 3) := by decide +kernel
theorem dX7_least_18 : decode cX7_least 18 = .ok (.iconst (-1), 1) := by decide +kernel
theorem dX7_least_19 : decode cX7_least 19 = .ok (.goto 11, 3) := by decide +kernel
theorem dX7_least_30 : decode cX7_least 30 = .ok (.ireturn, 1) := by decide +kernel
theorem dX7_greatest_0 : decode cX7_greatest 0 = .ok (.aload_n 0, 1) := by decide +kernel
theorem dX7_greatest_1 : decode cX7_greatest 1 = .ok (.aload_n 0, 1) := by decide +kernel
theorem dX7_greatest_2 : decode cX7_greatest 2 = .ok (.iload_n 1, 1) := by decide +kernel
theorem dX7_greatest_3 : decode cX7_greatest 3 = .ok (.iload_n 2, 1) := by decide +kernel
theorem dX7_greatest_4 : decode cX7_greatest 4 = .ok (.iload_n 3, 1) := by decide +kernel
theorem dX7_greatest_5 : decode cX7_greatest 5 = .ok (.invokevirtual 178, 3) := by decide +kernel
theorem dX7_greatest_8 : decode cX7_greatest 8 = .ok (.putfield 116, 3) := by decide +kernel
theorem dX7_greatest_11 : decode cX7_greatest 11 = .ok (.aload_n 0, 1) := by decide +kernel
theorem dX7_greatest_12 : decode cX7_greatest 12 = .ok (.getfield 116, 3) := by decide +kernel
theorem dX7_greatest_15 : decode cX7_greatest 15 = .ok (.ifCond .le 7, 3) := by decide +kernel
theorem dX7_greatest_18 : decode cX7_greatest 18 = .ok (.iconst (-1), 1) := by decide +kernel
theorem dX7_greatest_19 : decode cX7_greatest 19 = .ok (.goto 11, 3) := by decide +kernel
theorem dX7_greatest_30 : decode cX7_greatest 30 = .ok (.ireturn, 1) := by decide +kernel
theorem dX7_safe_0 : decode cX7_safe 0 = .ok (.aload_n 0, 1) := by decide +kernel
theorem dX7_safe_1 : decode cX7_safe 1 = .ok (.aload_n 0, 1) := by decide +kernel
theorem dX7_safe_2 : decode cX7_safe 2 = .ok (.iload_n 1, 1) := by decide +kernel
theorem dX7_safe_3 : decode cX7_safe 3 = .ok (.iload_n 2, 1) := by decide +kernel
theorem dX7_safe_4 : decode cX7_safe 4 = .ok (.iload_n 3, 1) := by decide +kernel
theorem dX7_safe_5 : decode cX7_safe 5 = .ok (.invokevirtual 178, 3) := by decide +kernel
theorem dX7_safe_8 : decode cX7_safe 8 = .ok (.putfield 116, 3) := by decide +kernel
theorem dX7_safe_11 : decode cX7_safe 11 = .ok (.aload_n 0, 1) := by decide +kernel
theorem dX7_safe_12 : decode cX7_safe 12 = .ok (.getfield 116, 3) := by decide +kernel
theorem dX7_safe_15 : decode cX7_safe 15 = .ok (.ifCond .le 7, 3) := by decide +kernel
theorem dX7_safe_18 : decode cX7_safe 18 = .ok (.iconst (-1), 1) := by decide +kernel
theorem dX7_safe_19 : decode cX7_safe 19 = .ok (.goto 18, 3) := by decide +kernel
theorem dX7_safe_37 : decode cX7_safe 37 = .ok (.ireturn, 1) := by decide +kernel
theorem dX7_unsafe_0 : decode cX7_unsafe 0 = .ok (.aload_n 0, 1) := by decide +kernel
theorem dX7_unsafe_1 : decode cX7_unsafe 1 = .ok (.aload_n 0, 1) := by decide +kernel
theorem dX7_unsafe_2 : decode cX7_unsafe 2 = .ok (.iload_n 1, 1) := by decide +kernel
theorem dX7_unsafe_3 : decode cX7_unsafe 3 = .ok (.invokevirtual 120, 3) := by decide +kernel
theorem dX7_unsafe_6 : decode cX7_unsafe 6 = .ok (.ifCond .eq 7, 3) := by decide +kernel
theorem dX7_unsafe_13 : decode cX7_unsafe 13 = .ok (.iconst 1, 1) := by decide +kernel
theorem dX7_unsafe_14 : decode cX7_unsafe 14 = .ok (.putfield 116, 3) := by decide +kernel
theorem dX7_unsafe_17 : decode cX7_unsafe 17 = .ok (.aload_n 0, 1) := by decide +kernel
theorem dX7_unsafe_18 : decode cX7_unsafe 18 = .ok (.getfield 116, 3) := by decide +kernel
theorem dX7_unsafe_21 : decode cX7_unsafe 21 = .ok (.ifCond .le 5, 3) := by decide +kernel
theorem dX7_unsafe_24 : decode cX7_unsafe 24 = .ok (.iconst (-1), 1) := by decide +kernel
theorem dX7_unsafe_25 : decode cX7_unsafe 25 = .ok (.ireturn, 1) := by decide +kernel
theorem dX7_witness_0 : decode cX7_witness 0 = .ok (.aload_n 0, 1) := by decide +kernel
theorem dX7_witness_1 : decode cX7_witness 1 = .ok (.aload_n 0, 1) := by decide +kernel
theorem dX7_witness_2 : decode cX7_witness 2 = .ok (.iload_n 1, 1) := by decide +kernel
theorem dX7_witness_3 : decode cX7_witness 3 = .ok (.iload_n 2, 1) := by decide +kernel
theorem dX7_witness_4 : decode cX7_witness 4 = .ok (.iload_n 3, 1) := by decide +kernel
theorem dX7_witness_5 : decode cX7_witness 5 = .ok (.invokevirtual 178, 3) := by decide +kernel
theorem dX7_witness_8 : decode cX7_witness 8 = .ok (.putfield 116, 3) := by decide +kernel
theorem dX7_witness_11 : decode cX7_witness 11 = .ok (.aload_n 0, 1) := by decide +kernel
theorem dX7_witness_12 : decode cX7_witness 12 = .ok (.getfield 116, 3) := by decide +kernel
theorem dX7_witness_15 : decode cX7_witness 15 = .ok (.ifCond .le 5, 3) := by decide +kernel
theorem dX7_witness_18 : decode cX7_witness 18 = .ok (.iconst (-1), 1) := by decide +kernel
theorem dX7_witness_19 : decode cX7_witness 19 = .ok (.ireturn, 1) := by decide +kernel
theorem dX7_plan_0 : decode cX7_plan 0 = .ok (.aload_n 0, 1) := by decide +kernel
theorem dX7_plan_1 : decode cX7_plan 1 = .ok (.aload_n 0, 1) := by decide +kernel
theorem dX7_plan_2 : decode cX7_plan 2 = .ok (.iload_n 1, 1) := by decide +kernel
theorem dX7_plan_3 : decode cX7_plan 3 = .ok (.invokevirtual 120, 3) := by decide +kernel
theorem dX7_plan_6 : decode cX7_plan 6 = .ok (.ifCond .eq 7, 3) := by decide +kernel
theorem dX7_plan_13 : decode cX7_plan 13 = .ok (.iconst 1, 1) := by decide +kernel
theorem dX7_plan_14 : decode cX7_plan 14 = .ok (.putfield 116, 3) := by decide +kernel
theorem dX7_plan_17 : decode cX7_plan 17 = .ok (.aload_n 0, 1) := by decide +kernel
theorem dX7_plan_18 : decode cX7_plan 18 = .ok (.getfield 116, 3) := by decide +kernel
theorem dX7_plan_21 : decode cX7_plan 21 = .ok (.ifCond .le 5, 3) := by decide +kernel
theorem dX7_plan_24 : decode cX7_plan 24 = .ok (.iconst (-1), 1) := by decide +kernel
theorem dX7_plan_25 : decode cX7_plan 25 = .ok (.ireturn, 1) := by decide +kernel
theorem dX7_fewest_0 : decode cX7_fewest 0 = .ok (.aload_n 0, 1) := by decide +kernel
theorem dX7_fewest_1 : decode cX7_fewest 1 = .ok (.aload_n 0, 1) := by decide +kernel
theorem dX7_fewest_2 : decode cX7_fewest 2 = .ok (.iload_n 1, 1) := by decide +kernel
theorem dX7_fewest_3 : decode cX7_fewest 3 = .ok (.invokevirtual 120, 3) := by decide +kernel
theorem dX7_fewest_6 : decode cX7_fewest 6 = .ok (.ifCond .eq 7, 3) := by decide +kernel
theorem dX7_fewest_13 : decode cX7_fewest 13 = .ok (.iconst 1, 1) := by decide +kernel
theorem dX7_fewest_14 : decode cX7_fewest 14 = .ok (.putfield 116, 3) := by decide +kernel
theorem dX7_fewest_17 : decode cX7_fewest 17 = .ok (.aload_n 0, 1) := by decide +kernel
theorem dX7_fewest_18 : decode cX7_fewest 18 = .ok (.getfield 116, 3) := by decide +kernel
theorem dX7_fewest_21 : decode cX7_fewest 21 = .ok (.ifCond .le 5, 3) := by decide +kernel
theorem dX7_fewest_24 : decode cX7_fewest 24 = .ok (.iconst (-1), 1) := by decide +kernel
theorem dX7_fewest_25 : decode cX7_fewest 25 = .ok (.ireturn, 1) := by decide +kernel
theorem dX7_cost_0 : decode cX7_cost 0 = .ok (.aload_n 0, 1) := by decide +kernel
theorem dX7_cost_1 : decode cX7_cost 1 = .ok (.aload_n 0, 1) := by decide +kernel
theorem dX7_cost_2 : decode cX7_cost 2 = .ok (.iload_n 1, 1) := by decide +kernel
theorem dX7_cost_3 : decode cX7_cost 3 = .ok (.invokevirtual 120, 3) := by decide +kernel
theorem dX7_cost_6 : decode cX7_cost 6 = .ok (.ifCond .eq 7, 3) := by decide +kernel
theorem dX7_cost_13 : decode cX7_cost 13 = .ok (.iconst 1, 1) := by decide +kernel
theorem dX7_cost_14 : decode cX7_cost 14 = .ok (.putfield 116, 3) := by decide +kernel
theorem dX7_cost_17 : decode cX7_cost 17 = .ok (.aload_n 0, 1) := by decide +kernel
theorem dX7_cost_18 : decode cX7_cost 18 = .ok (.getfield 116, 3) := by decide +kernel
theorem dX7_cost_21 : decode cX7_cost 21 = .ok (.ifCond .le 5, 3) := by decide +kernel
theorem dX7_cost_24 : decode cX7_cost 24 = .ok (.iconst (-1), 1) := by decide +kernel
theorem dX7_cost_25 : decode cX7_cost 25 = .ok (.ireturn, 1) := by decide +kernel
theorem dX7_round_0 : decode cX7_round 0 = .ok (.aload_n 0, 1) := by decide +kernel
theorem dX7_round_1 : decode cX7_round 1 = .ok (.aload_n 0, 1) := by decide +kernel
theorem dX7_round_2 : decode cX7_round 2 = .ok (.iload_n 1, 1) := by decide +kernel
theorem dX7_round_3 : decode cX7_round 3 = .ok (.invokevirtual 120, 3) := by decide +kernel
theorem dX7_round_6 : decode cX7_round 6 = .ok (.ifCond .ne 7, 3) := by decide +kernel
theorem dX7_round_9 : decode cX7_round 9 = .ok (.iconst 1, 1) := by decide +kernel
theorem dX7_round_10 : decode cX7_round 10 = .ok (.goto 21, 3) := by decide +kernel
theorem dX7_round_31 : decode cX7_round 31 = .ok (.putfield 116, 3) := by decide +kernel
theorem dX7_round_34 : decode cX7_round 34 = .ok (.aload_n 0, 1) := by decide +kernel
theorem dX7_round_35 : decode cX7_round 35 = .ok (.getfield 116, 3) := by decide +kernel
theorem dX7_round_38 : decode cX7_round 38 = .ok (.ifCond .le 5, 3) := by decide +kernel
theorem dX7_round_41 : decode cX7_round 41 = .ok (.iconst (-1), 1) := by decide +kernel
theorem dX7_round_42 : decode cX7_round 42 = .ok (.ireturn, 1) := by decide +kernel
theorem dX7_give_0 : decode cX7_give 0 = .ok (.aload_n 0, 1) := by decide +kernel
theorem dX7_give_1 : decode cX7_give 1 = .ok (.aload_n 0, 1) := by decide +kernel
theorem dX7_give_2 : decode cX7_give 2 = .ok (.iload_n 1, 1) := by decide +kernel
theorem dX7_give_3 : decode cX7_give 3 = .ok (.invokevirtual 120, 3) := by decide +kernel
theorem dX7_give_6 : decode cX7_give 6 = .ok (.ifCond .ne 7, 3) := by decide +kernel
theorem dX7_give_9 : decode cX7_give 9 = .ok (.iconst 1, 1) := by decide +kernel
theorem dX7_give_10 : decode cX7_give 10 = .ok (.goto 33, 3) := by decide +kernel
theorem dX7_give_43 : decode cX7_give 43 = .ok (.putfield 116, 3) := by decide +kernel
theorem dX7_give_46 : decode cX7_give 46 = .ok (.aload_n 0, 1) := by decide +kernel
theorem dX7_give_47 : decode cX7_give 47 = .ok (.getfield 116, 3) := by decide +kernel
theorem dX7_give_50 : decode cX7_give 50 = .ok (.ifCond .le 5, 3) := by decide +kernel
theorem dX7_give_53 : decode cX7_give 53 = .ok (.iconst (-1), 1) := by decide +kernel
theorem dX7_give_54 : decode cX7_give 54 = .ok (.ireturn, 1) := by decide +kernel
theorem dX7_status_0 : decode cX7_status 0 = .ok (.aload_n 0, 1) := by decide +kernel
theorem dX7_status_1 : decode cX7_status 1 = .ok (.getfield 116, 3) := by decide +kernel
theorem dX7_status_4 : decode cX7_status 4 = .ok (.ireturn, 1) := by decide +kernel
theorem dX7_seen_0 : decode cX7_seen 0 = .ok (.iload_n 1, 1) := by decide +kernel
theorem dX7_seen_1 : decode cX7_seen 1 = .ok (.ifCond .lt 34, 3) := by decide +kernel
theorem dX7_seen_35 : decode cX7_seen 35 = .ok (.iconst (-1), 1) := by decide +kernel
theorem dX7_seen_36 : decode cX7_seen 36 = .ok (.ireturn, 1) := by decide +kernel
theorem dX7_seen_4 : decode cX7_seen 4 = .ok (.iload_n 1, 1) := by decide +kernel
theorem dX7_seen_5 : decode cX7_seen 5 = .ok (.aload_n 0, 1) := by decide +kernel
theorem dX7_seen_6 : decode cX7_seen 6 = .ok (.getfield 233, 3) := by decide +kernel
theorem dX7_seen_9 : decode cX7_seen 9 = .ok (.if_icmp .ge 26, 3) := by decide +kernel
theorem dX7_rounded_0 : decode cX7_rounded 0 = .ok (.iload_n 1, 1) := by decide +kernel
theorem dX7_rounded_1 : decode cX7_rounded 1 = .ok (.ifCond .lt 34, 3) := by decide +kernel
theorem dX7_rounded_35 : decode cX7_rounded 35 = .ok (.iconst (-1), 1) := by decide +kernel
theorem dX7_rounded_36 : decode cX7_rounded 36 = .ok (.ireturn, 1) := by decide +kernel
theorem dX7_rounded_4 : decode cX7_rounded 4 = .ok (.iload_n 1, 1) := by decide +kernel
theorem dX7_rounded_5 : decode cX7_rounded 5 = .ok (.aload_n 0, 1) := by decide +kernel
theorem dX7_rounded_6 : decode cX7_rounded 6 = .ok (.getfield 265, 3) := by decide +kernel
theorem dX7_rounded_9 : decode cX7_rounded 9 = .ok (.if_icmp .ge 26, 3) := by decide +kernel
theorem dX7_cut_0 : decode cX7_cut 0 = .ok (.iload_n 2, 1) := by decide +kernel
theorem dX7_cut_1 : decode cX7_cut 1 = .ok (.ifCond .lt 22, 3) := by decide +kernel
theorem dX7_cut_23 : decode cX7_cut 23 = .ok (.iconst (-1), 1) := by decide +kernel
theorem dX7_cut_24 : decode cX7_cut 24 = .ok (.ireturn, 1) := by decide +kernel
theorem dX7_cut_4 : decode cX7_cut 4 = .ok (.iload_n 2, 1) := by decide +kernel
theorem dX7_cut_5 : decode cX7_cut 5 = .ok (.iload_n 1, 1) := by decide +kernel
theorem dX7_cut_6 : decode cX7_cut 6 = .ok (.ifCond .eq 10, 3) := by decide +kernel
theorem dX7_cut_16 : decode cX7_cut 16 = .ok (.aload_n 0, 1) := by decide +kernel
theorem dX7_cut_17 : decode cX7_cut 17 = .ok (.getfield 236, 3) := by decide +kernel
theorem dX7_cut_20 : decode cX7_cut 20 = .ok (.if_icmp .lt 5, 3) := by decide +kernel
theorem dX7_cut_9 : decode cX7_cut 9 = .ok (.aload_n 0, 1) := by decide +kernel
theorem dX7_cut_10 : decode cX7_cut 10 = .ok (.getfield 233, 3) := by decide +kernel
theorem dX7_cut_13 : decode cX7_cut 13 = .ok (.goto 7, 3) := by decide +kernel
theorem dX7_isIn_0 : decode cX7_isIn 0 = .ok (.iload_n 1, 1) := by decide +kernel
theorem dX7_isIn_1 : decode cX7_isIn 1 = .ok (.ifCond .lt 43, 3) := by decide +kernel
theorem dX7_isIn_44 : decode cX7_isIn 44 = .ok (.iconst 0, 1) := by decide +kernel
theorem dX7_isIn_45 : decode cX7_isIn 45 = .ok (.ireturn, 1) := by decide +kernel
theorem dX7_isIn_4 : decode cX7_isIn 4 = .ok (.iload_n 1, 1) := by decide +kernel
theorem dX7_isIn_5 : decode cX7_isIn 5 = .ok (.aload_n 0, 1) := by decide +kernel
theorem dX7_isIn_6 : decode cX7_isIn 6 = .ok (.getfield 274, 3) := by decide +kernel
theorem dX7_isIn_9 : decode cX7_isIn 9 = .ok (.if_icmp .ge 35, 3) := by decide +kernel
theorem dX7_gift_0 : decode cX7_gift 0 = .ok (.aload_n 0, 1) := by decide +kernel
theorem dX7_gift_1 : decode cX7_gift 1 = .ok (.iload_n 1, 1) := by decide +kernel
theorem dX7_gift_2 : decode cX7_gift 2 = .ok (.iload_n 2, 1) := by decide +kernel
theorem dX7_gift_3 : decode cX7_gift 3 = .ok (.iload_n 3, 1) := by decide +kernel
theorem dX7_gift_4 : decode cX7_gift 4 = .ok (.invokevirtual 277, 3) := by decide +kernel
theorem dX7_gift_7 : decode cX7_gift 7 = .ok (.ifCond .eq 23, 3) := by decide +kernel
theorem dX7_gift_30 : decode cX7_gift 30 = .ok (.iconst (-1), 1) := by decide +kernel
theorem dX7_gift_31 : decode cX7_gift 31 = .ok (.ireturn, 1) := by decide +kernel
theorem dX7_agree_0 : decode cX7_agree 0 = .ok (.iload_n 1, 1) := by decide +kernel
theorem dX7_agree_1 : decode cX7_agree 1 = .ok (.ifCond .lt 23, 3) := by decide +kernel
theorem dX7_agree_24 : decode cX7_agree 24 = .ok (.iconst (-1), 1) := by decide +kernel
theorem dX7_agree_25 : decode cX7_agree 25 = .ok (.ireturn, 1) := by decide +kernel
theorem dX7_agree_4 : decode cX7_agree 4 = .ok (.iload_n 2, 1) := by decide +kernel
theorem dX7_agree_5 : decode cX7_agree 5 = .ok (.ifCond .lt 19, 3) := by decide +kernel
theorem dX7_agree_8 : decode cX7_agree 8 = .ok (.iload_n 1, 1) := by decide +kernel
theorem dX7_agree_9 : decode cX7_agree 9 = .ok (.aload_n 0, 1) := by decide +kernel
theorem dX7_agree_10 : decode cX7_agree 10 = .ok (.getfield 274, 3) := by decide +kernel
theorem dX7_agree_13 : decode cX7_agree 13 = .ok (.if_icmp .ge 11, 3) := by decide +kernel
set_option maxHeartbeats 4000000 in
set_option maxRecDepth 100000 in
theorem k_X7_wrongPlace (l : Launch) (G : GG) (y : Nat) (b : Nat → Nat) (mf op : Nat → Int32) (p1 p2 p3 : Int32) (hcl : ∀ j, j < 6 → op j = 0) : RdI l yX7_wrongPlace cX7_wrongPlace 4 (some .int) ({ frames := 1, cells := 0, slots := 0, locals := 21 }) G (mW G y b mf op) [.ref y, .int p1, .int p2, .int p3] (fun r => r = 1) := by
  refine rd_entry (by decide +kernel) (Nat.le_of_ble_eq_true rfl) ?_
  intro p e s m below meth c C0 hP hK ls hl
  have hS : va_S (fun q => s.heap.size ≤ q) s.heap s.heap [] := va_S.rf
  have hA : ∀ q, s.heap.size ≤ q → (fun q => s.heap.size ≤ q) q := fun _ h => h
  obtain ⟨hx, hb, hml, hown, hts, hr, hlocks, hin⟩ := C0
  have hown : s.vm.findClass RX7 = some m.cls := hown
  have hl : lv_has ls 4 [(0, .ref y), (1, .int p1), (2, .int p2), (3, .int p3)] := hl
  refine lv_aload_n hx hb dX7_wrongPlace_0 rfl (lv_at hl 0 rfl) ?_
  refine lv_iload_n hx hb dX7_wrongPlace_1 rfl (lv_at hl 1 rfl) ?_
  refine rdV (rest := []) (q0 := 0) ⟨hx, hb, hml, hown, hts⟩ (c_X7_isTable l G y b mf op p1) mi_yX7_isTable mv_yX7_isTable ml_X7_120 ⟨rfl, rfl, Nat.le_of_ble_eq_true rfl, Nat.le_of_ble_eq_true rfl⟩ hK (hP) rfl rfl rfl hl.1 rfl (Nat.le_of_ble_eq_true rfl) dX7_wrongPlace_2 ⟨Nat.zero_le _, Nat.zero_le _⟩ hS hA hP (fun r1 H locs hr1 hP hS => ?_)
  obtain rfl : r1 = 0 := it_zero hr1 hcl
  refine lv_if_ne (tgt := 10) hx hb dX7_wrongPlace_5 (by decide) (fun c2 => absurd (by decide) c2) (fun _ => ?_)
  refine lv_iconst (v := 1) hx hb dX7_wrongPlace_8 (by decide) ?_
  exact rd_iret hx hb hr hlocks hS rfl dX7_wrongPlace_9
set_option maxHeartbeats 4000000 in
set_option maxRecDepth 100000 in
theorem k_X7_wrongAmount (l : Launch) (G : GG) (y : Nat) (b : Nat → Nat) (mf op : Nat → Int32) (p1 p2 p3 : Int32) (hcl : ∀ j, j < 6 → op j = 0) : RdI l yX7_wrongAmount cX7_wrongAmount 6 (some .int) ({ frames := 2, cells := 0, slots := 0, locals := 44 }) G (mW G y b mf op) [.ref y, .int p1, .int p2, .int p3] (fun r => r = 1) := by
  refine rd_entry (by decide +kernel) (Nat.le_of_ble_eq_true rfl) ?_
  intro p e s m below meth c C0 hP hK ls hl
  have hS : va_S (fun q => s.heap.size ≤ q) s.heap s.heap [] := va_S.rf
  have hA : ∀ q, s.heap.size ≤ q → (fun q => s.heap.size ≤ q) q := fun _ h => h
  obtain ⟨hx, hb, hml, hown, hts, hr, hlocks, hin⟩ := C0
  have hown : s.vm.findClass RX7 = some m.cls := hown
  have hl : lv_has ls 6 [(0, .ref y), (1, .int p1), (2, .int p2), (3, .int p3)] := hl
  refine lv_aload_n hx hb dX7_wrongAmount_0 rfl (lv_at hl 0 rfl) ?_
  refine lv_iload_n hx hb dX7_wrongAmount_1 rfl (lv_at hl 1 rfl) ?_
  refine lv_iload_n hx hb dX7_wrongAmount_2 rfl (lv_at hl 2 rfl) ?_
  refine lv_iload_n hx hb dX7_wrongAmount_3 rfl (lv_at hl 3 rfl) ?_
  refine rdV (rest := []) (q0 := 0) ⟨hx, hb, hml, hown, hts⟩ (k_X7_wrongPlace l G y b mf op p1 p2 p3 hcl) mi_yX7_wrongPlace mv_yX7_wrongPlace ml_X7_143 ⟨rfl, rfl, Nat.le_of_ble_eq_true rfl, Nat.le_of_ble_eq_true rfl⟩ hK (hP) rfl rfl rfl hl.1 rfl (Nat.le_of_ble_eq_true rfl) dX7_wrongAmount_4 ⟨Nat.zero_le _, Nat.zero_le _⟩ hS hA hP (fun r1 H locs hr1 hP hS => ?_)
  obtain rfl : r1 = 1 := hr1
  refine lv_istore (lv' := [(4, .int 1), (0, .ref y), (1, .int p1), (2, .int p2), (3, .int p3)]) hx hb dX7_wrongAmount_7 hl (by decide) rfl (fun ls hl => ?_)
  refine lv_iload hx hb dX7_wrongAmount_9 (lv_at hl 0 rfl) ?_
  refine lv_if_le (tgt := 17) hx hb dX7_wrongAmount_11 (by decide) (fun c2 => absurd c2 (by decide)) (fun _ => ?_)
  refine lv_iload hx hb dX7_wrongAmount_14 (lv_at hl 0 rfl) ?_
  exact rd_iret hx hb hr hlocks hS rfl dX7_wrongAmount_16
set_option maxHeartbeats 4000000 in
set_option maxRecDepth 100000 in
theorem k_X7_wrongToTell (l : Launch) (G : GG) (y : Nat) (b : Nat → Nat) (mf op : Nat → Int32) (p1 p2 p3 : Int32) (hcl : ∀ j, j < 6 → op j = 0) : RdI l yX7_wrongToTell cX7_wrongToTell 6 (some .int) ({ frames := 2, cells := 0, slots := 0, locals := 44 }) G (mW G y b mf op) [.ref y, .int p1, .int p2, .int p3] (fun r => r = 1) := by
  refine rd_entry (by decide +kernel) (Nat.le_of_ble_eq_true rfl) ?_
  intro p e s m below meth c C0 hP hK ls hl
  have hS : va_S (fun q => s.heap.size ≤ q) s.heap s.heap [] := va_S.rf
  have hA : ∀ q, s.heap.size ≤ q → (fun q => s.heap.size ≤ q) q := fun _ h => h
  obtain ⟨hx, hb, hml, hown, hts, hr, hlocks, hin⟩ := C0
  have hown : s.vm.findClass RX7 = some m.cls := hown
  have hl : lv_has ls 6 [(0, .ref y), (1, .int p1), (2, .int p2), (3, .int p3)] := hl
  refine lv_aload_n hx hb dX7_wrongToTell_0 rfl (lv_at hl 0 rfl) ?_
  refine lv_iload_n hx hb dX7_wrongToTell_1 rfl (lv_at hl 1 rfl) ?_
  refine lv_iload_n hx hb dX7_wrongToTell_2 rfl (lv_at hl 2 rfl) ?_
  refine lv_iload_n hx hb dX7_wrongToTell_3 rfl (lv_at hl 3 rfl) ?_
  refine rdV (rest := []) (q0 := 0) ⟨hx, hb, hml, hown, hts⟩ (k_X7_wrongPlace l G y b mf op p1 p2 p3 hcl) mi_yX7_wrongPlace mv_yX7_wrongPlace ml_X7_143 ⟨rfl, rfl, Nat.le_of_ble_eq_true rfl, Nat.le_of_ble_eq_true rfl⟩ hK (hP) rfl rfl rfl hl.1 rfl (Nat.le_of_ble_eq_true rfl) dX7_wrongToTell_4 ⟨Nat.zero_le _, Nat.zero_le _⟩ hS hA hP (fun r1 H locs hr1 hP hS => ?_)
  obtain rfl : r1 = 1 := hr1
  refine lv_istore (lv' := [(4, .int 1), (0, .ref y), (1, .int p1), (2, .int p2), (3, .int p3)]) hx hb dX7_wrongToTell_7 hl (by decide) rfl (fun ls hl => ?_)
  refine lv_iload hx hb dX7_wrongToTell_9 (lv_at hl 0 rfl) ?_
  refine lv_if_le (tgt := 17) hx hb dX7_wrongToTell_11 (by decide) (fun c2 => absurd c2 (by decide)) (fun _ => ?_)
  refine lv_iload hx hb dX7_wrongToTell_14 (lv_at hl 0 rfl) ?_
  exact rd_iret hx hb hr hlocks hS rfl dX7_wrongToTell_16
set_option maxHeartbeats 4000000 in
set_option maxRecDepth 100000 in
theorem k_X7_wrongSound (l : Launch) (G : GG) (y : Nat) (b : Nat → Nat) (mf op : Nat → Int32) (p1 p2 p3 : Int32) (hcl : ∀ j, j < 6 → op j = 0) : RdI l yX7_wrongSound cX7_wrongSound 6 (some .int) ({ frames := 2, cells := 0, slots := 0, locals := 44 }) G (mW G y b mf op) [.ref y, .int p1, .int p2, .int p3] (fun r => r = 1) := by
  refine rd_entry (by decide +kernel) (Nat.le_of_ble_eq_true rfl) ?_
  intro p e s m below meth c C0 hP hK ls hl
  have hS : va_S (fun q => s.heap.size ≤ q) s.heap s.heap [] := va_S.rf
  have hA : ∀ q, s.heap.size ≤ q → (fun q => s.heap.size ≤ q) q := fun _ h => h
  obtain ⟨hx, hb, hml, hown, hts, hr, hlocks, hin⟩ := C0
  have hown : s.vm.findClass RX7 = some m.cls := hown
  have hl : lv_has ls 6 [(0, .ref y), (1, .int p1), (2, .int p2), (3, .int p3)] := hl
  refine lv_aload_n hx hb dX7_wrongSound_0 rfl (lv_at hl 0 rfl) ?_
  refine lv_iload_n hx hb dX7_wrongSound_1 rfl (lv_at hl 1 rfl) ?_
  refine lv_iload_n hx hb dX7_wrongSound_2 rfl (lv_at hl 2 rfl) ?_
  refine lv_iload_n hx hb dX7_wrongSound_3 rfl (lv_at hl 3 rfl) ?_
  refine rdV (rest := []) (q0 := 0) ⟨hx, hb, hml, hown, hts⟩ (k_X7_wrongPlace l G y b mf op p1 p2 p3 hcl) mi_yX7_wrongPlace mv_yX7_wrongPlace ml_X7_143 ⟨rfl, rfl, Nat.le_of_ble_eq_true rfl, Nat.le_of_ble_eq_true rfl⟩ hK (hP) rfl rfl rfl hl.1 rfl (Nat.le_of_ble_eq_true rfl) dX7_wrongSound_4 ⟨Nat.zero_le _, Nat.zero_le _⟩ hS hA hP (fun r1 H locs hr1 hP hS => ?_)
  obtain rfl : r1 = 1 := hr1
  refine lv_istore (lv' := [(4, .int 1), (0, .ref y), (1, .int p1), (2, .int p2), (3, .int p3)]) hx hb dX7_wrongSound_7 hl (by decide) rfl (fun ls hl => ?_)
  refine lv_iload hx hb dX7_wrongSound_9 (lv_at hl 0 rfl) ?_
  refine lv_if_le (tgt := 17) hx hb dX7_wrongSound_11 (by decide) (fun c2 => absurd c2 (by decide)) (fun _ => ?_)
  refine lv_iload hx hb dX7_wrongSound_14 (lv_at hl 0 rfl) ?_
  exact rd_iret hx hb hr hlocks hS rfl dX7_wrongSound_16
set_option maxHeartbeats 4000000 in
set_option maxRecDepth 100000 in
theorem k_X7_close (l : Launch) (G : GG) (y : Nat) (b : Nat → Nat) (mf op : Nat → Int32) (p1 : Int32) (hcl : ∀ j, j < 6 → op j = 0) : WrI l yX7_close cX7_close 2 (some .boolean) ({ frames := 1, cells := 0, slots := 0, locals := 21 }) G (mW G y b mf op) [.ref y, .int p1] (fun r _ => r = 0) := by
  refine wr_entryI (by decide +kernel) (Nat.le_of_ble_eq_true rfl) ?_
  intro p e s m below meth c A C0 hP hK hD hA ls hl
  have hS : va_S A s.heap s.heap [] := va_S.rf
  obtain ⟨hx, hb, hml, hown, hts, hr, hlocks, hin⟩ := C0
  have hown : s.vm.findClass RX7 = some m.cls := hown
  have hl : lv_has ls 2 [(0, .ref y), (1, .int p1)] := hl
  refine lv_aload_n hx hb dX7_close_0 rfl (lv_at hl 0 rfl) ?_
  refine lv_iload_n hx hb dX7_close_1 rfl (lv_at hl 1 rfl) ?_
  refine rdV (rest := []) (q0 := 0) ⟨hx, hb, hml, hown, hts⟩ (c_X7_isTable l G y b mf op p1) mi_yX7_isTable mv_yX7_isTable ml_X7_120 ⟨rfl, rfl, Nat.le_of_ble_eq_true rfl, Nat.le_of_ble_eq_true rfl⟩ hK (hP) rfl rfl rfl hl.1 rfl (Nat.le_of_ble_eq_true rfl) dX7_close_2 ⟨Nat.zero_le _, Nat.zero_le _⟩ hS hA hP (fun r1 H locs hr1 hP hS => ?_)
  obtain rfl : r1 = 0 := it_zero hr1 hcl
  refine lv_if_ne (tgt := 14) hx hb dX7_close_5 (by decide) (fun c2 => absurd (by decide) c2) (fun _ => ?_)
  refine lv_aload_n hx hb dX7_close_8 rfl (lv_at hl 0 rfl) ?_
  refine lv_iconst (v := 1) hx hb dX7_close_9 (by decide) ?_
  refine wrVI (rest := []) (q0 := 0) ⟨hx, hb, hml, hown, hts⟩ (c_X7_refuse l G y b mf 1) mi_yX7_refuse mv_yX7_refuse ml_X7_131 ⟨rfl, rfl, Nat.le_of_ble_eq_true rfl, Nat.le_of_ble_eq_true rfl⟩ hK hP hD [0] rfl (by decide) rfl rfl rfl hl.1 rfl (Nat.le_of_ble_eq_true rfl) dX7_close_10 ⟨Nat.zero_le _, Nat.zero_le _⟩ hS hA (fun r3 w4 H locs hw4 hP hS => ?_)
  obtain ⟨rfl, rfl⟩ := hw4
  have hP : PP G [(y, .inr (7, [.int 1, .ref (b 1), .ref (b 2), .ref (b 3), .ref (b 4), .ref (b 5), .ref (b 6), .ref (b 7), .ref (b 8), .ref (b 9), .ref (b 10), .ref (b 11), .ref (b 12), .ref (b 13), .ref (b 14), .ref (b 15), .ref (b 16), .ref (b 17), .ref (b 18), .ref (b 19), .int (mf 20), .int (mf 21), .ref (b 22), .ref (b 23), .ref (b 24), .ref (b 25), .ref (b 26), .int (mf 27), .int (mf 28), .ref (b 29), .ref (b 30), .ref (b 31), .ref (b 32), .ref (b 33), .int (mf 34), .int (mf 35), .ref (b 36), .ref (b 37), .ref (b 38), .ref (b 39), .ref (b 40), .ref (b 41), .int (mf 42)])), ((b 1), .inl (G.2.2.1, 6, .inl op))] H := hP rfl
  have hD : va_D A [(y, .inr (7, [.int 1, .ref (b 1), .ref (b 2), .ref (b 3), .ref (b 4), .ref (b 5), .ref (b 6), .ref (b 7), .ref (b 8), .ref (b 9), .ref (b 10), .ref (b 11), .ref (b 12), .ref (b 13), .ref (b 14), .ref (b 15), .ref (b 16), .ref (b 17), .ref (b 18), .ref (b 19), .int (mf 20), .int (mf 21), .ref (b 22), .ref (b 23), .ref (b 24), .ref (b 25), .ref (b 26), .int (mf 27), .int (mf 28), .ref (b 29), .ref (b 30), .ref (b 31), .ref (b 32), .ref (b 33), .int (mf 34), .int (mf 35), .ref (b 36), .ref (b 37), .ref (b 38), .ref (b 39), .ref (b 40), .ref (b 41), .int (mf 42)])), ((b 1), .inl (G.2.2.1, 6, .inl op))] := D_same hD rfl
  exact wr_zret hx hb hr hlocks (Or.inl rfl) hS hP rfl dX7_close_13
set_option maxHeartbeats 4000000 in
set_option maxRecDepth 100000 in
theorem k_X7_rule (l : Launch) (G : GG) (y : Nat) (b : Nat → Nat) (mf op : Nat → Int32) (p1 p2 p3 : Int32) (hcl : ∀ j, j < 6 → op j = 0) : WrI l yX7_rule cX7_rule 5 (some .boolean) ({ frames := 1, cells := 0, slots := 0, locals := 21 }) G (mW G y b mf op) [.ref y, .int p1, .int p2, .int p3] (fun r _ => r = 0) := by
  refine wr_entryI (by decide +kernel) (Nat.le_of_ble_eq_true rfl) ?_
  intro p e s m below meth c A C0 hP hK hD hA ls hl
  have hS : va_S A s.heap s.heap [] := va_S.rf
  obtain ⟨hx, hb, hml, hown, hts, hr, hlocks, hin⟩ := C0
  have hown : s.vm.findClass RX7 = some m.cls := hown
  have hl : lv_has ls 5 [(0, .ref y), (1, .int p1), (2, .int p2), (3, .int p3)] := hl
  refine lv_aload_n hx hb dX7_rule_0 rfl (lv_at hl 0 rfl) ?_
  refine lv_iload_n hx hb dX7_rule_1 rfl (lv_at hl 1 rfl) ?_
  refine rdV (rest := []) (q0 := 0) ⟨hx, hb, hml, hown, hts⟩ (c_X7_isTable l G y b mf op p1) mi_yX7_isTable mv_yX7_isTable ml_X7_120 ⟨rfl, rfl, Nat.le_of_ble_eq_true rfl, Nat.le_of_ble_eq_true rfl⟩ hK (hP) rfl rfl rfl hl.1 rfl (Nat.le_of_ble_eq_true rfl) dX7_rule_2 ⟨Nat.zero_le _, Nat.zero_le _⟩ hS hA hP (fun r1 H locs hr1 hP hS => ?_)
  obtain rfl : r1 = 0 := it_zero hr1 hcl
  refine lv_if_ne (tgt := 14) hx hb dX7_rule_5 (by decide) (fun c2 => absurd (by decide) c2) (fun _ => ?_)
  refine lv_aload_n hx hb dX7_rule_8 rfl (lv_at hl 0 rfl) ?_
  refine lv_iconst (v := 1) hx hb dX7_rule_9 (by decide) ?_
  refine wrVI (rest := []) (q0 := 0) ⟨hx, hb, hml, hown, hts⟩ (c_X7_refuse l G y b mf 1) mi_yX7_refuse mv_yX7_refuse ml_X7_131 ⟨rfl, rfl, Nat.le_of_ble_eq_true rfl, Nat.le_of_ble_eq_true rfl⟩ hK hP hD [0] rfl (by decide) rfl rfl rfl hl.1 rfl (Nat.le_of_ble_eq_true rfl) dX7_rule_10 ⟨Nat.zero_le _, Nat.zero_le _⟩ hS hA (fun r3 w4 H locs hw4 hP hS => ?_)
  obtain ⟨rfl, rfl⟩ := hw4
  have hP : PP G [(y, .inr (7, [.int 1, .ref (b 1), .ref (b 2), .ref (b 3), .ref (b 4), .ref (b 5), .ref (b 6), .ref (b 7), .ref (b 8), .ref (b 9), .ref (b 10), .ref (b 11), .ref (b 12), .ref (b 13), .ref (b 14), .ref (b 15), .ref (b 16), .ref (b 17), .ref (b 18), .ref (b 19), .int (mf 20), .int (mf 21), .ref (b 22), .ref (b 23), .ref (b 24), .ref (b 25), .ref (b 26), .int (mf 27), .int (mf 28), .ref (b 29), .ref (b 30), .ref (b 31), .ref (b 32), .ref (b 33), .int (mf 34), .int (mf 35), .ref (b 36), .ref (b 37), .ref (b 38), .ref (b 39), .ref (b 40), .ref (b 41), .int (mf 42)])), ((b 1), .inl (G.2.2.1, 6, .inl op))] H := hP rfl
  have hD : va_D A [(y, .inr (7, [.int 1, .ref (b 1), .ref (b 2), .ref (b 3), .ref (b 4), .ref (b 5), .ref (b 6), .ref (b 7), .ref (b 8), .ref (b 9), .ref (b 10), .ref (b 11), .ref (b 12), .ref (b 13), .ref (b 14), .ref (b 15), .ref (b 16), .ref (b 17), .ref (b 18), .ref (b 19), .int (mf 20), .int (mf 21), .ref (b 22), .ref (b 23), .ref (b 24), .ref (b 25), .ref (b 26), .int (mf 27), .int (mf 28), .ref (b 29), .ref (b 30), .ref (b 31), .ref (b 32), .ref (b 33), .int (mf 34), .int (mf 35), .ref (b 36), .ref (b 37), .ref (b 38), .ref (b 39), .ref (b 40), .ref (b 41), .int (mf 42)])), ((b 1), .inl (G.2.2.1, 6, .inl op))] := D_same hD rfl
  exact wr_zret hx hb hr hlocks (Or.inl rfl) hS hP rfl dX7_rule_13
set_option maxHeartbeats 4000000 in
set_option maxRecDepth 100000 in
theorem k_X7_cell (l : Launch) (G : GG) (y : Nat) (b : Nat → Nat) (mf op : Nat → Int32) (p1 p2 p3 p4 p5 : Int32) (hcl : ∀ j, j < 6 → op j = 0) : WrI l yX7_cell cX7_cell 10 (some .boolean) ({ frames := 2, cells := 0, slots := 0, locals := 44 }) G (mW G y b mf op) [.ref y, .int p1, .int p2, .int p3, .int p4, .int p5] (fun r _ => r = 0) := by
  refine wr_entryI (by decide +kernel) (Nat.le_of_ble_eq_true rfl) ?_
  intro p e s m below meth c A C0 hP hK hD hA ls hl
  have hS : va_S A s.heap s.heap [] := va_S.rf
  obtain ⟨hx, hb, hml, hown, hts, hr, hlocks, hin⟩ := C0
  have hown : s.vm.findClass RX7 = some m.cls := hown
  have hl : lv_has ls 10 [(0, .ref y), (1, .int p1), (2, .int p2), (3, .int p3), (4, .int p4), (5, .int p5)] := hl
  refine lv_aload_n hx hb dX7_cell_0 rfl (lv_at hl 0 rfl) ?_
  refine lv_iload_n hx hb dX7_cell_1 rfl (lv_at hl 1 rfl) ?_
  refine lv_iload_n hx hb dX7_cell_2 rfl (lv_at hl 2 rfl) ?_
  refine lv_iload_n hx hb dX7_cell_3 rfl (lv_at hl 3 rfl) ?_
  refine rdV (rest := []) (q0 := 0) ⟨hx, hb, hml, hown, hts⟩ (k_X7_wrongPlace l G y b mf op p1 p2 p3 hcl) mi_yX7_wrongPlace mv_yX7_wrongPlace ml_X7_143 ⟨rfl, rfl, Nat.le_of_ble_eq_true rfl, Nat.le_of_ble_eq_true rfl⟩ hK (hP) rfl rfl rfl hl.1 rfl (Nat.le_of_ble_eq_true rfl) dX7_cell_4 ⟨Nat.zero_le _, Nat.zero_le _⟩ hS hA hP (fun r1 H locs hr1 hP hS => ?_)
  obtain rfl : r1 = 1 := hr1
  refine lv_istore (lv' := [(6, .int 1), (0, .ref y), (1, .int p1), (2, .int p2), (3, .int p3), (4, .int p4), (5, .int p5)]) hx hb dX7_cell_7 hl (by decide) rfl (fun ls hl => ?_)
  refine lv_iload hx hb dX7_cell_9 (lv_at hl 0 rfl) ?_
  refine lv_if_le (tgt := 21) hx hb dX7_cell_11 (by decide) (fun c2 => absurd c2 (by decide)) (fun _ => ?_)
  refine lv_aload_n hx hb dX7_cell_14 rfl (lv_at hl 1 rfl) ?_
  refine lv_iload hx hb dX7_cell_15 (lv_at hl 0 rfl) ?_
  refine wrVI (rest := []) (q0 := 0) ⟨hx, hb, hml, hown, hts⟩ (c_X7_refuse l G y b mf 1) mi_yX7_refuse mv_yX7_refuse ml_X7_131 ⟨rfl, rfl, Nat.le_of_ble_eq_true rfl, Nat.le_of_ble_eq_true rfl⟩ hK hP hD [0] rfl (by decide) rfl rfl rfl hl.1 rfl (Nat.le_of_ble_eq_true rfl) dX7_cell_17 ⟨Nat.zero_le _, Nat.zero_le _⟩ hS hA (fun r3 w4 H locs hw4 hP hS => ?_)
  obtain ⟨rfl, rfl⟩ := hw4
  have hP : PP G [(y, .inr (7, [.int 1, .ref (b 1), .ref (b 2), .ref (b 3), .ref (b 4), .ref (b 5), .ref (b 6), .ref (b 7), .ref (b 8), .ref (b 9), .ref (b 10), .ref (b 11), .ref (b 12), .ref (b 13), .ref (b 14), .ref (b 15), .ref (b 16), .ref (b 17), .ref (b 18), .ref (b 19), .int (mf 20), .int (mf 21), .ref (b 22), .ref (b 23), .ref (b 24), .ref (b 25), .ref (b 26), .int (mf 27), .int (mf 28), .ref (b 29), .ref (b 30), .ref (b 31), .ref (b 32), .ref (b 33), .int (mf 34), .int (mf 35), .ref (b 36), .ref (b 37), .ref (b 38), .ref (b 39), .ref (b 40), .ref (b 41), .int (mf 42)])), ((b 1), .inl (G.2.2.1, 6, .inl op))] H := hP rfl
  have hD : va_D A [(y, .inr (7, [.int 1, .ref (b 1), .ref (b 2), .ref (b 3), .ref (b 4), .ref (b 5), .ref (b 6), .ref (b 7), .ref (b 8), .ref (b 9), .ref (b 10), .ref (b 11), .ref (b 12), .ref (b 13), .ref (b 14), .ref (b 15), .ref (b 16), .ref (b 17), .ref (b 18), .ref (b 19), .int (mf 20), .int (mf 21), .ref (b 22), .ref (b 23), .ref (b 24), .ref (b 25), .ref (b 26), .int (mf 27), .int (mf 28), .ref (b 29), .ref (b 30), .ref (b 31), .ref (b 32), .ref (b 33), .int (mf 34), .int (mf 35), .ref (b 36), .ref (b 37), .ref (b 38), .ref (b 39), .ref (b 40), .ref (b 41), .int (mf 42)])), ((b 1), .inl (G.2.2.1, 6, .inl op))] := D_same hD rfl
  exact wr_zret hx hb hr hlocks (Or.inl rfl) hS hP rfl dX7_cell_20
set_option maxHeartbeats 4000000 in
set_option maxRecDepth 100000 in
theorem k_X7_giver (l : Launch) (G : GG) (y : Nat) (b : Nat → Nat) (mf op : Nat → Int32) (p1 p2 p3 p4 : Int32) (hcl : ∀ j, j < 6 → op j = 0) : WrI l yX7_giver cX7_giver 7 (some .boolean) ({ frames := 2, cells := 0, slots := 0, locals := 44 }) G (mW G y b mf op) [.ref y, .int p1, .int p2, .int p3, .int p4] (fun r _ => r = 0) := by
  refine wr_entryI (by decide +kernel) (Nat.le_of_ble_eq_true rfl) ?_
  intro p e s m below meth c A C0 hP hK hD hA ls hl
  have hS : va_S A s.heap s.heap [] := va_S.rf
  obtain ⟨hx, hb, hml, hown, hts, hr, hlocks, hin⟩ := C0
  have hown : s.vm.findClass RX7 = some m.cls := hown
  have hl : lv_has ls 7 [(0, .ref y), (1, .int p1), (2, .int p2), (3, .int p3), (4, .int p4)] := hl
  refine lv_aload_n hx hb dX7_giver_0 rfl (lv_at hl 0 rfl) ?_
  refine lv_iload_n hx hb dX7_giver_1 rfl (lv_at hl 1 rfl) ?_
  refine lv_iload_n hx hb dX7_giver_2 rfl (lv_at hl 2 rfl) ?_
  refine lv_iload_n hx hb dX7_giver_3 rfl (lv_at hl 3 rfl) ?_
  refine rdV (rest := []) (q0 := 0) ⟨hx, hb, hml, hown, hts⟩ (k_X7_wrongPlace l G y b mf op p1 p2 p3 hcl) mi_yX7_wrongPlace mv_yX7_wrongPlace ml_X7_143 ⟨rfl, rfl, Nat.le_of_ble_eq_true rfl, Nat.le_of_ble_eq_true rfl⟩ hK (hP) rfl rfl rfl hl.1 rfl (Nat.le_of_ble_eq_true rfl) dX7_giver_4 ⟨Nat.zero_le _, Nat.zero_le _⟩ hS hA hP (fun r1 H locs hr1 hP hS => ?_)
  obtain rfl : r1 = 1 := hr1
  refine lv_istore (lv' := [(5, .int 1), (0, .ref y), (1, .int p1), (2, .int p2), (3, .int p3), (4, .int p4)]) hx hb dX7_giver_7 hl (by decide) rfl (fun ls hl => ?_)
  refine lv_iload hx hb dX7_giver_9 (lv_at hl 0 rfl) ?_
  refine lv_if_le (tgt := 21) hx hb dX7_giver_11 (by decide) (fun c2 => absurd c2 (by decide)) (fun _ => ?_)
  refine lv_aload_n hx hb dX7_giver_14 rfl (lv_at hl 1 rfl) ?_
  refine lv_iload hx hb dX7_giver_15 (lv_at hl 0 rfl) ?_
  refine wrVI (rest := []) (q0 := 0) ⟨hx, hb, hml, hown, hts⟩ (c_X7_refuse l G y b mf 1) mi_yX7_refuse mv_yX7_refuse ml_X7_131 ⟨rfl, rfl, Nat.le_of_ble_eq_true rfl, Nat.le_of_ble_eq_true rfl⟩ hK hP hD [0] rfl (by decide) rfl rfl rfl hl.1 rfl (Nat.le_of_ble_eq_true rfl) dX7_giver_17 ⟨Nat.zero_le _, Nat.zero_le _⟩ hS hA (fun r3 w4 H locs hw4 hP hS => ?_)
  obtain ⟨rfl, rfl⟩ := hw4
  have hP : PP G [(y, .inr (7, [.int 1, .ref (b 1), .ref (b 2), .ref (b 3), .ref (b 4), .ref (b 5), .ref (b 6), .ref (b 7), .ref (b 8), .ref (b 9), .ref (b 10), .ref (b 11), .ref (b 12), .ref (b 13), .ref (b 14), .ref (b 15), .ref (b 16), .ref (b 17), .ref (b 18), .ref (b 19), .int (mf 20), .int (mf 21), .ref (b 22), .ref (b 23), .ref (b 24), .ref (b 25), .ref (b 26), .int (mf 27), .int (mf 28), .ref (b 29), .ref (b 30), .ref (b 31), .ref (b 32), .ref (b 33), .int (mf 34), .int (mf 35), .ref (b 36), .ref (b 37), .ref (b 38), .ref (b 39), .ref (b 40), .ref (b 41), .int (mf 42)])), ((b 1), .inl (G.2.2.1, 6, .inl op))] H := hP rfl
  have hD : va_D A [(y, .inr (7, [.int 1, .ref (b 1), .ref (b 2), .ref (b 3), .ref (b 4), .ref (b 5), .ref (b 6), .ref (b 7), .ref (b 8), .ref (b 9), .ref (b 10), .ref (b 11), .ref (b 12), .ref (b 13), .ref (b 14), .ref (b 15), .ref (b 16), .ref (b 17), .ref (b 18), .ref (b 19), .int (mf 20), .int (mf 21), .ref (b 22), .ref (b 23), .ref (b 24), .ref (b 25), .ref (b 26), .int (mf 27), .int (mf 28), .ref (b 29), .ref (b 30), .ref (b 31), .ref (b 32), .ref (b 33), .int (mf 34), .int (mf 35), .ref (b 36), .ref (b 37), .ref (b 38), .ref (b 39), .ref (b 40), .ref (b 41), .int (mf 42)])), ((b 1), .inl (G.2.2.1, 6, .inl op))] := D_same hD rfl
  exact wr_zret hx hb hr hlocks (Or.inl rfl) hS hP rfl dX7_giver_20
set_option maxHeartbeats 4000000 in
set_option maxRecDepth 100000 in
theorem k_X7_clear (l : Launch) (G : GG) (y : Nat) (b : Nat → Nat) (mf op : Nat → Int32) (p1 p2 p3 : Int32) (hcl : ∀ j, j < 6 → op j = 0) : WrI l yX7_clear cX7_clear 6 (some .boolean) ({ frames := 2, cells := 0, slots := 0, locals := 44 }) G (mW G y b mf op) [.ref y, .int p1, .int p2, .int p3] (fun r _ => r = 0) := by
  refine wr_entryI (by decide +kernel) (Nat.le_of_ble_eq_true rfl) ?_
  intro p e s m below meth c A C0 hP hK hD hA ls hl
  have hS : va_S A s.heap s.heap [] := va_S.rf
  obtain ⟨hx, hb, hml, hown, hts, hr, hlocks, hin⟩ := C0
  have hown : s.vm.findClass RX7 = some m.cls := hown
  have hl : lv_has ls 6 [(0, .ref y), (1, .int p1), (2, .int p2), (3, .int p3)] := hl
  refine lv_aload_n hx hb dX7_clear_0 rfl (lv_at hl 0 rfl) ?_
  refine lv_iload_n hx hb dX7_clear_1 rfl (lv_at hl 1 rfl) ?_
  refine lv_iload_n hx hb dX7_clear_2 rfl (lv_at hl 2 rfl) ?_
  refine lv_iload_n hx hb dX7_clear_3 rfl (lv_at hl 3 rfl) ?_
  refine rdV (rest := []) (q0 := 0) ⟨hx, hb, hml, hown, hts⟩ (k_X7_wrongPlace l G y b mf op p1 p2 p3 hcl) mi_yX7_wrongPlace mv_yX7_wrongPlace ml_X7_143 ⟨rfl, rfl, Nat.le_of_ble_eq_true rfl, Nat.le_of_ble_eq_true rfl⟩ hK (hP) rfl rfl rfl hl.1 rfl (Nat.le_of_ble_eq_true rfl) dX7_clear_4 ⟨Nat.zero_le _, Nat.zero_le _⟩ hS hA hP (fun r1 H locs hr1 hP hS => ?_)
  obtain rfl : r1 = 1 := hr1
  refine lv_istore (lv' := [(4, .int 1), (0, .ref y), (1, .int p1), (2, .int p2), (3, .int p3)]) hx hb dX7_clear_7 hl (by decide) rfl (fun ls hl => ?_)
  refine lv_iload hx hb dX7_clear_9 (lv_at hl 0 rfl) ?_
  refine lv_if_le (tgt := 21) hx hb dX7_clear_11 (by decide) (fun c2 => absurd c2 (by decide)) (fun _ => ?_)
  refine lv_aload_n hx hb dX7_clear_14 rfl (lv_at hl 1 rfl) ?_
  refine lv_iload hx hb dX7_clear_15 (lv_at hl 0 rfl) ?_
  refine wrVI (rest := []) (q0 := 0) ⟨hx, hb, hml, hown, hts⟩ (c_X7_refuse l G y b mf 1) mi_yX7_refuse mv_yX7_refuse ml_X7_131 ⟨rfl, rfl, Nat.le_of_ble_eq_true rfl, Nat.le_of_ble_eq_true rfl⟩ hK hP hD [0] rfl (by decide) rfl rfl rfl hl.1 rfl (Nat.le_of_ble_eq_true rfl) dX7_clear_17 ⟨Nat.zero_le _, Nat.zero_le _⟩ hS hA (fun r3 w4 H locs hw4 hP hS => ?_)
  obtain ⟨rfl, rfl⟩ := hw4
  have hP : PP G [(y, .inr (7, [.int 1, .ref (b 1), .ref (b 2), .ref (b 3), .ref (b 4), .ref (b 5), .ref (b 6), .ref (b 7), .ref (b 8), .ref (b 9), .ref (b 10), .ref (b 11), .ref (b 12), .ref (b 13), .ref (b 14), .ref (b 15), .ref (b 16), .ref (b 17), .ref (b 18), .ref (b 19), .int (mf 20), .int (mf 21), .ref (b 22), .ref (b 23), .ref (b 24), .ref (b 25), .ref (b 26), .int (mf 27), .int (mf 28), .ref (b 29), .ref (b 30), .ref (b 31), .ref (b 32), .ref (b 33), .int (mf 34), .int (mf 35), .ref (b 36), .ref (b 37), .ref (b 38), .ref (b 39), .ref (b 40), .ref (b 41), .int (mf 42)])), ((b 1), .inl (G.2.2.1, 6, .inl op))] H := hP rfl
  have hD : va_D A [(y, .inr (7, [.int 1, .ref (b 1), .ref (b 2), .ref (b 3), .ref (b 4), .ref (b 5), .ref (b 6), .ref (b 7), .ref (b 8), .ref (b 9), .ref (b 10), .ref (b 11), .ref (b 12), .ref (b 13), .ref (b 14), .ref (b 15), .ref (b 16), .ref (b 17), .ref (b 18), .ref (b 19), .int (mf 20), .int (mf 21), .ref (b 22), .ref (b 23), .ref (b 24), .ref (b 25), .ref (b 26), .int (mf 27), .int (mf 28), .ref (b 29), .ref (b 30), .ref (b 31), .ref (b 32), .ref (b 33), .int (mf 34), .int (mf 35), .ref (b 36), .ref (b 37), .ref (b 38), .ref (b 39), .ref (b 40), .ref (b 41), .int (mf 42)])), ((b 1), .inl (G.2.2.1, 6, .inl op))] := D_same hD rfl
  exact wr_zret hx hb hr hlocks (Or.inl rfl) hS hP rfl dX7_clear_20
set_option maxHeartbeats 4000000 in
set_option maxRecDepth 100000 in
theorem k_X7_tear (l : Launch) (G : GG) (y : Nat) (b : Nat → Nat) (mf op : Nat → Int32) (p1 p2 p3 : Int32) (hcl : ∀ j, j < 6 → op j = 0) : WrI l yX7_tear cX7_tear 6 (some .boolean) ({ frames := 1, cells := 0, slots := 0, locals := 21 }) G (mW G y b mf op) [.ref y, .int p1, .int p2, .int p3] (fun r _ => r = 0) := by
  refine wr_entryI (by decide +kernel) (Nat.le_of_ble_eq_true rfl) ?_
  intro p e s m below meth c A C0 hP hK hD hA ls hl
  have hS : va_S A s.heap s.heap [] := va_S.rf
  obtain ⟨hx, hb, hml, hown, hts, hr, hlocks, hin⟩ := C0
  have hown : s.vm.findClass RX7 = some m.cls := hown
  have hl : lv_has ls 6 [(0, .ref y), (1, .int p1), (2, .int p2), (3, .int p3)] := hl
  refine lv_aload_n hx hb dX7_tear_0 rfl (lv_at hl 0 rfl) ?_
  refine lv_iload_n hx hb dX7_tear_1 rfl (lv_at hl 1 rfl) ?_
  refine rdV (rest := []) (q0 := 0) ⟨hx, hb, hml, hown, hts⟩ (c_X7_isTable l G y b mf op p1) mi_yX7_isTable mv_yX7_isTable ml_X7_120 ⟨rfl, rfl, Nat.le_of_ble_eq_true rfl, Nat.le_of_ble_eq_true rfl⟩ hK (hP) rfl rfl rfl hl.1 rfl (Nat.le_of_ble_eq_true rfl) dX7_tear_2 ⟨Nat.zero_le _, Nat.zero_le _⟩ hS hA hP (fun r1 H locs hr1 hP hS => ?_)
  obtain rfl : r1 = 0 := it_zero hr1 hcl
  refine lv_if_ne (tgt := 14) hx hb dX7_tear_5 (by decide) (fun c2 => absurd (by decide) c2) (fun _ => ?_)
  refine lv_aload_n hx hb dX7_tear_8 rfl (lv_at hl 0 rfl) ?_
  refine lv_iconst (v := 1) hx hb dX7_tear_9 (by decide) ?_
  refine wrVI (rest := []) (q0 := 0) ⟨hx, hb, hml, hown, hts⟩ (c_X7_refuse l G y b mf 1) mi_yX7_refuse mv_yX7_refuse ml_X7_131 ⟨rfl, rfl, Nat.le_of_ble_eq_true rfl, Nat.le_of_ble_eq_true rfl⟩ hK hP hD [0] rfl (by decide) rfl rfl rfl hl.1 rfl (Nat.le_of_ble_eq_true rfl) dX7_tear_10 ⟨Nat.zero_le _, Nat.zero_le _⟩ hS hA (fun r3 w4 H locs hw4 hP hS => ?_)
  obtain ⟨rfl, rfl⟩ := hw4
  have hP : PP G [(y, .inr (7, [.int 1, .ref (b 1), .ref (b 2), .ref (b 3), .ref (b 4), .ref (b 5), .ref (b 6), .ref (b 7), .ref (b 8), .ref (b 9), .ref (b 10), .ref (b 11), .ref (b 12), .ref (b 13), .ref (b 14), .ref (b 15), .ref (b 16), .ref (b 17), .ref (b 18), .ref (b 19), .int (mf 20), .int (mf 21), .ref (b 22), .ref (b 23), .ref (b 24), .ref (b 25), .ref (b 26), .int (mf 27), .int (mf 28), .ref (b 29), .ref (b 30), .ref (b 31), .ref (b 32), .ref (b 33), .int (mf 34), .int (mf 35), .ref (b 36), .ref (b 37), .ref (b 38), .ref (b 39), .ref (b 40), .ref (b 41), .int (mf 42)])), ((b 1), .inl (G.2.2.1, 6, .inl op))] H := hP rfl
  have hD : va_D A [(y, .inr (7, [.int 1, .ref (b 1), .ref (b 2), .ref (b 3), .ref (b 4), .ref (b 5), .ref (b 6), .ref (b 7), .ref (b 8), .ref (b 9), .ref (b 10), .ref (b 11), .ref (b 12), .ref (b 13), .ref (b 14), .ref (b 15), .ref (b 16), .ref (b 17), .ref (b 18), .ref (b 19), .int (mf 20), .int (mf 21), .ref (b 22), .ref (b 23), .ref (b 24), .ref (b 25), .ref (b 26), .int (mf 27), .int (mf 28), .ref (b 29), .ref (b 30), .ref (b 31), .ref (b 32), .ref (b 33), .int (mf 34), .int (mf 35), .ref (b 36), .ref (b 37), .ref (b 38), .ref (b 39), .ref (b 40), .ref (b 41), .int (mf 42)])), ((b 1), .inl (G.2.2.1, 6, .inl op))] := D_same hD rfl
  exact wr_zret hx hb hr hlocks (Or.inl rfl) hS hP rfl dX7_tear_13
set_option maxHeartbeats 4000000 in
set_option maxRecDepth 100000 in
theorem k_X7_block (l : Launch) (G : GG) (y : Nat) (b : Nat → Nat) (mf op : Nat → Int32) (p1 p2 p3 : Int32) (hcl : ∀ j, j < 6 → op j = 0) : WrI l yX7_block cX7_block 6 (some .int) ({ frames := 1, cells := 0, slots := 0, locals := 21 }) G (mW G y b mf op) [.ref y, .int p1, .int p2, .int p3] (fun r _ => r = -1) := by
  refine wr_entryI (by decide +kernel) (Nat.le_of_ble_eq_true rfl) ?_
  intro p e s m below meth c A C0 hP hK hD hA ls hl
  have hS : va_S A s.heap s.heap [] := va_S.rf
  obtain ⟨hx, hb, hml, hown, hts, hr, hlocks, hin⟩ := C0
  have hown : s.vm.findClass RX7 = some m.cls := hown
  have hl : lv_has ls 6 [(0, .ref y), (1, .int p1), (2, .int p2), (3, .int p3)] := hl
  refine lv_aload_n hx hb dX7_block_0 rfl (lv_at hl 0 rfl) ?_
  refine lv_iload_n hx hb dX7_block_1 rfl (lv_at hl 1 rfl) ?_
  refine rdV (rest := []) (q0 := 0) ⟨hx, hb, hml, hown, hts⟩ (c_X7_isTable l G y b mf op p1) mi_yX7_isTable mv_yX7_isTable ml_X7_120 ⟨rfl, rfl, Nat.le_of_ble_eq_true rfl, Nat.le_of_ble_eq_true rfl⟩ hK (hP) rfl rfl rfl hl.1 rfl (Nat.le_of_ble_eq_true rfl) dX7_block_2 ⟨Nat.zero_le _, Nat.zero_le _⟩ hS hA hP (fun r1 H locs hr1 hP hS => ?_)
  obtain rfl : r1 = 0 := it_zero hr1 hcl
  refine lv_if_ne (tgt := 12) hx hb dX7_block_5 (by decide) (fun c2 => absurd (by decide) c2) (fun _ => ?_)
  refine lv_iconst (v := 1) hx hb dX7_block_8 (by decide) ?_
  refine lv_goto (tgt := 71) hx hb dX7_block_9 (by decide) ?_
  refine lv_istore (lv' := [(4, .int 1), (0, .ref y), (1, .int p1), (2, .int p2), (3, .int p3)]) hx hb dX7_block_71 hl (by decide) rfl (fun ls hl => ?_)
  refine lv_aload_n hx hb dX7_block_73 rfl (lv_at hl 1 rfl) ?_
  refine lv_iload hx hb dX7_block_74 (lv_at hl 0 rfl) ?_
  refine va_put (D := G.1) (ci := 7) (v := .int 1) (C := RX7) (T := TX7) (N := 43) hx hb hts inX7 tyX7 tyX7_ok nmX7 hown hK.1 hP hD hS 0 rfl rfl 0 (by decide) (hts _ mf_X7_116) (fun _ h9 => h9) rfl (tyX7_ok 0 (by decide)) (rfl) (rfl) (Nat.le_of_ble_eq_true rfl) dX7_block_76 (fun H locs hP hD hS => ?_)
  have hP : PP G [(y, .inr (7, [.int 1, .ref (b 1), .ref (b 2), .ref (b 3), .ref (b 4), .ref (b 5), .ref (b 6), .ref (b 7), .ref (b 8), .ref (b 9), .ref (b 10), .ref (b 11), .ref (b 12), .ref (b 13), .ref (b 14), .ref (b 15), .ref (b 16), .ref (b 17), .ref (b 18), .ref (b 19), .int (mf 20), .int (mf 21), .ref (b 22), .ref (b 23), .ref (b 24), .ref (b 25), .ref (b 26), .int (mf 27), .int (mf 28), .ref (b 29), .ref (b 30), .ref (b 31), .ref (b 32), .ref (b 33), .int (mf 34), .int (mf 35), .ref (b 36), .ref (b 37), .ref (b 38), .ref (b 39), .ref (b 40), .ref (b 41), .int (mf 42)])), ((b 1), .inl (G.2.2.1, 6, .inl op))] H := hP
  have hD : va_D A [(y, .inr (7, [.int 1, .ref (b 1), .ref (b 2), .ref (b 3), .ref (b 4), .ref (b 5), .ref (b 6), .ref (b 7), .ref (b 8), .ref (b 9), .ref (b 10), .ref (b 11), .ref (b 12), .ref (b 13), .ref (b 14), .ref (b 15), .ref (b 16), .ref (b 17), .ref (b 18), .ref (b 19), .int (mf 20), .int (mf 21), .ref (b 22), .ref (b 23), .ref (b 24), .ref (b 25), .ref (b 26), .int (mf 27), .int (mf 28), .ref (b 29), .ref (b 30), .ref (b 31), .ref (b 32), .ref (b 33), .int (mf 34), .int (mf 35), .ref (b 36), .ref (b 37), .ref (b 38), .ref (b 39), .ref (b 40), .ref (b 41), .int (mf 42)])), ((b 1), .inl (G.2.2.1, 6, .inl op))] := hD
  refine lv_iload hx hb dX7_block_79 (lv_at hl 0 rfl) ?_
  refine lv_if_le (tgt := 86) hx hb dX7_block_81 (by decide) (fun c3 => absurd c3 (by decide)) (fun _ => ?_)
  refine lv_iconst (v := -1) hx hb dX7_block_84 (by decide) ?_
  exact wr_iret hx hb hr hlocks hS hP rfl dX7_block_85
set_option maxHeartbeats 4000000 in
set_option maxRecDepth 100000 in
theorem k_X7_kind (l : Launch) (G : GG) (y : Nat) (b : Nat → Nat) (mf op : Nat → Int32) (p1 p2 p3 : Int32) (hcl : ∀ j, j < 6 → op j = 0) : WrI l yX7_kind cX7_kind 4 (some .int) ({ frames := 2, cells := 0, slots := 0, locals := 44 }) G (mW G y b mf op) [.ref y, .int p1, .int p2, .int p3] (fun r _ => r = -1) := by
  refine wr_entryI (by decide +kernel) (Nat.le_of_ble_eq_true rfl) ?_
  intro p e s m below meth c A C0 hP hK hD hA ls hl
  have hS : va_S A s.heap s.heap [] := va_S.rf
  obtain ⟨hx, hb, hml, hown, hts, hr, hlocks, hin⟩ := C0
  have hown : s.vm.findClass RX7 = some m.cls := hown
  have hl : lv_has ls 4 [(0, .ref y), (1, .int p1), (2, .int p2), (3, .int p3)] := hl
  refine lv_aload_n hx hb dX7_kind_0 rfl (lv_at hl 0 rfl) ?_
  refine lv_aload_n hx hb dX7_kind_1 rfl (lv_at hl 0 rfl) ?_
  refine lv_iload_n hx hb dX7_kind_2 rfl (lv_at hl 1 rfl) ?_
  refine lv_iload_n hx hb dX7_kind_3 rfl (lv_at hl 2 rfl) ?_
  refine lv_iload_n hx hb dX7_kind_4 rfl (lv_at hl 3 rfl) ?_
  refine rdV (rest := [.ref y]) (q0 := 0) ⟨hx, hb, hml, hown, hts⟩ (k_X7_wrongPlace l G y b mf op p1 p2 p3 hcl) mi_yX7_wrongPlace mv_yX7_wrongPlace ml_X7_143 ⟨rfl, rfl, Nat.le_of_ble_eq_true rfl, Nat.le_of_ble_eq_true rfl⟩ hK (hP) rfl rfl rfl hl.1 rfl (Nat.le_of_ble_eq_true rfl) dX7_kind_5 ⟨Nat.zero_le _, Nat.zero_le _⟩ hS hA hP (fun r1 H locs hr1 hP hS => ?_)
  obtain rfl : r1 = 1 := hr1
  refine va_put (D := G.1) (ci := 7) (v := .int 1) (C := RX7) (T := TX7) (N := 43) hx hb hts inX7 tyX7 tyX7_ok nmX7 hown hK.1 hP hD hS 0 rfl rfl 0 (by decide) (hts _ mf_X7_116) (fun _ h9 => h9) rfl (tyX7_ok 0 (by decide)) (rfl) (rfl) (Nat.le_of_ble_eq_true rfl) dX7_kind_8 (fun H locs hP hD hS => ?_)
  have hP : PP G [(y, .inr (7, [.int 1, .ref (b 1), .ref (b 2), .ref (b 3), .ref (b 4), .ref (b 5), .ref (b 6), .ref (b 7), .ref (b 8), .ref (b 9), .ref (b 10), .ref (b 11), .ref (b 12), .ref (b 13), .ref (b 14), .ref (b 15), .ref (b 16), .ref (b 17), .ref (b 18), .ref (b 19), .int (mf 20), .int (mf 21), .ref (b 22), .ref (b 23), .ref (b 24), .ref (b 25), .ref (b 26), .int (mf 27), .int (mf 28), .ref (b 29), .ref (b 30), .ref (b 31), .ref (b 32), .ref (b 33), .int (mf 34), .int (mf 35), .ref (b 36), .ref (b 37), .ref (b 38), .ref (b 39), .ref (b 40), .ref (b 41), .int (mf 42)])), ((b 1), .inl (G.2.2.1, 6, .inl op))] H := hP
  have hD : va_D A [(y, .inr (7, [.int 1, .ref (b 1), .ref (b 2), .ref (b 3), .ref (b 4), .ref (b 5), .ref (b 6), .ref (b 7), .ref (b 8), .ref (b 9), .ref (b 10), .ref (b 11), .ref (b 12), .ref (b 13), .ref (b 14), .ref (b 15), .ref (b 16), .ref (b 17), .ref (b 18), .ref (b 19), .int (mf 20), .int (mf 21), .ref (b 22), .ref (b 23), .ref (b 24), .ref (b 25), .ref (b 26), .int (mf 27), .int (mf 28), .ref (b 29), .ref (b 30), .ref (b 31), .ref (b 32), .ref (b 33), .int (mf 34), .int (mf 35), .ref (b 36), .ref (b 37), .ref (b 38), .ref (b 39), .ref (b 40), .ref (b 41), .int (mf 42)])), ((b 1), .inl (G.2.2.1, 6, .inl op))] := hD
  refine lv_aload_n hx hb dX7_kind_11 rfl (lv_at hl 0 rfl) ?_
  refine va_get (D := G.1) (ci := 7) (v := .int 1) (C := RX7) (T := TX7) (N := 43) hx hb hts inX7 hown hK.1 hP 0 rfl rfl 0 (by decide) (hts _ mf_X7_116) (fun _ h9 => h9) rfl dX7_kind_12 ?_
  refine lv_if_le (tgt := 22) hx hb dX7_kind_15 (by decide) (fun c2 => absurd c2 (by decide)) (fun _ => ?_)
  refine lv_iconst (v := -1) hx hb dX7_kind_18 (by decide) ?_
  refine lv_goto (tgt := 33) hx hb dX7_kind_19 (by decide) ?_
  exact wr_iret hx hb hr hlocks hS hP rfl dX7_kind_33
set_option maxHeartbeats 4000000 in
set_option maxRecDepth 100000 in
theorem k_X7_number (l : Launch) (G : GG) (y : Nat) (b : Nat → Nat) (mf op : Nat → Int32) (p1 p2 p3 : Int32) (hcl : ∀ j, j < 6 → op j = 0) : WrI l yX7_number cX7_number 4 (some .int) ({ frames := 2, cells := 0, slots := 0, locals := 44 }) G (mW G y b mf op) [.ref y, .int p1, .int p2, .int p3] (fun r _ => r = -1) := by
  refine wr_entryI (by decide +kernel) (Nat.le_of_ble_eq_true rfl) ?_
  intro p e s m below meth c A C0 hP hK hD hA ls hl
  have hS : va_S A s.heap s.heap [] := va_S.rf
  obtain ⟨hx, hb, hml, hown, hts, hr, hlocks, hin⟩ := C0
  have hown : s.vm.findClass RX7 = some m.cls := hown
  have hl : lv_has ls 4 [(0, .ref y), (1, .int p1), (2, .int p2), (3, .int p3)] := hl
  refine lv_aload_n hx hb dX7_number_0 rfl (lv_at hl 0 rfl) ?_
  refine lv_aload_n hx hb dX7_number_1 rfl (lv_at hl 0 rfl) ?_
  refine lv_iload_n hx hb dX7_number_2 rfl (lv_at hl 1 rfl) ?_
  refine lv_iload_n hx hb dX7_number_3 rfl (lv_at hl 2 rfl) ?_
  refine lv_iload_n hx hb dX7_number_4 rfl (lv_at hl 3 rfl) ?_
  refine rdV (rest := [.ref y]) (q0 := 0) ⟨hx, hb, hml, hown, hts⟩ (k_X7_wrongPlace l G y b mf op p1 p2 p3 hcl) mi_yX7_wrongPlace mv_yX7_wrongPlace ml_X7_143 ⟨rfl, rfl, Nat.le_of_ble_eq_true rfl, Nat.le_of_ble_eq_true rfl⟩ hK (hP) rfl rfl rfl hl.1 rfl (Nat.le_of_ble_eq_true rfl) dX7_number_5 ⟨Nat.zero_le _, Nat.zero_le _⟩ hS hA hP (fun r1 H locs hr1 hP hS => ?_)
  obtain rfl : r1 = 1 := hr1
  refine va_put (D := G.1) (ci := 7) (v := .int 1) (C := RX7) (T := TX7) (N := 43) hx hb hts inX7 tyX7 tyX7_ok nmX7 hown hK.1 hP hD hS 0 rfl rfl 0 (by decide) (hts _ mf_X7_116) (fun _ h9 => h9) rfl (tyX7_ok 0 (by decide)) (rfl) (rfl) (Nat.le_of_ble_eq_true rfl) dX7_number_8 (fun H locs hP hD hS => ?_)
  have hP : PP G [(y, .inr (7, [.int 1, .ref (b 1), .ref (b 2), .ref (b 3), .ref (b 4), .ref (b 5), .ref (b 6), .ref (b 7), .ref (b 8), .ref (b 9), .ref (b 10), .ref (b 11), .ref (b 12), .ref (b 13), .ref (b 14), .ref (b 15), .ref (b 16), .ref (b 17), .ref (b 18), .ref (b 19), .int (mf 20), .int (mf 21), .ref (b 22), .ref (b 23), .ref (b 24), .ref (b 25), .ref (b 26), .int (mf 27), .int (mf 28), .ref (b 29), .ref (b 30), .ref (b 31), .ref (b 32), .ref (b 33), .int (mf 34), .int (mf 35), .ref (b 36), .ref (b 37), .ref (b 38), .ref (b 39), .ref (b 40), .ref (b 41), .int (mf 42)])), ((b 1), .inl (G.2.2.1, 6, .inl op))] H := hP
  have hD : va_D A [(y, .inr (7, [.int 1, .ref (b 1), .ref (b 2), .ref (b 3), .ref (b 4), .ref (b 5), .ref (b 6), .ref (b 7), .ref (b 8), .ref (b 9), .ref (b 10), .ref (b 11), .ref (b 12), .ref (b 13), .ref (b 14), .ref (b 15), .ref (b 16), .ref (b 17), .ref (b 18), .ref (b 19), .int (mf 20), .int (mf 21), .ref (b 22), .ref (b 23), .ref (b 24), .ref (b 25), .ref (b 26), .int (mf 27), .int (mf 28), .ref (b 29), .ref (b 30), .ref (b 31), .ref (b 32), .ref (b 33), .int (mf 34), .int (mf 35), .ref (b 36), .ref (b 37), .ref (b 38), .ref (b 39), .ref (b 40), .ref (b 41), .int (mf 42)])), ((b 1), .inl (G.2.2.1, 6, .inl op))] := hD
  refine lv_aload_n hx hb dX7_number_11 rfl (lv_at hl 0 rfl) ?_
  refine va_get (D := G.1) (ci := 7) (v := .int 1) (C := RX7) (T := TX7) (N := 43) hx hb hts inX7 hown hK.1 hP 0 rfl rfl 0 (by decide) (hts _ mf_X7_116) (fun _ h9 => h9) rfl dX7_number_12 ?_
  refine lv_if_ne (tgt := 37) hx hb dX7_number_15 (by decide) (fun _ => ?_) (fun c2 => absurd c2 (by decide))
  refine lv_aload_n hx hb dX7_number_37 rfl (lv_at hl 0 rfl) ?_
  refine va_get (D := G.1) (ci := 7) (v := .int 1) (C := RX7) (T := TX7) (N := 43) hx hb hts inX7 hown hK.1 hP 0 rfl rfl 0 (by decide) (hts _ mf_X7_116) (fun _ h9 => h9) rfl dX7_number_38 ?_
  refine lv_if_le (tgt := 48) hx hb dX7_number_41 (by decide) (fun c3 => absurd c3 (by decide)) (fun _ => ?_)
  refine lv_iconst (v := -1) hx hb dX7_number_44 (by decide) ?_
  refine lv_goto (tgt := 59) hx hb dX7_number_45 (by decide) ?_
  exact wr_iret hx hb hr hlocks hS hP rfl dX7_number_59
set_option maxHeartbeats 4000000 in
set_option maxRecDepth 100000 in
theorem k_X7_givers (l : Launch) (G : GG) (y : Nat) (b : Nat → Nat) (mf op : Nat → Int32) (p1 p2 p3 : Int32) (hcl : ∀ j, j < 6 → op j = 0) : WrI l yX7_givers cX7_givers 4 (some .int) ({ frames := 3, cells := 0, slots := 0, locals := 69 }) G (mW G y b mf op) [.ref y, .int p1, .int p2, .int p3] (fun r _ => r = -1) := by
  refine wr_entryI (by decide +kernel) (Nat.le_of_ble_eq_true rfl) ?_
  intro p e s m below meth c A C0 hP hK hD hA ls hl
  have hS : va_S A s.heap s.heap [] := va_S.rf
  obtain ⟨hx, hb, hml, hown, hts, hr, hlocks, hin⟩ := C0
  have hown : s.vm.findClass RX7 = some m.cls := hown
  have hl : lv_has ls 4 [(0, .ref y), (1, .int p1), (2, .int p2), (3, .int p3)] := hl
  refine lv_aload_n hx hb dX7_givers_0 rfl (lv_at hl 0 rfl) ?_
  refine lv_aload_n hx hb dX7_givers_1 rfl (lv_at hl 0 rfl) ?_
  refine lv_iload_n hx hb dX7_givers_2 rfl (lv_at hl 1 rfl) ?_
  refine lv_iload_n hx hb dX7_givers_3 rfl (lv_at hl 2 rfl) ?_
  refine lv_iload_n hx hb dX7_givers_4 rfl (lv_at hl 3 rfl) ?_
  refine rdV (rest := [.ref y]) (q0 := 0) ⟨hx, hb, hml, hown, hts⟩ (k_X7_wrongAmount l G y b mf op p1 p2 p3 hcl) mi_yX7_wrongAmount mv_yX7_wrongAmount ml_X7_155 ⟨rfl, rfl, Nat.le_of_ble_eq_true rfl, Nat.le_of_ble_eq_true rfl⟩ hK (hP) rfl rfl rfl hl.1 rfl (Nat.le_of_ble_eq_true rfl) dX7_givers_5 ⟨Nat.zero_le _, Nat.zero_le _⟩ hS hA hP (fun r1 H locs hr1 hP hS => ?_)
  obtain rfl : r1 = 1 := hr1
  refine va_put (D := G.1) (ci := 7) (v := .int 1) (C := RX7) (T := TX7) (N := 43) hx hb hts inX7 tyX7 tyX7_ok nmX7 hown hK.1 hP hD hS 0 rfl rfl 0 (by decide) (hts _ mf_X7_116) (fun _ h9 => h9) rfl (tyX7_ok 0 (by decide)) (rfl) (rfl) (Nat.le_of_ble_eq_true rfl) dX7_givers_8 (fun H locs hP hD hS => ?_)
  have hP : PP G [(y, .inr (7, [.int 1, .ref (b 1), .ref (b 2), .ref (b 3), .ref (b 4), .ref (b 5), .ref (b 6), .ref (b 7), .ref (b 8), .ref (b 9), .ref (b 10), .ref (b 11), .ref (b 12), .ref (b 13), .ref (b 14), .ref (b 15), .ref (b 16), .ref (b 17), .ref (b 18), .ref (b 19), .int (mf 20), .int (mf 21), .ref (b 22), .ref (b 23), .ref (b 24), .ref (b 25), .ref (b 26), .int (mf 27), .int (mf 28), .ref (b 29), .ref (b 30), .ref (b 31), .ref (b 32), .ref (b 33), .int (mf 34), .int (mf 35), .ref (b 36), .ref (b 37), .ref (b 38), .ref (b 39), .ref (b 40), .ref (b 41), .int (mf 42)])), ((b 1), .inl (G.2.2.1, 6, .inl op))] H := hP
  have hD : va_D A [(y, .inr (7, [.int 1, .ref (b 1), .ref (b 2), .ref (b 3), .ref (b 4), .ref (b 5), .ref (b 6), .ref (b 7), .ref (b 8), .ref (b 9), .ref (b 10), .ref (b 11), .ref (b 12), .ref (b 13), .ref (b 14), .ref (b 15), .ref (b 16), .ref (b 17), .ref (b 18), .ref (b 19), .int (mf 20), .int (mf 21), .ref (b 22), .ref (b 23), .ref (b 24), .ref (b 25), .ref (b 26), .int (mf 27), .int (mf 28), .ref (b 29), .ref (b 30), .ref (b 31), .ref (b 32), .ref (b 33), .int (mf 34), .int (mf 35), .ref (b 36), .ref (b 37), .ref (b 38), .ref (b 39), .ref (b 40), .ref (b 41), .int (mf 42)])), ((b 1), .inl (G.2.2.1, 6, .inl op))] := hD
  refine lv_aload_n hx hb dX7_givers_11 rfl (lv_at hl 0 rfl) ?_
  refine va_get (D := G.1) (ci := 7) (v := .int 1) (C := RX7) (T := TX7) (N := 43) hx hb hts inX7 hown hK.1 hP 0 rfl rfl 0 (by decide) (hts _ mf_X7_116) (fun _ h9 => h9) rfl dX7_givers_12 ?_
  refine lv_if_le (tgt := 22) hx hb dX7_givers_15 (by decide) (fun c2 => absurd c2 (by decide)) (fun _ => ?_)
  refine lv_iconst (v := -1) hx hb dX7_givers_18 (by decide) ?_
  refine lv_goto (tgt := 33) hx hb dX7_givers_19 (by decide) ?_
  exact wr_iret hx hb hr hlocks hS hP rfl dX7_givers_33
set_option maxHeartbeats 4000000 in
set_option maxRecDepth 100000 in
theorem k_X7_part (l : Launch) (G : GG) (y : Nat) (b : Nat → Nat) (mf op : Nat → Int32) (p1 p2 p3 p4 : Int32) (hcl : ∀ j, j < 6 → op j = 0) : WrI l yX7_part cX7_part 5 (some .int) ({ frames := 3, cells := 0, slots := 0, locals := 69 }) G (mW G y b mf op) [.ref y, .int p1, .int p2, .int p3, .int p4] (fun r _ => r = -1) := by
  refine wr_entryI (by decide +kernel) (Nat.le_of_ble_eq_true rfl) ?_
  intro p e s m below meth c A C0 hP hK hD hA ls hl
  have hS : va_S A s.heap s.heap [] := va_S.rf
  obtain ⟨hx, hb, hml, hown, hts, hr, hlocks, hin⟩ := C0
  have hown : s.vm.findClass RX7 = some m.cls := hown
  have hl : lv_has ls 5 [(0, .ref y), (1, .int p1), (2, .int p2), (3, .int p3), (4, .int p4)] := hl
  refine lv_aload_n hx hb dX7_part_0 rfl (lv_at hl 0 rfl) ?_
  refine lv_aload_n hx hb dX7_part_1 rfl (lv_at hl 0 rfl) ?_
  refine lv_iload_n hx hb dX7_part_2 rfl (lv_at hl 1 rfl) ?_
  refine lv_iload_n hx hb dX7_part_3 rfl (lv_at hl 2 rfl) ?_
  refine lv_iload_n hx hb dX7_part_4 rfl (lv_at hl 3 rfl) ?_
  refine rdV (rest := [.ref y]) (q0 := 0) ⟨hx, hb, hml, hown, hts⟩ (k_X7_wrongAmount l G y b mf op p1 p2 p3 hcl) mi_yX7_wrongAmount mv_yX7_wrongAmount ml_X7_155 ⟨rfl, rfl, Nat.le_of_ble_eq_true rfl, Nat.le_of_ble_eq_true rfl⟩ hK (hP) rfl rfl rfl hl.1 rfl (Nat.le_of_ble_eq_true rfl) dX7_part_5 ⟨Nat.zero_le _, Nat.zero_le _⟩ hS hA hP (fun r1 H locs hr1 hP hS => ?_)
  obtain rfl : r1 = 1 := hr1
  refine va_put (D := G.1) (ci := 7) (v := .int 1) (C := RX7) (T := TX7) (N := 43) hx hb hts inX7 tyX7 tyX7_ok nmX7 hown hK.1 hP hD hS 0 rfl rfl 0 (by decide) (hts _ mf_X7_116) (fun _ h9 => h9) rfl (tyX7_ok 0 (by decide)) (rfl) (rfl) (Nat.le_of_ble_eq_true rfl) dX7_part_8 (fun H locs hP hD hS => ?_)
  have hP : PP G [(y, .inr (7, [.int 1, .ref (b 1), .ref (b 2), .ref (b 3), .ref (b 4), .ref (b 5), .ref (b 6), .ref (b 7), .ref (b 8), .ref (b 9), .ref (b 10), .ref (b 11), .ref (b 12), .ref (b 13), .ref (b 14), .ref (b 15), .ref (b 16), .ref (b 17), .ref (b 18), .ref (b 19), .int (mf 20), .int (mf 21), .ref (b 22), .ref (b 23), .ref (b 24), .ref (b 25), .ref (b 26), .int (mf 27), .int (mf 28), .ref (b 29), .ref (b 30), .ref (b 31), .ref (b 32), .ref (b 33), .int (mf 34), .int (mf 35), .ref (b 36), .ref (b 37), .ref (b 38), .ref (b 39), .ref (b 40), .ref (b 41), .int (mf 42)])), ((b 1), .inl (G.2.2.1, 6, .inl op))] H := hP
  have hD : va_D A [(y, .inr (7, [.int 1, .ref (b 1), .ref (b 2), .ref (b 3), .ref (b 4), .ref (b 5), .ref (b 6), .ref (b 7), .ref (b 8), .ref (b 9), .ref (b 10), .ref (b 11), .ref (b 12), .ref (b 13), .ref (b 14), .ref (b 15), .ref (b 16), .ref (b 17), .ref (b 18), .ref (b 19), .int (mf 20), .int (mf 21), .ref (b 22), .ref (b 23), .ref (b 24), .ref (b 25), .ref (b 26), .int (mf 27), .int (mf 28), .ref (b 29), .ref (b 30), .ref (b 31), .ref (b 32), .ref (b 33), .int (mf 34), .int (mf 35), .ref (b 36), .ref (b 37), .ref (b 38), .ref (b 39), .ref (b 40), .ref (b 41), .int (mf 42)])), ((b 1), .inl (G.2.2.1, 6, .inl op))] := hD
  refine lv_aload_n hx hb dX7_part_11 rfl (lv_at hl 0 rfl) ?_
  refine va_get (D := G.1) (ci := 7) (v := .int 1) (C := RX7) (T := TX7) (N := 43) hx hb hts inX7 hown hK.1 hP 0 rfl rfl 0 (by decide) (hts _ mf_X7_116) (fun _ h9 => h9) rfl dX7_part_12 ?_
  refine lv_if_ne (tgt := 45) hx hb dX7_part_15 (by decide) (fun _ => ?_) (fun c2 => absurd c2 (by decide))
  refine lv_aload_n hx hb dX7_part_45 rfl (lv_at hl 0 rfl) ?_
  refine va_get (D := G.1) (ci := 7) (v := .int 1) (C := RX7) (T := TX7) (N := 43) hx hb hts inX7 hown hK.1 hP 0 rfl rfl 0 (by decide) (hts _ mf_X7_116) (fun _ h9 => h9) rfl dX7_part_46 ?_
  refine lv_if_le (tgt := 56) hx hb dX7_part_49 (by decide) (fun c3 => absurd c3 (by decide)) (fun _ => ?_)
  refine lv_iconst (v := -1) hx hb dX7_part_52 (by decide) ?_
  refine lv_goto (tgt := 73) hx hb dX7_part_53 (by decide) ?_
  exact wr_iret hx hb hr hlocks hS hP rfl dX7_part_73
set_option maxHeartbeats 4000000 in
set_option maxRecDepth 100000 in
theorem k_X7_hand (l : Launch) (G : GG) (y : Nat) (b : Nat → Nat) (mf op : Nat → Int32) (p1 p2 p3 p4 : Int32) (hcl : ∀ j, j < 6 → op j = 0) : WrI l yX7_hand cX7_hand 5 (some .boolean) ({ frames := 3, cells := 0, slots := 0, locals := 69 }) G (mW G y b mf op) [.ref y, .int p1, .int p2, .int p3, .int p4] (fun r _ => r = 0) := by
  refine wr_entryI (by decide +kernel) (Nat.le_of_ble_eq_true rfl) ?_
  intro p e s m below meth c A C0 hP hK hD hA ls hl
  have hS : va_S A s.heap s.heap [] := va_S.rf
  obtain ⟨hx, hb, hml, hown, hts, hr, hlocks, hin⟩ := C0
  have hown : s.vm.findClass RX7 = some m.cls := hown
  have hl : lv_has ls 5 [(0, .ref y), (1, .int p1), (2, .int p2), (3, .int p3), (4, .int p4)] := hl
  refine lv_aload_n hx hb dX7_hand_0 rfl (lv_at hl 0 rfl) ?_
  refine lv_aload_n hx hb dX7_hand_1 rfl (lv_at hl 0 rfl) ?_
  refine lv_iload_n hx hb dX7_hand_2 rfl (lv_at hl 1 rfl) ?_
  refine lv_iload_n hx hb dX7_hand_3 rfl (lv_at hl 2 rfl) ?_
  refine lv_iload_n hx hb dX7_hand_4 rfl (lv_at hl 3 rfl) ?_
  refine rdV (rest := [.ref y]) (q0 := 0) ⟨hx, hb, hml, hown, hts⟩ (k_X7_wrongToTell l G y b mf op p1 p2 p3 hcl) mi_yX7_wrongToTell mv_yX7_wrongToTell ml_X7_158 ⟨rfl, rfl, Nat.le_of_ble_eq_true rfl, Nat.le_of_ble_eq_true rfl⟩ hK (hP) rfl rfl rfl hl.1 rfl (Nat.le_of_ble_eq_true rfl) dX7_hand_5 ⟨Nat.zero_le _, Nat.zero_le _⟩ hS hA hP (fun r1 H locs hr1 hP hS => ?_)
  obtain rfl : r1 = 1 := hr1
  refine va_put (D := G.1) (ci := 7) (v := .int 1) (C := RX7) (T := TX7) (N := 43) hx hb hts inX7 tyX7 tyX7_ok nmX7 hown hK.1 hP hD hS 0 rfl rfl 0 (by decide) (hts _ mf_X7_116) (fun _ h9 => h9) rfl (tyX7_ok 0 (by decide)) (rfl) (rfl) (Nat.le_of_ble_eq_true rfl) dX7_hand_8 (fun H locs hP hD hS => ?_)
  have hP : PP G [(y, .inr (7, [.int 1, .ref (b 1), .ref (b 2), .ref (b 3), .ref (b 4), .ref (b 5), .ref (b 6), .ref (b 7), .ref (b 8), .ref (b 9), .ref (b 10), .ref (b 11), .ref (b 12), .ref (b 13), .ref (b 14), .ref (b 15), .ref (b 16), .ref (b 17), .ref (b 18), .ref (b 19), .int (mf 20), .int (mf 21), .ref (b 22), .ref (b 23), .ref (b 24), .ref (b 25), .ref (b 26), .int (mf 27), .int (mf 28), .ref (b 29), .ref (b 30), .ref (b 31), .ref (b 32), .ref (b 33), .int (mf 34), .int (mf 35), .ref (b 36), .ref (b 37), .ref (b 38), .ref (b 39), .ref (b 40), .ref (b 41), .int (mf 42)])), ((b 1), .inl (G.2.2.1, 6, .inl op))] H := hP
  have hD : va_D A [(y, .inr (7, [.int 1, .ref (b 1), .ref (b 2), .ref (b 3), .ref (b 4), .ref (b 5), .ref (b 6), .ref (b 7), .ref (b 8), .ref (b 9), .ref (b 10), .ref (b 11), .ref (b 12), .ref (b 13), .ref (b 14), .ref (b 15), .ref (b 16), .ref (b 17), .ref (b 18), .ref (b 19), .int (mf 20), .int (mf 21), .ref (b 22), .ref (b 23), .ref (b 24), .ref (b 25), .ref (b 26), .int (mf 27), .int (mf 28), .ref (b 29), .ref (b 30), .ref (b 31), .ref (b 32), .ref (b 33), .int (mf 34), .int (mf 35), .ref (b 36), .ref (b 37), .ref (b 38), .ref (b 39), .ref (b 40), .ref (b 41), .int (mf 42)])), ((b 1), .inl (G.2.2.1, 6, .inl op))] := hD
  refine lv_aload_n hx hb dX7_hand_11 rfl (lv_at hl 0 rfl) ?_
  refine va_get (D := G.1) (ci := 7) (v := .int 1) (C := RX7) (T := TX7) (N := 43) hx hb hts inX7 hown hK.1 hP 0 rfl rfl 0 (by decide) (hts _ mf_X7_116) (fun _ h9 => h9) rfl dX7_hand_12 ?_
  refine lv_if_le (tgt := 20) hx hb dX7_hand_15 (by decide) (fun c2 => absurd c2 (by decide)) (fun _ => ?_)
  refine lv_iconst (v := 0) hx hb dX7_hand_18 (by decide) ?_
  exact wr_zret hx hb hr hlocks (Or.inl rfl) hS hP rfl dX7_hand_19
set_option maxHeartbeats 4000000 in
set_option maxRecDepth 100000 in
theorem k_X7_keep (l : Launch) (G : GG) (y : Nat) (b : Nat → Nat) (mf op : Nat → Int32) (p1 p2 p3 p4 : Int32) (hcl : ∀ j, j < 6 → op j = 0) : WrI l yX7_keep cX7_keep 5 (some .boolean) ({ frames := 3, cells := 0, slots := 0, locals := 69 }) G (mW G y b mf op) [.ref y, .int p1, .int p2, .int p3, .int p4] (fun r _ => r = 0) := by
  refine wr_entryI (by decide +kernel) (Nat.le_of_ble_eq_true rfl) ?_
  intro p e s m below meth c A C0 hP hK hD hA ls hl
  have hS : va_S A s.heap s.heap [] := va_S.rf
  obtain ⟨hx, hb, hml, hown, hts, hr, hlocks, hin⟩ := C0
  have hown : s.vm.findClass RX7 = some m.cls := hown
  have hl : lv_has ls 5 [(0, .ref y), (1, .int p1), (2, .int p2), (3, .int p3), (4, .int p4)] := hl
  refine lv_aload_n hx hb dX7_keep_0 rfl (lv_at hl 0 rfl) ?_
  refine lv_aload_n hx hb dX7_keep_1 rfl (lv_at hl 0 rfl) ?_
  refine lv_iload_n hx hb dX7_keep_2 rfl (lv_at hl 1 rfl) ?_
  refine lv_iload_n hx hb dX7_keep_3 rfl (lv_at hl 2 rfl) ?_
  refine lv_iload_n hx hb dX7_keep_4 rfl (lv_at hl 3 rfl) ?_
  refine rdV (rest := [.ref y]) (q0 := 0) ⟨hx, hb, hml, hown, hts⟩ (k_X7_wrongToTell l G y b mf op p1 p2 p3 hcl) mi_yX7_wrongToTell mv_yX7_wrongToTell ml_X7_158 ⟨rfl, rfl, Nat.le_of_ble_eq_true rfl, Nat.le_of_ble_eq_true rfl⟩ hK (hP) rfl rfl rfl hl.1 rfl (Nat.le_of_ble_eq_true rfl) dX7_keep_5 ⟨Nat.zero_le _, Nat.zero_le _⟩ hS hA hP (fun r1 H locs hr1 hP hS => ?_)
  obtain rfl : r1 = 1 := hr1
  refine va_put (D := G.1) (ci := 7) (v := .int 1) (C := RX7) (T := TX7) (N := 43) hx hb hts inX7 tyX7 tyX7_ok nmX7 hown hK.1 hP hD hS 0 rfl rfl 0 (by decide) (hts _ mf_X7_116) (fun _ h9 => h9) rfl (tyX7_ok 0 (by decide)) (rfl) (rfl) (Nat.le_of_ble_eq_true rfl) dX7_keep_8 (fun H locs hP hD hS => ?_)
  have hP : PP G [(y, .inr (7, [.int 1, .ref (b 1), .ref (b 2), .ref (b 3), .ref (b 4), .ref (b 5), .ref (b 6), .ref (b 7), .ref (b 8), .ref (b 9), .ref (b 10), .ref (b 11), .ref (b 12), .ref (b 13), .ref (b 14), .ref (b 15), .ref (b 16), .ref (b 17), .ref (b 18), .ref (b 19), .int (mf 20), .int (mf 21), .ref (b 22), .ref (b 23), .ref (b 24), .ref (b 25), .ref (b 26), .int (mf 27), .int (mf 28), .ref (b 29), .ref (b 30), .ref (b 31), .ref (b 32), .ref (b 33), .int (mf 34), .int (mf 35), .ref (b 36), .ref (b 37), .ref (b 38), .ref (b 39), .ref (b 40), .ref (b 41), .int (mf 42)])), ((b 1), .inl (G.2.2.1, 6, .inl op))] H := hP
  have hD : va_D A [(y, .inr (7, [.int 1, .ref (b 1), .ref (b 2), .ref (b 3), .ref (b 4), .ref (b 5), .ref (b 6), .ref (b 7), .ref (b 8), .ref (b 9), .ref (b 10), .ref (b 11), .ref (b 12), .ref (b 13), .ref (b 14), .ref (b 15), .ref (b 16), .ref (b 17), .ref (b 18), .ref (b 19), .int (mf 20), .int (mf 21), .ref (b 22), .ref (b 23), .ref (b 24), .ref (b 25), .ref (b 26), .int (mf 27), .int (mf 28), .ref (b 29), .ref (b 30), .ref (b 31), .ref (b 32), .ref (b 33), .int (mf 34), .int (mf 35), .ref (b 36), .ref (b 37), .ref (b 38), .ref (b 39), .ref (b 40), .ref (b 41), .int (mf 42)])), ((b 1), .inl (G.2.2.1, 6, .inl op))] := hD
  refine lv_aload_n hx hb dX7_keep_11 rfl (lv_at hl 0 rfl) ?_
  refine va_get (D := G.1) (ci := 7) (v := .int 1) (C := RX7) (T := TX7) (N := 43) hx hb hts inX7 hown hK.1 hP 0 rfl rfl 0 (by decide) (hts _ mf_X7_116) (fun _ h9 => h9) rfl dX7_keep_12 ?_
  refine lv_if_le (tgt := 20) hx hb dX7_keep_15 (by decide) (fun c2 => absurd c2 (by decide)) (fun _ => ?_)
  refine lv_iconst (v := 0) hx hb dX7_keep_18 (by decide) ?_
  exact wr_zret hx hb hr hlocks (Or.inl rfl) hS hP rfl dX7_keep_19
set_option maxHeartbeats 4000000 in
set_option maxRecDepth 100000 in
theorem k_X7_sound (l : Launch) (G : GG) (y : Nat) (b : Nat → Nat) (mf op : Nat → Int32) (p1 p2 : Int32) (hcl : ∀ j, j < 6 → op j = 0) : WrI l yX7_sound cX7_sound 3 (some .int) ({ frames := 1, cells := 0, slots := 0, locals := 21 }) G (mW G y b mf op) [.ref y, .int p1, .int p2] (fun r _ => r = -1) := by
  refine wr_entryI (by decide +kernel) (Nat.le_of_ble_eq_true rfl) ?_
  intro p e s m below meth c A C0 hP hK hD hA ls hl
  have hS : va_S A s.heap s.heap [] := va_S.rf
  obtain ⟨hx, hb, hml, hown, hts, hr, hlocks, hin⟩ := C0
  have hown : s.vm.findClass RX7 = some m.cls := hown
  have hl : lv_has ls 3 [(0, .ref y), (1, .int p1), (2, .int p2)] := hl
  refine lv_aload_n hx hb dX7_sound_0 rfl (lv_at hl 0 rfl) ?_
  refine lv_aload_n hx hb dX7_sound_1 rfl (lv_at hl 0 rfl) ?_
  refine lv_iload_n hx hb dX7_sound_2 rfl (lv_at hl 1 rfl) ?_
  refine rdV (rest := [.ref y]) (q0 := 0) ⟨hx, hb, hml, hown, hts⟩ (c_X7_isTable l G y b mf op p1) mi_yX7_isTable mv_yX7_isTable ml_X7_120 ⟨rfl, rfl, Nat.le_of_ble_eq_true rfl, Nat.le_of_ble_eq_true rfl⟩ hK (hP) rfl rfl rfl hl.1 rfl (Nat.le_of_ble_eq_true rfl) dX7_sound_3 ⟨Nat.zero_le _, Nat.zero_le _⟩ hS hA hP (fun r1 H locs hr1 hP hS => ?_)
  obtain rfl : r1 = 0 := it_zero hr1 hcl
  refine lv_if_ne (tgt := 13) hx hb dX7_sound_6 (by decide) (fun c2 => absurd (by decide) c2) (fun _ => ?_)
  refine lv_iconst (v := 1) hx hb dX7_sound_9 (by decide) ?_
  refine lv_goto (tgt := 27) hx hb dX7_sound_10 (by decide) ?_
  refine va_put (D := G.1) (ci := 7) (v := .int 1) (C := RX7) (T := TX7) (N := 43) hx hb hts inX7 tyX7 tyX7_ok nmX7 hown hK.1 hP hD hS 0 rfl rfl 0 (by decide) (hts _ mf_X7_116) (fun _ h9 => h9) rfl (tyX7_ok 0 (by decide)) (rfl) (rfl) (Nat.le_of_ble_eq_true rfl) dX7_sound_27 (fun H locs hP hD hS => ?_)
  have hP : PP G [(y, .inr (7, [.int 1, .ref (b 1), .ref (b 2), .ref (b 3), .ref (b 4), .ref (b 5), .ref (b 6), .ref (b 7), .ref (b 8), .ref (b 9), .ref (b 10), .ref (b 11), .ref (b 12), .ref (b 13), .ref (b 14), .ref (b 15), .ref (b 16), .ref (b 17), .ref (b 18), .ref (b 19), .int (mf 20), .int (mf 21), .ref (b 22), .ref (b 23), .ref (b 24), .ref (b 25), .ref (b 26), .int (mf 27), .int (mf 28), .ref (b 29), .ref (b 30), .ref (b 31), .ref (b 32), .ref (b 33), .int (mf 34), .int (mf 35), .ref (b 36), .ref (b 37), .ref (b 38), .ref (b 39), .ref (b 40), .ref (b 41), .int (mf 42)])), ((b 1), .inl (G.2.2.1, 6, .inl op))] H := hP
  have hD : va_D A [(y, .inr (7, [.int 1, .ref (b 1), .ref (b 2), .ref (b 3), .ref (b 4), .ref (b 5), .ref (b 6), .ref (b 7), .ref (b 8), .ref (b 9), .ref (b 10), .ref (b 11), .ref (b 12), .ref (b 13), .ref (b 14), .ref (b 15), .ref (b 16), .ref (b 17), .ref (b 18), .ref (b 19), .int (mf 20), .int (mf 21), .ref (b 22), .ref (b 23), .ref (b 24), .ref (b 25), .ref (b 26), .int (mf 27), .int (mf 28), .ref (b 29), .ref (b 30), .ref (b 31), .ref (b 32), .ref (b 33), .int (mf 34), .int (mf 35), .ref (b 36), .ref (b 37), .ref (b 38), .ref (b 39), .ref (b 40), .ref (b 41), .int (mf 42)])), ((b 1), .inl (G.2.2.1, 6, .inl op))] := hD
  refine lv_aload_n hx hb dX7_sound_30 rfl (lv_at hl 0 rfl) ?_
  refine va_get (D := G.1) (ci := 7) (v := .int 1) (C := RX7) (T := TX7) (N := 43) hx hb hts inX7 hown hK.1 hP 0 rfl rfl 0 (by decide) (hts _ mf_X7_116) (fun _ h9 => h9) rfl dX7_sound_31 ?_
  refine lv_if_le (tgt := 41) hx hb dX7_sound_34 (by decide) (fun c3 => absurd c3 (by decide)) (fun _ => ?_)
  refine lv_iconst (v := -1) hx hb dX7_sound_37 (by decide) ?_
  refine lv_goto (tgt := 55) hx hb dX7_sound_38 (by decide) ?_
  exact wr_iret hx hb hr hlocks hS hP rfl dX7_sound_55
set_option maxHeartbeats 4000000 in
set_option maxRecDepth 100000 in
theorem k_X7_sum (l : Launch) (G : GG) (y : Nat) (b : Nat → Nat) (mf op : Nat → Int32) (p1 p2 : Int32) (hcl : ∀ j, j < 6 → op j = 0) : WrI l yX7_sum cX7_sum 3 (some .int) ({ frames := 1, cells := 0, slots := 0, locals := 21 }) G (mW G y b mf op) [.ref y, .int p1, .int p2] (fun r _ => r = -1) := by
  refine wr_entryI (by decide +kernel) (Nat.le_of_ble_eq_true rfl) ?_
  intro p e s m below meth c A C0 hP hK hD hA ls hl
  have hS : va_S A s.heap s.heap [] := va_S.rf
  obtain ⟨hx, hb, hml, hown, hts, hr, hlocks, hin⟩ := C0
  have hown : s.vm.findClass RX7 = some m.cls := hown
  have hl : lv_has ls 3 [(0, .ref y), (1, .int p1), (2, .int p2)] := hl
  refine lv_aload_n hx hb dX7_sum_0 rfl (lv_at hl 0 rfl) ?_
  refine lv_aload_n hx hb dX7_sum_1 rfl (lv_at hl 0 rfl) ?_
  refine lv_iload_n hx hb dX7_sum_2 rfl (lv_at hl 1 rfl) ?_
  refine rdV (rest := [.ref y]) (q0 := 0) ⟨hx, hb, hml, hown, hts⟩ (c_X7_isTable l G y b mf op p1) mi_yX7_isTable mv_yX7_isTable ml_X7_120 ⟨rfl, rfl, Nat.le_of_ble_eq_true rfl, Nat.le_of_ble_eq_true rfl⟩ hK (hP) rfl rfl rfl hl.1 rfl (Nat.le_of_ble_eq_true rfl) dX7_sum_3 ⟨Nat.zero_le _, Nat.zero_le _⟩ hS hA hP (fun r1 H locs hr1 hP hS => ?_)
  obtain rfl : r1 = 0 := it_zero hr1 hcl
  refine lv_if_ne (tgt := 13) hx hb dX7_sum_6 (by decide) (fun c2 => absurd (by decide) c2) (fun _ => ?_)
  refine lv_iconst (v := 1) hx hb dX7_sum_9 (by decide) ?_
  refine lv_goto (tgt := 41) hx hb dX7_sum_10 (by decide) ?_
  refine va_put (D := G.1) (ci := 7) (v := .int 1) (C := RX7) (T := TX7) (N := 43) hx hb hts inX7 tyX7 tyX7_ok nmX7 hown hK.1 hP hD hS 0 rfl rfl 0 (by decide) (hts _ mf_X7_116) (fun _ h9 => h9) rfl (tyX7_ok 0 (by decide)) (rfl) (rfl) (Nat.le_of_ble_eq_true rfl) dX7_sum_41 (fun H locs hP hD hS => ?_)
  have hP : PP G [(y, .inr (7, [.int 1, .ref (b 1), .ref (b 2), .ref (b 3), .ref (b 4), .ref (b 5), .ref (b 6), .ref (b 7), .ref (b 8), .ref (b 9), .ref (b 10), .ref (b 11), .ref (b 12), .ref (b 13), .ref (b 14), .ref (b 15), .ref (b 16), .ref (b 17), .ref (b 18), .ref (b 19), .int (mf 20), .int (mf 21), .ref (b 22), .ref (b 23), .ref (b 24), .ref (b 25), .ref (b 26), .int (mf 27), .int (mf 28), .ref (b 29), .ref (b 30), .ref (b 31), .ref (b 32), .ref (b 33), .int (mf 34), .int (mf 35), .ref (b 36), .ref (b 37), .ref (b 38), .ref (b 39), .ref (b 40), .ref (b 41), .int (mf 42)])), ((b 1), .inl (G.2.2.1, 6, .inl op))] H := hP
  have hD : va_D A [(y, .inr (7, [.int 1, .ref (b 1), .ref (b 2), .ref (b 3), .ref (b 4), .ref (b 5), .ref (b 6), .ref (b 7), .ref (b 8), .ref (b 9), .ref (b 10), .ref (b 11), .ref (b 12), .ref (b 13), .ref (b 14), .ref (b 15), .ref (b 16), .ref (b 17), .ref (b 18), .ref (b 19), .int (mf 20), .int (mf 21), .ref (b 22), .ref (b 23), .ref (b 24), .ref (b 25), .ref (b 26), .int (mf 27), .int (mf 28), .ref (b 29), .ref (b 30), .ref (b 31), .ref (b 32), .ref (b 33), .int (mf 34), .int (mf 35), .ref (b 36), .ref (b 37), .ref (b 38), .ref (b 39), .ref (b 40), .ref (b 41), .int (mf 42)])), ((b 1), .inl (G.2.2.1, 6, .inl op))] := hD
  refine lv_aload_n hx hb dX7_sum_44 rfl (lv_at hl 0 rfl) ?_
  refine va_get (D := G.1) (ci := 7) (v := .int 1) (C := RX7) (T := TX7) (N := 43) hx hb hts inX7 hown hK.1 hP 0 rfl rfl 0 (by decide) (hts _ mf_X7_116) (fun _ h9 => h9) rfl dX7_sum_45 ?_
  refine lv_if_le (tgt := 55) hx hb dX7_sum_48 (by decide) (fun c3 => absurd c3 (by decide)) (fun _ => ?_)
  refine lv_iconst (v := -1) hx hb dX7_sum_51 (by decide) ?_
  refine lv_goto (tgt := 61) hx hb dX7_sum_52 (by decide) ?_
  exact wr_iret hx hb hr hlocks hS hP rfl dX7_sum_61
set_option maxHeartbeats 4000000 in
set_option maxRecDepth 100000 in
theorem k_X7_total (l : Launch) (G : GG) (y : Nat) (b : Nat → Nat) (mf op : Nat → Int32) (p1 p2 p3 : Int32) (hcl : ∀ j, j < 6 → op j = 0) : WrI l yX7_total cX7_total 7 (some .int) ({ frames := 1, cells := 0, slots := 0, locals := 21 }) G (mW G y b mf op) [.ref y, .int p1, .int p2, .int p3] (fun r _ => r = -1) := by
  refine wr_entryI (by decide +kernel) (Nat.le_of_ble_eq_true rfl) ?_
  intro p e s m below meth c A C0 hP hK hD hA ls hl
  have hS : va_S A s.heap s.heap [] := va_S.rf
  obtain ⟨hx, hb, hml, hown, hts, hr, hlocks, hin⟩ := C0
  have hown : s.vm.findClass RX7 = some m.cls := hown
  have hl : lv_has ls 7 [(0, .ref y), (1, .int p1), (2, .int p2), (3, .int p3)] := hl
  refine lv_aload_n hx hb dX7_total_0 rfl (lv_at hl 0 rfl) ?_
  refine lv_aload_n hx hb dX7_total_1 rfl (lv_at hl 0 rfl) ?_
  refine lv_iload_n hx hb dX7_total_2 rfl (lv_at hl 1 rfl) ?_
  refine rdV (rest := [.ref y]) (q0 := 0) ⟨hx, hb, hml, hown, hts⟩ (c_X7_isTable l G y b mf op p1) mi_yX7_isTable mv_yX7_isTable ml_X7_120 ⟨rfl, rfl, Nat.le_of_ble_eq_true rfl, Nat.le_of_ble_eq_true rfl⟩ hK (hP) rfl rfl rfl hl.1 rfl (Nat.le_of_ble_eq_true rfl) dX7_total_3 ⟨Nat.zero_le _, Nat.zero_le _⟩ hS hA hP (fun r1 H locs hr1 hP hS => ?_)
  obtain rfl : r1 = 0 := it_zero hr1 hcl
  refine lv_if_ne (tgt := 13) hx hb dX7_total_6 (by decide) (fun c2 => absurd (by decide) c2) (fun _ => ?_)
  refine lv_iconst (v := 1) hx hb dX7_total_9 (by decide) ?_
  refine lv_goto (tgt := 50) hx hb dX7_total_10 (by decide) ?_
  refine va_put (D := G.1) (ci := 7) (v := .int 1) (C := RX7) (T := TX7) (N := 43) hx hb hts inX7 tyX7 tyX7_ok nmX7 hown hK.1 hP hD hS 0 rfl rfl 0 (by decide) (hts _ mf_X7_116) (fun _ h9 => h9) rfl (tyX7_ok 0 (by decide)) (rfl) (rfl) (Nat.le_of_ble_eq_true rfl) dX7_total_50 (fun H locs hP hD hS => ?_)
  have hP : PP G [(y, .inr (7, [.int 1, .ref (b 1), .ref (b 2), .ref (b 3), .ref (b 4), .ref (b 5), .ref (b 6), .ref (b 7), .ref (b 8), .ref (b 9), .ref (b 10), .ref (b 11), .ref (b 12), .ref (b 13), .ref (b 14), .ref (b 15), .ref (b 16), .ref (b 17), .ref (b 18), .ref (b 19), .int (mf 20), .int (mf 21), .ref (b 22), .ref (b 23), .ref (b 24), .ref (b 25), .ref (b 26), .int (mf 27), .int (mf 28), .ref (b 29), .ref (b 30), .ref (b 31), .ref (b 32), .ref (b 33), .int (mf 34), .int (mf 35), .ref (b 36), .ref (b 37), .ref (b 38), .ref (b 39), .ref (b 40), .ref (b 41), .int (mf 42)])), ((b 1), .inl (G.2.2.1, 6, .inl op))] H := hP
  have hD : va_D A [(y, .inr (7, [.int 1, .ref (b 1), .ref (b 2), .ref (b 3), .ref (b 4), .ref (b 5), .ref (b 6), .ref (b 7), .ref (b 8), .ref (b 9), .ref (b 10), .ref (b 11), .ref (b 12), .ref (b 13), .ref (b 14), .ref (b 15), .ref (b 16), .ref (b 17), .ref (b 18), .ref (b 19), .int (mf 20), .int (mf 21), .ref (b 22), .ref (b 23), .ref (b 24), .ref (b 25), .ref (b 26), .int (mf 27), .int (mf 28), .ref (b 29), .ref (b 30), .ref (b 31), .ref (b 32), .ref (b 33), .int (mf 34), .int (mf 35), .ref (b 36), .ref (b 37), .ref (b 38), .ref (b 39), .ref (b 40), .ref (b 41), .int (mf 42)])), ((b 1), .inl (G.2.2.1, 6, .inl op))] := hD
  refine lv_aload_n hx hb dX7_total_53 rfl (lv_at hl 0 rfl) ?_
  refine va_get (D := G.1) (ci := 7) (v := .int 1) (C := RX7) (T := TX7) (N := 43) hx hb hts inX7 hown hK.1 hP 0 rfl rfl 0 (by decide) (hts _ mf_X7_116) (fun _ h9 => h9) rfl dX7_total_54 ?_
  refine lv_if_le (tgt := 62) hx hb dX7_total_57 (by decide) (fun c3 => absurd c3 (by decide)) (fun _ => ?_)
  refine lv_iconst (v := -1) hx hb dX7_total_60 (by decide) ?_
  exact wr_iret hx hb hr hlocks hS hP rfl dX7_total_61
set_option maxHeartbeats 4000000 in
set_option maxRecDepth 100000 in
theorem k_X7_secret (l : Launch) (G : GG) (y : Nat) (b : Nat → Nat) (mf op : Nat → Int32) (p1 p2 p3 : Int32) (hcl : ∀ j, j < 6 → op j = 0) : WrI l yX7_secret cX7_secret 4 (some .int) ({ frames := 3, cells := 0, slots := 0, locals := 69 }) G (mW G y b mf op) [.ref y, .int p1, .int p2, .int p3] (fun r _ => r = -1) := by
  refine wr_entryI (by decide +kernel) (Nat.le_of_ble_eq_true rfl) ?_
  intro p e s m below meth c A C0 hP hK hD hA ls hl
  have hS : va_S A s.heap s.heap [] := va_S.rf
  obtain ⟨hx, hb, hml, hown, hts, hr, hlocks, hin⟩ := C0
  have hown : s.vm.findClass RX7 = some m.cls := hown
  have hl : lv_has ls 4 [(0, .ref y), (1, .int p1), (2, .int p2), (3, .int p3)] := hl
  refine lv_aload_n hx hb dX7_secret_0 rfl (lv_at hl 0 rfl) ?_
  refine lv_aload_n hx hb dX7_secret_1 rfl (lv_at hl 0 rfl) ?_
  refine lv_iload_n hx hb dX7_secret_2 rfl (lv_at hl 1 rfl) ?_
  refine lv_iload_n hx hb dX7_secret_3 rfl (lv_at hl 2 rfl) ?_
  refine lv_iload_n hx hb dX7_secret_4 rfl (lv_at hl 3 rfl) ?_
  refine rdV (rest := [.ref y]) (q0 := 0) ⟨hx, hb, hml, hown, hts⟩ (k_X7_wrongSound l G y b mf op p1 p2 p3 hcl) mi_yX7_wrongSound mv_yX7_wrongSound ml_X7_178 ⟨rfl, rfl, Nat.le_of_ble_eq_true rfl, Nat.le_of_ble_eq_true rfl⟩ hK (hP) rfl rfl rfl hl.1 rfl (Nat.le_of_ble_eq_true rfl) dX7_secret_5 ⟨Nat.zero_le _, Nat.zero_le _⟩ hS hA hP (fun r1 H locs hr1 hP hS => ?_)
  obtain rfl : r1 = 1 := hr1
  refine va_put (D := G.1) (ci := 7) (v := .int 1) (C := RX7) (T := TX7) (N := 43) hx hb hts inX7 tyX7 tyX7_ok nmX7 hown hK.1 hP hD hS 0 rfl rfl 0 (by decide) (hts _ mf_X7_116) (fun _ h9 => h9) rfl (tyX7_ok 0 (by decide)) (rfl) (rfl) (Nat.le_of_ble_eq_true rfl) dX7_secret_8 (fun H locs hP hD hS => ?_)
  have hP : PP G [(y, .inr (7, [.int 1, .ref (b 1), .ref (b 2), .ref (b 3), .ref (b 4), .ref (b 5), .ref (b 6), .ref (b 7), .ref (b 8), .ref (b 9), .ref (b 10), .ref (b 11), .ref (b 12), .ref (b 13), .ref (b 14), .ref (b 15), .ref (b 16), .ref (b 17), .ref (b 18), .ref (b 19), .int (mf 20), .int (mf 21), .ref (b 22), .ref (b 23), .ref (b 24), .ref (b 25), .ref (b 26), .int (mf 27), .int (mf 28), .ref (b 29), .ref (b 30), .ref (b 31), .ref (b 32), .ref (b 33), .int (mf 34), .int (mf 35), .ref (b 36), .ref (b 37), .ref (b 38), .ref (b 39), .ref (b 40), .ref (b 41), .int (mf 42)])), ((b 1), .inl (G.2.2.1, 6, .inl op))] H := hP
  have hD : va_D A [(y, .inr (7, [.int 1, .ref (b 1), .ref (b 2), .ref (b 3), .ref (b 4), .ref (b 5), .ref (b 6), .ref (b 7), .ref (b 8), .ref (b 9), .ref (b 10), .ref (b 11), .ref (b 12), .ref (b 13), .ref (b 14), .ref (b 15), .ref (b 16), .ref (b 17), .ref (b 18), .ref (b 19), .int (mf 20), .int (mf 21), .ref (b 22), .ref (b 23), .ref (b 24), .ref (b 25), .ref (b 26), .int (mf 27), .int (mf 28), .ref (b 29), .ref (b 30), .ref (b 31), .ref (b 32), .ref (b 33), .int (mf 34), .int (mf 35), .ref (b 36), .ref (b 37), .ref (b 38), .ref (b 39), .ref (b 40), .ref (b 41), .int (mf 42)])), ((b 1), .inl (G.2.2.1, 6, .inl op))] := hD
  refine lv_aload_n hx hb dX7_secret_11 rfl (lv_at hl 0 rfl) ?_
  refine va_get (D := G.1) (ci := 7) (v := .int 1) (C := RX7) (T := TX7) (N := 43) hx hb hts inX7 hown hK.1 hP 0 rfl rfl 0 (by decide) (hts _ mf_X7_116) (fun _ h9 => h9) rfl dX7_secret_12 ?_
  refine lv_if_le (tgt := 22) hx hb dX7_secret_15 (by decide) (fun c2 => absurd c2 (by decide)) (fun _ => ?_)
  refine lv_iconst (v := -1) hx hb dX7_secret_18 (by decide) ?_
  refine lv_goto (tgt := 33) hx hb dX7_secret_19 (by decide) ?_
  exact wr_iret hx hb hr hlocks hS hP rfl dX7_secret_33
set_option maxHeartbeats 4000000 in
set_option maxRecDepth 100000 in
theorem k_X7_kept (l : Launch) (G : GG) (y : Nat) (b : Nat → Nat) (mf op : Nat → Int32) (p1 p2 p3 : Int32) (hcl : ∀ j, j < 6 → op j = 0) : WrI l yX7_kept cX7_kept 4 (some .int) ({ frames := 3, cells := 0, slots := 0, locals := 69 }) G (mW G y b mf op) [.ref y, .int p1, .int p2, .int p3] (fun r _ => r = -1) := by
  refine wr_entryI (by decide +kernel) (Nat.le_of_ble_eq_true rfl) ?_
  intro p e s m below meth c A C0 hP hK hD hA ls hl
  have hS : va_S A s.heap s.heap [] := va_S.rf
  obtain ⟨hx, hb, hml, hown, hts, hr, hlocks, hin⟩ := C0
  have hown : s.vm.findClass RX7 = some m.cls := hown
  have hl : lv_has ls 4 [(0, .ref y), (1, .int p1), (2, .int p2), (3, .int p3)] := hl
  refine lv_aload_n hx hb dX7_kept_0 rfl (lv_at hl 0 rfl) ?_
  refine lv_aload_n hx hb dX7_kept_1 rfl (lv_at hl 0 rfl) ?_
  refine lv_iload_n hx hb dX7_kept_2 rfl (lv_at hl 1 rfl) ?_
  refine lv_iload_n hx hb dX7_kept_3 rfl (lv_at hl 2 rfl) ?_
  refine lv_iload_n hx hb dX7_kept_4 rfl (lv_at hl 3 rfl) ?_
  refine rdV (rest := [.ref y]) (q0 := 0) ⟨hx, hb, hml, hown, hts⟩ (k_X7_wrongSound l G y b mf op p1 p2 p3 hcl) mi_yX7_wrongSound mv_yX7_wrongSound ml_X7_178 ⟨rfl, rfl, Nat.le_of_ble_eq_true rfl, Nat.le_of_ble_eq_true rfl⟩ hK (hP) rfl rfl rfl hl.1 rfl (Nat.le_of_ble_eq_true rfl) dX7_kept_5 ⟨Nat.zero_le _, Nat.zero_le _⟩ hS hA hP (fun r1 H locs hr1 hP hS => ?_)
  obtain rfl : r1 = 1 := hr1
  refine va_put (D := G.1) (ci := 7) (v := .int 1) (C := RX7) (T := TX7) (N := 43) hx hb hts inX7 tyX7 tyX7_ok nmX7 hown hK.1 hP hD hS 0 rfl rfl 0 (by decide) (hts _ mf_X7_116) (fun _ h9 => h9) rfl (tyX7_ok 0 (by decide)) (rfl) (rfl) (Nat.le_of_ble_eq_true rfl) dX7_kept_8 (fun H locs hP hD hS => ?_)
  have hP : PP G [(y, .inr (7, [.int 1, .ref (b 1), .ref (b 2), .ref (b 3), .ref (b 4), .ref (b 5), .ref (b 6), .ref (b 7), .ref (b 8), .ref (b 9), .ref (b 10), .ref (b 11), .ref (b 12), .ref (b 13), .ref (b 14), .ref (b 15), .ref (b 16), .ref (b 17), .ref (b 18), .ref (b 19), .int (mf 20), .int (mf 21), .ref (b 22), .ref (b 23), .ref (b 24), .ref (b 25), .ref (b 26), .int (mf 27), .int (mf 28), .ref (b 29), .ref (b 30), .ref (b 31), .ref (b 32), .ref (b 33), .int (mf 34), .int (mf 35), .ref (b 36), .ref (b 37), .ref (b 38), .ref (b 39), .ref (b 40), .ref (b 41), .int (mf 42)])), ((b 1), .inl (G.2.2.1, 6, .inl op))] H := hP
  have hD : va_D A [(y, .inr (7, [.int 1, .ref (b 1), .ref (b 2), .ref (b 3), .ref (b 4), .ref (b 5), .ref (b 6), .ref (b 7), .ref (b 8), .ref (b 9), .ref (b 10), .ref (b 11), .ref (b 12), .ref (b 13), .ref (b 14), .ref (b 15), .ref (b 16), .ref (b 17), .ref (b 18), .ref (b 19), .int (mf 20), .int (mf 21), .ref (b 22), .ref (b 23), .ref (b 24), .ref (b 25), .ref (b 26), .int (mf 27), .int (mf 28), .ref (b 29), .ref (b 30), .ref (b 31), .ref (b 32), .ref (b 33), .int (mf 34), .int (mf 35), .ref (b 36), .ref (b 37), .ref (b 38), .ref (b 39), .ref (b 40), .ref (b 41), .int (mf 42)])), ((b 1), .inl (G.2.2.1, 6, .inl op))] := hD
  refine lv_aload_n hx hb dX7_kept_11 rfl (lv_at hl 0 rfl) ?_
  refine va_get (D := G.1) (ci := 7) (v := .int 1) (C := RX7) (T := TX7) (N := 43) hx hb hts inX7 hown hK.1 hP 0 rfl rfl 0 (by decide) (hts _ mf_X7_116) (fun _ h9 => h9) rfl dX7_kept_12 ?_
  refine lv_if_le (tgt := 22) hx hb dX7_kept_15 (by decide) (fun c2 => absurd c2 (by decide)) (fun _ => ?_)
  refine lv_iconst (v := -1) hx hb dX7_kept_18 (by decide) ?_
  refine lv_goto (tgt := 41) hx hb dX7_kept_19 (by decide) ?_
  exact wr_iret hx hb hr hlocks hS hP rfl dX7_kept_41
set_option maxHeartbeats 4000000 in
set_option maxRecDepth 100000 in
theorem k_X7_thousandths (l : Launch) (G : GG) (y : Nat) (b : Nat → Nat) (mf op : Nat → Int32) (p1 p2 p3 : Int32) (hcl : ∀ j, j < 6 → op j = 0) : WrI l yX7_thousandths cX7_thousandths 5 (some .int) ({ frames := 2, cells := 0, slots := 0, locals := 44 }) G (mW G y b mf op) [.ref y, .int p1, .int p2, .int p3] (fun r _ => r = -1) := by
  refine wr_entryI (by decide +kernel) (Nat.le_of_ble_eq_true rfl) ?_
  intro p e s m below meth c A C0 hP hK hD hA ls hl
  have hS : va_S A s.heap s.heap [] := va_S.rf
  obtain ⟨hx, hb, hml, hown, hts, hr, hlocks, hin⟩ := C0
  have hown : s.vm.findClass RX7 = some m.cls := hown
  have hl : lv_has ls 5 [(0, .ref y), (1, .int p1), (2, .int p2), (3, .int p3)] := hl
  refine lv_aload_n hx hb dX7_thousandths_0 rfl (lv_at hl 0 rfl) ?_
  refine lv_aload_n hx hb dX7_thousandths_1 rfl (lv_at hl 0 rfl) ?_
  refine lv_iload_n hx hb dX7_thousandths_2 rfl (lv_at hl 1 rfl) ?_
  refine lv_iload_n hx hb dX7_thousandths_3 rfl (lv_at hl 2 rfl) ?_
  refine lv_iload_n hx hb dX7_thousandths_4 rfl (lv_at hl 3 rfl) ?_
  refine rdV (rest := [.ref y]) (q0 := 0) ⟨hx, hb, hml, hown, hts⟩ (k_X7_wrongPlace l G y b mf op p1 p2 p3 hcl) mi_yX7_wrongPlace mv_yX7_wrongPlace ml_X7_143 ⟨rfl, rfl, Nat.le_of_ble_eq_true rfl, Nat.le_of_ble_eq_true rfl⟩ hK (hP) rfl rfl rfl hl.1 rfl (Nat.le_of_ble_eq_true rfl) dX7_thousandths_5 ⟨Nat.zero_le _, Nat.zero_le _⟩ hS hA hP (fun r1 H locs hr1 hP hS => ?_)
  obtain rfl : r1 = 1 := hr1
  refine va_put (D := G.1) (ci := 7) (v := .int 1) (C := RX7) (T := TX7) (N := 43) hx hb hts inX7 tyX7 tyX7_ok nmX7 hown hK.1 hP hD hS 0 rfl rfl 0 (by decide) (hts _ mf_X7_116) (fun _ h9 => h9) rfl (tyX7_ok 0 (by decide)) (rfl) (rfl) (Nat.le_of_ble_eq_true rfl) dX7_thousandths_8 (fun H locs hP hD hS => ?_)
  have hP : PP G [(y, .inr (7, [.int 1, .ref (b 1), .ref (b 2), .ref (b 3), .ref (b 4), .ref (b 5), .ref (b 6), .ref (b 7), .ref (b 8), .ref (b 9), .ref (b 10), .ref (b 11), .ref (b 12), .ref (b 13), .ref (b 14), .ref (b 15), .ref (b 16), .ref (b 17), .ref (b 18), .ref (b 19), .int (mf 20), .int (mf 21), .ref (b 22), .ref (b 23), .ref (b 24), .ref (b 25), .ref (b 26), .int (mf 27), .int (mf 28), .ref (b 29), .ref (b 30), .ref (b 31), .ref (b 32), .ref (b 33), .int (mf 34), .int (mf 35), .ref (b 36), .ref (b 37), .ref (b 38), .ref (b 39), .ref (b 40), .ref (b 41), .int (mf 42)])), ((b 1), .inl (G.2.2.1, 6, .inl op))] H := hP
  have hD : va_D A [(y, .inr (7, [.int 1, .ref (b 1), .ref (b 2), .ref (b 3), .ref (b 4), .ref (b 5), .ref (b 6), .ref (b 7), .ref (b 8), .ref (b 9), .ref (b 10), .ref (b 11), .ref (b 12), .ref (b 13), .ref (b 14), .ref (b 15), .ref (b 16), .ref (b 17), .ref (b 18), .ref (b 19), .int (mf 20), .int (mf 21), .ref (b 22), .ref (b 23), .ref (b 24), .ref (b 25), .ref (b 26), .int (mf 27), .int (mf 28), .ref (b 29), .ref (b 30), .ref (b 31), .ref (b 32), .ref (b 33), .int (mf 34), .int (mf 35), .ref (b 36), .ref (b 37), .ref (b 38), .ref (b 39), .ref (b 40), .ref (b 41), .int (mf 42)])), ((b 1), .inl (G.2.2.1, 6, .inl op))] := hD
  refine lv_aload_n hx hb dX7_thousandths_11 rfl (lv_at hl 0 rfl) ?_
  refine va_get (D := G.1) (ci := 7) (v := .int 1) (C := RX7) (T := TX7) (N := 43) hx hb hts inX7 hown hK.1 hP 0 rfl rfl 0 (by decide) (hts _ mf_X7_116) (fun _ h9 => h9) rfl dX7_thousandths_12 ?_
  refine lv_if_ne (tgt := 70) hx hb dX7_thousandths_15 (by decide) (fun _ => ?_) (fun c2 => absurd c2 (by decide))
  refine lv_aload_n hx hb dX7_thousandths_70 rfl (lv_at hl 0 rfl) ?_
  refine va_get (D := G.1) (ci := 7) (v := .int 1) (C := RX7) (T := TX7) (N := 43) hx hb hts inX7 hown hK.1 hP 0 rfl rfl 0 (by decide) (hts _ mf_X7_116) (fun _ h9 => h9) rfl dX7_thousandths_71 ?_
  refine lv_if_le (tgt := 81) hx hb dX7_thousandths_74 (by decide) (fun c3 => absurd c3 (by decide)) (fun _ => ?_)
  refine lv_iconst (v := -1) hx hb dX7_thousandths_77 (by decide) ?_
  refine lv_goto (tgt := 88) hx hb dX7_thousandths_78 (by decide) ?_
  exact wr_iret hx hb hr hlocks hS hP rfl dX7_thousandths_88
set_option maxHeartbeats 4000000 in
set_option maxRecDepth 100000 in
theorem k_X7_least (l : Launch) (G : GG) (y : Nat) (b : Nat → Nat) (mf op : Nat → Int32) (p1 p2 p3 : Int32) (hcl : ∀ j, j < 6 → op j = 0) : WrI l yX7_least cX7_least 4 (some .int) ({ frames := 3, cells := 0, slots := 0, locals := 69 }) G (mW G y b mf op) [.ref y, .int p1, .int p2, .int p3] (fun r _ => r = -1) := by
  refine wr_entryI (by decide +kernel) (Nat.le_of_ble_eq_true rfl) ?_
  intro p e s m below meth c A C0 hP hK hD hA ls hl
  have hS : va_S A s.heap s.heap [] := va_S.rf
  obtain ⟨hx, hb, hml, hown, hts, hr, hlocks, hin⟩ := C0
  have hown : s.vm.findClass RX7 = some m.cls := hown
  have hl : lv_has ls 4 [(0, .ref y), (1, .int p1), (2, .int p2), (3, .int p3)] := hl
  refine lv_aload_n hx hb dX7_least_0 rfl (lv_at hl 0 rfl) ?_
  refine lv_aload_n hx hb dX7_least_1 rfl (lv_at hl 0 rfl) ?_
  refine lv_iload_n hx hb dX7_least_2 rfl (lv_at hl 1 rfl) ?_
  refine lv_iload_n hx hb dX7_least_3 rfl (lv_at hl 2 rfl) ?_
  refine lv_iload_n hx hb dX7_least_4 rfl (lv_at hl 3 rfl) ?_
  refine rdV (rest := [.ref y]) (q0 := 0) ⟨hx, hb, hml, hown, hts⟩ (k_X7_wrongSound l G y b mf op p1 p2 p3 hcl) mi_yX7_wrongSound mv_yX7_wrongSound ml_X7_178 ⟨rfl, rfl, Nat.le_of_ble_eq_true rfl, Nat.le_of_ble_eq_true rfl⟩ hK (hP) rfl rfl rfl hl.1 rfl (Nat.le_of_ble_eq_true rfl) dX7_least_5 ⟨Nat.zero_le _, Nat.zero_le _⟩ hS hA hP (fun r1 H locs hr1 hP hS => ?_)
  obtain rfl : r1 = 1 := hr1
  refine va_put (D := G.1) (ci := 7) (v := .int 1) (C := RX7) (T := TX7) (N := 43) hx hb hts inX7 tyX7 tyX7_ok nmX7 hown hK.1 hP hD hS 0 rfl rfl 0 (by decide) (hts _ mf_X7_116) (fun _ h9 => h9) rfl (tyX7_ok 0 (by decide)) (rfl) (rfl) (Nat.le_of_ble_eq_true rfl) dX7_least_8 (fun H locs hP hD hS => ?_)
  have hP : PP G [(y, .inr (7, [.int 1, .ref (b 1), .ref (b 2), .ref (b 3), .ref (b 4), .ref (b 5), .ref (b 6), .ref (b 7), .ref (b 8), .ref (b 9), .ref (b 10), .ref (b 11), .ref (b 12), .ref (b 13), .ref (b 14), .ref (b 15), .ref (b 16), .ref (b 17), .ref (b 18), .ref (b 19), .int (mf 20), .int (mf 21), .ref (b 22), .ref (b 23), .ref (b 24), .ref (b 25), .ref (b 26), .int (mf 27), .int (mf 28), .ref (b 29), .ref (b 30), .ref (b 31), .ref (b 32), .ref (b 33), .int (mf 34), .int (mf 35), .ref (b 36), .ref (b 37), .ref (b 38), .ref (b 39), .ref (b 40), .ref (b 41), .int (mf 42)])), ((b 1), .inl (G.2.2.1, 6, .inl op))] H := hP
  have hD : va_D A [(y, .inr (7, [.int 1, .ref (b 1), .ref (b 2), .ref (b 3), .ref (b 4), .ref (b 5), .ref (b 6), .ref (b 7), .ref (b 8), .ref (b 9), .ref (b 10), .ref (b 11), .ref (b 12), .ref (b 13), .ref (b 14), .ref (b 15), .ref (b 16), .ref (b 17), .ref (b 18), .ref (b 19), .int (mf 20), .int (mf 21), .ref (b 22), .ref (b 23), .ref (b 24), .ref (b 25), .ref (b 26), .int (mf 27), .int (mf 28), .ref (b 29), .ref (b 30), .ref (b 31), .ref (b 32), .ref (b 33), .int (mf 34), .int (mf 35), .ref (b 36), .ref (b 37), .ref (b 38), .ref (b 39), .ref (b 40), .ref (b 41), .int (mf 42)])), ((b 1), .inl (G.2.2.1, 6, .inl op))] := hD
  refine lv_aload_n hx hb dX7_least_11 rfl (lv_at hl 0 rfl) ?_
  refine va_get (D := G.1) (ci := 7) (v := .int 1) (C := RX7) (T := TX7) (N := 43) hx hb hts inX7 hown hK.1 hP 0 rfl rfl 0 (by decide) (hts _ mf_X7_116) (fun _ h9 => h9) rfl dX7_least_12 ?_
  refine lv_if_le (tgt := 22) hx hb dX7_least_15 (by decide) (fun c2 => absurd c2 (by decide)) (fun _ => ?_)
  refine lv_iconst (v := -1) hx hb dX7_least_18 (by decide) ?_
  refine lv_goto (tgt := 30) hx hb dX7_least_19 (by decide) ?_
  exact wr_iret hx hb hr hlocks hS hP rfl dX7_least_30
set_option maxHeartbeats 4000000 in
set_option maxRecDepth 100000 in
theorem k_X7_greatest (l : Launch) (G : GG) (y : Nat) (b : Nat → Nat) (mf op : Nat → Int32) (p1 p2 p3 : Int32) (hcl : ∀ j, j < 6 → op j = 0) : WrI l yX7_greatest cX7_greatest 4 (some .int) ({ frames := 3, cells := 0, slots := 0, locals := 69 }) G (mW G y b mf op) [.ref y, .int p1, .int p2, .int p3] (fun r _ => r = -1) := by
  refine wr_entryI (by decide +kernel) (Nat.le_of_ble_eq_true rfl) ?_
  intro p e s m below meth c A C0 hP hK hD hA ls hl
  have hS : va_S A s.heap s.heap [] := va_S.rf
  obtain ⟨hx, hb, hml, hown, hts, hr, hlocks, hin⟩ := C0
  have hown : s.vm.findClass RX7 = some m.cls := hown
  have hl : lv_has ls 4 [(0, .ref y), (1, .int p1), (2, .int p2), (3, .int p3)] := hl
  refine lv_aload_n hx hb dX7_greatest_0 rfl (lv_at hl 0 rfl) ?_
  refine lv_aload_n hx hb dX7_greatest_1 rfl (lv_at hl 0 rfl) ?_
  refine lv_iload_n hx hb dX7_greatest_2 rfl (lv_at hl 1 rfl) ?_
  refine lv_iload_n hx hb dX7_greatest_3 rfl (lv_at hl 2 rfl) ?_
  refine lv_iload_n hx hb dX7_greatest_4 rfl (lv_at hl 3 rfl) ?_
  refine rdV (rest := [.ref y]) (q0 := 0) ⟨hx, hb, hml, hown, hts⟩ (k_X7_wrongSound l G y b mf op p1 p2 p3 hcl) mi_yX7_wrongSound mv_yX7_wrongSound ml_X7_178 ⟨rfl, rfl, Nat.le_of_ble_eq_true rfl, Nat.le_of_ble_eq_true rfl⟩ hK (hP) rfl rfl rfl hl.1 rfl (Nat.le_of_ble_eq_true rfl) dX7_greatest_5 ⟨Nat.zero_le _, Nat.zero_le _⟩ hS hA hP (fun r1 H locs hr1 hP hS => ?_)
  obtain rfl : r1 = 1 := hr1
  refine va_put (D := G.1) (ci := 7) (v := .int 1) (C := RX7) (T := TX7) (N := 43) hx hb hts inX7 tyX7 tyX7_ok nmX7 hown hK.1 hP hD hS 0 rfl rfl 0 (by decide) (hts _ mf_X7_116) (fun _ h9 => h9) rfl (tyX7_ok 0 (by decide)) (rfl) (rfl) (Nat.le_of_ble_eq_true rfl) dX7_greatest_8 (fun H locs hP hD hS => ?_)
  have hP : PP G [(y, .inr (7, [.int 1, .ref (b 1), .ref (b 2), .ref (b 3), .ref (b 4), .ref (b 5), .ref (b 6), .ref (b 7), .ref (b 8), .ref (b 9), .ref (b 10), .ref (b 11), .ref (b 12), .ref (b 13), .ref (b 14), .ref (b 15), .ref (b 16), .ref (b 17), .ref (b 18), .ref (b 19), .int (mf 20), .int (mf 21), .ref (b 22), .ref (b 23), .ref (b 24), .ref (b 25), .ref (b 26), .int (mf 27), .int (mf 28), .ref (b 29), .ref (b 30), .ref (b 31), .ref (b 32), .ref (b 33), .int (mf 34), .int (mf 35), .ref (b 36), .ref (b 37), .ref (b 38), .ref (b 39), .ref (b 40), .ref (b 41), .int (mf 42)])), ((b 1), .inl (G.2.2.1, 6, .inl op))] H := hP
  have hD : va_D A [(y, .inr (7, [.int 1, .ref (b 1), .ref (b 2), .ref (b 3), .ref (b 4), .ref (b 5), .ref (b 6), .ref (b 7), .ref (b 8), .ref (b 9), .ref (b 10), .ref (b 11), .ref (b 12), .ref (b 13), .ref (b 14), .ref (b 15), .ref (b 16), .ref (b 17), .ref (b 18), .ref (b 19), .int (mf 20), .int (mf 21), .ref (b 22), .ref (b 23), .ref (b 24), .ref (b 25), .ref (b 26), .int (mf 27), .int (mf 28), .ref (b 29), .ref (b 30), .ref (b 31), .ref (b 32), .ref (b 33), .int (mf 34), .int (mf 35), .ref (b 36), .ref (b 37), .ref (b 38), .ref (b 39), .ref (b 40), .ref (b 41), .int (mf 42)])), ((b 1), .inl (G.2.2.1, 6, .inl op))] := hD
  refine lv_aload_n hx hb dX7_greatest_11 rfl (lv_at hl 0 rfl) ?_
  refine va_get (D := G.1) (ci := 7) (v := .int 1) (C := RX7) (T := TX7) (N := 43) hx hb hts inX7 hown hK.1 hP 0 rfl rfl 0 (by decide) (hts _ mf_X7_116) (fun _ h9 => h9) rfl dX7_greatest_12 ?_
  refine lv_if_le (tgt := 22) hx hb dX7_greatest_15 (by decide) (fun c2 => absurd c2 (by decide)) (fun _ => ?_)
  refine lv_iconst (v := -1) hx hb dX7_greatest_18 (by decide) ?_
  refine lv_goto (tgt := 30) hx hb dX7_greatest_19 (by decide) ?_
  exact wr_iret hx hb hr hlocks hS hP rfl dX7_greatest_30
set_option maxHeartbeats 4000000 in
set_option maxRecDepth 100000 in
theorem k_X7_safe (l : Launch) (G : GG) (y : Nat) (b : Nat → Nat) (mf op : Nat → Int32) (p1 p2 p3 : Int32) (hcl : ∀ j, j < 6 → op j = 0) : WrI l yX7_safe cX7_safe 4 (some .int) ({ frames := 3, cells := 0, slots := 0, locals := 69 }) G (mW G y b mf op) [.ref y, .int p1, .int p2, .int p3] (fun r _ => r = -1) := by
  refine wr_entryI (by decide +kernel) (Nat.le_of_ble_eq_true rfl) ?_
  intro p e s m below meth c A C0 hP hK hD hA ls hl
  have hS : va_S A s.heap s.heap [] := va_S.rf
  obtain ⟨hx, hb, hml, hown, hts, hr, hlocks, hin⟩ := C0
  have hown : s.vm.findClass RX7 = some m.cls := hown
  have hl : lv_has ls 4 [(0, .ref y), (1, .int p1), (2, .int p2), (3, .int p3)] := hl
  refine lv_aload_n hx hb dX7_safe_0 rfl (lv_at hl 0 rfl) ?_
  refine lv_aload_n hx hb dX7_safe_1 rfl (lv_at hl 0 rfl) ?_
  refine lv_iload_n hx hb dX7_safe_2 rfl (lv_at hl 1 rfl) ?_
  refine lv_iload_n hx hb dX7_safe_3 rfl (lv_at hl 2 rfl) ?_
  refine lv_iload_n hx hb dX7_safe_4 rfl (lv_at hl 3 rfl) ?_
  refine rdV (rest := [.ref y]) (q0 := 0) ⟨hx, hb, hml, hown, hts⟩ (k_X7_wrongSound l G y b mf op p1 p2 p3 hcl) mi_yX7_wrongSound mv_yX7_wrongSound ml_X7_178 ⟨rfl, rfl, Nat.le_of_ble_eq_true rfl, Nat.le_of_ble_eq_true rfl⟩ hK (hP) rfl rfl rfl hl.1 rfl (Nat.le_of_ble_eq_true rfl) dX7_safe_5 ⟨Nat.zero_le _, Nat.zero_le _⟩ hS hA hP (fun r1 H locs hr1 hP hS => ?_)
  obtain rfl : r1 = 1 := hr1
  refine va_put (D := G.1) (ci := 7) (v := .int 1) (C := RX7) (T := TX7) (N := 43) hx hb hts inX7 tyX7 tyX7_ok nmX7 hown hK.1 hP hD hS 0 rfl rfl 0 (by decide) (hts _ mf_X7_116) (fun _ h9 => h9) rfl (tyX7_ok 0 (by decide)) (rfl) (rfl) (Nat.le_of_ble_eq_true rfl) dX7_safe_8 (fun H locs hP hD hS => ?_)
  have hP : PP G [(y, .inr (7, [.int 1, .ref (b 1), .ref (b 2), .ref (b 3), .ref (b 4), .ref (b 5), .ref (b 6), .ref (b 7), .ref (b 8), .ref (b 9), .ref (b 10), .ref (b 11), .ref (b 12), .ref (b 13), .ref (b 14), .ref (b 15), .ref (b 16), .ref (b 17), .ref (b 18), .ref (b 19), .int (mf 20), .int (mf 21), .ref (b 22), .ref (b 23), .ref (b 24), .ref (b 25), .ref (b 26), .int (mf 27), .int (mf 28), .ref (b 29), .ref (b 30), .ref (b 31), .ref (b 32), .ref (b 33), .int (mf 34), .int (mf 35), .ref (b 36), .ref (b 37), .ref (b 38), .ref (b 39), .ref (b 40), .ref (b 41), .int (mf 42)])), ((b 1), .inl (G.2.2.1, 6, .inl op))] H := hP
  have hD : va_D A [(y, .inr (7, [.int 1, .ref (b 1), .ref (b 2), .ref (b 3), .ref (b 4), .ref (b 5), .ref (b 6), .ref (b 7), .ref (b 8), .ref (b 9), .ref (b 10), .ref (b 11), .ref (b 12), .ref (b 13), .ref (b 14), .ref (b 15), .ref (b 16), .ref (b 17), .ref (b 18), .ref (b 19), .int (mf 20), .int (mf 21), .ref (b 22), .ref (b 23), .ref (b 24), .ref (b 25), .ref (b 26), .int (mf 27), .int (mf 28), .ref (b 29), .ref (b 30), .ref (b 31), .ref (b 32), .ref (b 33), .int (mf 34), .int (mf 35), .ref (b 36), .ref (b 37), .ref (b 38), .ref (b 39), .ref (b 40), .ref (b 41), .int (mf 42)])), ((b 1), .inl (G.2.2.1, 6, .inl op))] := hD
  refine lv_aload_n hx hb dX7_safe_11 rfl (lv_at hl 0 rfl) ?_
  refine va_get (D := G.1) (ci := 7) (v := .int 1) (C := RX7) (T := TX7) (N := 43) hx hb hts inX7 hown hK.1 hP 0 rfl rfl 0 (by decide) (hts _ mf_X7_116) (fun _ h9 => h9) rfl dX7_safe_12 ?_
  refine lv_if_le (tgt := 22) hx hb dX7_safe_15 (by decide) (fun c2 => absurd c2 (by decide)) (fun _ => ?_)
  refine lv_iconst (v := -1) hx hb dX7_safe_18 (by decide) ?_
  refine lv_goto (tgt := 37) hx hb dX7_safe_19 (by decide) ?_
  exact wr_iret hx hb hr hlocks hS hP rfl dX7_safe_37
set_option maxHeartbeats 4000000 in
set_option maxRecDepth 100000 in
theorem k_X7_unsafe (l : Launch) (G : GG) (y : Nat) (b : Nat → Nat) (mf op : Nat → Int32) (p1 : Int32) (hcl : ∀ j, j < 6 → op j = 0) : WrI l yX7_unsafe cX7_unsafe 4 (some .int) ({ frames := 1, cells := 0, slots := 0, locals := 21 }) G (mW G y b mf op) [.ref y, .int p1] (fun r _ => r = -1) := by
  refine wr_entryI (by decide +kernel) (Nat.le_of_ble_eq_true rfl) ?_
  intro p e s m below meth c A C0 hP hK hD hA ls hl
  have hS : va_S A s.heap s.heap [] := va_S.rf
  obtain ⟨hx, hb, hml, hown, hts, hr, hlocks, hin⟩ := C0
  have hown : s.vm.findClass RX7 = some m.cls := hown
  have hl : lv_has ls 4 [(0, .ref y), (1, .int p1)] := hl
  refine lv_aload_n hx hb dX7_unsafe_0 rfl (lv_at hl 0 rfl) ?_
  refine lv_aload_n hx hb dX7_unsafe_1 rfl (lv_at hl 0 rfl) ?_
  refine lv_iload_n hx hb dX7_unsafe_2 rfl (lv_at hl 1 rfl) ?_
  refine rdV (rest := [.ref y]) (q0 := 0) ⟨hx, hb, hml, hown, hts⟩ (c_X7_isTable l G y b mf op p1) mi_yX7_isTable mv_yX7_isTable ml_X7_120 ⟨rfl, rfl, Nat.le_of_ble_eq_true rfl, Nat.le_of_ble_eq_true rfl⟩ hK (hP) rfl rfl rfl hl.1 rfl (Nat.le_of_ble_eq_true rfl) dX7_unsafe_3 ⟨Nat.zero_le _, Nat.zero_le _⟩ hS hA hP (fun r1 H locs hr1 hP hS => ?_)
  obtain rfl : r1 = 0 := it_zero hr1 hcl
  refine lv_if_eq (tgt := 13) hx hb dX7_unsafe_6 (by decide) (fun _ => ?_) (fun c2 => absurd (by decide) c2)
  refine lv_iconst (v := 1) hx hb dX7_unsafe_13 (by decide) ?_
  refine va_put (D := G.1) (ci := 7) (v := .int 1) (C := RX7) (T := TX7) (N := 43) hx hb hts inX7 tyX7 tyX7_ok nmX7 hown hK.1 hP hD hS 0 rfl rfl 0 (by decide) (hts _ mf_X7_116) (fun _ h9 => h9) rfl (tyX7_ok 0 (by decide)) (rfl) (rfl) (Nat.le_of_ble_eq_true rfl) dX7_unsafe_14 (fun H locs hP hD hS => ?_)
  have hP : PP G [(y, .inr (7, [.int 1, .ref (b 1), .ref (b 2), .ref (b 3), .ref (b 4), .ref (b 5), .ref (b 6), .ref (b 7), .ref (b 8), .ref (b 9), .ref (b 10), .ref (b 11), .ref (b 12), .ref (b 13), .ref (b 14), .ref (b 15), .ref (b 16), .ref (b 17), .ref (b 18), .ref (b 19), .int (mf 20), .int (mf 21), .ref (b 22), .ref (b 23), .ref (b 24), .ref (b 25), .ref (b 26), .int (mf 27), .int (mf 28), .ref (b 29), .ref (b 30), .ref (b 31), .ref (b 32), .ref (b 33), .int (mf 34), .int (mf 35), .ref (b 36), .ref (b 37), .ref (b 38), .ref (b 39), .ref (b 40), .ref (b 41), .int (mf 42)])), ((b 1), .inl (G.2.2.1, 6, .inl op))] H := hP
  have hD : va_D A [(y, .inr (7, [.int 1, .ref (b 1), .ref (b 2), .ref (b 3), .ref (b 4), .ref (b 5), .ref (b 6), .ref (b 7), .ref (b 8), .ref (b 9), .ref (b 10), .ref (b 11), .ref (b 12), .ref (b 13), .ref (b 14), .ref (b 15), .ref (b 16), .ref (b 17), .ref (b 18), .ref (b 19), .int (mf 20), .int (mf 21), .ref (b 22), .ref (b 23), .ref (b 24), .ref (b 25), .ref (b 26), .int (mf 27), .int (mf 28), .ref (b 29), .ref (b 30), .ref (b 31), .ref (b 32), .ref (b 33), .int (mf 34), .int (mf 35), .ref (b 36), .ref (b 37), .ref (b 38), .ref (b 39), .ref (b 40), .ref (b 41), .int (mf 42)])), ((b 1), .inl (G.2.2.1, 6, .inl op))] := hD
  refine lv_aload_n hx hb dX7_unsafe_17 rfl (lv_at hl 0 rfl) ?_
  refine va_get (D := G.1) (ci := 7) (v := .int 1) (C := RX7) (T := TX7) (N := 43) hx hb hts inX7 hown hK.1 hP 0 rfl rfl 0 (by decide) (hts _ mf_X7_116) (fun _ h9 => h9) rfl dX7_unsafe_18 ?_
  refine lv_if_le (tgt := 26) hx hb dX7_unsafe_21 (by decide) (fun c3 => absurd c3 (by decide)) (fun _ => ?_)
  refine lv_iconst (v := -1) hx hb dX7_unsafe_24 (by decide) ?_
  exact wr_iret hx hb hr hlocks hS hP rfl dX7_unsafe_25
set_option maxHeartbeats 4000000 in
set_option maxRecDepth 100000 in
theorem k_X7_witness (l : Launch) (G : GG) (y : Nat) (b : Nat → Nat) (mf op : Nat → Int32) (p1 p2 p3 p4 : Int32) (hcl : ∀ j, j < 6 → op j = 0) : WrI l yX7_witness cX7_witness 11 (some .int) ({ frames := 3, cells := 0, slots := 0, locals := 69 }) G (mW G y b mf op) [.ref y, .int p1, .int p2, .int p3, .int p4] (fun r _ => r = -1) := by
  refine wr_entryI (by decide +kernel) (Nat.le_of_ble_eq_true rfl) ?_
  intro p e s m below meth c A C0 hP hK hD hA ls hl
  have hS : va_S A s.heap s.heap [] := va_S.rf
  obtain ⟨hx, hb, hml, hown, hts, hr, hlocks, hin⟩ := C0
  have hown : s.vm.findClass RX7 = some m.cls := hown
  have hl : lv_has ls 11 [(0, .ref y), (1, .int p1), (2, .int p2), (3, .int p3), (4, .int p4)] := hl
  refine lv_aload_n hx hb dX7_witness_0 rfl (lv_at hl 0 rfl) ?_
  refine lv_aload_n hx hb dX7_witness_1 rfl (lv_at hl 0 rfl) ?_
  refine lv_iload_n hx hb dX7_witness_2 rfl (lv_at hl 1 rfl) ?_
  refine lv_iload_n hx hb dX7_witness_3 rfl (lv_at hl 2 rfl) ?_
  refine lv_iload_n hx hb dX7_witness_4 rfl (lv_at hl 3 rfl) ?_
  refine rdV (rest := [.ref y]) (q0 := 0) ⟨hx, hb, hml, hown, hts⟩ (k_X7_wrongSound l G y b mf op p1 p2 p3 hcl) mi_yX7_wrongSound mv_yX7_wrongSound ml_X7_178 ⟨rfl, rfl, Nat.le_of_ble_eq_true rfl, Nat.le_of_ble_eq_true rfl⟩ hK (hP) rfl rfl rfl hl.1 rfl (Nat.le_of_ble_eq_true rfl) dX7_witness_5 ⟨Nat.zero_le _, Nat.zero_le _⟩ hS hA hP (fun r1 H locs hr1 hP hS => ?_)
  obtain rfl : r1 = 1 := hr1
  refine va_put (D := G.1) (ci := 7) (v := .int 1) (C := RX7) (T := TX7) (N := 43) hx hb hts inX7 tyX7 tyX7_ok nmX7 hown hK.1 hP hD hS 0 rfl rfl 0 (by decide) (hts _ mf_X7_116) (fun _ h9 => h9) rfl (tyX7_ok 0 (by decide)) (rfl) (rfl) (Nat.le_of_ble_eq_true rfl) dX7_witness_8 (fun H locs hP hD hS => ?_)
  have hP : PP G [(y, .inr (7, [.int 1, .ref (b 1), .ref (b 2), .ref (b 3), .ref (b 4), .ref (b 5), .ref (b 6), .ref (b 7), .ref (b 8), .ref (b 9), .ref (b 10), .ref (b 11), .ref (b 12), .ref (b 13), .ref (b 14), .ref (b 15), .ref (b 16), .ref (b 17), .ref (b 18), .ref (b 19), .int (mf 20), .int (mf 21), .ref (b 22), .ref (b 23), .ref (b 24), .ref (b 25), .ref (b 26), .int (mf 27), .int (mf 28), .ref (b 29), .ref (b 30), .ref (b 31), .ref (b 32), .ref (b 33), .int (mf 34), .int (mf 35), .ref (b 36), .ref (b 37), .ref (b 38), .ref (b 39), .ref (b 40), .ref (b 41), .int (mf 42)])), ((b 1), .inl (G.2.2.1, 6, .inl op))] H := hP
  have hD : va_D A [(y, .inr (7, [.int 1, .ref (b 1), .ref (b 2), .ref (b 3), .ref (b 4), .ref (b 5), .ref (b 6), .ref (b 7), .ref (b 8), .ref (b 9), .ref (b 10), .ref (b 11), .ref (b 12), .ref (b 13), .ref (b 14), .ref (b 15), .ref (b 16), .ref (b 17), .ref (b 18), .ref (b 19), .int (mf 20), .int (mf 21), .ref (b 22), .ref (b 23), .ref (b 24), .ref (b 25), .ref (b 26), .int (mf 27), .int (mf 28), .ref (b 29), .ref (b 30), .ref (b 31), .ref (b 32), .ref (b 33), .int (mf 34), .int (mf 35), .ref (b 36), .ref (b 37), .ref (b 38), .ref (b 39), .ref (b 40), .ref (b 41), .int (mf 42)])), ((b 1), .inl (G.2.2.1, 6, .inl op))] := hD
  refine lv_aload_n hx hb dX7_witness_11 rfl (lv_at hl 0 rfl) ?_
  refine va_get (D := G.1) (ci := 7) (v := .int 1) (C := RX7) (T := TX7) (N := 43) hx hb hts inX7 hown hK.1 hP 0 rfl rfl 0 (by decide) (hts _ mf_X7_116) (fun _ h9 => h9) rfl dX7_witness_12 ?_
  refine lv_if_le (tgt := 20) hx hb dX7_witness_15 (by decide) (fun c2 => absurd c2 (by decide)) (fun _ => ?_)
  refine lv_iconst (v := -1) hx hb dX7_witness_18 (by decide) ?_
  exact wr_iret hx hb hr hlocks hS hP rfl dX7_witness_19
set_option maxHeartbeats 4000000 in
set_option maxRecDepth 100000 in
theorem k_X7_plan (l : Launch) (G : GG) (y : Nat) (b : Nat → Nat) (mf op : Nat → Int32) (p1 : Int32) (hcl : ∀ j, j < 6 → op j = 0) : WrI l yX7_plan cX7_plan 6 (some .int) ({ frames := 1, cells := 0, slots := 0, locals := 21 }) G (mW G y b mf op) [.ref y, .int p1] (fun r _ => r = -1) := by
  refine wr_entryI (by decide +kernel) (Nat.le_of_ble_eq_true rfl) ?_
  intro p e s m below meth c A C0 hP hK hD hA ls hl
  have hS : va_S A s.heap s.heap [] := va_S.rf
  obtain ⟨hx, hb, hml, hown, hts, hr, hlocks, hin⟩ := C0
  have hown : s.vm.findClass RX7 = some m.cls := hown
  have hl : lv_has ls 6 [(0, .ref y), (1, .int p1)] := hl
  refine lv_aload_n hx hb dX7_plan_0 rfl (lv_at hl 0 rfl) ?_
  refine lv_aload_n hx hb dX7_plan_1 rfl (lv_at hl 0 rfl) ?_
  refine lv_iload_n hx hb dX7_plan_2 rfl (lv_at hl 1 rfl) ?_
  refine rdV (rest := [.ref y]) (q0 := 0) ⟨hx, hb, hml, hown, hts⟩ (c_X7_isTable l G y b mf op p1) mi_yX7_isTable mv_yX7_isTable ml_X7_120 ⟨rfl, rfl, Nat.le_of_ble_eq_true rfl, Nat.le_of_ble_eq_true rfl⟩ hK (hP) rfl rfl rfl hl.1 rfl (Nat.le_of_ble_eq_true rfl) dX7_plan_3 ⟨Nat.zero_le _, Nat.zero_le _⟩ hS hA hP (fun r1 H locs hr1 hP hS => ?_)
  obtain rfl : r1 = 0 := it_zero hr1 hcl
  refine lv_if_eq (tgt := 13) hx hb dX7_plan_6 (by decide) (fun _ => ?_) (fun c2 => absurd (by decide) c2)
  refine lv_iconst (v := 1) hx hb dX7_plan_13 (by decide) ?_
  refine va_put (D := G.1) (ci := 7) (v := .int 1) (C := RX7) (T := TX7) (N := 43) hx hb hts inX7 tyX7 tyX7_ok nmX7 hown hK.1 hP hD hS 0 rfl rfl 0 (by decide) (hts _ mf_X7_116) (fun _ h9 => h9) rfl (tyX7_ok 0 (by decide)) (rfl) (rfl) (Nat.le_of_ble_eq_true rfl) dX7_plan_14 (fun H locs hP hD hS => ?_)
  have hP : PP G [(y, .inr (7, [.int 1, .ref (b 1), .ref (b 2), .ref (b 3), .ref (b 4), .ref (b 5), .ref (b 6), .ref (b 7), .ref (b 8), .ref (b 9), .ref (b 10), .ref (b 11), .ref (b 12), .ref (b 13), .ref (b 14), .ref (b 15), .ref (b 16), .ref (b 17), .ref (b 18), .ref (b 19), .int (mf 20), .int (mf 21), .ref (b 22), .ref (b 23), .ref (b 24), .ref (b 25), .ref (b 26), .int (mf 27), .int (mf 28), .ref (b 29), .ref (b 30), .ref (b 31), .ref (b 32), .ref (b 33), .int (mf 34), .int (mf 35), .ref (b 36), .ref (b 37), .ref (b 38), .ref (b 39), .ref (b 40), .ref (b 41), .int (mf 42)])), ((b 1), .inl (G.2.2.1, 6, .inl op))] H := hP
  have hD : va_D A [(y, .inr (7, [.int 1, .ref (b 1), .ref (b 2), .ref (b 3), .ref (b 4), .ref (b 5), .ref (b 6), .ref (b 7), .ref (b 8), .ref (b 9), .ref (b 10), .ref (b 11), .ref (b 12), .ref (b 13), .ref (b 14), .ref (b 15), .ref (b 16), .ref (b 17), .ref (b 18), .ref (b 19), .int (mf 20), .int (mf 21), .ref (b 22), .ref (b 23), .ref (b 24), .ref (b 25), .ref (b 26), .int (mf 27), .int (mf 28), .ref (b 29), .ref (b 30), .ref (b 31), .ref (b 32), .ref (b 33), .int (mf 34), .int (mf 35), .ref (b 36), .ref (b 37), .ref (b 38), .ref (b 39), .ref (b 40), .ref (b 41), .int (mf 42)])), ((b 1), .inl (G.2.2.1, 6, .inl op))] := hD
  refine lv_aload_n hx hb dX7_plan_17 rfl (lv_at hl 0 rfl) ?_
  refine va_get (D := G.1) (ci := 7) (v := .int 1) (C := RX7) (T := TX7) (N := 43) hx hb hts inX7 hown hK.1 hP 0 rfl rfl 0 (by decide) (hts _ mf_X7_116) (fun _ h9 => h9) rfl dX7_plan_18 ?_
  refine lv_if_le (tgt := 26) hx hb dX7_plan_21 (by decide) (fun c3 => absurd c3 (by decide)) (fun _ => ?_)
  refine lv_iconst (v := -1) hx hb dX7_plan_24 (by decide) ?_
  exact wr_iret hx hb hr hlocks hS hP rfl dX7_plan_25
set_option maxHeartbeats 4000000 in
set_option maxRecDepth 100000 in
theorem k_X7_fewest (l : Launch) (G : GG) (y : Nat) (b : Nat → Nat) (mf op : Nat → Int32) (p1 : Int32) (hcl : ∀ j, j < 6 → op j = 0) : WrI l yX7_fewest cX7_fewest 6 (some .int) ({ frames := 1, cells := 0, slots := 0, locals := 21 }) G (mW G y b mf op) [.ref y, .int p1] (fun r _ => r = -1) := by
  refine wr_entryI (by decide +kernel) (Nat.le_of_ble_eq_true rfl) ?_
  intro p e s m below meth c A C0 hP hK hD hA ls hl
  have hS : va_S A s.heap s.heap [] := va_S.rf
  obtain ⟨hx, hb, hml, hown, hts, hr, hlocks, hin⟩ := C0
  have hown : s.vm.findClass RX7 = some m.cls := hown
  have hl : lv_has ls 6 [(0, .ref y), (1, .int p1)] := hl
  refine lv_aload_n hx hb dX7_fewest_0 rfl (lv_at hl 0 rfl) ?_
  refine lv_aload_n hx hb dX7_fewest_1 rfl (lv_at hl 0 rfl) ?_
  refine lv_iload_n hx hb dX7_fewest_2 rfl (lv_at hl 1 rfl) ?_
  refine rdV (rest := [.ref y]) (q0 := 0) ⟨hx, hb, hml, hown, hts⟩ (c_X7_isTable l G y b mf op p1) mi_yX7_isTable mv_yX7_isTable ml_X7_120 ⟨rfl, rfl, Nat.le_of_ble_eq_true rfl, Nat.le_of_ble_eq_true rfl⟩ hK (hP) rfl rfl rfl hl.1 rfl (Nat.le_of_ble_eq_true rfl) dX7_fewest_3 ⟨Nat.zero_le _, Nat.zero_le _⟩ hS hA hP (fun r1 H locs hr1 hP hS => ?_)
  obtain rfl : r1 = 0 := it_zero hr1 hcl
  refine lv_if_eq (tgt := 13) hx hb dX7_fewest_6 (by decide) (fun _ => ?_) (fun c2 => absurd (by decide) c2)
  refine lv_iconst (v := 1) hx hb dX7_fewest_13 (by decide) ?_
  refine va_put (D := G.1) (ci := 7) (v := .int 1) (C := RX7) (T := TX7) (N := 43) hx hb hts inX7 tyX7 tyX7_ok nmX7 hown hK.1 hP hD hS 0 rfl rfl 0 (by decide) (hts _ mf_X7_116) (fun _ h9 => h9) rfl (tyX7_ok 0 (by decide)) (rfl) (rfl) (Nat.le_of_ble_eq_true rfl) dX7_fewest_14 (fun H locs hP hD hS => ?_)
  have hP : PP G [(y, .inr (7, [.int 1, .ref (b 1), .ref (b 2), .ref (b 3), .ref (b 4), .ref (b 5), .ref (b 6), .ref (b 7), .ref (b 8), .ref (b 9), .ref (b 10), .ref (b 11), .ref (b 12), .ref (b 13), .ref (b 14), .ref (b 15), .ref (b 16), .ref (b 17), .ref (b 18), .ref (b 19), .int (mf 20), .int (mf 21), .ref (b 22), .ref (b 23), .ref (b 24), .ref (b 25), .ref (b 26), .int (mf 27), .int (mf 28), .ref (b 29), .ref (b 30), .ref (b 31), .ref (b 32), .ref (b 33), .int (mf 34), .int (mf 35), .ref (b 36), .ref (b 37), .ref (b 38), .ref (b 39), .ref (b 40), .ref (b 41), .int (mf 42)])), ((b 1), .inl (G.2.2.1, 6, .inl op))] H := hP
  have hD : va_D A [(y, .inr (7, [.int 1, .ref (b 1), .ref (b 2), .ref (b 3), .ref (b 4), .ref (b 5), .ref (b 6), .ref (b 7), .ref (b 8), .ref (b 9), .ref (b 10), .ref (b 11), .ref (b 12), .ref (b 13), .ref (b 14), .ref (b 15), .ref (b 16), .ref (b 17), .ref (b 18), .ref (b 19), .int (mf 20), .int (mf 21), .ref (b 22), .ref (b 23), .ref (b 24), .ref (b 25), .ref (b 26), .int (mf 27), .int (mf 28), .ref (b 29), .ref (b 30), .ref (b 31), .ref (b 32), .ref (b 33), .int (mf 34), .int (mf 35), .ref (b 36), .ref (b 37), .ref (b 38), .ref (b 39), .ref (b 40), .ref (b 41), .int (mf 42)])), ((b 1), .inl (G.2.2.1, 6, .inl op))] := hD
  refine lv_aload_n hx hb dX7_fewest_17 rfl (lv_at hl 0 rfl) ?_
  refine va_get (D := G.1) (ci := 7) (v := .int 1) (C := RX7) (T := TX7) (N := 43) hx hb hts inX7 hown hK.1 hP 0 rfl rfl 0 (by decide) (hts _ mf_X7_116) (fun _ h9 => h9) rfl dX7_fewest_18 ?_
  refine lv_if_le (tgt := 26) hx hb dX7_fewest_21 (by decide) (fun c3 => absurd c3 (by decide)) (fun _ => ?_)
  refine lv_iconst (v := -1) hx hb dX7_fewest_24 (by decide) ?_
  exact wr_iret hx hb hr hlocks hS hP rfl dX7_fewest_25
set_option maxHeartbeats 4000000 in
set_option maxRecDepth 100000 in
theorem k_X7_cost (l : Launch) (G : GG) (y : Nat) (b : Nat → Nat) (mf op : Nat → Int32) (p1 : Int32) (hcl : ∀ j, j < 6 → op j = 0) : WrI l yX7_cost cX7_cost 6 (some .int) ({ frames := 1, cells := 0, slots := 0, locals := 21 }) G (mW G y b mf op) [.ref y, .int p1] (fun r _ => r = -1) := by
  refine wr_entryI (by decide +kernel) (Nat.le_of_ble_eq_true rfl) ?_
  intro p e s m below meth c A C0 hP hK hD hA ls hl
  have hS : va_S A s.heap s.heap [] := va_S.rf
  obtain ⟨hx, hb, hml, hown, hts, hr, hlocks, hin⟩ := C0
  have hown : s.vm.findClass RX7 = some m.cls := hown
  have hl : lv_has ls 6 [(0, .ref y), (1, .int p1)] := hl
  refine lv_aload_n hx hb dX7_cost_0 rfl (lv_at hl 0 rfl) ?_
  refine lv_aload_n hx hb dX7_cost_1 rfl (lv_at hl 0 rfl) ?_
  refine lv_iload_n hx hb dX7_cost_2 rfl (lv_at hl 1 rfl) ?_
  refine rdV (rest := [.ref y]) (q0 := 0) ⟨hx, hb, hml, hown, hts⟩ (c_X7_isTable l G y b mf op p1) mi_yX7_isTable mv_yX7_isTable ml_X7_120 ⟨rfl, rfl, Nat.le_of_ble_eq_true rfl, Nat.le_of_ble_eq_true rfl⟩ hK (hP) rfl rfl rfl hl.1 rfl (Nat.le_of_ble_eq_true rfl) dX7_cost_3 ⟨Nat.zero_le _, Nat.zero_le _⟩ hS hA hP (fun r1 H locs hr1 hP hS => ?_)
  obtain rfl : r1 = 0 := it_zero hr1 hcl
  refine lv_if_eq (tgt := 13) hx hb dX7_cost_6 (by decide) (fun _ => ?_) (fun c2 => absurd (by decide) c2)
  refine lv_iconst (v := 1) hx hb dX7_cost_13 (by decide) ?_
  refine va_put (D := G.1) (ci := 7) (v := .int 1) (C := RX7) (T := TX7) (N := 43) hx hb hts inX7 tyX7 tyX7_ok nmX7 hown hK.1 hP hD hS 0 rfl rfl 0 (by decide) (hts _ mf_X7_116) (fun _ h9 => h9) rfl (tyX7_ok 0 (by decide)) (rfl) (rfl) (Nat.le_of_ble_eq_true rfl) dX7_cost_14 (fun H locs hP hD hS => ?_)
  have hP : PP G [(y, .inr (7, [.int 1, .ref (b 1), .ref (b 2), .ref (b 3), .ref (b 4), .ref (b 5), .ref (b 6), .ref (b 7), .ref (b 8), .ref (b 9), .ref (b 10), .ref (b 11), .ref (b 12), .ref (b 13), .ref (b 14), .ref (b 15), .ref (b 16), .ref (b 17), .ref (b 18), .ref (b 19), .int (mf 20), .int (mf 21), .ref (b 22), .ref (b 23), .ref (b 24), .ref (b 25), .ref (b 26), .int (mf 27), .int (mf 28), .ref (b 29), .ref (b 30), .ref (b 31), .ref (b 32), .ref (b 33), .int (mf 34), .int (mf 35), .ref (b 36), .ref (b 37), .ref (b 38), .ref (b 39), .ref (b 40), .ref (b 41), .int (mf 42)])), ((b 1), .inl (G.2.2.1, 6, .inl op))] H := hP
  have hD : va_D A [(y, .inr (7, [.int 1, .ref (b 1), .ref (b 2), .ref (b 3), .ref (b 4), .ref (b 5), .ref (b 6), .ref (b 7), .ref (b 8), .ref (b 9), .ref (b 10), .ref (b 11), .ref (b 12), .ref (b 13), .ref (b 14), .ref (b 15), .ref (b 16), .ref (b 17), .ref (b 18), .ref (b 19), .int (mf 20), .int (mf 21), .ref (b 22), .ref (b 23), .ref (b 24), .ref (b 25), .ref (b 26), .int (mf 27), .int (mf 28), .ref (b 29), .ref (b 30), .ref (b 31), .ref (b 32), .ref (b 33), .int (mf 34), .int (mf 35), .ref (b 36), .ref (b 37), .ref (b 38), .ref (b 39), .ref (b 40), .ref (b 41), .int (mf 42)])), ((b 1), .inl (G.2.2.1, 6, .inl op))] := hD
  refine lv_aload_n hx hb dX7_cost_17 rfl (lv_at hl 0 rfl) ?_
  refine va_get (D := G.1) (ci := 7) (v := .int 1) (C := RX7) (T := TX7) (N := 43) hx hb hts inX7 hown hK.1 hP 0 rfl rfl 0 (by decide) (hts _ mf_X7_116) (fun _ h9 => h9) rfl dX7_cost_18 ?_
  refine lv_if_le (tgt := 26) hx hb dX7_cost_21 (by decide) (fun c3 => absurd c3 (by decide)) (fun _ => ?_)
  refine lv_iconst (v := -1) hx hb dX7_cost_24 (by decide) ?_
  exact wr_iret hx hb hr hlocks hS hP rfl dX7_cost_25
set_option maxHeartbeats 4000000 in
set_option maxRecDepth 100000 in
theorem k_X7_round (l : Launch) (G : GG) (y : Nat) (b : Nat → Nat) (mf op : Nat → Int32) (p1 p2 : Int32) (hcl : ∀ j, j < 6 → op j = 0) : WrI l yX7_round cX7_round 7 (some .int) ({ frames := 1, cells := 0, slots := 0, locals := 21 }) G (mW G y b mf op) [.ref y, .int p1, .int p2] (fun r _ => r = -1) := by
  refine wr_entryI (by decide +kernel) (Nat.le_of_ble_eq_true rfl) ?_
  intro p e s m below meth c A C0 hP hK hD hA ls hl
  have hS : va_S A s.heap s.heap [] := va_S.rf
  obtain ⟨hx, hb, hml, hown, hts, hr, hlocks, hin⟩ := C0
  have hown : s.vm.findClass RX7 = some m.cls := hown
  have hl : lv_has ls 7 [(0, .ref y), (1, .int p1), (2, .int p2)] := hl
  refine lv_aload_n hx hb dX7_round_0 rfl (lv_at hl 0 rfl) ?_
  refine lv_aload_n hx hb dX7_round_1 rfl (lv_at hl 0 rfl) ?_
  refine lv_iload_n hx hb dX7_round_2 rfl (lv_at hl 1 rfl) ?_
  refine rdV (rest := [.ref y]) (q0 := 0) ⟨hx, hb, hml, hown, hts⟩ (c_X7_isTable l G y b mf op p1) mi_yX7_isTable mv_yX7_isTable ml_X7_120 ⟨rfl, rfl, Nat.le_of_ble_eq_true rfl, Nat.le_of_ble_eq_true rfl⟩ hK (hP) rfl rfl rfl hl.1 rfl (Nat.le_of_ble_eq_true rfl) dX7_round_3 ⟨Nat.zero_le _, Nat.zero_le _⟩ hS hA hP (fun r1 H locs hr1 hP hS => ?_)
  obtain rfl : r1 = 0 := it_zero hr1 hcl
  refine lv_if_ne (tgt := 13) hx hb dX7_round_6 (by decide) (fun c2 => absurd (by decide) c2) (fun _ => ?_)
  refine lv_iconst (v := 1) hx hb dX7_round_9 (by decide) ?_
  refine lv_goto (tgt := 31) hx hb dX7_round_10 (by decide) ?_
  refine va_put (D := G.1) (ci := 7) (v := .int 1) (C := RX7) (T := TX7) (N := 43) hx hb hts inX7 tyX7 tyX7_ok nmX7 hown hK.1 hP hD hS 0 rfl rfl 0 (by decide) (hts _ mf_X7_116) (fun _ h9 => h9) rfl (tyX7_ok 0 (by decide)) (rfl) (rfl) (Nat.le_of_ble_eq_true rfl) dX7_round_31 (fun H locs hP hD hS => ?_)
  have hP : PP G [(y, .inr (7, [.int 1, .ref (b 1), .ref (b 2), .ref (b 3), .ref (b 4), .ref (b 5), .ref (b 6), .ref (b 7), .ref (b 8), .ref (b 9), .ref (b 10), .ref (b 11), .ref (b 12), .ref (b 13), .ref (b 14), .ref (b 15), .ref (b 16), .ref (b 17), .ref (b 18), .ref (b 19), .int (mf 20), .int (mf 21), .ref (b 22), .ref (b 23), .ref (b 24), .ref (b 25), .ref (b 26), .int (mf 27), .int (mf 28), .ref (b 29), .ref (b 30), .ref (b 31), .ref (b 32), .ref (b 33), .int (mf 34), .int (mf 35), .ref (b 36), .ref (b 37), .ref (b 38), .ref (b 39), .ref (b 40), .ref (b 41), .int (mf 42)])), ((b 1), .inl (G.2.2.1, 6, .inl op))] H := hP
  have hD : va_D A [(y, .inr (7, [.int 1, .ref (b 1), .ref (b 2), .ref (b 3), .ref (b 4), .ref (b 5), .ref (b 6), .ref (b 7), .ref (b 8), .ref (b 9), .ref (b 10), .ref (b 11), .ref (b 12), .ref (b 13), .ref (b 14), .ref (b 15), .ref (b 16), .ref (b 17), .ref (b 18), .ref (b 19), .int (mf 20), .int (mf 21), .ref (b 22), .ref (b 23), .ref (b 24), .ref (b 25), .ref (b 26), .int (mf 27), .int (mf 28), .ref (b 29), .ref (b 30), .ref (b 31), .ref (b 32), .ref (b 33), .int (mf 34), .int (mf 35), .ref (b 36), .ref (b 37), .ref (b 38), .ref (b 39), .ref (b 40), .ref (b 41), .int (mf 42)])), ((b 1), .inl (G.2.2.1, 6, .inl op))] := hD
  refine lv_aload_n hx hb dX7_round_34 rfl (lv_at hl 0 rfl) ?_
  refine va_get (D := G.1) (ci := 7) (v := .int 1) (C := RX7) (T := TX7) (N := 43) hx hb hts inX7 hown hK.1 hP 0 rfl rfl 0 (by decide) (hts _ mf_X7_116) (fun _ h9 => h9) rfl dX7_round_35 ?_
  refine lv_if_le (tgt := 43) hx hb dX7_round_38 (by decide) (fun c3 => absurd c3 (by decide)) (fun _ => ?_)
  refine lv_iconst (v := -1) hx hb dX7_round_41 (by decide) ?_
  exact wr_iret hx hb hr hlocks hS hP rfl dX7_round_42
set_option maxHeartbeats 4000000 in
set_option maxRecDepth 100000 in
theorem k_X7_give (l : Launch) (G : GG) (y : Nat) (b : Nat → Nat) (mf op : Nat → Int32) (p1 : Int32) (hcl : ∀ j, j < 6 → op j = 0) : WrI l yX7_give cX7_give 6 (some .int) ({ frames := 1, cells := 0, slots := 0, locals := 21 }) G (mW G y b mf op) [.ref y, .int p1] (fun r _ => r = -1) := by
  refine wr_entryI (by decide +kernel) (Nat.le_of_ble_eq_true rfl) ?_
  intro p e s m below meth c A C0 hP hK hD hA ls hl
  have hS : va_S A s.heap s.heap [] := va_S.rf
  obtain ⟨hx, hb, hml, hown, hts, hr, hlocks, hin⟩ := C0
  have hown : s.vm.findClass RX7 = some m.cls := hown
  have hl : lv_has ls 6 [(0, .ref y), (1, .int p1)] := hl
  refine lv_aload_n hx hb dX7_give_0 rfl (lv_at hl 0 rfl) ?_
  refine lv_aload_n hx hb dX7_give_1 rfl (lv_at hl 0 rfl) ?_
  refine lv_iload_n hx hb dX7_give_2 rfl (lv_at hl 1 rfl) ?_
  refine rdV (rest := [.ref y]) (q0 := 0) ⟨hx, hb, hml, hown, hts⟩ (c_X7_isTable l G y b mf op p1) mi_yX7_isTable mv_yX7_isTable ml_X7_120 ⟨rfl, rfl, Nat.le_of_ble_eq_true rfl, Nat.le_of_ble_eq_true rfl⟩ hK (hP) rfl rfl rfl hl.1 rfl (Nat.le_of_ble_eq_true rfl) dX7_give_3 ⟨Nat.zero_le _, Nat.zero_le _⟩ hS hA hP (fun r1 H locs hr1 hP hS => ?_)
  obtain rfl : r1 = 0 := it_zero hr1 hcl
  refine lv_if_ne (tgt := 13) hx hb dX7_give_6 (by decide) (fun c2 => absurd (by decide) c2) (fun _ => ?_)
  refine lv_iconst (v := 1) hx hb dX7_give_9 (by decide) ?_
  refine lv_goto (tgt := 43) hx hb dX7_give_10 (by decide) ?_
  refine va_put (D := G.1) (ci := 7) (v := .int 1) (C := RX7) (T := TX7) (N := 43) hx hb hts inX7 tyX7 tyX7_ok nmX7 hown hK.1 hP hD hS 0 rfl rfl 0 (by decide) (hts _ mf_X7_116) (fun _ h9 => h9) rfl (tyX7_ok 0 (by decide)) (rfl) (rfl) (Nat.le_of_ble_eq_true rfl) dX7_give_43 (fun H locs hP hD hS => ?_)
  have hP : PP G [(y, .inr (7, [.int 1, .ref (b 1), .ref (b 2), .ref (b 3), .ref (b 4), .ref (b 5), .ref (b 6), .ref (b 7), .ref (b 8), .ref (b 9), .ref (b 10), .ref (b 11), .ref (b 12), .ref (b 13), .ref (b 14), .ref (b 15), .ref (b 16), .ref (b 17), .ref (b 18), .ref (b 19), .int (mf 20), .int (mf 21), .ref (b 22), .ref (b 23), .ref (b 24), .ref (b 25), .ref (b 26), .int (mf 27), .int (mf 28), .ref (b 29), .ref (b 30), .ref (b 31), .ref (b 32), .ref (b 33), .int (mf 34), .int (mf 35), .ref (b 36), .ref (b 37), .ref (b 38), .ref (b 39), .ref (b 40), .ref (b 41), .int (mf 42)])), ((b 1), .inl (G.2.2.1, 6, .inl op))] H := hP
  have hD : va_D A [(y, .inr (7, [.int 1, .ref (b 1), .ref (b 2), .ref (b 3), .ref (b 4), .ref (b 5), .ref (b 6), .ref (b 7), .ref (b 8), .ref (b 9), .ref (b 10), .ref (b 11), .ref (b 12), .ref (b 13), .ref (b 14), .ref (b 15), .ref (b 16), .ref (b 17), .ref (b 18), .ref (b 19), .int (mf 20), .int (mf 21), .ref (b 22), .ref (b 23), .ref (b 24), .ref (b 25), .ref (b 26), .int (mf 27), .int (mf 28), .ref (b 29), .ref (b 30), .ref (b 31), .ref (b 32), .ref (b 33), .int (mf 34), .int (mf 35), .ref (b 36), .ref (b 37), .ref (b 38), .ref (b 39), .ref (b 40), .ref (b 41), .int (mf 42)])), ((b 1), .inl (G.2.2.1, 6, .inl op))] := hD
  refine lv_aload_n hx hb dX7_give_46 rfl (lv_at hl 0 rfl) ?_
  refine va_get (D := G.1) (ci := 7) (v := .int 1) (C := RX7) (T := TX7) (N := 43) hx hb hts inX7 hown hK.1 hP 0 rfl rfl 0 (by decide) (hts _ mf_X7_116) (fun _ h9 => h9) rfl dX7_give_47 ?_
  refine lv_if_le (tgt := 55) hx hb dX7_give_50 (by decide) (fun c3 => absurd c3 (by decide)) (fun _ => ?_)
  refine lv_iconst (v := -1) hx hb dX7_give_53 (by decide) ?_
  exact wr_iret hx hb hr hlocks hS hP rfl dX7_give_54
set_option maxHeartbeats 4000000 in
set_option maxRecDepth 100000 in
theorem k_X7_status (l : Launch) (G : GG) (y : Nat) (b : Nat → Nat) : RdI l yX7_status cX7_status 1 (some .int) ({ frames := 0, cells := 0, slots := 0, locals := 0 }) G ([(y, .inr (7, [.int 0, .ref (b 1), .ref (b 2), .ref (b 3), .ref (b 4), .ref (b 5), .ref (b 6), .ref (b 7), .ref (b 8), .ref (b 9), .ref (b 10), .ref (b 11), .ref (b 12), .ref (b 13), .ref (b 14), .ref (b 15), .ref (b 16), .ref (b 17), .ref (b 18), .ref (b 19), .int 0, .int 0, .ref (b 22), .ref (b 23), .ref (b 24), .ref (b 25), .ref (b 26), .int 0, .int 0, .ref (b 29), .ref (b 30), .ref (b 31), .ref (b 32), .ref (b 33), .int 0, .int 0, .ref (b 36), .ref (b 37), .ref (b 38), .ref (b 39), .ref (b 40), .ref (b 41), .int 0]))]) [.ref y] (fun r => r = 0) := by
  refine rd_entry (by decide +kernel) (Nat.le_of_ble_eq_true rfl) ?_
  intro p e s m below meth c C0 hP hK ls hl
  have hS : va_S (fun q => s.heap.size ≤ q) s.heap s.heap [] := va_S.rf
  have hA : ∀ q, s.heap.size ≤ q → (fun q => s.heap.size ≤ q) q := fun _ h => h
  obtain ⟨hx, hb, hml, hown, hts, hr, hlocks, hin⟩ := C0
  have hown : s.vm.findClass RX7 = some m.cls := hown
  have hl : lv_has ls 1 [(0, .ref y)] := hl
  refine lv_aload_n hx hb dX7_status_0 rfl (lv_at hl 0 rfl) ?_
  refine va_get (D := G.1) (ci := 7) (v := .int 0) (C := RX7) (T := TX7) (N := 43) hx hb hts inX7 hown hK.1 hP 0 rfl rfl 0 (by decide) (hts _ mf_X7_116) (fun _ h9 => h9) rfl dX7_status_1 ?_
  exact rd_iret hx hb hr hlocks hS rfl dX7_status_4
set_option maxHeartbeats 4000000 in
set_option maxRecDepth 100000 in
theorem k_X7_seen (l : Launch) (G : GG) (y : Nat) (b : Nat → Nat) (p1 p2 : Int32) : RdI l yX7_seen cX7_seen 3 (some .int) ({ frames := 0, cells := 0, slots := 0, locals := 0 }) G ([(y, .inr (7, [.int 0, .ref (b 1), .ref (b 2), .ref (b 3), .ref (b 4), .ref (b 5), .ref (b 6), .ref (b 7), .ref (b 8), .ref (b 9), .ref (b 10), .ref (b 11), .ref (b 12), .ref (b 13), .ref (b 14), .ref (b 15), .ref (b 16), .ref (b 17), .ref (b 18), .ref (b 19), .int 0, .int 0, .ref (b 22), .ref (b 23), .ref (b 24), .ref (b 25), .ref (b 26), .int 0, .int 0, .ref (b 29), .ref (b 30), .ref (b 31), .ref (b 32), .ref (b 33), .int 0, .int 0, .ref (b 36), .ref (b 37), .ref (b 38), .ref (b 39), .ref (b 40), .ref (b 41), .int 0]))]) [.ref y, .int p1, .int p2] (fun r => r = -1) := by
  refine rd_entry (by decide +kernel) (Nat.le_of_ble_eq_true rfl) ?_
  intro p e s m below meth c C0 hP hK ls hl
  have hS : va_S (fun q => s.heap.size ≤ q) s.heap s.heap [] := va_S.rf
  have hA : ∀ q, s.heap.size ≤ q → (fun q => s.heap.size ≤ q) q := fun _ h => h
  obtain ⟨hx, hb, hml, hown, hts, hr, hlocks, hin⟩ := C0
  have hown : s.vm.findClass RX7 = some m.cls := hown
  have hl : lv_has ls 3 [(0, .ref y), (1, .int p1), (2, .int p2)] := hl
  refine lv_iload_n hx hb dX7_seen_0 rfl (lv_at hl 1 rfl) ?_
  refine lv_if_lt (tgt := 35) hx hb dX7_seen_1 (by decide) (fun c1 => ?_) (fun c1 => ?_)
  · refine lv_iconst (v := -1) hx hb dX7_seen_35 (by decide) ?_
    exact rd_iret hx hb hr hlocks hS rfl dX7_seen_36
  · refine lv_iload_n hx hb dX7_seen_4 rfl (lv_at hl 1 rfl) ?_
    refine lv_aload_n hx hb dX7_seen_5 rfl (lv_at hl 0 rfl) ?_
    refine va_get (D := G.1) (ci := 7) (v := .int 0) (C := RX7) (T := TX7) (N := 43) hx hb hts inX7 hown hK.1 hP 0 rfl rfl 27 (by decide) (hts _ mf_X7_233) (fun _ h9 => h9) rfl dX7_seen_6 ?_
    refine lv_icmp_ge (tgt := 35) hx hb dX7_seen_9 (by decide) (fun _ => ?_) (fun c2 => absurd (ge_0 c1) c2)
    refine lv_iconst (v := -1) hx hb dX7_seen_35 (by decide) ?_
    exact rd_iret hx hb hr hlocks hS rfl dX7_seen_36
set_option maxHeartbeats 4000000 in
set_option maxRecDepth 100000 in
theorem k_X7_rounded (l : Launch) (G : GG) (y : Nat) (b : Nat → Nat) (p1 p2 : Int32) : RdI l yX7_rounded cX7_rounded 3 (some .int) ({ frames := 0, cells := 0, slots := 0, locals := 0 }) G ([(y, .inr (7, [.int 0, .ref (b 1), .ref (b 2), .ref (b 3), .ref (b 4), .ref (b 5), .ref (b 6), .ref (b 7), .ref (b 8), .ref (b 9), .ref (b 10), .ref (b 11), .ref (b 12), .ref (b 13), .ref (b 14), .ref (b 15), .ref (b 16), .ref (b 17), .ref (b 18), .ref (b 19), .int 0, .int 0, .ref (b 22), .ref (b 23), .ref (b 24), .ref (b 25), .ref (b 26), .int 0, .int 0, .ref (b 29), .ref (b 30), .ref (b 31), .ref (b 32), .ref (b 33), .int 0, .int 0, .ref (b 36), .ref (b 37), .ref (b 38), .ref (b 39), .ref (b 40), .ref (b 41), .int 0]))]) [.ref y, .int p1, .int p2] (fun r => r = -1) := by
  refine rd_entry (by decide +kernel) (Nat.le_of_ble_eq_true rfl) ?_
  intro p e s m below meth c C0 hP hK ls hl
  have hS : va_S (fun q => s.heap.size ≤ q) s.heap s.heap [] := va_S.rf
  have hA : ∀ q, s.heap.size ≤ q → (fun q => s.heap.size ≤ q) q := fun _ h => h
  obtain ⟨hx, hb, hml, hown, hts, hr, hlocks, hin⟩ := C0
  have hown : s.vm.findClass RX7 = some m.cls := hown
  have hl : lv_has ls 3 [(0, .ref y), (1, .int p1), (2, .int p2)] := hl
  refine lv_iload_n hx hb dX7_rounded_0 rfl (lv_at hl 1 rfl) ?_
  refine lv_if_lt (tgt := 35) hx hb dX7_rounded_1 (by decide) (fun c1 => ?_) (fun c1 => ?_)
  · refine lv_iconst (v := -1) hx hb dX7_rounded_35 (by decide) ?_
    exact rd_iret hx hb hr hlocks hS rfl dX7_rounded_36
  · refine lv_iload_n hx hb dX7_rounded_4 rfl (lv_at hl 1 rfl) ?_
    refine lv_aload_n hx hb dX7_rounded_5 rfl (lv_at hl 0 rfl) ?_
    refine va_get (D := G.1) (ci := 7) (v := .int 0) (C := RX7) (T := TX7) (N := 43) hx hb hts inX7 hown hK.1 hP 0 rfl rfl 34 (by decide) (hts _ mf_X7_265) (fun _ h9 => h9) rfl dX7_rounded_6 ?_
    refine lv_icmp_ge (tgt := 35) hx hb dX7_rounded_9 (by decide) (fun _ => ?_) (fun c2 => absurd (ge_0 c1) c2)
    refine lv_iconst (v := -1) hx hb dX7_rounded_35 (by decide) ?_
    exact rd_iret hx hb hr hlocks hS rfl dX7_rounded_36
set_option maxHeartbeats 4000000 in
set_option maxRecDepth 100000 in
theorem k_X7_cut (l : Launch) (G : GG) (y : Nat) (b : Nat → Nat) (p1 p2 : Int32) : RdI l yX7_cut cX7_cut 3 (some .int) ({ frames := 0, cells := 0, slots := 0, locals := 0 }) G ([(y, .inr (7, [.int 0, .ref (b 1), .ref (b 2), .ref (b 3), .ref (b 4), .ref (b 5), .ref (b 6), .ref (b 7), .ref (b 8), .ref (b 9), .ref (b 10), .ref (b 11), .ref (b 12), .ref (b 13), .ref (b 14), .ref (b 15), .ref (b 16), .ref (b 17), .ref (b 18), .ref (b 19), .int 0, .int 0, .ref (b 22), .ref (b 23), .ref (b 24), .ref (b 25), .ref (b 26), .int 0, .int 0, .ref (b 29), .ref (b 30), .ref (b 31), .ref (b 32), .ref (b 33), .int 0, .int 0, .ref (b 36), .ref (b 37), .ref (b 38), .ref (b 39), .ref (b 40), .ref (b 41), .int 0]))]) [.ref y, .int p1, .int p2] (fun r => r = -1) := by
  refine rd_entry (by decide +kernel) (Nat.le_of_ble_eq_true rfl) ?_
  intro p e s m below meth c C0 hP hK ls hl
  have hS : va_S (fun q => s.heap.size ≤ q) s.heap s.heap [] := va_S.rf
  have hA : ∀ q, s.heap.size ≤ q → (fun q => s.heap.size ≤ q) q := fun _ h => h
  obtain ⟨hx, hb, hml, hown, hts, hr, hlocks, hin⟩ := C0
  have hown : s.vm.findClass RX7 = some m.cls := hown
  have hl : lv_has ls 3 [(0, .ref y), (1, .int p1), (2, .int p2)] := hl
  refine lv_iload_n hx hb dX7_cut_0 rfl (lv_at hl 2 rfl) ?_
  refine lv_if_lt (tgt := 23) hx hb dX7_cut_1 (by decide) (fun c1 => ?_) (fun c1 => ?_)
  · refine lv_iconst (v := -1) hx hb dX7_cut_23 (by decide) ?_
    exact rd_iret hx hb hr hlocks hS rfl dX7_cut_24
  · refine lv_iload_n hx hb dX7_cut_4 rfl (lv_at hl 2 rfl) ?_
    refine lv_iload_n hx hb dX7_cut_5 rfl (lv_at hl 1 rfl) ?_
    refine lv_if_eq (tgt := 16) hx hb dX7_cut_6 (by decide) (fun c2 => ?_) (fun c2 => ?_)
    · refine lv_aload_n hx hb dX7_cut_16 rfl (lv_at hl 0 rfl) ?_
      refine va_get (D := G.1) (ci := 7) (v := .int 0) (C := RX7) (T := TX7) (N := 43) hx hb hts inX7 hown hK.1 hP 0 rfl rfl 28 (by decide) (hts _ mf_X7_236) (fun _ h9 => h9) rfl dX7_cut_17 ?_
      refine lv_icmp_lt (tgt := 25) hx hb dX7_cut_20 (by decide) (fun c3 => absurd c3 (c1)) (fun _ => ?_)
      refine lv_iconst (v := -1) hx hb dX7_cut_23 (by decide) ?_
      exact rd_iret hx hb hr hlocks hS rfl dX7_cut_24
    · refine lv_aload_n hx hb dX7_cut_9 rfl (lv_at hl 0 rfl) ?_
      refine va_get (D := G.1) (ci := 7) (v := .int 0) (C := RX7) (T := TX7) (N := 43) hx hb hts inX7 hown hK.1 hP 0 rfl rfl 27 (by decide) (hts _ mf_X7_233) (fun _ h9 => h9) rfl dX7_cut_10 ?_
      refine lv_goto (tgt := 20) hx hb dX7_cut_13 (by decide) ?_
      refine lv_icmp_lt (tgt := 25) hx hb dX7_cut_20 (by decide) (fun c4 => absurd c4 (c1)) (fun _ => ?_)
      refine lv_iconst (v := -1) hx hb dX7_cut_23 (by decide) ?_
      exact rd_iret hx hb hr hlocks hS rfl dX7_cut_24
set_option maxHeartbeats 4000000 in
set_option maxRecDepth 100000 in
theorem k_X7_isIn (l : Launch) (G : GG) (y : Nat) (b : Nat → Nat) (p1 p2 p3 : Int32) : RdI l yX7_isIn cX7_isIn 4 (some .boolean) ({ frames := 0, cells := 0, slots := 0, locals := 0 }) G ([(y, .inr (7, [.int 0, .ref (b 1), .ref (b 2), .ref (b 3), .ref (b 4), .ref (b 5), .ref (b 6), .ref (b 7), .ref (b 8), .ref (b 9), .ref (b 10), .ref (b 11), .ref (b 12), .ref (b 13), .ref (b 14), .ref (b 15), .ref (b 16), .ref (b 17), .ref (b 18), .ref (b 19), .int 0, .int 0, .ref (b 22), .ref (b 23), .ref (b 24), .ref (b 25), .ref (b 26), .int 0, .int 0, .ref (b 29), .ref (b 30), .ref (b 31), .ref (b 32), .ref (b 33), .int 0, .int 0, .ref (b 36), .ref (b 37), .ref (b 38), .ref (b 39), .ref (b 40), .ref (b 41), .int 0]))]) [.ref y, .int p1, .int p2, .int p3] (fun r => r = 0) := by
  refine rd_entry (by decide +kernel) (Nat.le_of_ble_eq_true rfl) ?_
  intro p e s m below meth c C0 hP hK ls hl
  have hS : va_S (fun q => s.heap.size ≤ q) s.heap s.heap [] := va_S.rf
  have hA : ∀ q, s.heap.size ≤ q → (fun q => s.heap.size ≤ q) q := fun _ h => h
  obtain ⟨hx, hb, hml, hown, hts, hr, hlocks, hin⟩ := C0
  have hown : s.vm.findClass RX7 = some m.cls := hown
  have hl : lv_has ls 4 [(0, .ref y), (1, .int p1), (2, .int p2), (3, .int p3)] := hl
  refine lv_iload_n hx hb dX7_isIn_0 rfl (lv_at hl 1 rfl) ?_
  refine lv_if_lt (tgt := 44) hx hb dX7_isIn_1 (by decide) (fun c1 => ?_) (fun c1 => ?_)
  · refine lv_iconst (v := 0) hx hb dX7_isIn_44 (by decide) ?_
    exact rd_zret hx hb hr hlocks (Or.inl rfl) hS rfl dX7_isIn_45
  · refine lv_iload_n hx hb dX7_isIn_4 rfl (lv_at hl 1 rfl) ?_
    refine lv_aload_n hx hb dX7_isIn_5 rfl (lv_at hl 0 rfl) ?_
    refine va_get (D := G.1) (ci := 7) (v := .int 0) (C := RX7) (T := TX7) (N := 43) hx hb hts inX7 hown hK.1 hP 0 rfl rfl 42 (by decide) (hts _ mf_X7_274) (fun _ h9 => h9) rfl dX7_isIn_6 ?_
    refine lv_icmp_ge (tgt := 44) hx hb dX7_isIn_9 (by decide) (fun _ => ?_) (fun c2 => absurd (ge_0 c1) c2)
    refine lv_iconst (v := 0) hx hb dX7_isIn_44 (by decide) ?_
    exact rd_zret hx hb hr hlocks (Or.inl rfl) hS rfl dX7_isIn_45
set_option maxHeartbeats 4000000 in
set_option maxRecDepth 100000 in
theorem k_X7_gift (l : Launch) (G : GG) (y : Nat) (b : Nat → Nat) (p1 p2 p3 : Int32) : RdI l yX7_gift cX7_gift 4 (some .int) ({ frames := 1, cells := 0, slots := 0, locals := 23 }) G ([(y, .inr (7, [.int 0, .ref (b 1), .ref (b 2), .ref (b 3), .ref (b 4), .ref (b 5), .ref (b 6), .ref (b 7), .ref (b 8), .ref (b 9), .ref (b 10), .ref (b 11), .ref (b 12), .ref (b 13), .ref (b 14), .ref (b 15), .ref (b 16), .ref (b 17), .ref (b 18), .ref (b 19), .int 0, .int 0, .ref (b 22), .ref (b 23), .ref (b 24), .ref (b 25), .ref (b 26), .int 0, .int 0, .ref (b 29), .ref (b 30), .ref (b 31), .ref (b 32), .ref (b 33), .int 0, .int 0, .ref (b 36), .ref (b 37), .ref (b 38), .ref (b 39), .ref (b 40), .ref (b 41), .int 0]))]) [.ref y, .int p1, .int p2, .int p3] (fun r => r = -1) := by
  refine rd_entry (by decide +kernel) (Nat.le_of_ble_eq_true rfl) ?_
  intro p e s m below meth c C0 hP hK ls hl
  have hS : va_S (fun q => s.heap.size ≤ q) s.heap s.heap [] := va_S.rf
  have hA : ∀ q, s.heap.size ≤ q → (fun q => s.heap.size ≤ q) q := fun _ h => h
  obtain ⟨hx, hb, hml, hown, hts, hr, hlocks, hin⟩ := C0
  have hown : s.vm.findClass RX7 = some m.cls := hown
  have hl : lv_has ls 4 [(0, .ref y), (1, .int p1), (2, .int p2), (3, .int p3)] := hl
  refine lv_aload_n hx hb dX7_gift_0 rfl (lv_at hl 0 rfl) ?_
  refine lv_iload_n hx hb dX7_gift_1 rfl (lv_at hl 1 rfl) ?_
  refine lv_iload_n hx hb dX7_gift_2 rfl (lv_at hl 2 rfl) ?_
  refine lv_iload_n hx hb dX7_gift_3 rfl (lv_at hl 3 rfl) ?_
  refine rdV (rest := []) (q0 := 0) ⟨hx, hb, hml, hown, hts⟩ (k_X7_isIn l G y b p1 p2 p3) mi_yX7_isIn mv_yX7_isIn ml_X7_277 ⟨rfl, rfl, Nat.le_of_ble_eq_true rfl, Nat.le_of_ble_eq_true rfl⟩ hK (hP) rfl rfl rfl hl.1 rfl (Nat.le_of_ble_eq_true rfl) dX7_gift_4 ⟨Nat.zero_le _, Nat.zero_le _⟩ hS hA hP (fun r1 H locs hr1 hP hS => ?_)
  obtain rfl : r1 = 0 := hr1
  refine lv_if_eq (tgt := 30) hx hb dX7_gift_7 (by decide) (fun _ => ?_) (fun c2 => absurd (by decide) c2)
  refine lv_iconst (v := -1) hx hb dX7_gift_30 (by decide) ?_
  exact rd_iret hx hb hr hlocks hS rfl dX7_gift_31
set_option maxHeartbeats 4000000 in
set_option maxRecDepth 100000 in
theorem k_X7_agree (l : Launch) (G : GG) (y : Nat) (b : Nat → Nat) (p1 p2 : Int32) : RdI l yX7_agree cX7_agree 7 (some .int) ({ frames := 0, cells := 0, slots := 0, locals := 0 }) G ([(y, .inr (7, [.int 0, .ref (b 1), .ref (b 2), .ref (b 3), .ref (b 4), .ref (b 5), .ref (b 6), .ref (b 7), .ref (b 8), .ref (b 9), .ref (b 10), .ref (b 11), .ref (b 12), .ref (b 13), .ref (b 14), .ref (b 15), .ref (b 16), .ref (b 17), .ref (b 18), .ref (b 19), .int 0, .int 0, .ref (b 22), .ref (b 23), .ref (b 24), .ref (b 25), .ref (b 26), .int 0, .int 0, .ref (b 29), .ref (b 30), .ref (b 31), .ref (b 32), .ref (b 33), .int 0, .int 0, .ref (b 36), .ref (b 37), .ref (b 38), .ref (b 39), .ref (b 40), .ref (b 41), .int 0]))]) [.ref y, .int p1, .int p2] (fun r => r = -1) := by
  refine rd_entry (by decide +kernel) (Nat.le_of_ble_eq_true rfl) ?_
  intro p e s m below meth c C0 hP hK ls hl
  have hS : va_S (fun q => s.heap.size ≤ q) s.heap s.heap [] := va_S.rf
  have hA : ∀ q, s.heap.size ≤ q → (fun q => s.heap.size ≤ q) q := fun _ h => h
  obtain ⟨hx, hb, hml, hown, hts, hr, hlocks, hin⟩ := C0
  have hown : s.vm.findClass RX7 = some m.cls := hown
  have hl : lv_has ls 7 [(0, .ref y), (1, .int p1), (2, .int p2)] := hl
  refine lv_iload_n hx hb dX7_agree_0 rfl (lv_at hl 1 rfl) ?_
  refine lv_if_lt (tgt := 24) hx hb dX7_agree_1 (by decide) (fun c1 => ?_) (fun c1 => ?_)
  · refine lv_iconst (v := -1) hx hb dX7_agree_24 (by decide) ?_
    exact rd_iret hx hb hr hlocks hS rfl dX7_agree_25
  · refine lv_iload_n hx hb dX7_agree_4 rfl (lv_at hl 2 rfl) ?_
    refine lv_if_lt (tgt := 24) hx hb dX7_agree_5 (by decide) (fun c2 => ?_) (fun c2 => ?_)
    · refine lv_iconst (v := -1) hx hb dX7_agree_24 (by decide) ?_
      exact rd_iret hx hb hr hlocks hS rfl dX7_agree_25
    · refine lv_iload_n hx hb dX7_agree_8 rfl (lv_at hl 1 rfl) ?_
      refine lv_aload_n hx hb dX7_agree_9 rfl (lv_at hl 0 rfl) ?_
      refine va_get (D := G.1) (ci := 7) (v := .int 0) (C := RX7) (T := TX7) (N := 43) hx hb hts inX7 hown hK.1 hP 0 rfl rfl 42 (by decide) (hts _ mf_X7_274) (fun _ h9 => h9) rfl dX7_agree_10 ?_
      refine lv_icmp_ge (tgt := 24) hx hb dX7_agree_13 (by decide) (fun _ => ?_) (fun c3 => absurd (ge_0 c1) c3)
      refine lv_iconst (v := -1) hx hb dX7_agree_24 (by decide) ?_
      exact rd_iret hx hb hr hlocks hS rfl dX7_agree_25
