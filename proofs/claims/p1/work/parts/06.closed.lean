theorem ml_X6_73 : Cond.methodLink RX6 73 yX6_tableStatus ∈ TB := TB_t2 86 (by decide +kernel) rfl
theorem mz_RX6 : Cond.initialized RX6 ∈ TB := TB_t1 1 (by decide +kernel) rfl
theorem mcode_yX6_tableStatus : Cond.code yX6_tableStatus cX6_tableStatus 2 (some .int) ∈ TB := TB_t2 89 (by decide +kernel) rfl
theorem mi_yX6_tableStatus : MI yX6_tableStatus cX6_tableStatus 2 (some .int) 1 := ⟨mz_RX6, mcode_yX6_tableStatus, by decide +kernel, by decide +kernel, by decide +kernel⟩
theorem mim_yX6_tableStatus : Cond.instanceMethod yX6_tableStatus ∈ TB := TB_t2 88 (by decide +kernel) rfl
theorem msel_yX6_tableStatus : Cond.selects yX6_tableStatus.cls yX6_tableStatus yX6_tableStatus ∈ TB := TB_s (n := 10) 1 (by decide +kernel)
theorem mv_yX6_tableStatus : Cond.instanceMethod yX6_tableStatus ∈ TB ∧ Cond.selects yX6_tableStatus.cls yX6_tableStatus yX6_tableStatus ∈ TB := ⟨mim_yX6_tableStatus, msel_yX6_tableStatus⟩
theorem ml_X6_110 : Cond.methodLink RX6 110 yX6_rowStatus ∈ TB := TB_t2 104 (by decide +kernel) rfl
theorem mcode_yX6_rowStatus : Cond.code yX6_rowStatus cX6_rowStatus 4 (some .int) ∈ TB := TB_t2 107 (by decide +kernel) rfl
theorem mi_yX6_rowStatus : MI yX6_rowStatus cX6_rowStatus 4 (some .int) 2 := ⟨mz_RX6, mcode_yX6_rowStatus, by decide +kernel, by decide +kernel, by decide +kernel⟩
theorem mim_yX6_rowStatus : Cond.instanceMethod yX6_rowStatus ∈ TB := TB_t2 106 (by decide +kernel) rfl
theorem msel_yX6_rowStatus : Cond.selects yX6_rowStatus.cls yX6_rowStatus yX6_rowStatus ∈ TB := TB_s (n := 10) 3 (by decide +kernel)
theorem mv_yX6_rowStatus : Cond.instanceMethod yX6_rowStatus ∈ TB ∧ Cond.selects yX6_rowStatus.cls yX6_rowStatus yX6_rowStatus ∈ TB := ⟨mim_yX6_rowStatus, msel_yX6_rowStatus⟩
theorem ml_X6_84 : Cond.methodLink RX6 84 yX6_placeStatus ∈ TB := TB_t2 100 (by decide +kernel) rfl
theorem mcode_yX6_placeStatus : Cond.code yX6_placeStatus cX6_placeStatus 6 (some .int) ∈ TB := TB_t2 103 (by decide +kernel) rfl
theorem mi_yX6_placeStatus : MI yX6_placeStatus cX6_placeStatus 6 (some .int) 3 := ⟨mz_RX6, mcode_yX6_placeStatus, by decide +kernel, by decide +kernel, by decide +kernel⟩
theorem mim_yX6_placeStatus : Cond.instanceMethod yX6_placeStatus ∈ TB := TB_t2 102 (by decide +kernel) rfl
theorem msel_yX6_placeStatus : Cond.selects yX6_placeStatus.cls yX6_placeStatus yX6_placeStatus ∈ TB := TB_s (n := 10) 2 (by decide +kernel)
theorem mv_yX6_placeStatus : Cond.instanceMethod yX6_placeStatus ∈ TB ∧ Cond.selects yX6_placeStatus.cls yX6_placeStatus yX6_placeStatus ∈ TB := ⟨mim_yX6_placeStatus, msel_yX6_placeStatus⟩
theorem ml_X6_107 : Cond.methodLink RX6 107 yX6_filledStatus ∈ TB := TB_t2 122 (by decide +kernel) rfl
theorem mcode_yX6_filledStatus : Cond.code yX6_filledStatus cX6_filledStatus 5 (some .int) ∈ TB := TB_t2 125 (by decide +kernel) rfl
theorem mi_yX6_filledStatus : MI yX6_filledStatus cX6_filledStatus 5 (some .int) 3 := ⟨mz_RX6, mcode_yX6_filledStatus, by decide +kernel, by decide +kernel, by decide +kernel⟩
theorem mim_yX6_filledStatus : Cond.instanceMethod yX6_filledStatus ∈ TB := TB_t2 124 (by decide +kernel) rfl
theorem msel_yX6_filledStatus : Cond.selects yX6_filledStatus.cls yX6_filledStatus yX6_filledStatus ∈ TB := TB_s (n := 10) 5 (by decide +kernel)
theorem mv_yX6_filledStatus : Cond.instanceMethod yX6_filledStatus ∈ TB ∧ Cond.selects yX6_filledStatus.cls yX6_filledStatus yX6_filledStatus ∈ TB := ⟨mim_yX6_filledStatus, msel_yX6_filledStatus⟩
theorem ml_X6_174 : Cond.methodLink RX6 174 yX6_cellStatus ∈ TB := TB_t2 188 (by decide +kernel) rfl
theorem mcode_yX6_cellStatus : Cond.code yX6_cellStatus cX6_cellStatus 5 (some .int) ∈ TB := TB_t2 191 (by decide +kernel) rfl
theorem mi_yX6_cellStatus : MI yX6_cellStatus cX6_cellStatus 5 (some .int) 3 := ⟨mz_RX6, mcode_yX6_cellStatus, by decide +kernel, by decide +kernel, by decide +kernel⟩
theorem mim_yX6_cellStatus : Cond.instanceMethod yX6_cellStatus ∈ TB := TB_t2 190 (by decide +kernel) rfl
theorem msel_yX6_cellStatus : Cond.selects yX6_cellStatus.cls yX6_cellStatus yX6_cellStatus ∈ TB := TB_s (n := 10) 8 (by decide +kernel)
theorem mv_yX6_cellStatus : Cond.instanceMethod yX6_cellStatus ∈ TB ∧ Cond.selects yX6_cellStatus.cls yX6_cellStatus yX6_cellStatus ∈ TB := ⟨mim_yX6_cellStatus, msel_yX6_cellStatus⟩
theorem ml_X6_65 : Cond.methodLink RX6 65 yX6_settled ∈ TB := TB_t2 61 (by decide +kernel) rfl
theorem mcode_yX6_settled : Cond.code yX6_settled cX6_settled 2 (some .boolean) ∈ TB := TB_t2 64 (by decide +kernel) rfl
theorem mi_yX6_settled : MI yX6_settled cX6_settled 2 (some .boolean) 1 := ⟨mz_RX6, mcode_yX6_settled, by decide +kernel, by decide +kernel, by decide +kernel⟩
theorem mim_yX6_settled : Cond.instanceMethod yX6_settled ∈ TB := TB_t2 63 (by decide +kernel) rfl
theorem msel_yX6_settled : Cond.selects yX6_settled.cls yX6_settled yX6_settled ∈ TB := TB_s (n := 10) 0 (by decide +kernel)
theorem mv_yX6_settled : Cond.instanceMethod yX6_settled ∈ TB ∧ Cond.selects yX6_settled.cls yX6_settled yX6_settled ∈ TB := ⟨mim_yX6_settled, msel_yX6_settled⟩
theorem ml_X6_100 : Cond.methodLink RX6 100 yX6_amountStatus ∈ TB := TB_t2 118 (by decide +kernel) rfl
theorem mcode_yX6_amountStatus : Cond.code yX6_amountStatus cX6_amountStatus 5 (some .int) ∈ TB := TB_t2 121 (by decide +kernel) rfl
theorem mi_yX6_amountStatus : MI yX6_amountStatus cX6_amountStatus 5 (some .int) 3 := ⟨mz_RX6, mcode_yX6_amountStatus, by decide +kernel, by decide +kernel, by decide +kernel⟩
theorem mim_yX6_amountStatus : Cond.instanceMethod yX6_amountStatus ∈ TB := TB_t2 120 (by decide +kernel) rfl
theorem msel_yX6_amountStatus : Cond.selects yX6_amountStatus.cls yX6_amountStatus yX6_amountStatus ∈ TB := TB_s (n := 10) 4 (by decide +kernel)
theorem mv_yX6_amountStatus : Cond.instanceMethod yX6_amountStatus ∈ TB ∧ Cond.selects yX6_amountStatus.cls yX6_amountStatus yX6_amountStatus ∈ TB := ⟨mim_yX6_amountStatus, msel_yX6_amountStatus⟩
theorem ml_X6_146 : Cond.methodLink RX6 146 yX6_guardableStatus ∈ TB := TB_t2 184 (by decide +kernel) rfl
theorem mcode_yX6_guardableStatus : Cond.code yX6_guardableStatus cX6_guardableStatus 5 (some .int) ∈ TB := TB_t2 187 (by decide +kernel) rfl
theorem mi_yX6_guardableStatus : MI yX6_guardableStatus cX6_guardableStatus 5 (some .int) 3 := ⟨mz_RX6, mcode_yX6_guardableStatus, by decide +kernel, by decide +kernel, by decide +kernel⟩
theorem mim_yX6_guardableStatus : Cond.instanceMethod yX6_guardableStatus ∈ TB := TB_t2 186 (by decide +kernel) rfl
theorem msel_yX6_guardableStatus : Cond.selects yX6_guardableStatus.cls yX6_guardableStatus yX6_guardableStatus ∈ TB := TB_s (n := 10) 7 (by decide +kernel)
theorem mv_yX6_guardableStatus : Cond.instanceMethod yX6_guardableStatus ∈ TB ∧ Cond.selects yX6_guardableStatus.cls yX6_guardableStatus yX6_guardableStatus ∈ TB := ⟨mim_yX6_guardableStatus, msel_yX6_guardableStatus⟩
theorem ml_X6_165 : Cond.methodLink RX6 165 yX6_soundCellStatus ∈ TB := TB_t2 233 (by decide +kernel) rfl
theorem mcode_yX6_soundCellStatus : Cond.code yX6_soundCellStatus cX6_soundCellStatus 5 (some .int) ∈ TB := TB_t2 236 (by decide +kernel) rfl
theorem mi_yX6_soundCellStatus : MI yX6_soundCellStatus cX6_soundCellStatus 5 (some .int) 3 := ⟨mz_RX6, mcode_yX6_soundCellStatus, by decide +kernel, by decide +kernel, by decide +kernel⟩
theorem mim_yX6_soundCellStatus : Cond.instanceMethod yX6_soundCellStatus ∈ TB := TB_t2 235 (by decide +kernel) rfl
theorem msel_yX6_soundCellStatus : Cond.selects yX6_soundCellStatus.cls yX6_soundCellStatus yX6_soundCellStatus ∈ TB := TB_s (n := 10) 9 (by decide +kernel)
theorem mv_yX6_soundCellStatus : Cond.instanceMethod yX6_soundCellStatus ∈ TB ∧ Cond.selects yX6_soundCellStatus.cls yX6_soundCellStatus yX6_soundCellStatus ∈ TB := ⟨mim_yX6_soundCellStatus, msel_yX6_soundCellStatus⟩
theorem ml_X6_180 : Cond.methodLink RX6 180 yX6_spanEnd ∈ TB := TB_t3 30 (by decide +kernel) rfl
theorem mcode_yX6_spanEnd : Cond.code yX6_spanEnd cX6_spanEnd 5 (some .int) ∈ TB := TB_t3 33 (by decide +kernel) rfl
theorem mi_yX6_spanEnd : MI yX6_spanEnd cX6_spanEnd 5 (some .int) 4 := ⟨mz_RX6, mcode_yX6_spanEnd, by decide +kernel, by decide +kernel, by decide +kernel⟩
theorem mim_yX6_spanEnd : Cond.instanceMethod yX6_spanEnd ∈ TB := TB_t3 32 (by decide +kernel) rfl
theorem msel_yX6_spanEnd : Cond.selects yX6_spanEnd.cls yX6_spanEnd yX6_spanEnd ∈ TB := TB_s (n := 10) 11 (by decide +kernel)
theorem mv_yX6_spanEnd : Cond.instanceMethod yX6_spanEnd ∈ TB ∧ Cond.selects yX6_spanEnd.cls yX6_spanEnd yX6_spanEnd ∈ TB := ⟨mim_yX6_spanEnd, msel_yX6_spanEnd⟩
theorem dX6_rowStatus_0 : decode cX6_rowStatus 0 = .ok (.aload_n 0, 1) := by decide +kernel
theorem dX6_rowStatus_1 : decode cX6_rowStatus 1 = .ok (.iload_n 1, 1) := by decide +kernel
theorem dX6_rowStatus_2 : decode cX6_rowStatus 2 = .ok (.invokevirtual 73, 3) := by decide +kernel
theorem dX6_rowStatus_5 : decode cX6_rowStatus 5 = .ok (.istore_n 3, 1) := by decide +kernel
theorem dX6_rowStatus_6 : decode cX6_rowStatus 6 = .ok (.iload_n 3, 1) := by decide +kernel
theorem dX6_rowStatus_7 : decode cX6_rowStatus 7 = .ok (.ifCond .eq 5, 3) := by decide +kernel
theorem dX6_rowStatus_10 : decode cX6_rowStatus 10 = .ok (.iload_n 3, 1) := by decide +kernel
theorem dX6_rowStatus_11 : decode cX6_rowStatus 11 = .ok (.ireturn, 1) := by decide +kernel
theorem dX6_placeStatus_0 : decode cX6_placeStatus 0 = .ok (.aload_n 0, 1) := by decide +kernel
theorem dX6_placeStatus_1 : decode cX6_placeStatus 1 = .ok (.iload_n 1, 1) := by decide +kernel
theorem dX6_placeStatus_2 : decode cX6_placeStatus 2 = .ok (.iload_n 2, 1) := by decide +kernel
theorem dX6_placeStatus_3 : decode cX6_placeStatus 3 = .ok (.invokevirtual 110, 3) := by decide +kernel
theorem dX6_placeStatus_6 : decode cX6_placeStatus 6 = .ok (.istore 4, 2) := by decide +kernel
theorem dX6_placeStatus_8 : decode cX6_placeStatus 8 = .ok (.iload 4, 2) := by decide +kernel
theorem dX6_placeStatus_10 : decode cX6_placeStatus 10 = .ok (.ifCond .eq 6, 3) := by decide +kernel
theorem dX6_placeStatus_13 : decode cX6_placeStatus 13 = .ok (.iload 4, 2) := by decide +kernel
theorem dX6_placeStatus_15 : decode cX6_placeStatus 15 = .ok (.ireturn, 1) := by decide +kernel
theorem dX6_filledStatus_0 : decode cX6_filledStatus 0 = .ok (.aload_n 0, 1) := by decide +kernel
theorem dX6_filledStatus_1 : decode cX6_filledStatus 1 = .ok (.iload_n 1, 1) := by decide +kernel
theorem dX6_filledStatus_2 : decode cX6_filledStatus 2 = .ok (.iload_n 2, 1) := by decide +kernel
theorem dX6_filledStatus_3 : decode cX6_filledStatus 3 = .ok (.iload_n 3, 1) := by decide +kernel
theorem dX6_filledStatus_4 : decode cX6_filledStatus 4 = .ok (.invokevirtual 84, 3) := by decide +kernel
theorem dX6_filledStatus_7 : decode cX6_filledStatus 7 = .ok (.istore 4, 2) := by decide +kernel
theorem dX6_filledStatus_9 : decode cX6_filledStatus 9 = .ok (.iload 4, 2) := by decide +kernel
theorem dX6_filledStatus_11 : decode cX6_filledStatus 11 = .ok (.ifCond .eq 6, 3) := by decide +kernel
theorem dX6_filledStatus_14 : decode cX6_filledStatus 14 = .ok (.iload 4, 2) := by decide +kernel
theorem dX6_filledStatus_16 : decode cX6_filledStatus 16 = .ok (.ireturn, 1) := by decide +kernel
theorem dX6_cellStatus_0 : decode cX6_cellStatus 0 = .ok (.aload_n 0, 1) := by decide +kernel
theorem dX6_cellStatus_1 : decode cX6_cellStatus 1 = .ok (.iload_n 1, 1) := by decide +kernel
theorem dX6_cellStatus_2 : decode cX6_cellStatus 2 = .ok (.iload_n 2, 1) := by decide +kernel
theorem dX6_cellStatus_3 : decode cX6_cellStatus 3 = .ok (.iload_n 3, 1) := by decide +kernel
theorem dX6_cellStatus_4 : decode cX6_cellStatus 4 = .ok (.invokevirtual 107, 3) := by decide +kernel
theorem dX6_cellStatus_7 : decode cX6_cellStatus 7 = .ok (.istore 4, 2) := by decide +kernel
theorem dX6_cellStatus_9 : decode cX6_cellStatus 9 = .ok (.iload 4, 2) := by decide +kernel
theorem dX6_cellStatus_11 : decode cX6_cellStatus 11 = .ok (.ifCond .eq 6, 3) := by decide +kernel
theorem dX6_cellStatus_14 : decode cX6_cellStatus 14 = .ok (.iload 4, 2) := by decide +kernel
theorem dX6_cellStatus_16 : decode cX6_cellStatus 16 = .ok (.ireturn, 1) := by decide +kernel
theorem dX6_guardableStatus_0 : decode cX6_guardableStatus 0 = .ok (.aload_n 0, 1) := by decide +kernel
theorem dX6_guardableStatus_1 : decode cX6_guardableStatus 1 = .ok (.iload_n 1, 1) := by decide +kernel
theorem dX6_guardableStatus_2 : decode cX6_guardableStatus 2 = .ok (.iload_n 2, 1) := by decide +kernel
theorem dX6_guardableStatus_3 : decode cX6_guardableStatus 3 = .ok (.iload_n 3, 1) := by decide +kernel
theorem dX6_guardableStatus_4 : decode cX6_guardableStatus 4 = .ok (.invokevirtual 174, 3) := by decide +kernel
theorem dX6_guardableStatus_7 : decode cX6_guardableStatus 7 = .ok (.istore 4, 2) := by decide +kernel
theorem dX6_guardableStatus_9 : decode cX6_guardableStatus 9 = .ok (.iload 4, 2) := by decide +kernel
theorem dX6_guardableStatus_11 : decode cX6_guardableStatus 11 = .ok (.ifCond .eq 6, 3) := by decide +kernel
theorem dX6_guardableStatus_14 : decode cX6_guardableStatus 14 = .ok (.iload 4, 2) := by decide +kernel
theorem dX6_guardableStatus_16 : decode cX6_guardableStatus 16 = .ok (.ireturn, 1) := by decide +kernel
theorem dX6_amountStatus_0 : decode cX6_amountStatus 0 = .ok (.aload_n 0, 1) := by decide +kernel
theorem dX6_amountStatus_1 : decode cX6_amountStatus 1 = .ok (.iload_n 1, 1) := by decide +kernel
theorem dX6_amountStatus_2 : decode cX6_amountStatus 2 = .ok (.iload_n 2, 1) := by decide +kernel
theorem dX6_amountStatus_3 : decode cX6_amountStatus 3 = .ok (.iload_n 3, 1) := by decide +kernel
theorem dX6_amountStatus_4 : decode cX6_amountStatus 4 = .ok (.invokevirtual 107, 3) := by decide +kernel
theorem dX6_amountStatus_7 : decode cX6_amountStatus 7 = .ok (.istore 4, 2) := by decide +kernel
theorem dX6_amountStatus_9 : decode cX6_amountStatus 9 = .ok (.iload 4, 2) := by decide +kernel
theorem dX6_amountStatus_11 : decode cX6_amountStatus 11 = .ok (.ifCond .eq 6, 3) := by decide +kernel
theorem dX6_amountStatus_14 : decode cX6_amountStatus 14 = .ok (.iload 4, 2) := by decide +kernel
theorem dX6_amountStatus_16 : decode cX6_amountStatus 16 = .ok (.ireturn, 1) := by decide +kernel
theorem dX6_soundCellStatus_0 : decode cX6_soundCellStatus 0 = .ok (.aload_n 0, 1) := by decide +kernel
theorem dX6_soundCellStatus_1 : decode cX6_soundCellStatus 1 = .ok (.iload_n 1, 1) := by decide +kernel
theorem dX6_soundCellStatus_2 : decode cX6_soundCellStatus 2 = .ok (.iload_n 2, 1) := by decide +kernel
theorem dX6_soundCellStatus_3 : decode cX6_soundCellStatus 3 = .ok (.iload_n 3, 1) := by decide +kernel
theorem dX6_soundCellStatus_4 : decode cX6_soundCellStatus 4 = .ok (.invokevirtual 174, 3) := by decide +kernel
theorem dX6_soundCellStatus_7 : decode cX6_soundCellStatus 7 = .ok (.istore 4, 2) := by decide +kernel
theorem dX6_soundCellStatus_9 : decode cX6_soundCellStatus 9 = .ok (.iload 4, 2) := by decide +kernel
theorem dX6_soundCellStatus_11 : decode cX6_soundCellStatus 11 = .ok (.ifCond .eq 6, 3) := by decide +kernel
theorem dX6_soundCellStatus_14 : decode cX6_soundCellStatus 14 = .ok (.iload 4, 2) := by decide +kernel
theorem dX6_soundCellStatus_16 : decode cX6_soundCellStatus 16 = .ok (.ireturn, 1) := by decide +kernel
theorem dX6_close_0 : decode cX6_close 0 = .ok (.aload_n 0, 1) := by decide +kernel
theorem dX6_close_1 : decode cX6_close 1 = .ok (.aload_n 0, 1) := by decide +kernel
theorem dX6_close_2 : decode cX6_close 2 = .ok (.iload_n 1, 1) := by decide +kernel
theorem dX6_close_3 : decode cX6_close 3 = .ok (.invokevirtual 73, 3) := by decide +kernel
theorem dX6_close_6 : decode cX6_close 6 = .ok (.invokevirtual 65, 3) := by decide +kernel
theorem dX6_close_9 : decode cX6_close 9 = .ok (.ifCond .ne 5, 3) := by decide +kernel
theorem dX6_close_12 : decode cX6_close 12 = .ok (.iconst 0, 1) := by decide +kernel
theorem dX6_close_13 : decode cX6_close 13 = .ok (.ireturn, 1) := by decide +kernel
theorem dX6_rule_0 : decode cX6_rule 0 = .ok (.aload_n 0, 1) := by decide +kernel
theorem dX6_rule_1 : decode cX6_rule 1 = .ok (.aload_n 0, 1) := by decide +kernel
theorem dX6_rule_2 : decode cX6_rule 2 = .ok (.iload_n 1, 1) := by decide +kernel
theorem dX6_rule_3 : decode cX6_rule 3 = .ok (.invokevirtual 73, 3) := by decide +kernel
theorem dX6_rule_6 : decode cX6_rule 6 = .ok (.invokevirtual 65, 3) := by decide +kernel
theorem dX6_rule_9 : decode cX6_rule 9 = .ok (.ifCond .ne 5, 3) := by decide +kernel
theorem dX6_rule_12 : decode cX6_rule 12 = .ok (.iconst 0, 1) := by decide +kernel
theorem dX6_rule_13 : decode cX6_rule 13 = .ok (.ireturn, 1) := by decide +kernel
theorem dX6_cell_0 : decode cX6_cell 0 = .ok (.aload_n 0, 1) := by decide +kernel
theorem dX6_cell_1 : decode cX6_cell 1 = .ok (.aload_n 0, 1) := by decide +kernel
theorem dX6_cell_2 : decode cX6_cell 2 = .ok (.iload_n 1, 1) := by decide +kernel
theorem dX6_cell_3 : decode cX6_cell 3 = .ok (.iload_n 2, 1) := by decide +kernel
theorem dX6_cell_4 : decode cX6_cell 4 = .ok (.iload_n 3, 1) := by decide +kernel
theorem dX6_cell_5 : decode cX6_cell 5 = .ok (.invokevirtual 84, 3) := by decide +kernel
theorem dX6_cell_8 : decode cX6_cell 8 = .ok (.invokevirtual 65, 3) := by decide +kernel
theorem dX6_cell_11 : decode cX6_cell 11 = .ok (.ifCond .ne 5, 3) := by decide +kernel
theorem dX6_cell_14 : decode cX6_cell 14 = .ok (.iconst 0, 1) := by decide +kernel
theorem dX6_cell_15 : decode cX6_cell 15 = .ok (.ireturn, 1) := by decide +kernel
theorem dX6_giver_0 : decode cX6_giver 0 = .ok (.aload_n 0, 1) := by decide +kernel
theorem dX6_giver_1 : decode cX6_giver 1 = .ok (.aload_n 0, 1) := by decide +kernel
theorem dX6_giver_2 : decode cX6_giver 2 = .ok (.iload_n 1, 1) := by decide +kernel
theorem dX6_giver_3 : decode cX6_giver 3 = .ok (.iload_n 2, 1) := by decide +kernel
theorem dX6_giver_4 : decode cX6_giver 4 = .ok (.iload_n 3, 1) := by decide +kernel
theorem dX6_giver_5 : decode cX6_giver 5 = .ok (.invokevirtual 100, 3) := by decide +kernel
theorem dX6_giver_8 : decode cX6_giver 8 = .ok (.invokevirtual 65, 3) := by decide +kernel
theorem dX6_giver_11 : decode cX6_giver 11 = .ok (.ifCond .ne 5, 3) := by decide +kernel
theorem dX6_giver_14 : decode cX6_giver 14 = .ok (.iconst 0, 1) := by decide +kernel
theorem dX6_giver_15 : decode cX6_giver 15 = .ok (.ireturn, 1) := by decide +kernel
theorem dX6_clear_0 : decode cX6_clear 0 = .ok (.aload_n 0, 1) := by decide +kernel
theorem dX6_clear_1 : decode cX6_clear 1 = .ok (.aload_n 0, 1) := by decide +kernel
theorem dX6_clear_2 : decode cX6_clear 2 = .ok (.iload_n 1, 1) := by decide +kernel
theorem dX6_clear_3 : decode cX6_clear 3 = .ok (.iload_n 2, 1) := by decide +kernel
theorem dX6_clear_4 : decode cX6_clear 4 = .ok (.iload_n 3, 1) := by decide +kernel
theorem dX6_clear_5 : decode cX6_clear 5 = .ok (.invokevirtual 107, 3) := by decide +kernel
theorem dX6_clear_8 : decode cX6_clear 8 = .ok (.invokevirtual 65, 3) := by decide +kernel
theorem dX6_clear_11 : decode cX6_clear 11 = .ok (.ifCond .ne 5, 3) := by decide +kernel
theorem dX6_clear_14 : decode cX6_clear 14 = .ok (.iconst 0, 1) := by decide +kernel
theorem dX6_clear_15 : decode cX6_clear 15 = .ok (.ireturn, 1) := by decide +kernel
theorem dX6_tear_0 : decode cX6_tear 0 = .ok (.aload_n 0, 1) := by decide +kernel
theorem dX6_tear_1 : decode cX6_tear 1 = .ok (.aload_n 0, 1) := by decide +kernel
theorem dX6_tear_2 : decode cX6_tear 2 = .ok (.iload_n 1, 1) := by decide +kernel
theorem dX6_tear_3 : decode cX6_tear 3 = .ok (.iload_n 2, 1) := by decide +kernel
theorem dX6_tear_4 : decode cX6_tear 4 = .ok (.invokevirtual 110, 3) := by decide +kernel
theorem dX6_tear_7 : decode cX6_tear 7 = .ok (.invokevirtual 65, 3) := by decide +kernel
theorem dX6_tear_10 : decode cX6_tear 10 = .ok (.ifCond .ne 5, 3) := by decide +kernel
theorem dX6_tear_13 : decode cX6_tear 13 = .ok (.iconst 0, 1) := by decide +kernel
theorem dX6_tear_14 : decode cX6_tear 14 = .ok (.ireturn, 1) := by decide +kernel
theorem dX6_block_0 : decode cX6_block 0 = .ok (.aload_n 0, 1) := by decide +kernel
theorem dX6_block_1 : decode cX6_block 1 = .ok (.aload_n 0, 1) := by decide +kernel
theorem dX6_block_2 : decode cX6_block 2 = .ok (.iload_n 1, 1) := by decide +kernel
theorem dX6_block_3 : decode cX6_block 3 = .ok (.invokevirtual 73, 3) := by decide +kernel
theorem dX6_block_6 : decode cX6_block 6 = .ok (.invokevirtual 65, 3) := by decide +kernel
theorem dX6_block_9 : decode cX6_block 9 = .ok (.ifCond .ne 5, 3) := by decide +kernel
theorem dX6_block_12 : decode cX6_block 12 = .ok (.iconst (-1), 1) := by decide +kernel
theorem dX6_block_13 : decode cX6_block 13 = .ok (.ireturn, 1) := by decide +kernel
theorem dX6_kind_0 : decode cX6_kind 0 = .ok (.aload_n 0, 1) := by decide +kernel
theorem dX6_kind_1 : decode cX6_kind 1 = .ok (.aload_n 0, 1) := by decide +kernel
theorem dX6_kind_2 : decode cX6_kind 2 = .ok (.iload_n 1, 1) := by decide +kernel
theorem dX6_kind_3 : decode cX6_kind 3 = .ok (.iload_n 2, 1) := by decide +kernel
theorem dX6_kind_4 : decode cX6_kind 4 = .ok (.iload_n 3, 1) := by decide +kernel
theorem dX6_kind_5 : decode cX6_kind 5 = .ok (.invokevirtual 84, 3) := by decide +kernel
theorem dX6_kind_8 : decode cX6_kind 8 = .ok (.invokevirtual 65, 3) := by decide +kernel
theorem dX6_kind_11 : decode cX6_kind 11 = .ok (.ifCond .ne 5, 3) := by decide +kernel
theorem dX6_kind_14 : decode cX6_kind 14 = .ok (.iconst (-1), 1) := by decide +kernel
theorem dX6_kind_15 : decode cX6_kind 15 = .ok (.ireturn, 1) := by decide +kernel
theorem dX6_number_0 : decode cX6_number 0 = .ok (.aload_n 0, 1) := by decide +kernel
theorem dX6_number_1 : decode cX6_number 1 = .ok (.aload_n 0, 1) := by decide +kernel
theorem dX6_number_2 : decode cX6_number 2 = .ok (.iload_n 1, 1) := by decide +kernel
theorem dX6_number_3 : decode cX6_number 3 = .ok (.iload_n 2, 1) := by decide +kernel
theorem dX6_number_4 : decode cX6_number 4 = .ok (.iload_n 3, 1) := by decide +kernel
theorem dX6_number_5 : decode cX6_number 5 = .ok (.invokevirtual 107, 3) := by decide +kernel
theorem dX6_number_8 : decode cX6_number 8 = .ok (.invokevirtual 65, 3) := by decide +kernel
theorem dX6_number_11 : decode cX6_number 11 = .ok (.ifCond .ne 5, 3) := by decide +kernel
theorem dX6_number_14 : decode cX6_number 14 = .ok (.iconst (-1), 1) := by decide +kernel
theorem dX6_number_15 : decode cX6_number 15 = .ok (.ireturn, 1) := by decide +kernel
theorem dX6_givers_0 : decode cX6_givers 0 = .ok (.aload_n 0, 1) := by decide +kernel
theorem dX6_givers_1 : decode cX6_givers 1 = .ok (.aload_n 0, 1) := by decide +kernel
theorem dX6_givers_2 : decode cX6_givers 2 = .ok (.iload_n 1, 1) := by decide +kernel
theorem dX6_givers_3 : decode cX6_givers 3 = .ok (.iload_n 2, 1) := by decide +kernel
theorem dX6_givers_4 : decode cX6_givers 4 = .ok (.iload_n 3, 1) := by decide +kernel
theorem dX6_givers_5 : decode cX6_givers 5 = .ok (.invokevirtual 100, 3) := by decide +kernel
theorem dX6_givers_8 : decode cX6_givers 8 = .ok (.invokevirtual 65, 3) := by decide +kernel
theorem dX6_givers_11 : decode cX6_givers 11 = .ok (.ifCond .ne 5, 3) := by decide +kernel
theorem dX6_givers_14 : decode cX6_givers 14 = .ok (.iconst (-1), 1) := by decide +kernel
theorem dX6_givers_15 : decode cX6_givers 15 = .ok (.ireturn, 1) := by decide +kernel
theorem dX6_part_0 : decode cX6_part 0 = .ok (.aload_n 0, 1) := by decide +kernel
theorem dX6_part_1 : decode cX6_part 1 = .ok (.aload_n 0, 1) := by decide +kernel
theorem dX6_part_2 : decode cX6_part 2 = .ok (.iload_n 1, 1) := by decide +kernel
theorem dX6_part_3 : decode cX6_part 3 = .ok (.iload_n 2, 1) := by decide +kernel
theorem dX6_part_4 : decode cX6_part 4 = .ok (.iload_n 3, 1) := by decide +kernel
theorem dX6_part_5 : decode cX6_part 5 = .ok (.invokevirtual 100, 3) := by decide +kernel
theorem dX6_part_8 : decode cX6_part 8 = .ok (.invokevirtual 65, 3) := by decide +kernel
theorem dX6_part_11 : decode cX6_part 11 = .ok (.ifCond .ne 5, 3) := by decide +kernel
theorem dX6_part_14 : decode cX6_part 14 = .ok (.iconst (-1), 1) := by decide +kernel
theorem dX6_part_15 : decode cX6_part 15 = .ok (.ireturn, 1) := by decide +kernel
theorem dX6_hand_0 : decode cX6_hand 0 = .ok (.aload_n 0, 1) := by decide +kernel
theorem dX6_hand_1 : decode cX6_hand 1 = .ok (.aload_n 0, 1) := by decide +kernel
theorem dX6_hand_2 : decode cX6_hand 2 = .ok (.iload_n 1, 1) := by decide +kernel
theorem dX6_hand_3 : decode cX6_hand 3 = .ok (.iload_n 2, 1) := by decide +kernel
theorem dX6_hand_4 : decode cX6_hand 4 = .ok (.iload_n 3, 1) := by decide +kernel
theorem dX6_hand_5 : decode cX6_hand 5 = .ok (.invokevirtual 146, 3) := by decide +kernel
theorem dX6_hand_8 : decode cX6_hand 8 = .ok (.invokevirtual 65, 3) := by decide +kernel
theorem dX6_hand_11 : decode cX6_hand 11 = .ok (.ifCond .ne 5, 3) := by decide +kernel
theorem dX6_hand_14 : decode cX6_hand 14 = .ok (.iconst 0, 1) := by decide +kernel
theorem dX6_hand_15 : decode cX6_hand 15 = .ok (.ireturn, 1) := by decide +kernel
theorem dX6_keep_0 : decode cX6_keep 0 = .ok (.aload_n 0, 1) := by decide +kernel
theorem dX6_keep_1 : decode cX6_keep 1 = .ok (.aload_n 0, 1) := by decide +kernel
theorem dX6_keep_2 : decode cX6_keep 2 = .ok (.iload_n 1, 1) := by decide +kernel
theorem dX6_keep_3 : decode cX6_keep 3 = .ok (.iload_n 2, 1) := by decide +kernel
theorem dX6_keep_4 : decode cX6_keep 4 = .ok (.iload_n 3, 1) := by decide +kernel
theorem dX6_keep_5 : decode cX6_keep 5 = .ok (.invokevirtual 146, 3) := by decide +kernel
theorem dX6_keep_8 : decode cX6_keep 8 = .ok (.invokevirtual 65, 3) := by decide +kernel
theorem dX6_keep_11 : decode cX6_keep 11 = .ok (.ifCond .ne 5, 3) := by decide +kernel
theorem dX6_keep_14 : decode cX6_keep 14 = .ok (.iconst 0, 1) := by decide +kernel
theorem dX6_keep_15 : decode cX6_keep 15 = .ok (.ireturn, 1) := by decide +kernel
theorem dX6_sound_0 : decode cX6_sound 0 = .ok (.aload_n 0, 1) := by decide +kernel
theorem dX6_sound_1 : decode cX6_sound 1 = .ok (.aload_n 0, 1) := by decide +kernel
theorem dX6_sound_2 : decode cX6_sound 2 = .ok (.iload_n 1, 1) := by decide +kernel
theorem dX6_sound_3 : decode cX6_sound 3 = .ok (.iload_n 2, 1) := by decide +kernel
theorem dX6_sound_4 : decode cX6_sound 4 = .ok (.invokevirtual 110, 3) := by decide +kernel
theorem dX6_sound_7 : decode cX6_sound 7 = .ok (.invokevirtual 65, 3) := by decide +kernel
theorem dX6_sound_10 : decode cX6_sound 10 = .ok (.ifCond .ne 5, 3) := by decide +kernel
theorem dX6_sound_13 : decode cX6_sound 13 = .ok (.iconst (-1), 1) := by decide +kernel
theorem dX6_sound_14 : decode cX6_sound 14 = .ok (.ireturn, 1) := by decide +kernel
theorem dX6_sum_0 : decode cX6_sum 0 = .ok (.aload_n 0, 1) := by decide +kernel
theorem dX6_sum_1 : decode cX6_sum 1 = .ok (.aload_n 0, 1) := by decide +kernel
theorem dX6_sum_2 : decode cX6_sum 2 = .ok (.iload_n 1, 1) := by decide +kernel
theorem dX6_sum_3 : decode cX6_sum 3 = .ok (.iload_n 2, 1) := by decide +kernel
theorem dX6_sum_4 : decode cX6_sum 4 = .ok (.invokevirtual 110, 3) := by decide +kernel
theorem dX6_sum_7 : decode cX6_sum 7 = .ok (.invokevirtual 65, 3) := by decide +kernel
theorem dX6_sum_10 : decode cX6_sum 10 = .ok (.ifCond .ne 5, 3) := by decide +kernel
theorem dX6_sum_13 : decode cX6_sum 13 = .ok (.iconst (-1), 1) := by decide +kernel
theorem dX6_sum_14 : decode cX6_sum 14 = .ok (.ireturn, 1) := by decide +kernel
theorem dX6_total_0 : decode cX6_total 0 = .ok (.aload_n 0, 1) := by decide +kernel
theorem dX6_total_1 : decode cX6_total 1 = .ok (.aload_n 0, 1) := by decide +kernel
theorem dX6_total_2 : decode cX6_total 2 = .ok (.iload_n 1, 1) := by decide +kernel
theorem dX6_total_3 : decode cX6_total 3 = .ok (.iload_n 2, 1) := by decide +kernel
theorem dX6_total_4 : decode cX6_total 4 = .ok (.invokevirtual 110, 3) := by decide +kernel
theorem dX6_total_7 : decode cX6_total 7 = .ok (.invokevirtual 65, 3) := by decide +kernel
theorem dX6_total_10 : decode cX6_total 10 = .ok (.ifCond .ne 5, 3) := by decide +kernel
theorem dX6_total_13 : decode cX6_total 13 = .ok (.iconst (-1), 1) := by decide +kernel
theorem dX6_total_14 : decode cX6_total 14 = .ok (.ireturn, 1) := by decide +kernel
theorem dX6_secret_0 : decode cX6_secret 0 = .ok (.aload_n 0, 1) := by decide +kernel
theorem dX6_secret_1 : decode cX6_secret 1 = .ok (.aload_n 0, 1) := by decide +kernel
theorem dX6_secret_2 : decode cX6_secret 2 = .ok (.iload_n 1, 1) := by decide +kernel
theorem dX6_secret_3 : decode cX6_secret 3 = .ok (.iload_n 2, 1) := by decide +kernel
theorem dX6_secret_4 : decode cX6_secret 4 = .ok (.iload_n 3, 1) := by decide +kernel
theorem dX6_secret_5 : decode cX6_secret 5 = .ok (.invokevirtual 165, 3) := by decide +kernel
theorem dX6_secret_8 : decode cX6_secret 8 = .ok (.invokevirtual 65, 3) := by decide +kernel
theorem dX6_secret_11 : decode cX6_secret 11 = .ok (.ifCond .ne 5, 3) := by decide +kernel
theorem dX6_secret_14 : decode cX6_secret 14 = .ok (.iconst (-1), 1) := by decide +kernel
theorem dX6_secret_15 : decode cX6_secret 15 = .ok (.ireturn, 1) := by decide +kernel
theorem dX6_kept_0 : decode cX6_kept 0 = .ok (.aload_n 0, 1) := by decide +kernel
theorem dX6_kept_1 : decode cX6_kept 1 = .ok (.aload_n 0, 1) := by decide +kernel
theorem dX6_kept_2 : decode cX6_kept 2 = .ok (.iload_n 1, 1) := by decide +kernel
theorem dX6_kept_3 : decode cX6_kept 3 = .ok (.iload_n 2, 1) := by decide +kernel
theorem dX6_kept_4 : decode cX6_kept 4 = .ok (.iload_n 3, 1) := by decide +kernel
theorem dX6_kept_5 : decode cX6_kept 5 = .ok (.invokevirtual 165, 3) := by decide +kernel
theorem dX6_kept_8 : decode cX6_kept 8 = .ok (.invokevirtual 65, 3) := by decide +kernel
theorem dX6_kept_11 : decode cX6_kept 11 = .ok (.ifCond .ne 5, 3) := by decide +kernel
theorem dX6_kept_14 : decode cX6_kept 14 = .ok (.iconst (-1), 1) := by decide +kernel
theorem dX6_kept_15 : decode cX6_kept 15 = .ok (.ireturn, 1) := by decide +kernel
theorem dX6_thousandths_0 : decode cX6_thousandths 0 = .ok (.aload_n 0, 1) := by decide +kernel
theorem dX6_thousandths_1 : decode cX6_thousandths 1 = .ok (.aload_n 0, 1) := by decide +kernel
theorem dX6_thousandths_2 : decode cX6_thousandths 2 = .ok (.iload_n 1, 1) := by decide +kernel
theorem dX6_thousandths_3 : decode cX6_thousandths 3 = .ok (.iload_n 2, 1) := by decide +kernel
theorem dX6_thousandths_4 : decode cX6_thousandths 4 = .ok (.iload_n 3, 1) := by decide +kernel
theorem dX6_thousandths_5 : decode cX6_thousandths 5 = .ok (.invokevirtual 174, 3) := by decide +kernel
theorem dX6_thousandths_8 : decode cX6_thousandths 8 = .ok (.invokevirtual 65, 3) := by decide +kernel
theorem dX6_thousandths_11 : decode cX6_thousandths 11 = .ok (.ifCond .ne 5, 3) := by decide +kernel
theorem dX6_thousandths_14 : decode cX6_thousandths 14 = .ok (.iconst (-1), 1) := by decide +kernel
theorem dX6_thousandths_15 : decode cX6_thousandths 15 = .ok (.ireturn, 1) := by decide +kernel
theorem dX6_spanEnd_0 : decode cX6_spanEnd 0 = .ok (.aload_n 0, 1) := by decide +kernel
theorem dX6_spanEnd_1 : decode cX6_spanEnd 1 = .ok (.aload_n 0, 1) := by decide +kernel
theorem dX6_spanEnd_2 : decode cX6_spanEnd 2 = .ok (.iload_n 1, 1) := by decide +kernel
theorem dX6_spanEnd_3 : decode cX6_spanEnd 3 = .ok (.iload_n 2, 1) := by decide +kernel
theorem dX6_spanEnd_4 : decode cX6_spanEnd 4 = .ok (.iload_n 3, 1) := by decide +kernel
theorem dX6_spanEnd_5 : decode cX6_spanEnd 5 = .ok (.invokevirtual 165, 3) := by decide +kernel
theorem dX6_spanEnd_8 : decode cX6_spanEnd 8 = .ok (.invokevirtual 65, 3) := by decide +kernel
theorem dX6_spanEnd_11 : decode cX6_spanEnd 11 = .ok (.ifCond .ne 5, 3) := by decide +kernel
theorem dX6_spanEnd_14 : decode cX6_spanEnd 14 = .ok (.iconst (-1), 1) := by decide +kernel
theorem dX6_spanEnd_15 : decode cX6_spanEnd 15 = .ok (.ireturn, 1) := by decide +kernel
theorem dX6_safe_0 : decode cX6_safe 0 = .ok (.aload_n 0, 1) := by decide +kernel
theorem dX6_safe_1 : decode cX6_safe 1 = .ok (.aload_n 0, 1) := by decide +kernel
theorem dX6_safe_2 : decode cX6_safe 2 = .ok (.iload_n 1, 1) := by decide +kernel
theorem dX6_safe_3 : decode cX6_safe 3 = .ok (.iload_n 2, 1) := by decide +kernel
theorem dX6_safe_4 : decode cX6_safe 4 = .ok (.iload_n 3, 1) := by decide +kernel
theorem dX6_safe_5 : decode cX6_safe 5 = .ok (.invokevirtual 165, 3) := by decide +kernel
theorem dX6_safe_8 : decode cX6_safe 8 = .ok (.invokevirtual 65, 3) := by decide +kernel
theorem dX6_safe_11 : decode cX6_safe 11 = .ok (.ifCond .ne 5, 3) := by decide +kernel
theorem dX6_safe_14 : decode cX6_safe 14 = .ok (.iconst (-1), 1) := by decide +kernel
theorem dX6_safe_15 : decode cX6_safe 15 = .ok (.ireturn, 1) := by decide +kernel
theorem dX6_unsafe_0 : decode cX6_unsafe 0 = .ok (.aload_n 0, 1) := by decide +kernel
theorem dX6_unsafe_1 : decode cX6_unsafe 1 = .ok (.aload_n 0, 1) := by decide +kernel
theorem dX6_unsafe_2 : decode cX6_unsafe 2 = .ok (.iload_n 1, 1) := by decide +kernel
theorem dX6_unsafe_3 : decode cX6_unsafe 3 = .ok (.invokevirtual 73, 3) := by decide +kernel
theorem dX6_unsafe_6 : decode cX6_unsafe 6 = .ok (.invokevirtual 65, 3) := by decide +kernel
theorem dX6_unsafe_9 : decode cX6_unsafe 9 = .ok (.ifCond .ne 5, 3) := by decide +kernel
theorem dX6_unsafe_12 : decode cX6_unsafe 12 = .ok (.iconst (-1), 1) := by decide +kernel
theorem dX6_unsafe_13 : decode cX6_unsafe 13 = .ok (.ireturn, 1) := by decide +kernel
theorem dX6_witness_0 : decode cX6_witness 0 = .ok (.aload_n 0, 1) := by decide +kernel
theorem dX6_witness_1 : decode cX6_witness 1 = .ok (.aload_n 0, 1) := by decide +kernel
theorem dX6_witness_2 : decode cX6_witness 2 = .ok (.iload_n 1, 1) := by decide +kernel
theorem dX6_witness_3 : decode cX6_witness 3 = .ok (.iload_n 2, 1) := by decide +kernel
theorem dX6_witness_4 : decode cX6_witness 4 = .ok (.iload_n 3, 1) := by decide +kernel
theorem dX6_witness_5 : decode cX6_witness 5 = .ok (.invokevirtual 165, 3) := by decide +kernel
theorem dX6_witness_8 : decode cX6_witness 8 = .ok (.invokevirtual 65, 3) := by decide +kernel
theorem dX6_witness_11 : decode cX6_witness 11 = .ok (.ifCond .ne 5, 3) := by decide +kernel
theorem dX6_witness_14 : decode cX6_witness 14 = .ok (.iconst (-1), 1) := by decide +kernel
theorem dX6_witness_15 : decode cX6_witness 15 = .ok (.ireturn, 1) := by decide +kernel
theorem dX6_plan_0 : decode cX6_plan 0 = .ok (.aload_n 0, 1) := by decide +kernel
theorem dX6_plan_1 : decode cX6_plan 1 = .ok (.aload_n 0, 1) := by decide +kernel
theorem dX6_plan_2 : decode cX6_plan 2 = .ok (.iload_n 1, 1) := by decide +kernel
theorem dX6_plan_3 : decode cX6_plan 3 = .ok (.invokevirtual 73, 3) := by decide +kernel
theorem dX6_plan_6 : decode cX6_plan 6 = .ok (.invokevirtual 65, 3) := by decide +kernel
theorem dX6_plan_9 : decode cX6_plan 9 = .ok (.ifCond .ne 5, 3) := by decide +kernel
theorem dX6_plan_12 : decode cX6_plan 12 = .ok (.iconst (-1), 1) := by decide +kernel
theorem dX6_plan_13 : decode cX6_plan 13 = .ok (.ireturn, 1) := by decide +kernel
theorem dX6_fewest_0 : decode cX6_fewest 0 = .ok (.aload_n 0, 1) := by decide +kernel
theorem dX6_fewest_1 : decode cX6_fewest 1 = .ok (.aload_n 0, 1) := by decide +kernel
theorem dX6_fewest_2 : decode cX6_fewest 2 = .ok (.iload_n 1, 1) := by decide +kernel
theorem dX6_fewest_3 : decode cX6_fewest 3 = .ok (.invokevirtual 73, 3) := by decide +kernel
theorem dX6_fewest_6 : decode cX6_fewest 6 = .ok (.invokevirtual 65, 3) := by decide +kernel
theorem dX6_fewest_9 : decode cX6_fewest 9 = .ok (.ifCond .ne 5, 3) := by decide +kernel
theorem dX6_fewest_12 : decode cX6_fewest 12 = .ok (.iconst (-1), 1) := by decide +kernel
theorem dX6_fewest_13 : decode cX6_fewest 13 = .ok (.ireturn, 1) := by decide +kernel
theorem dX6_cost_0 : decode cX6_cost 0 = .ok (.aload_n 0, 1) := by decide +kernel
theorem dX6_cost_1 : decode cX6_cost 1 = .ok (.aload_n 0, 1) := by decide +kernel
theorem dX6_cost_2 : decode cX6_cost 2 = .ok (.iload_n 1, 1) := by decide +kernel
theorem dX6_cost_3 : decode cX6_cost 3 = .ok (.invokevirtual 73, 3) := by decide +kernel
theorem dX6_cost_6 : decode cX6_cost 6 = .ok (.invokevirtual 65, 3) := by decide +kernel
theorem dX6_cost_9 : decode cX6_cost 9 = .ok (.ifCond .ne 5, 3) := by decide +kernel
theorem dX6_cost_12 : decode cX6_cost 12 = .ok (.iconst (-1), 1) := by decide +kernel
theorem dX6_cost_13 : decode cX6_cost 13 = .ok (.ireturn, 1) := by decide +kernel
theorem dX6_round_0 : decode cX6_round 0 = .ok (.aload_n 0, 1) := by decide +kernel
theorem dX6_round_1 : decode cX6_round 1 = .ok (.aload_n 0, 1) := by decide +kernel
theorem dX6_round_2 : decode cX6_round 2 = .ok (.iload_n 1, 1) := by decide +kernel
theorem dX6_round_3 : decode cX6_round 3 = .ok (.invokevirtual 73, 3) := by decide +kernel
theorem dX6_round_6 : decode cX6_round 6 = .ok (.invokevirtual 65, 3) := by decide +kernel
theorem dX6_round_9 : decode cX6_round 9 = .ok (.ifCond .ne 5, 3) := by decide +kernel
theorem dX6_round_12 : decode cX6_round 12 = .ok (.iconst (-1), 1) := by decide +kernel
theorem dX6_round_13 : decode cX6_round 13 = .ok (.ireturn, 1) := by decide +kernel
theorem dX6_give_0 : decode cX6_give 0 = .ok (.aload_n 0, 1) := by decide +kernel
theorem dX6_give_1 : decode cX6_give 1 = .ok (.aload_n 0, 1) := by decide +kernel
theorem dX6_give_2 : decode cX6_give 2 = .ok (.iload_n 1, 1) := by decide +kernel
theorem dX6_give_3 : decode cX6_give 3 = .ok (.invokevirtual 73, 3) := by decide +kernel
theorem dX6_give_6 : decode cX6_give 6 = .ok (.invokevirtual 65, 3) := by decide +kernel
theorem dX6_give_9 : decode cX6_give 9 = .ok (.ifCond .ne 5, 3) := by decide +kernel
theorem dX6_give_12 : decode cX6_give 12 = .ok (.iconst (-1), 1) := by decide +kernel
theorem dX6_give_13 : decode cX6_give 13 = .ok (.ireturn, 1) := by decide +kernel
theorem dX6_least_0 : decode cX6_least 0 = .ok (.aload_n 0, 1) := by decide +kernel
theorem dX6_least_1 : decode cX6_least 1 = .ok (.iload_n 1, 1) := by decide +kernel
theorem dX6_least_2 : decode cX6_least 2 = .ok (.iload_n 2, 1) := by decide +kernel
theorem dX6_least_3 : decode cX6_least 3 = .ok (.iload_n 3, 1) := by decide +kernel
theorem dX6_least_4 : decode cX6_least 4 = .ok (.iconst 0, 1) := by decide +kernel
theorem dX6_least_5 : decode cX6_least 5 = .ok (.invokevirtual 180, 3) := by decide +kernel
theorem dX6_least_8 : decode cX6_least 8 = .ok (.ireturn, 1) := by decide +kernel
theorem dX6_greatest_0 : decode cX6_greatest 0 = .ok (.aload_n 0, 1) := by decide +kernel
theorem dX6_greatest_1 : decode cX6_greatest 1 = .ok (.iload_n 1, 1) := by decide +kernel
theorem dX6_greatest_2 : decode cX6_greatest 2 = .ok (.iload_n 2, 1) := by decide +kernel
theorem dX6_greatest_3 : decode cX6_greatest 3 = .ok (.iload_n 3, 1) := by decide +kernel
theorem dX6_greatest_4 : decode cX6_greatest 4 = .ok (.iconst 1, 1) := by decide +kernel
theorem dX6_greatest_5 : decode cX6_greatest 5 = .ok (.invokevirtual 180, 3) := by decide +kernel
theorem dX6_greatest_8 : decode cX6_greatest 8 = .ok (.ireturn, 1) := by decide +kernel
set_option maxHeartbeats 4000000 in
set_option maxRecDepth 100000 in
theorem k_X6_rowStatus (l : Launch) (G : GG) (x : Nat) (a : Nat → Nat) (ad : Nat → Nat → Nat) (tf : Nat → Nat → Int32) (st cn gv : Int32) (p1 p2 : Int32) (hcl : ∀ j, j < 6 → tf j 0 = 0) : RdI l yX6_rowStatus cX6_rowStatus 4 (some .int) ({ frames := 1, cells := 0, slots := 0, locals := 21 }) G (xW G x a ad tf st cn gv) [.ref x, .int p1, .int p2] (fun r => r = 1) := by
  refine rd_entry (by decide +kernel) (Nat.le_of_ble_eq_true rfl) ?_
  intro p e s m below meth c C0 hP hK ls hl
  have hS : va_S (fun q => s.heap.size ≤ q) s.heap s.heap [] := va_S.rf
  have hA : ∀ q, s.heap.size ≤ q → (fun q => s.heap.size ≤ q) q := fun _ h => h
  obtain ⟨hx, hb, hml, hown, hts, hr, hlocks, hin⟩ := C0
  have hown : s.vm.findClass RX6 = some m.cls := hown
  have hl : lv_has ls 4 [(0, .ref x), (1, .int p1), (2, .int p2)] := hl
  refine lv_aload_n hx hb dX6_rowStatus_0 rfl (lv_at hl 0 rfl) ?_
  refine lv_iload_n hx hb dX6_rowStatus_1 rfl (lv_at hl 1 rfl) ?_
  refine rdV (rest := []) (q0 := 0) ⟨hx, hb, hml, hown, hts⟩ (c_X6_tableStatus l G x a ad tf st cn gv p1) mi_yX6_tableStatus mv_yX6_tableStatus ml_X6_73 ⟨rfl, rfl, Nat.le_of_ble_eq_true rfl, Nat.le_of_ble_eq_true rfl⟩ hK (hP) rfl rfl rfl hl.1 rfl (Nat.le_of_ble_eq_true rfl) dX6_rowStatus_2 ⟨Nat.zero_le _, Nat.zero_le _⟩ hS hA hP (fun r1 H locs hr1 hP hS => ?_)
  obtain rfl : r1 = 1 := ts_one hr1 hcl
  refine lv_istore_n (lv' := [(3, .int 1), (0, .ref x), (1, .int p1), (2, .int p2)]) hx hb dX6_rowStatus_5 rfl hl (by decide) rfl (fun ls hl => ?_)
  refine lv_iload_n hx hb dX6_rowStatus_6 rfl (lv_at hl 0 rfl) ?_
  refine lv_if_eq (tgt := 12) hx hb dX6_rowStatus_7 (by decide) (fun c2 => absurd c2 (by decide)) (fun _ => ?_)
  refine lv_iload_n hx hb dX6_rowStatus_10 rfl (lv_at hl 0 rfl) ?_
  exact rd_iret hx hb hr hlocks hS rfl dX6_rowStatus_11
set_option maxHeartbeats 4000000 in
set_option maxRecDepth 100000 in
theorem k_X6_placeStatus (l : Launch) (G : GG) (x : Nat) (a : Nat → Nat) (ad : Nat → Nat → Nat) (tf : Nat → Nat → Int32) (st cn gv : Int32) (p1 p2 p3 : Int32) (hcl : ∀ j, j < 6 → tf j 0 = 0) : RdI l yX6_placeStatus cX6_placeStatus 6 (some .int) ({ frames := 2, cells := 0, slots := 0, locals := 44 }) G (xW G x a ad tf st cn gv) [.ref x, .int p1, .int p2, .int p3] (fun r => r = 1) := by
  refine rd_entry (by decide +kernel) (Nat.le_of_ble_eq_true rfl) ?_
  intro p e s m below meth c C0 hP hK ls hl
  have hS : va_S (fun q => s.heap.size ≤ q) s.heap s.heap [] := va_S.rf
  have hA : ∀ q, s.heap.size ≤ q → (fun q => s.heap.size ≤ q) q := fun _ h => h
  obtain ⟨hx, hb, hml, hown, hts, hr, hlocks, hin⟩ := C0
  have hown : s.vm.findClass RX6 = some m.cls := hown
  have hl : lv_has ls 6 [(0, .ref x), (1, .int p1), (2, .int p2), (3, .int p3)] := hl
  refine lv_aload_n hx hb dX6_placeStatus_0 rfl (lv_at hl 0 rfl) ?_
  refine lv_iload_n hx hb dX6_placeStatus_1 rfl (lv_at hl 1 rfl) ?_
  refine lv_iload_n hx hb dX6_placeStatus_2 rfl (lv_at hl 2 rfl) ?_
  refine rdV (rest := []) (q0 := 0) ⟨hx, hb, hml, hown, hts⟩ (k_X6_rowStatus l G x a ad tf st cn gv p1 p2 hcl) mi_yX6_rowStatus mv_yX6_rowStatus ml_X6_110 ⟨rfl, rfl, Nat.le_of_ble_eq_true rfl, Nat.le_of_ble_eq_true rfl⟩ hK (hP) rfl rfl rfl hl.1 rfl (Nat.le_of_ble_eq_true rfl) dX6_placeStatus_3 ⟨Nat.zero_le _, Nat.zero_le _⟩ hS hA hP (fun r1 H locs hr1 hP hS => ?_)
  obtain rfl : r1 = 1 := hr1
  refine lv_istore (lv' := [(4, .int 1), (0, .ref x), (1, .int p1), (2, .int p2), (3, .int p3)]) hx hb dX6_placeStatus_6 hl (by decide) rfl (fun ls hl => ?_)
  refine lv_iload hx hb dX6_placeStatus_8 (lv_at hl 0 rfl) ?_
  refine lv_if_eq (tgt := 16) hx hb dX6_placeStatus_10 (by decide) (fun c2 => absurd c2 (by decide)) (fun _ => ?_)
  refine lv_iload hx hb dX6_placeStatus_13 (lv_at hl 0 rfl) ?_
  exact rd_iret hx hb hr hlocks hS rfl dX6_placeStatus_15
set_option maxHeartbeats 4000000 in
set_option maxRecDepth 100000 in
theorem k_X6_filledStatus (l : Launch) (G : GG) (x : Nat) (a : Nat → Nat) (ad : Nat → Nat → Nat) (tf : Nat → Nat → Int32) (st cn gv : Int32) (p1 p2 p3 : Int32) (hcl : ∀ j, j < 6 → tf j 0 = 0) : RdI l yX6_filledStatus cX6_filledStatus 5 (some .int) ({ frames := 3, cells := 0, slots := 0, locals := 69 }) G (xW G x a ad tf st cn gv) [.ref x, .int p1, .int p2, .int p3] (fun r => r = 1) := by
  refine rd_entry (by decide +kernel) (Nat.le_of_ble_eq_true rfl) ?_
  intro p e s m below meth c C0 hP hK ls hl
  have hS : va_S (fun q => s.heap.size ≤ q) s.heap s.heap [] := va_S.rf
  have hA : ∀ q, s.heap.size ≤ q → (fun q => s.heap.size ≤ q) q := fun _ h => h
  obtain ⟨hx, hb, hml, hown, hts, hr, hlocks, hin⟩ := C0
  have hown : s.vm.findClass RX6 = some m.cls := hown
  have hl : lv_has ls 5 [(0, .ref x), (1, .int p1), (2, .int p2), (3, .int p3)] := hl
  refine lv_aload_n hx hb dX6_filledStatus_0 rfl (lv_at hl 0 rfl) ?_
  refine lv_iload_n hx hb dX6_filledStatus_1 rfl (lv_at hl 1 rfl) ?_
  refine lv_iload_n hx hb dX6_filledStatus_2 rfl (lv_at hl 2 rfl) ?_
  refine lv_iload_n hx hb dX6_filledStatus_3 rfl (lv_at hl 3 rfl) ?_
  refine rdV (rest := []) (q0 := 0) ⟨hx, hb, hml, hown, hts⟩ (k_X6_placeStatus l G x a ad tf st cn gv p1 p2 p3 hcl) mi_yX6_placeStatus mv_yX6_placeStatus ml_X6_84 ⟨rfl, rfl, Nat.le_of_ble_eq_true rfl, Nat.le_of_ble_eq_true rfl⟩ hK (hP) rfl rfl rfl hl.1 rfl (Nat.le_of_ble_eq_true rfl) dX6_filledStatus_4 ⟨Nat.zero_le _, Nat.zero_le _⟩ hS hA hP (fun r1 H locs hr1 hP hS => ?_)
  obtain rfl : r1 = 1 := hr1
  refine lv_istore (lv' := [(4, .int 1), (0, .ref x), (1, .int p1), (2, .int p2), (3, .int p3)]) hx hb dX6_filledStatus_7 hl (by decide) rfl (fun ls hl => ?_)
  refine lv_iload hx hb dX6_filledStatus_9 (lv_at hl 0 rfl) ?_
  refine lv_if_eq (tgt := 17) hx hb dX6_filledStatus_11 (by decide) (fun c2 => absurd c2 (by decide)) (fun _ => ?_)
  refine lv_iload hx hb dX6_filledStatus_14 (lv_at hl 0 rfl) ?_
  exact rd_iret hx hb hr hlocks hS rfl dX6_filledStatus_16
set_option maxHeartbeats 4000000 in
set_option maxRecDepth 100000 in
theorem k_X6_cellStatus (l : Launch) (G : GG) (x : Nat) (a : Nat → Nat) (ad : Nat → Nat → Nat) (tf : Nat → Nat → Int32) (st cn gv : Int32) (p1 p2 p3 : Int32) (hcl : ∀ j, j < 6 → tf j 0 = 0) : RdI l yX6_cellStatus cX6_cellStatus 5 (some .int) ({ frames := 4, cells := 0, slots := 0, locals := 93 }) G (xW G x a ad tf st cn gv) [.ref x, .int p1, .int p2, .int p3] (fun r => r = 1) := by
  refine rd_entry (by decide +kernel) (Nat.le_of_ble_eq_true rfl) ?_
  intro p e s m below meth c C0 hP hK ls hl
  have hS : va_S (fun q => s.heap.size ≤ q) s.heap s.heap [] := va_S.rf
  have hA : ∀ q, s.heap.size ≤ q → (fun q => s.heap.size ≤ q) q := fun _ h => h
  obtain ⟨hx, hb, hml, hown, hts, hr, hlocks, hin⟩ := C0
  have hown : s.vm.findClass RX6 = some m.cls := hown
  have hl : lv_has ls 5 [(0, .ref x), (1, .int p1), (2, .int p2), (3, .int p3)] := hl
  refine lv_aload_n hx hb dX6_cellStatus_0 rfl (lv_at hl 0 rfl) ?_
  refine lv_iload_n hx hb dX6_cellStatus_1 rfl (lv_at hl 1 rfl) ?_
  refine lv_iload_n hx hb dX6_cellStatus_2 rfl (lv_at hl 2 rfl) ?_
  refine lv_iload_n hx hb dX6_cellStatus_3 rfl (lv_at hl 3 rfl) ?_
  refine rdV (rest := []) (q0 := 0) ⟨hx, hb, hml, hown, hts⟩ (k_X6_filledStatus l G x a ad tf st cn gv p1 p2 p3 hcl) mi_yX6_filledStatus mv_yX6_filledStatus ml_X6_107 ⟨rfl, rfl, Nat.le_of_ble_eq_true rfl, Nat.le_of_ble_eq_true rfl⟩ hK (hP) rfl rfl rfl hl.1 rfl (Nat.le_of_ble_eq_true rfl) dX6_cellStatus_4 ⟨Nat.zero_le _, Nat.zero_le _⟩ hS hA hP (fun r1 H locs hr1 hP hS => ?_)
  obtain rfl : r1 = 1 := hr1
  refine lv_istore (lv' := [(4, .int 1), (0, .ref x), (1, .int p1), (2, .int p2), (3, .int p3)]) hx hb dX6_cellStatus_7 hl (by decide) rfl (fun ls hl => ?_)
  refine lv_iload hx hb dX6_cellStatus_9 (lv_at hl 0 rfl) ?_
  refine lv_if_eq (tgt := 17) hx hb dX6_cellStatus_11 (by decide) (fun c2 => absurd c2 (by decide)) (fun _ => ?_)
  refine lv_iload hx hb dX6_cellStatus_14 (lv_at hl 0 rfl) ?_
  exact rd_iret hx hb hr hlocks hS rfl dX6_cellStatus_16
set_option maxHeartbeats 4000000 in
set_option maxRecDepth 100000 in
theorem k_X6_guardableStatus (l : Launch) (G : GG) (x : Nat) (a : Nat → Nat) (ad : Nat → Nat → Nat) (tf : Nat → Nat → Int32) (st cn gv : Int32) (p1 p2 p3 : Int32) (hcl : ∀ j, j < 6 → tf j 0 = 0) : RdI l yX6_guardableStatus cX6_guardableStatus 5 (some .int) ({ frames := 5, cells := 0, slots := 0, locals := 117 }) G (xW G x a ad tf st cn gv) [.ref x, .int p1, .int p2, .int p3] (fun r => r = 1) := by
  refine rd_entry (by decide +kernel) (Nat.le_of_ble_eq_true rfl) ?_
  intro p e s m below meth c C0 hP hK ls hl
  have hS : va_S (fun q => s.heap.size ≤ q) s.heap s.heap [] := va_S.rf
  have hA : ∀ q, s.heap.size ≤ q → (fun q => s.heap.size ≤ q) q := fun _ h => h
  obtain ⟨hx, hb, hml, hown, hts, hr, hlocks, hin⟩ := C0
  have hown : s.vm.findClass RX6 = some m.cls := hown
  have hl : lv_has ls 5 [(0, .ref x), (1, .int p1), (2, .int p2), (3, .int p3)] := hl
  refine lv_aload_n hx hb dX6_guardableStatus_0 rfl (lv_at hl 0 rfl) ?_
  refine lv_iload_n hx hb dX6_guardableStatus_1 rfl (lv_at hl 1 rfl) ?_
  refine lv_iload_n hx hb dX6_guardableStatus_2 rfl (lv_at hl 2 rfl) ?_
  refine lv_iload_n hx hb dX6_guardableStatus_3 rfl (lv_at hl 3 rfl) ?_
  refine rdV (rest := []) (q0 := 0) ⟨hx, hb, hml, hown, hts⟩ (k_X6_cellStatus l G x a ad tf st cn gv p1 p2 p3 hcl) mi_yX6_cellStatus mv_yX6_cellStatus ml_X6_174 ⟨rfl, rfl, Nat.le_of_ble_eq_true rfl, Nat.le_of_ble_eq_true rfl⟩ hK (hP) rfl rfl rfl hl.1 rfl (Nat.le_of_ble_eq_true rfl) dX6_guardableStatus_4 ⟨Nat.zero_le _, Nat.zero_le _⟩ hS hA hP (fun r1 H locs hr1 hP hS => ?_)
  obtain rfl : r1 = 1 := hr1
  refine lv_istore (lv' := [(4, .int 1), (0, .ref x), (1, .int p1), (2, .int p2), (3, .int p3)]) hx hb dX6_guardableStatus_7 hl (by decide) rfl (fun ls hl => ?_)
  refine lv_iload hx hb dX6_guardableStatus_9 (lv_at hl 0 rfl) ?_
  refine lv_if_eq (tgt := 17) hx hb dX6_guardableStatus_11 (by decide) (fun c2 => absurd c2 (by decide)) (fun _ => ?_)
  refine lv_iload hx hb dX6_guardableStatus_14 (lv_at hl 0 rfl) ?_
  exact rd_iret hx hb hr hlocks hS rfl dX6_guardableStatus_16
set_option maxHeartbeats 4000000 in
set_option maxRecDepth 100000 in
theorem k_X6_amountStatus (l : Launch) (G : GG) (x : Nat) (a : Nat → Nat) (ad : Nat → Nat → Nat) (tf : Nat → Nat → Int32) (st cn gv : Int32) (p1 p2 p3 : Int32) (hcl : ∀ j, j < 6 → tf j 0 = 0) : RdI l yX6_amountStatus cX6_amountStatus 5 (some .int) ({ frames := 4, cells := 0, slots := 0, locals := 93 }) G (xW G x a ad tf st cn gv) [.ref x, .int p1, .int p2, .int p3] (fun r => r = 1) := by
  refine rd_entry (by decide +kernel) (Nat.le_of_ble_eq_true rfl) ?_
  intro p e s m below meth c C0 hP hK ls hl
  have hS : va_S (fun q => s.heap.size ≤ q) s.heap s.heap [] := va_S.rf
  have hA : ∀ q, s.heap.size ≤ q → (fun q => s.heap.size ≤ q) q := fun _ h => h
  obtain ⟨hx, hb, hml, hown, hts, hr, hlocks, hin⟩ := C0
  have hown : s.vm.findClass RX6 = some m.cls := hown
  have hl : lv_has ls 5 [(0, .ref x), (1, .int p1), (2, .int p2), (3, .int p3)] := hl
  refine lv_aload_n hx hb dX6_amountStatus_0 rfl (lv_at hl 0 rfl) ?_
  refine lv_iload_n hx hb dX6_amountStatus_1 rfl (lv_at hl 1 rfl) ?_
  refine lv_iload_n hx hb dX6_amountStatus_2 rfl (lv_at hl 2 rfl) ?_
  refine lv_iload_n hx hb dX6_amountStatus_3 rfl (lv_at hl 3 rfl) ?_
  refine rdV (rest := []) (q0 := 0) ⟨hx, hb, hml, hown, hts⟩ (k_X6_filledStatus l G x a ad tf st cn gv p1 p2 p3 hcl) mi_yX6_filledStatus mv_yX6_filledStatus ml_X6_107 ⟨rfl, rfl, Nat.le_of_ble_eq_true rfl, Nat.le_of_ble_eq_true rfl⟩ hK (hP) rfl rfl rfl hl.1 rfl (Nat.le_of_ble_eq_true rfl) dX6_amountStatus_4 ⟨Nat.zero_le _, Nat.zero_le _⟩ hS hA hP (fun r1 H locs hr1 hP hS => ?_)
  obtain rfl : r1 = 1 := hr1
  refine lv_istore (lv' := [(4, .int 1), (0, .ref x), (1, .int p1), (2, .int p2), (3, .int p3)]) hx hb dX6_amountStatus_7 hl (by decide) rfl (fun ls hl => ?_)
  refine lv_iload hx hb dX6_amountStatus_9 (lv_at hl 0 rfl) ?_
  refine lv_if_eq (tgt := 17) hx hb dX6_amountStatus_11 (by decide) (fun c2 => absurd c2 (by decide)) (fun _ => ?_)
  refine lv_iload hx hb dX6_amountStatus_14 (lv_at hl 0 rfl) ?_
  exact rd_iret hx hb hr hlocks hS rfl dX6_amountStatus_16
set_option maxHeartbeats 4000000 in
set_option maxRecDepth 100000 in
theorem k_X6_soundCellStatus (l : Launch) (G : GG) (x : Nat) (a : Nat → Nat) (ad : Nat → Nat → Nat) (tf : Nat → Nat → Int32) (st cn gv : Int32) (p1 p2 p3 : Int32) (hcl : ∀ j, j < 6 → tf j 0 = 0) : RdI l yX6_soundCellStatus cX6_soundCellStatus 5 (some .int) ({ frames := 5, cells := 0, slots := 0, locals := 117 }) G (xW G x a ad tf st cn gv) [.ref x, .int p1, .int p2, .int p3] (fun r => r = 1) := by
  refine rd_entry (by decide +kernel) (Nat.le_of_ble_eq_true rfl) ?_
  intro p e s m below meth c C0 hP hK ls hl
  have hS : va_S (fun q => s.heap.size ≤ q) s.heap s.heap [] := va_S.rf
  have hA : ∀ q, s.heap.size ≤ q → (fun q => s.heap.size ≤ q) q := fun _ h => h
  obtain ⟨hx, hb, hml, hown, hts, hr, hlocks, hin⟩ := C0
  have hown : s.vm.findClass RX6 = some m.cls := hown
  have hl : lv_has ls 5 [(0, .ref x), (1, .int p1), (2, .int p2), (3, .int p3)] := hl
  refine lv_aload_n hx hb dX6_soundCellStatus_0 rfl (lv_at hl 0 rfl) ?_
  refine lv_iload_n hx hb dX6_soundCellStatus_1 rfl (lv_at hl 1 rfl) ?_
  refine lv_iload_n hx hb dX6_soundCellStatus_2 rfl (lv_at hl 2 rfl) ?_
  refine lv_iload_n hx hb dX6_soundCellStatus_3 rfl (lv_at hl 3 rfl) ?_
  refine rdV (rest := []) (q0 := 0) ⟨hx, hb, hml, hown, hts⟩ (k_X6_cellStatus l G x a ad tf st cn gv p1 p2 p3 hcl) mi_yX6_cellStatus mv_yX6_cellStatus ml_X6_174 ⟨rfl, rfl, Nat.le_of_ble_eq_true rfl, Nat.le_of_ble_eq_true rfl⟩ hK (hP) rfl rfl rfl hl.1 rfl (Nat.le_of_ble_eq_true rfl) dX6_soundCellStatus_4 ⟨Nat.zero_le _, Nat.zero_le _⟩ hS hA hP (fun r1 H locs hr1 hP hS => ?_)
  obtain rfl : r1 = 1 := hr1
  refine lv_istore (lv' := [(4, .int 1), (0, .ref x), (1, .int p1), (2, .int p2), (3, .int p3)]) hx hb dX6_soundCellStatus_7 hl (by decide) rfl (fun ls hl => ?_)
  refine lv_iload hx hb dX6_soundCellStatus_9 (lv_at hl 0 rfl) ?_
  refine lv_if_eq (tgt := 17) hx hb dX6_soundCellStatus_11 (by decide) (fun c2 => absurd c2 (by decide)) (fun _ => ?_)
  refine lv_iload hx hb dX6_soundCellStatus_14 (lv_at hl 0 rfl) ?_
  exact rd_iret hx hb hr hlocks hS rfl dX6_soundCellStatus_16
set_option maxHeartbeats 4000000 in
set_option maxRecDepth 100000 in
theorem k_X6_close (l : Launch) (G : GG) (x : Nat) (a : Nat → Nat) (ad : Nat → Nat → Nat) (tf : Nat → Nat → Int32) (st cn gv : Int32) (p1 : Int32) (hcl : ∀ j, j < 6 → tf j 0 = 0) : WrI l yX6_close cX6_close 2 (some .boolean) ({ frames := 1, cells := 0, slots := 0, locals := 21 }) G (xW G x a ad tf st cn gv) [.ref x, .int p1] (fun r _ => r = 0) := by
  refine wr_entryI (by decide +kernel) (Nat.le_of_ble_eq_true rfl) ?_
  intro p e s m below meth c A C0 hP hK hD hA ls hl
  have hS : va_S A s.heap s.heap [] := va_S.rf
  obtain ⟨hx, hb, hml, hown, hts, hr, hlocks, hin⟩ := C0
  have hown : s.vm.findClass RX6 = some m.cls := hown
  have hl : lv_has ls 2 [(0, .ref x), (1, .int p1)] := hl
  refine lv_aload_n hx hb dX6_close_0 rfl (lv_at hl 0 rfl) ?_
  refine lv_aload_n hx hb dX6_close_1 rfl (lv_at hl 0 rfl) ?_
  refine lv_iload_n hx hb dX6_close_2 rfl (lv_at hl 1 rfl) ?_
  refine rdV (rest := [.ref x]) (q0 := 0) ⟨hx, hb, hml, hown, hts⟩ (c_X6_tableStatus l G x a ad tf st cn gv p1) mi_yX6_tableStatus mv_yX6_tableStatus ml_X6_73 ⟨rfl, rfl, Nat.le_of_ble_eq_true rfl, Nat.le_of_ble_eq_true rfl⟩ hK (hP) rfl rfl rfl hl.1 rfl (Nat.le_of_ble_eq_true rfl) dX6_close_3 ⟨Nat.zero_le _, Nat.zero_le _⟩ hS hA hP (fun r1 H locs hr1 hP hS => ?_)
  obtain rfl : r1 = 1 := ts_one hr1 hcl
  refine wrVI (rest := []) (q0 := 0) ⟨hx, hb, hml, hown, hts⟩ (c_X6_settled l G x a st cn gv 1) mi_yX6_settled mv_yX6_settled ml_X6_65 ⟨rfl, rfl, Nat.le_of_ble_eq_true rfl, Nat.le_of_ble_eq_true rfl⟩ hK hP hD [0] rfl (by decide) rfl rfl rfl hl.1 rfl (Nat.le_of_ble_eq_true rfl) dX6_close_6 ⟨Nat.zero_le _, Nat.zero_le _⟩ hS hA (fun r2 w3 H locs hw3 hP hS => ?_)
  obtain ⟨hr2, rfl⟩ := hw3
  obtain rfl : r2 = 0 := hr2.trans (if_neg (by decide))
  have hP : PP G [(x, .inr (6, [.int 1, .ref (a 1), .ref (a 2), .ref (a 3), .ref (a 4), .ref (a 5), .ref (a 6), .int cn, .ref (a 8), .int gv])), ((a 1), .inl (G.2.2.2.1, 6, .inr (.inr (.inr (.inr (fun j => some (ad j 0))))))), ((ad 0 0), .inr (4, [.int (tf 0 0), .int (tf 0 1), .int (tf 0 2), .int (tf 0 3), .ref (ad 0 4), .ref (ad 0 5), .ref (ad 0 6), .ref (ad 0 7), .ref (ad 0 8), .ref (ad 0 9), .ref (ad 0 10), .ref (ad 0 11)])), ((ad 1 0), .inr (4, [.int (tf 1 0), .int (tf 1 1), .int (tf 1 2), .int (tf 1 3), .ref (ad 1 4), .ref (ad 1 5), .ref (ad 1 6), .ref (ad 1 7), .ref (ad 1 8), .ref (ad 1 9), .ref (ad 1 10), .ref (ad 1 11)])), ((ad 2 0), .inr (4, [.int (tf 2 0), .int (tf 2 1), .int (tf 2 2), .int (tf 2 3), .ref (ad 2 4), .ref (ad 2 5), .ref (ad 2 6), .ref (ad 2 7), .ref (ad 2 8), .ref (ad 2 9), .ref (ad 2 10), .ref (ad 2 11)])), ((ad 3 0), .inr (4, [.int (tf 3 0), .int (tf 3 1), .int (tf 3 2), .int (tf 3 3), .ref (ad 3 4), .ref (ad 3 5), .ref (ad 3 6), .ref (ad 3 7), .ref (ad 3 8), .ref (ad 3 9), .ref (ad 3 10), .ref (ad 3 11)])), ((ad 4 0), .inr (4, [.int (tf 4 0), .int (tf 4 1), .int (tf 4 2), .int (tf 4 3), .ref (ad 4 4), .ref (ad 4 5), .ref (ad 4 6), .ref (ad 4 7), .ref (ad 4 8), .ref (ad 4 9), .ref (ad 4 10), .ref (ad 4 11)])), ((ad 5 0), .inr (4, [.int (tf 5 0), .int (tf 5 1), .int (tf 5 2), .int (tf 5 3), .ref (ad 5 4), .ref (ad 5 5), .ref (ad 5 6), .ref (ad 5 7), .ref (ad 5 8), .ref (ad 5 9), .ref (ad 5 10), .ref (ad 5 11)]))] H := hP rfl
  have hD : va_D A [(x, .inr (6, [.int 1, .ref (a 1), .ref (a 2), .ref (a 3), .ref (a 4), .ref (a 5), .ref (a 6), .int cn, .ref (a 8), .int gv])), ((a 1), .inl (G.2.2.2.1, 6, .inr (.inr (.inr (.inr (fun j => some (ad j 0))))))), ((ad 0 0), .inr (4, [.int (tf 0 0), .int (tf 0 1), .int (tf 0 2), .int (tf 0 3), .ref (ad 0 4), .ref (ad 0 5), .ref (ad 0 6), .ref (ad 0 7), .ref (ad 0 8), .ref (ad 0 9), .ref (ad 0 10), .ref (ad 0 11)])), ((ad 1 0), .inr (4, [.int (tf 1 0), .int (tf 1 1), .int (tf 1 2), .int (tf 1 3), .ref (ad 1 4), .ref (ad 1 5), .ref (ad 1 6), .ref (ad 1 7), .ref (ad 1 8), .ref (ad 1 9), .ref (ad 1 10), .ref (ad 1 11)])), ((ad 2 0), .inr (4, [.int (tf 2 0), .int (tf 2 1), .int (tf 2 2), .int (tf 2 3), .ref (ad 2 4), .ref (ad 2 5), .ref (ad 2 6), .ref (ad 2 7), .ref (ad 2 8), .ref (ad 2 9), .ref (ad 2 10), .ref (ad 2 11)])), ((ad 3 0), .inr (4, [.int (tf 3 0), .int (tf 3 1), .int (tf 3 2), .int (tf 3 3), .ref (ad 3 4), .ref (ad 3 5), .ref (ad 3 6), .ref (ad 3 7), .ref (ad 3 8), .ref (ad 3 9), .ref (ad 3 10), .ref (ad 3 11)])), ((ad 4 0), .inr (4, [.int (tf 4 0), .int (tf 4 1), .int (tf 4 2), .int (tf 4 3), .ref (ad 4 4), .ref (ad 4 5), .ref (ad 4 6), .ref (ad 4 7), .ref (ad 4 8), .ref (ad 4 9), .ref (ad 4 10), .ref (ad 4 11)])), ((ad 5 0), .inr (4, [.int (tf 5 0), .int (tf 5 1), .int (tf 5 2), .int (tf 5 3), .ref (ad 5 4), .ref (ad 5 5), .ref (ad 5 6), .ref (ad 5 7), .ref (ad 5 8), .ref (ad 5 9), .ref (ad 5 10), .ref (ad 5 11)]))] := D_same hD rfl
  refine lv_if_ne (tgt := 14) hx hb dX6_close_9 (by decide) (fun c4 => absurd (by decide) c4) (fun _ => ?_)
  refine lv_iconst (v := 0) hx hb dX6_close_12 (by decide) ?_
  exact wr_zret hx hb hr hlocks (Or.inl rfl) hS hP rfl dX6_close_13
set_option maxHeartbeats 4000000 in
set_option maxRecDepth 100000 in
theorem k_X6_rule (l : Launch) (G : GG) (x : Nat) (a : Nat → Nat) (ad : Nat → Nat → Nat) (tf : Nat → Nat → Int32) (st cn gv : Int32) (p1 p2 p3 : Int32) (hcl : ∀ j, j < 6 → tf j 0 = 0) : WrI l yX6_rule cX6_rule 4 (some .boolean) ({ frames := 1, cells := 0, slots := 0, locals := 21 }) G (xW G x a ad tf st cn gv) [.ref x, .int p1, .int p2, .int p3] (fun r _ => r = 0) := by
  refine wr_entryI (by decide +kernel) (Nat.le_of_ble_eq_true rfl) ?_
  intro p e s m below meth c A C0 hP hK hD hA ls hl
  have hS : va_S A s.heap s.heap [] := va_S.rf
  obtain ⟨hx, hb, hml, hown, hts, hr, hlocks, hin⟩ := C0
  have hown : s.vm.findClass RX6 = some m.cls := hown
  have hl : lv_has ls 4 [(0, .ref x), (1, .int p1), (2, .int p2), (3, .int p3)] := hl
  refine lv_aload_n hx hb dX6_rule_0 rfl (lv_at hl 0 rfl) ?_
  refine lv_aload_n hx hb dX6_rule_1 rfl (lv_at hl 0 rfl) ?_
  refine lv_iload_n hx hb dX6_rule_2 rfl (lv_at hl 1 rfl) ?_
  refine rdV (rest := [.ref x]) (q0 := 0) ⟨hx, hb, hml, hown, hts⟩ (c_X6_tableStatus l G x a ad tf st cn gv p1) mi_yX6_tableStatus mv_yX6_tableStatus ml_X6_73 ⟨rfl, rfl, Nat.le_of_ble_eq_true rfl, Nat.le_of_ble_eq_true rfl⟩ hK (hP) rfl rfl rfl hl.1 rfl (Nat.le_of_ble_eq_true rfl) dX6_rule_3 ⟨Nat.zero_le _, Nat.zero_le _⟩ hS hA hP (fun r1 H locs hr1 hP hS => ?_)
  obtain rfl : r1 = 1 := ts_one hr1 hcl
  refine wrVI (rest := []) (q0 := 0) ⟨hx, hb, hml, hown, hts⟩ (c_X6_settled l G x a st cn gv 1) mi_yX6_settled mv_yX6_settled ml_X6_65 ⟨rfl, rfl, Nat.le_of_ble_eq_true rfl, Nat.le_of_ble_eq_true rfl⟩ hK hP hD [0] rfl (by decide) rfl rfl rfl hl.1 rfl (Nat.le_of_ble_eq_true rfl) dX6_rule_6 ⟨Nat.zero_le _, Nat.zero_le _⟩ hS hA (fun r2 w3 H locs hw3 hP hS => ?_)
  obtain ⟨hr2, rfl⟩ := hw3
  obtain rfl : r2 = 0 := hr2.trans (if_neg (by decide))
  have hP : PP G [(x, .inr (6, [.int 1, .ref (a 1), .ref (a 2), .ref (a 3), .ref (a 4), .ref (a 5), .ref (a 6), .int cn, .ref (a 8), .int gv])), ((a 1), .inl (G.2.2.2.1, 6, .inr (.inr (.inr (.inr (fun j => some (ad j 0))))))), ((ad 0 0), .inr (4, [.int (tf 0 0), .int (tf 0 1), .int (tf 0 2), .int (tf 0 3), .ref (ad 0 4), .ref (ad 0 5), .ref (ad 0 6), .ref (ad 0 7), .ref (ad 0 8), .ref (ad 0 9), .ref (ad 0 10), .ref (ad 0 11)])), ((ad 1 0), .inr (4, [.int (tf 1 0), .int (tf 1 1), .int (tf 1 2), .int (tf 1 3), .ref (ad 1 4), .ref (ad 1 5), .ref (ad 1 6), .ref (ad 1 7), .ref (ad 1 8), .ref (ad 1 9), .ref (ad 1 10), .ref (ad 1 11)])), ((ad 2 0), .inr (4, [.int (tf 2 0), .int (tf 2 1), .int (tf 2 2), .int (tf 2 3), .ref (ad 2 4), .ref (ad 2 5), .ref (ad 2 6), .ref (ad 2 7), .ref (ad 2 8), .ref (ad 2 9), .ref (ad 2 10), .ref (ad 2 11)])), ((ad 3 0), .inr (4, [.int (tf 3 0), .int (tf 3 1), .int (tf 3 2), .int (tf 3 3), .ref (ad 3 4), .ref (ad 3 5), .ref (ad 3 6), .ref (ad 3 7), .ref (ad 3 8), .ref (ad 3 9), .ref (ad 3 10), .ref (ad 3 11)])), ((ad 4 0), .inr (4, [.int (tf 4 0), .int (tf 4 1), .int (tf 4 2), .int (tf 4 3), .ref (ad 4 4), .ref (ad 4 5), .ref (ad 4 6), .ref (ad 4 7), .ref (ad 4 8), .ref (ad 4 9), .ref (ad 4 10), .ref (ad 4 11)])), ((ad 5 0), .inr (4, [.int (tf 5 0), .int (tf 5 1), .int (tf 5 2), .int (tf 5 3), .ref (ad 5 4), .ref (ad 5 5), .ref (ad 5 6), .ref (ad 5 7), .ref (ad 5 8), .ref (ad 5 9), .ref (ad 5 10), .ref (ad 5 11)]))] H := hP rfl
  have hD : va_D A [(x, .inr (6, [.int 1, .ref (a 1), .ref (a 2), .ref (a 3), .ref (a 4), .ref (a 5), .ref (a 6), .int cn, .ref (a 8), .int gv])), ((a 1), .inl (G.2.2.2.1, 6, .inr (.inr (.inr (.inr (fun j => some (ad j 0))))))), ((ad 0 0), .inr (4, [.int (tf 0 0), .int (tf 0 1), .int (tf 0 2), .int (tf 0 3), .ref (ad 0 4), .ref (ad 0 5), .ref (ad 0 6), .ref (ad 0 7), .ref (ad 0 8), .ref (ad 0 9), .ref (ad 0 10), .ref (ad 0 11)])), ((ad 1 0), .inr (4, [.int (tf 1 0), .int (tf 1 1), .int (tf 1 2), .int (tf 1 3), .ref (ad 1 4), .ref (ad 1 5), .ref (ad 1 6), .ref (ad 1 7), .ref (ad 1 8), .ref (ad 1 9), .ref (ad 1 10), .ref (ad 1 11)])), ((ad 2 0), .inr (4, [.int (tf 2 0), .int (tf 2 1), .int (tf 2 2), .int (tf 2 3), .ref (ad 2 4), .ref (ad 2 5), .ref (ad 2 6), .ref (ad 2 7), .ref (ad 2 8), .ref (ad 2 9), .ref (ad 2 10), .ref (ad 2 11)])), ((ad 3 0), .inr (4, [.int (tf 3 0), .int (tf 3 1), .int (tf 3 2), .int (tf 3 3), .ref (ad 3 4), .ref (ad 3 5), .ref (ad 3 6), .ref (ad 3 7), .ref (ad 3 8), .ref (ad 3 9), .ref (ad 3 10), .ref (ad 3 11)])), ((ad 4 0), .inr (4, [.int (tf 4 0), .int (tf 4 1), .int (tf 4 2), .int (tf 4 3), .ref (ad 4 4), .ref (ad 4 5), .ref (ad 4 6), .ref (ad 4 7), .ref (ad 4 8), .ref (ad 4 9), .ref (ad 4 10), .ref (ad 4 11)])), ((ad 5 0), .inr (4, [.int (tf 5 0), .int (tf 5 1), .int (tf 5 2), .int (tf 5 3), .ref (ad 5 4), .ref (ad 5 5), .ref (ad 5 6), .ref (ad 5 7), .ref (ad 5 8), .ref (ad 5 9), .ref (ad 5 10), .ref (ad 5 11)]))] := D_same hD rfl
  refine lv_if_ne (tgt := 14) hx hb dX6_rule_9 (by decide) (fun c4 => absurd (by decide) c4) (fun _ => ?_)
  refine lv_iconst (v := 0) hx hb dX6_rule_12 (by decide) ?_
  exact wr_zret hx hb hr hlocks (Or.inl rfl) hS hP rfl dX6_rule_13
set_option maxHeartbeats 4000000 in
set_option maxRecDepth 100000 in
theorem k_X6_cell (l : Launch) (G : GG) (x : Nat) (a : Nat → Nat) (ad : Nat → Nat → Nat) (tf : Nat → Nat → Int32) (st cn gv : Int32) (p1 p2 p3 p4 p5 : Int32) (hcl : ∀ j, j < 6 → tf j 0 = 0) : WrI l yX6_cell cX6_cell 6 (some .boolean) ({ frames := 3, cells := 0, slots := 0, locals := 69 }) G (xW G x a ad tf st cn gv) [.ref x, .int p1, .int p2, .int p3, .int p4, .int p5] (fun r _ => r = 0) := by
  refine wr_entryI (by decide +kernel) (Nat.le_of_ble_eq_true rfl) ?_
  intro p e s m below meth c A C0 hP hK hD hA ls hl
  have hS : va_S A s.heap s.heap [] := va_S.rf
  obtain ⟨hx, hb, hml, hown, hts, hr, hlocks, hin⟩ := C0
  have hown : s.vm.findClass RX6 = some m.cls := hown
  have hl : lv_has ls 6 [(0, .ref x), (1, .int p1), (2, .int p2), (3, .int p3), (4, .int p4), (5, .int p5)] := hl
  refine lv_aload_n hx hb dX6_cell_0 rfl (lv_at hl 0 rfl) ?_
  refine lv_aload_n hx hb dX6_cell_1 rfl (lv_at hl 0 rfl) ?_
  refine lv_iload_n hx hb dX6_cell_2 rfl (lv_at hl 1 rfl) ?_
  refine lv_iload_n hx hb dX6_cell_3 rfl (lv_at hl 2 rfl) ?_
  refine lv_iload_n hx hb dX6_cell_4 rfl (lv_at hl 3 rfl) ?_
  refine rdV (rest := [.ref x]) (q0 := 0) ⟨hx, hb, hml, hown, hts⟩ (k_X6_placeStatus l G x a ad tf st cn gv p1 p2 p3 hcl) mi_yX6_placeStatus mv_yX6_placeStatus ml_X6_84 ⟨rfl, rfl, Nat.le_of_ble_eq_true rfl, Nat.le_of_ble_eq_true rfl⟩ hK (hP) rfl rfl rfl hl.1 rfl (Nat.le_of_ble_eq_true rfl) dX6_cell_5 ⟨Nat.zero_le _, Nat.zero_le _⟩ hS hA hP (fun r1 H locs hr1 hP hS => ?_)
  obtain rfl : r1 = 1 := hr1
  refine wrVI (rest := []) (q0 := 0) ⟨hx, hb, hml, hown, hts⟩ (c_X6_settled l G x a st cn gv 1) mi_yX6_settled mv_yX6_settled ml_X6_65 ⟨rfl, rfl, Nat.le_of_ble_eq_true rfl, Nat.le_of_ble_eq_true rfl⟩ hK hP hD [0] rfl (by decide) rfl rfl rfl hl.1 rfl (Nat.le_of_ble_eq_true rfl) dX6_cell_8 ⟨Nat.zero_le _, Nat.zero_le _⟩ hS hA (fun r2 w3 H locs hw3 hP hS => ?_)
  obtain ⟨hr2, rfl⟩ := hw3
  obtain rfl : r2 = 0 := hr2.trans (if_neg (by decide))
  have hP : PP G [(x, .inr (6, [.int 1, .ref (a 1), .ref (a 2), .ref (a 3), .ref (a 4), .ref (a 5), .ref (a 6), .int cn, .ref (a 8), .int gv])), ((a 1), .inl (G.2.2.2.1, 6, .inr (.inr (.inr (.inr (fun j => some (ad j 0))))))), ((ad 0 0), .inr (4, [.int (tf 0 0), .int (tf 0 1), .int (tf 0 2), .int (tf 0 3), .ref (ad 0 4), .ref (ad 0 5), .ref (ad 0 6), .ref (ad 0 7), .ref (ad 0 8), .ref (ad 0 9), .ref (ad 0 10), .ref (ad 0 11)])), ((ad 1 0), .inr (4, [.int (tf 1 0), .int (tf 1 1), .int (tf 1 2), .int (tf 1 3), .ref (ad 1 4), .ref (ad 1 5), .ref (ad 1 6), .ref (ad 1 7), .ref (ad 1 8), .ref (ad 1 9), .ref (ad 1 10), .ref (ad 1 11)])), ((ad 2 0), .inr (4, [.int (tf 2 0), .int (tf 2 1), .int (tf 2 2), .int (tf 2 3), .ref (ad 2 4), .ref (ad 2 5), .ref (ad 2 6), .ref (ad 2 7), .ref (ad 2 8), .ref (ad 2 9), .ref (ad 2 10), .ref (ad 2 11)])), ((ad 3 0), .inr (4, [.int (tf 3 0), .int (tf 3 1), .int (tf 3 2), .int (tf 3 3), .ref (ad 3 4), .ref (ad 3 5), .ref (ad 3 6), .ref (ad 3 7), .ref (ad 3 8), .ref (ad 3 9), .ref (ad 3 10), .ref (ad 3 11)])), ((ad 4 0), .inr (4, [.int (tf 4 0), .int (tf 4 1), .int (tf 4 2), .int (tf 4 3), .ref (ad 4 4), .ref (ad 4 5), .ref (ad 4 6), .ref (ad 4 7), .ref (ad 4 8), .ref (ad 4 9), .ref (ad 4 10), .ref (ad 4 11)])), ((ad 5 0), .inr (4, [.int (tf 5 0), .int (tf 5 1), .int (tf 5 2), .int (tf 5 3), .ref (ad 5 4), .ref (ad 5 5), .ref (ad 5 6), .ref (ad 5 7), .ref (ad 5 8), .ref (ad 5 9), .ref (ad 5 10), .ref (ad 5 11)]))] H := hP rfl
  have hD : va_D A [(x, .inr (6, [.int 1, .ref (a 1), .ref (a 2), .ref (a 3), .ref (a 4), .ref (a 5), .ref (a 6), .int cn, .ref (a 8), .int gv])), ((a 1), .inl (G.2.2.2.1, 6, .inr (.inr (.inr (.inr (fun j => some (ad j 0))))))), ((ad 0 0), .inr (4, [.int (tf 0 0), .int (tf 0 1), .int (tf 0 2), .int (tf 0 3), .ref (ad 0 4), .ref (ad 0 5), .ref (ad 0 6), .ref (ad 0 7), .ref (ad 0 8), .ref (ad 0 9), .ref (ad 0 10), .ref (ad 0 11)])), ((ad 1 0), .inr (4, [.int (tf 1 0), .int (tf 1 1), .int (tf 1 2), .int (tf 1 3), .ref (ad 1 4), .ref (ad 1 5), .ref (ad 1 6), .ref (ad 1 7), .ref (ad 1 8), .ref (ad 1 9), .ref (ad 1 10), .ref (ad 1 11)])), ((ad 2 0), .inr (4, [.int (tf 2 0), .int (tf 2 1), .int (tf 2 2), .int (tf 2 3), .ref (ad 2 4), .ref (ad 2 5), .ref (ad 2 6), .ref (ad 2 7), .ref (ad 2 8), .ref (ad 2 9), .ref (ad 2 10), .ref (ad 2 11)])), ((ad 3 0), .inr (4, [.int (tf 3 0), .int (tf 3 1), .int (tf 3 2), .int (tf 3 3), .ref (ad 3 4), .ref (ad 3 5), .ref (ad 3 6), .ref (ad 3 7), .ref (ad 3 8), .ref (ad 3 9), .ref (ad 3 10), .ref (ad 3 11)])), ((ad 4 0), .inr (4, [.int (tf 4 0), .int (tf 4 1), .int (tf 4 2), .int (tf 4 3), .ref (ad 4 4), .ref (ad 4 5), .ref (ad 4 6), .ref (ad 4 7), .ref (ad 4 8), .ref (ad 4 9), .ref (ad 4 10), .ref (ad 4 11)])), ((ad 5 0), .inr (4, [.int (tf 5 0), .int (tf 5 1), .int (tf 5 2), .int (tf 5 3), .ref (ad 5 4), .ref (ad 5 5), .ref (ad 5 6), .ref (ad 5 7), .ref (ad 5 8), .ref (ad 5 9), .ref (ad 5 10), .ref (ad 5 11)]))] := D_same hD rfl
  refine lv_if_ne (tgt := 16) hx hb dX6_cell_11 (by decide) (fun c4 => absurd (by decide) c4) (fun _ => ?_)
  refine lv_iconst (v := 0) hx hb dX6_cell_14 (by decide) ?_
  exact wr_zret hx hb hr hlocks (Or.inl rfl) hS hP rfl dX6_cell_15
set_option maxHeartbeats 4000000 in
set_option maxRecDepth 100000 in
theorem k_X6_giver (l : Launch) (G : GG) (x : Nat) (a : Nat → Nat) (ad : Nat → Nat → Nat) (tf : Nat → Nat → Int32) (st cn gv : Int32) (p1 p2 p3 p4 : Int32) (hcl : ∀ j, j < 6 → tf j 0 = 0) : WrI l yX6_giver cX6_giver 5 (some .boolean) ({ frames := 5, cells := 0, slots := 0, locals := 117 }) G (xW G x a ad tf st cn gv) [.ref x, .int p1, .int p2, .int p3, .int p4] (fun r _ => r = 0) := by
  refine wr_entryI (by decide +kernel) (Nat.le_of_ble_eq_true rfl) ?_
  intro p e s m below meth c A C0 hP hK hD hA ls hl
  have hS : va_S A s.heap s.heap [] := va_S.rf
  obtain ⟨hx, hb, hml, hown, hts, hr, hlocks, hin⟩ := C0
  have hown : s.vm.findClass RX6 = some m.cls := hown
  have hl : lv_has ls 5 [(0, .ref x), (1, .int p1), (2, .int p2), (3, .int p3), (4, .int p4)] := hl
  refine lv_aload_n hx hb dX6_giver_0 rfl (lv_at hl 0 rfl) ?_
  refine lv_aload_n hx hb dX6_giver_1 rfl (lv_at hl 0 rfl) ?_
  refine lv_iload_n hx hb dX6_giver_2 rfl (lv_at hl 1 rfl) ?_
  refine lv_iload_n hx hb dX6_giver_3 rfl (lv_at hl 2 rfl) ?_
  refine lv_iload_n hx hb dX6_giver_4 rfl (lv_at hl 3 rfl) ?_
  refine rdV (rest := [.ref x]) (q0 := 0) ⟨hx, hb, hml, hown, hts⟩ (k_X6_amountStatus l G x a ad tf st cn gv p1 p2 p3 hcl) mi_yX6_amountStatus mv_yX6_amountStatus ml_X6_100 ⟨rfl, rfl, Nat.le_of_ble_eq_true rfl, Nat.le_of_ble_eq_true rfl⟩ hK (hP) rfl rfl rfl hl.1 rfl (Nat.le_of_ble_eq_true rfl) dX6_giver_5 ⟨Nat.zero_le _, Nat.zero_le _⟩ hS hA hP (fun r1 H locs hr1 hP hS => ?_)
  obtain rfl : r1 = 1 := hr1
  refine wrVI (rest := []) (q0 := 0) ⟨hx, hb, hml, hown, hts⟩ (c_X6_settled l G x a st cn gv 1) mi_yX6_settled mv_yX6_settled ml_X6_65 ⟨rfl, rfl, Nat.le_of_ble_eq_true rfl, Nat.le_of_ble_eq_true rfl⟩ hK hP hD [0] rfl (by decide) rfl rfl rfl hl.1 rfl (Nat.le_of_ble_eq_true rfl) dX6_giver_8 ⟨Nat.zero_le _, Nat.zero_le _⟩ hS hA (fun r2 w3 H locs hw3 hP hS => ?_)
  obtain ⟨hr2, rfl⟩ := hw3
  obtain rfl : r2 = 0 := hr2.trans (if_neg (by decide))
  have hP : PP G [(x, .inr (6, [.int 1, .ref (a 1), .ref (a 2), .ref (a 3), .ref (a 4), .ref (a 5), .ref (a 6), .int cn, .ref (a 8), .int gv])), ((a 1), .inl (G.2.2.2.1, 6, .inr (.inr (.inr (.inr (fun j => some (ad j 0))))))), ((ad 0 0), .inr (4, [.int (tf 0 0), .int (tf 0 1), .int (tf 0 2), .int (tf 0 3), .ref (ad 0 4), .ref (ad 0 5), .ref (ad 0 6), .ref (ad 0 7), .ref (ad 0 8), .ref (ad 0 9), .ref (ad 0 10), .ref (ad 0 11)])), ((ad 1 0), .inr (4, [.int (tf 1 0), .int (tf 1 1), .int (tf 1 2), .int (tf 1 3), .ref (ad 1 4), .ref (ad 1 5), .ref (ad 1 6), .ref (ad 1 7), .ref (ad 1 8), .ref (ad 1 9), .ref (ad 1 10), .ref (ad 1 11)])), ((ad 2 0), .inr (4, [.int (tf 2 0), .int (tf 2 1), .int (tf 2 2), .int (tf 2 3), .ref (ad 2 4), .ref (ad 2 5), .ref (ad 2 6), .ref (ad 2 7), .ref (ad 2 8), .ref (ad 2 9), .ref (ad 2 10), .ref (ad 2 11)])), ((ad 3 0), .inr (4, [.int (tf 3 0), .int (tf 3 1), .int (tf 3 2), .int (tf 3 3), .ref (ad 3 4), .ref (ad 3 5), .ref (ad 3 6), .ref (ad 3 7), .ref (ad 3 8), .ref (ad 3 9), .ref (ad 3 10), .ref (ad 3 11)])), ((ad 4 0), .inr (4, [.int (tf 4 0), .int (tf 4 1), .int (tf 4 2), .int (tf 4 3), .ref (ad 4 4), .ref (ad 4 5), .ref (ad 4 6), .ref (ad 4 7), .ref (ad 4 8), .ref (ad 4 9), .ref (ad 4 10), .ref (ad 4 11)])), ((ad 5 0), .inr (4, [.int (tf 5 0), .int (tf 5 1), .int (tf 5 2), .int (tf 5 3), .ref (ad 5 4), .ref (ad 5 5), .ref (ad 5 6), .ref (ad 5 7), .ref (ad 5 8), .ref (ad 5 9), .ref (ad 5 10), .ref (ad 5 11)]))] H := hP rfl
  have hD : va_D A [(x, .inr (6, [.int 1, .ref (a 1), .ref (a 2), .ref (a 3), .ref (a 4), .ref (a 5), .ref (a 6), .int cn, .ref (a 8), .int gv])), ((a 1), .inl (G.2.2.2.1, 6, .inr (.inr (.inr (.inr (fun j => some (ad j 0))))))), ((ad 0 0), .inr (4, [.int (tf 0 0), .int (tf 0 1), .int (tf 0 2), .int (tf 0 3), .ref (ad 0 4), .ref (ad 0 5), .ref (ad 0 6), .ref (ad 0 7), .ref (ad 0 8), .ref (ad 0 9), .ref (ad 0 10), .ref (ad 0 11)])), ((ad 1 0), .inr (4, [.int (tf 1 0), .int (tf 1 1), .int (tf 1 2), .int (tf 1 3), .ref (ad 1 4), .ref (ad 1 5), .ref (ad 1 6), .ref (ad 1 7), .ref (ad 1 8), .ref (ad 1 9), .ref (ad 1 10), .ref (ad 1 11)])), ((ad 2 0), .inr (4, [.int (tf 2 0), .int (tf 2 1), .int (tf 2 2), .int (tf 2 3), .ref (ad 2 4), .ref (ad 2 5), .ref (ad 2 6), .ref (ad 2 7), .ref (ad 2 8), .ref (ad 2 9), .ref (ad 2 10), .ref (ad 2 11)])), ((ad 3 0), .inr (4, [.int (tf 3 0), .int (tf 3 1), .int (tf 3 2), .int (tf 3 3), .ref (ad 3 4), .ref (ad 3 5), .ref (ad 3 6), .ref (ad 3 7), .ref (ad 3 8), .ref (ad 3 9), .ref (ad 3 10), .ref (ad 3 11)])), ((ad 4 0), .inr (4, [.int (tf 4 0), .int (tf 4 1), .int (tf 4 2), .int (tf 4 3), .ref (ad 4 4), .ref (ad 4 5), .ref (ad 4 6), .ref (ad 4 7), .ref (ad 4 8), .ref (ad 4 9), .ref (ad 4 10), .ref (ad 4 11)])), ((ad 5 0), .inr (4, [.int (tf 5 0), .int (tf 5 1), .int (tf 5 2), .int (tf 5 3), .ref (ad 5 4), .ref (ad 5 5), .ref (ad 5 6), .ref (ad 5 7), .ref (ad 5 8), .ref (ad 5 9), .ref (ad 5 10), .ref (ad 5 11)]))] := D_same hD rfl
  refine lv_if_ne (tgt := 16) hx hb dX6_giver_11 (by decide) (fun c4 => absurd (by decide) c4) (fun _ => ?_)
  refine lv_iconst (v := 0) hx hb dX6_giver_14 (by decide) ?_
  exact wr_zret hx hb hr hlocks (Or.inl rfl) hS hP rfl dX6_giver_15
set_option maxHeartbeats 4000000 in
set_option maxRecDepth 100000 in
theorem k_X6_clear (l : Launch) (G : GG) (x : Nat) (a : Nat → Nat) (ad : Nat → Nat → Nat) (tf : Nat → Nat → Int32) (st cn gv : Int32) (p1 p2 p3 : Int32) (hcl : ∀ j, j < 6 → tf j 0 = 0) : WrI l yX6_clear cX6_clear 4 (some .boolean) ({ frames := 4, cells := 0, slots := 0, locals := 93 }) G (xW G x a ad tf st cn gv) [.ref x, .int p1, .int p2, .int p3] (fun r _ => r = 0) := by
  refine wr_entryI (by decide +kernel) (Nat.le_of_ble_eq_true rfl) ?_
  intro p e s m below meth c A C0 hP hK hD hA ls hl
  have hS : va_S A s.heap s.heap [] := va_S.rf
  obtain ⟨hx, hb, hml, hown, hts, hr, hlocks, hin⟩ := C0
  have hown : s.vm.findClass RX6 = some m.cls := hown
  have hl : lv_has ls 4 [(0, .ref x), (1, .int p1), (2, .int p2), (3, .int p3)] := hl
  refine lv_aload_n hx hb dX6_clear_0 rfl (lv_at hl 0 rfl) ?_
  refine lv_aload_n hx hb dX6_clear_1 rfl (lv_at hl 0 rfl) ?_
  refine lv_iload_n hx hb dX6_clear_2 rfl (lv_at hl 1 rfl) ?_
  refine lv_iload_n hx hb dX6_clear_3 rfl (lv_at hl 2 rfl) ?_
  refine lv_iload_n hx hb dX6_clear_4 rfl (lv_at hl 3 rfl) ?_
  refine rdV (rest := [.ref x]) (q0 := 0) ⟨hx, hb, hml, hown, hts⟩ (k_X6_filledStatus l G x a ad tf st cn gv p1 p2 p3 hcl) mi_yX6_filledStatus mv_yX6_filledStatus ml_X6_107 ⟨rfl, rfl, Nat.le_of_ble_eq_true rfl, Nat.le_of_ble_eq_true rfl⟩ hK (hP) rfl rfl rfl hl.1 rfl (Nat.le_of_ble_eq_true rfl) dX6_clear_5 ⟨Nat.zero_le _, Nat.zero_le _⟩ hS hA hP (fun r1 H locs hr1 hP hS => ?_)
  obtain rfl : r1 = 1 := hr1
  refine wrVI (rest := []) (q0 := 0) ⟨hx, hb, hml, hown, hts⟩ (c_X6_settled l G x a st cn gv 1) mi_yX6_settled mv_yX6_settled ml_X6_65 ⟨rfl, rfl, Nat.le_of_ble_eq_true rfl, Nat.le_of_ble_eq_true rfl⟩ hK hP hD [0] rfl (by decide) rfl rfl rfl hl.1 rfl (Nat.le_of_ble_eq_true rfl) dX6_clear_8 ⟨Nat.zero_le _, Nat.zero_le _⟩ hS hA (fun r2 w3 H locs hw3 hP hS => ?_)
  obtain ⟨hr2, rfl⟩ := hw3
  obtain rfl : r2 = 0 := hr2.trans (if_neg (by decide))
  have hP : PP G [(x, .inr (6, [.int 1, .ref (a 1), .ref (a 2), .ref (a 3), .ref (a 4), .ref (a 5), .ref (a 6), .int cn, .ref (a 8), .int gv])), ((a 1), .inl (G.2.2.2.1, 6, .inr (.inr (.inr (.inr (fun j => some (ad j 0))))))), ((ad 0 0), .inr (4, [.int (tf 0 0), .int (tf 0 1), .int (tf 0 2), .int (tf 0 3), .ref (ad 0 4), .ref (ad 0 5), .ref (ad 0 6), .ref (ad 0 7), .ref (ad 0 8), .ref (ad 0 9), .ref (ad 0 10), .ref (ad 0 11)])), ((ad 1 0), .inr (4, [.int (tf 1 0), .int (tf 1 1), .int (tf 1 2), .int (tf 1 3), .ref (ad 1 4), .ref (ad 1 5), .ref (ad 1 6), .ref (ad 1 7), .ref (ad 1 8), .ref (ad 1 9), .ref (ad 1 10), .ref (ad 1 11)])), ((ad 2 0), .inr (4, [.int (tf 2 0), .int (tf 2 1), .int (tf 2 2), .int (tf 2 3), .ref (ad 2 4), .ref (ad 2 5), .ref (ad 2 6), .ref (ad 2 7), .ref (ad 2 8), .ref (ad 2 9), .ref (ad 2 10), .ref (ad 2 11)])), ((ad 3 0), .inr (4, [.int (tf 3 0), .int (tf 3 1), .int (tf 3 2), .int (tf 3 3), .ref (ad 3 4), .ref (ad 3 5), .ref (ad 3 6), .ref (ad 3 7), .ref (ad 3 8), .ref (ad 3 9), .ref (ad 3 10), .ref (ad 3 11)])), ((ad 4 0), .inr (4, [.int (tf 4 0), .int (tf 4 1), .int (tf 4 2), .int (tf 4 3), .ref (ad 4 4), .ref (ad 4 5), .ref (ad 4 6), .ref (ad 4 7), .ref (ad 4 8), .ref (ad 4 9), .ref (ad 4 10), .ref (ad 4 11)])), ((ad 5 0), .inr (4, [.int (tf 5 0), .int (tf 5 1), .int (tf 5 2), .int (tf 5 3), .ref (ad 5 4), .ref (ad 5 5), .ref (ad 5 6), .ref (ad 5 7), .ref (ad 5 8), .ref (ad 5 9), .ref (ad 5 10), .ref (ad 5 11)]))] H := hP rfl
  have hD : va_D A [(x, .inr (6, [.int 1, .ref (a 1), .ref (a 2), .ref (a 3), .ref (a 4), .ref (a 5), .ref (a 6), .int cn, .ref (a 8), .int gv])), ((a 1), .inl (G.2.2.2.1, 6, .inr (.inr (.inr (.inr (fun j => some (ad j 0))))))), ((ad 0 0), .inr (4, [.int (tf 0 0), .int (tf 0 1), .int (tf 0 2), .int (tf 0 3), .ref (ad 0 4), .ref (ad 0 5), .ref (ad 0 6), .ref (ad 0 7), .ref (ad 0 8), .ref (ad 0 9), .ref (ad 0 10), .ref (ad 0 11)])), ((ad 1 0), .inr (4, [.int (tf 1 0), .int (tf 1 1), .int (tf 1 2), .int (tf 1 3), .ref (ad 1 4), .ref (ad 1 5), .ref (ad 1 6), .ref (ad 1 7), .ref (ad 1 8), .ref (ad 1 9), .ref (ad 1 10), .ref (ad 1 11)])), ((ad 2 0), .inr (4, [.int (tf 2 0), .int (tf 2 1), .int (tf 2 2), .int (tf 2 3), .ref (ad 2 4), .ref (ad 2 5), .ref (ad 2 6), .ref (ad 2 7), .ref (ad 2 8), .ref (ad 2 9), .ref (ad 2 10), .ref (ad 2 11)])), ((ad 3 0), .inr (4, [.int (tf 3 0), .int (tf 3 1), .int (tf 3 2), .int (tf 3 3), .ref (ad 3 4), .ref (ad 3 5), .ref (ad 3 6), .ref (ad 3 7), .ref (ad 3 8), .ref (ad 3 9), .ref (ad 3 10), .ref (ad 3 11)])), ((ad 4 0), .inr (4, [.int (tf 4 0), .int (tf 4 1), .int (tf 4 2), .int (tf 4 3), .ref (ad 4 4), .ref (ad 4 5), .ref (ad 4 6), .ref (ad 4 7), .ref (ad 4 8), .ref (ad 4 9), .ref (ad 4 10), .ref (ad 4 11)])), ((ad 5 0), .inr (4, [.int (tf 5 0), .int (tf 5 1), .int (tf 5 2), .int (tf 5 3), .ref (ad 5 4), .ref (ad 5 5), .ref (ad 5 6), .ref (ad 5 7), .ref (ad 5 8), .ref (ad 5 9), .ref (ad 5 10), .ref (ad 5 11)]))] := D_same hD rfl
  refine lv_if_ne (tgt := 16) hx hb dX6_clear_11 (by decide) (fun c4 => absurd (by decide) c4) (fun _ => ?_)
  refine lv_iconst (v := 0) hx hb dX6_clear_14 (by decide) ?_
  exact wr_zret hx hb hr hlocks (Or.inl rfl) hS hP rfl dX6_clear_15
set_option maxHeartbeats 4000000 in
set_option maxRecDepth 100000 in
theorem k_X6_tear (l : Launch) (G : GG) (x : Nat) (a : Nat → Nat) (ad : Nat → Nat → Nat) (tf : Nat → Nat → Int32) (st cn gv : Int32) (p1 p2 p3 : Int32) (hcl : ∀ j, j < 6 → tf j 0 = 0) : WrI l yX6_tear cX6_tear 5 (some .boolean) ({ frames := 2, cells := 0, slots := 0, locals := 44 }) G (xW G x a ad tf st cn gv) [.ref x, .int p1, .int p2, .int p3] (fun r _ => r = 0) := by
  refine wr_entryI (by decide +kernel) (Nat.le_of_ble_eq_true rfl) ?_
  intro p e s m below meth c A C0 hP hK hD hA ls hl
  have hS : va_S A s.heap s.heap [] := va_S.rf
  obtain ⟨hx, hb, hml, hown, hts, hr, hlocks, hin⟩ := C0
  have hown : s.vm.findClass RX6 = some m.cls := hown
  have hl : lv_has ls 5 [(0, .ref x), (1, .int p1), (2, .int p2), (3, .int p3)] := hl
  refine lv_aload_n hx hb dX6_tear_0 rfl (lv_at hl 0 rfl) ?_
  refine lv_aload_n hx hb dX6_tear_1 rfl (lv_at hl 0 rfl) ?_
  refine lv_iload_n hx hb dX6_tear_2 rfl (lv_at hl 1 rfl) ?_
  refine lv_iload_n hx hb dX6_tear_3 rfl (lv_at hl 2 rfl) ?_
  refine rdV (rest := [.ref x]) (q0 := 0) ⟨hx, hb, hml, hown, hts⟩ (k_X6_rowStatus l G x a ad tf st cn gv p1 p2 hcl) mi_yX6_rowStatus mv_yX6_rowStatus ml_X6_110 ⟨rfl, rfl, Nat.le_of_ble_eq_true rfl, Nat.le_of_ble_eq_true rfl⟩ hK (hP) rfl rfl rfl hl.1 rfl (Nat.le_of_ble_eq_true rfl) dX6_tear_4 ⟨Nat.zero_le _, Nat.zero_le _⟩ hS hA hP (fun r1 H locs hr1 hP hS => ?_)
  obtain rfl : r1 = 1 := hr1
  refine wrVI (rest := []) (q0 := 0) ⟨hx, hb, hml, hown, hts⟩ (c_X6_settled l G x a st cn gv 1) mi_yX6_settled mv_yX6_settled ml_X6_65 ⟨rfl, rfl, Nat.le_of_ble_eq_true rfl, Nat.le_of_ble_eq_true rfl⟩ hK hP hD [0] rfl (by decide) rfl rfl rfl hl.1 rfl (Nat.le_of_ble_eq_true rfl) dX6_tear_7 ⟨Nat.zero_le _, Nat.zero_le _⟩ hS hA (fun r2 w3 H locs hw3 hP hS => ?_)
  obtain ⟨hr2, rfl⟩ := hw3
  obtain rfl : r2 = 0 := hr2.trans (if_neg (by decide))
  have hP : PP G [(x, .inr (6, [.int 1, .ref (a 1), .ref (a 2), .ref (a 3), .ref (a 4), .ref (a 5), .ref (a 6), .int cn, .ref (a 8), .int gv])), ((a 1), .inl (G.2.2.2.1, 6, .inr (.inr (.inr (.inr (fun j => some (ad j 0))))))), ((ad 0 0), .inr (4, [.int (tf 0 0), .int (tf 0 1), .int (tf 0 2), .int (tf 0 3), .ref (ad 0 4), .ref (ad 0 5), .ref (ad 0 6), .ref (ad 0 7), .ref (ad 0 8), .ref (ad 0 9), .ref (ad 0 10), .ref (ad 0 11)])), ((ad 1 0), .inr (4, [.int (tf 1 0), .int (tf 1 1), .int (tf 1 2), .int (tf 1 3), .ref (ad 1 4), .ref (ad 1 5), .ref (ad 1 6), .ref (ad 1 7), .ref (ad 1 8), .ref (ad 1 9), .ref (ad 1 10), .ref (ad 1 11)])), ((ad 2 0), .inr (4, [.int (tf 2 0), .int (tf 2 1), .int (tf 2 2), .int (tf 2 3), .ref (ad 2 4), .ref (ad 2 5), .ref (ad 2 6), .ref (ad 2 7), .ref (ad 2 8), .ref (ad 2 9), .ref (ad 2 10), .ref (ad 2 11)])), ((ad 3 0), .inr (4, [.int (tf 3 0), .int (tf 3 1), .int (tf 3 2), .int (tf 3 3), .ref (ad 3 4), .ref (ad 3 5), .ref (ad 3 6), .ref (ad 3 7), .ref (ad 3 8), .ref (ad 3 9), .ref (ad 3 10), .ref (ad 3 11)])), ((ad 4 0), .inr (4, [.int (tf 4 0), .int (tf 4 1), .int (tf 4 2), .int (tf 4 3), .ref (ad 4 4), .ref (ad 4 5), .ref (ad 4 6), .ref (ad 4 7), .ref (ad 4 8), .ref (ad 4 9), .ref (ad 4 10), .ref (ad 4 11)])), ((ad 5 0), .inr (4, [.int (tf 5 0), .int (tf 5 1), .int (tf 5 2), .int (tf 5 3), .ref (ad 5 4), .ref (ad 5 5), .ref (ad 5 6), .ref (ad 5 7), .ref (ad 5 8), .ref (ad 5 9), .ref (ad 5 10), .ref (ad 5 11)]))] H := hP rfl
  have hD : va_D A [(x, .inr (6, [.int 1, .ref (a 1), .ref (a 2), .ref (a 3), .ref (a 4), .ref (a 5), .ref (a 6), .int cn, .ref (a 8), .int gv])), ((a 1), .inl (G.2.2.2.1, 6, .inr (.inr (.inr (.inr (fun j => some (ad j 0))))))), ((ad 0 0), .inr (4, [.int (tf 0 0), .int (tf 0 1), .int (tf 0 2), .int (tf 0 3), .ref (ad 0 4), .ref (ad 0 5), .ref (ad 0 6), .ref (ad 0 7), .ref (ad 0 8), .ref (ad 0 9), .ref (ad 0 10), .ref (ad 0 11)])), ((ad 1 0), .inr (4, [.int (tf 1 0), .int (tf 1 1), .int (tf 1 2), .int (tf 1 3), .ref (ad 1 4), .ref (ad 1 5), .ref (ad 1 6), .ref (ad 1 7), .ref (ad 1 8), .ref (ad 1 9), .ref (ad 1 10), .ref (ad 1 11)])), ((ad 2 0), .inr (4, [.int (tf 2 0), .int (tf 2 1), .int (tf 2 2), .int (tf 2 3), .ref (ad 2 4), .ref (ad 2 5), .ref (ad 2 6), .ref (ad 2 7), .ref (ad 2 8), .ref (ad 2 9), .ref (ad 2 10), .ref (ad 2 11)])), ((ad 3 0), .inr (4, [.int (tf 3 0), .int (tf 3 1), .int (tf 3 2), .int (tf 3 3), .ref (ad 3 4), .ref (ad 3 5), .ref (ad 3 6), .ref (ad 3 7), .ref (ad 3 8), .ref (ad 3 9), .ref (ad 3 10), .ref (ad 3 11)])), ((ad 4 0), .inr (4, [.int (tf 4 0), .int (tf 4 1), .int (tf 4 2), .int (tf 4 3), .ref (ad 4 4), .ref (ad 4 5), .ref (ad 4 6), .ref (ad 4 7), .ref (ad 4 8), .ref (ad 4 9), .ref (ad 4 10), .ref (ad 4 11)])), ((ad 5 0), .inr (4, [.int (tf 5 0), .int (tf 5 1), .int (tf 5 2), .int (tf 5 3), .ref (ad 5 4), .ref (ad 5 5), .ref (ad 5 6), .ref (ad 5 7), .ref (ad 5 8), .ref (ad 5 9), .ref (ad 5 10), .ref (ad 5 11)]))] := D_same hD rfl
  refine lv_if_ne (tgt := 15) hx hb dX6_tear_10 (by decide) (fun c4 => absurd (by decide) c4) (fun _ => ?_)
  refine lv_iconst (v := 0) hx hb dX6_tear_13 (by decide) ?_
  exact wr_zret hx hb hr hlocks (Or.inl rfl) hS hP rfl dX6_tear_14
set_option maxHeartbeats 4000000 in
set_option maxRecDepth 100000 in
theorem k_X6_block (l : Launch) (G : GG) (x : Nat) (a : Nat → Nat) (ad : Nat → Nat → Nat) (tf : Nat → Nat → Int32) (st cn gv : Int32) (p1 p2 p3 : Int32) (hcl : ∀ j, j < 6 → tf j 0 = 0) : WrI l yX6_block cX6_block 5 (some .int) ({ frames := 1, cells := 0, slots := 0, locals := 21 }) G (xW G x a ad tf st cn gv) [.ref x, .int p1, .int p2, .int p3] (fun r _ => r = -1) := by
  refine wr_entryI (by decide +kernel) (Nat.le_of_ble_eq_true rfl) ?_
  intro p e s m below meth c A C0 hP hK hD hA ls hl
  have hS : va_S A s.heap s.heap [] := va_S.rf
  obtain ⟨hx, hb, hml, hown, hts, hr, hlocks, hin⟩ := C0
  have hown : s.vm.findClass RX6 = some m.cls := hown
  have hl : lv_has ls 5 [(0, .ref x), (1, .int p1), (2, .int p2), (3, .int p3)] := hl
  refine lv_aload_n hx hb dX6_block_0 rfl (lv_at hl 0 rfl) ?_
  refine lv_aload_n hx hb dX6_block_1 rfl (lv_at hl 0 rfl) ?_
  refine lv_iload_n hx hb dX6_block_2 rfl (lv_at hl 1 rfl) ?_
  refine rdV (rest := [.ref x]) (q0 := 0) ⟨hx, hb, hml, hown, hts⟩ (c_X6_tableStatus l G x a ad tf st cn gv p1) mi_yX6_tableStatus mv_yX6_tableStatus ml_X6_73 ⟨rfl, rfl, Nat.le_of_ble_eq_true rfl, Nat.le_of_ble_eq_true rfl⟩ hK (hP) rfl rfl rfl hl.1 rfl (Nat.le_of_ble_eq_true rfl) dX6_block_3 ⟨Nat.zero_le _, Nat.zero_le _⟩ hS hA hP (fun r1 H locs hr1 hP hS => ?_)
  obtain rfl : r1 = 1 := ts_one hr1 hcl
  refine wrVI (rest := []) (q0 := 0) ⟨hx, hb, hml, hown, hts⟩ (c_X6_settled l G x a st cn gv 1) mi_yX6_settled mv_yX6_settled ml_X6_65 ⟨rfl, rfl, Nat.le_of_ble_eq_true rfl, Nat.le_of_ble_eq_true rfl⟩ hK hP hD [0] rfl (by decide) rfl rfl rfl hl.1 rfl (Nat.le_of_ble_eq_true rfl) dX6_block_6 ⟨Nat.zero_le _, Nat.zero_le _⟩ hS hA (fun r2 w3 H locs hw3 hP hS => ?_)
  obtain ⟨hr2, rfl⟩ := hw3
  obtain rfl : r2 = 0 := hr2.trans (if_neg (by decide))
  have hP : PP G [(x, .inr (6, [.int 1, .ref (a 1), .ref (a 2), .ref (a 3), .ref (a 4), .ref (a 5), .ref (a 6), .int cn, .ref (a 8), .int gv])), ((a 1), .inl (G.2.2.2.1, 6, .inr (.inr (.inr (.inr (fun j => some (ad j 0))))))), ((ad 0 0), .inr (4, [.int (tf 0 0), .int (tf 0 1), .int (tf 0 2), .int (tf 0 3), .ref (ad 0 4), .ref (ad 0 5), .ref (ad 0 6), .ref (ad 0 7), .ref (ad 0 8), .ref (ad 0 9), .ref (ad 0 10), .ref (ad 0 11)])), ((ad 1 0), .inr (4, [.int (tf 1 0), .int (tf 1 1), .int (tf 1 2), .int (tf 1 3), .ref (ad 1 4), .ref (ad 1 5), .ref (ad 1 6), .ref (ad 1 7), .ref (ad 1 8), .ref (ad 1 9), .ref (ad 1 10), .ref (ad 1 11)])), ((ad 2 0), .inr (4, [.int (tf 2 0), .int (tf 2 1), .int (tf 2 2), .int (tf 2 3), .ref (ad 2 4), .ref (ad 2 5), .ref (ad 2 6), .ref (ad 2 7), .ref (ad 2 8), .ref (ad 2 9), .ref (ad 2 10), .ref (ad 2 11)])), ((ad 3 0), .inr (4, [.int (tf 3 0), .int (tf 3 1), .int (tf 3 2), .int (tf 3 3), .ref (ad 3 4), .ref (ad 3 5), .ref (ad 3 6), .ref (ad 3 7), .ref (ad 3 8), .ref (ad 3 9), .ref (ad 3 10), .ref (ad 3 11)])), ((ad 4 0), .inr (4, [.int (tf 4 0), .int (tf 4 1), .int (tf 4 2), .int (tf 4 3), .ref (ad 4 4), .ref (ad 4 5), .ref (ad 4 6), .ref (ad 4 7), .ref (ad 4 8), .ref (ad 4 9), .ref (ad 4 10), .ref (ad 4 11)])), ((ad 5 0), .inr (4, [.int (tf 5 0), .int (tf 5 1), .int (tf 5 2), .int (tf 5 3), .ref (ad 5 4), .ref (ad 5 5), .ref (ad 5 6), .ref (ad 5 7), .ref (ad 5 8), .ref (ad 5 9), .ref (ad 5 10), .ref (ad 5 11)]))] H := hP rfl
  have hD : va_D A [(x, .inr (6, [.int 1, .ref (a 1), .ref (a 2), .ref (a 3), .ref (a 4), .ref (a 5), .ref (a 6), .int cn, .ref (a 8), .int gv])), ((a 1), .inl (G.2.2.2.1, 6, .inr (.inr (.inr (.inr (fun j => some (ad j 0))))))), ((ad 0 0), .inr (4, [.int (tf 0 0), .int (tf 0 1), .int (tf 0 2), .int (tf 0 3), .ref (ad 0 4), .ref (ad 0 5), .ref (ad 0 6), .ref (ad 0 7), .ref (ad 0 8), .ref (ad 0 9), .ref (ad 0 10), .ref (ad 0 11)])), ((ad 1 0), .inr (4, [.int (tf 1 0), .int (tf 1 1), .int (tf 1 2), .int (tf 1 3), .ref (ad 1 4), .ref (ad 1 5), .ref (ad 1 6), .ref (ad 1 7), .ref (ad 1 8), .ref (ad 1 9), .ref (ad 1 10), .ref (ad 1 11)])), ((ad 2 0), .inr (4, [.int (tf 2 0), .int (tf 2 1), .int (tf 2 2), .int (tf 2 3), .ref (ad 2 4), .ref (ad 2 5), .ref (ad 2 6), .ref (ad 2 7), .ref (ad 2 8), .ref (ad 2 9), .ref (ad 2 10), .ref (ad 2 11)])), ((ad 3 0), .inr (4, [.int (tf 3 0), .int (tf 3 1), .int (tf 3 2), .int (tf 3 3), .ref (ad 3 4), .ref (ad 3 5), .ref (ad 3 6), .ref (ad 3 7), .ref (ad 3 8), .ref (ad 3 9), .ref (ad 3 10), .ref (ad 3 11)])), ((ad 4 0), .inr (4, [.int (tf 4 0), .int (tf 4 1), .int (tf 4 2), .int (tf 4 3), .ref (ad 4 4), .ref (ad 4 5), .ref (ad 4 6), .ref (ad 4 7), .ref (ad 4 8), .ref (ad 4 9), .ref (ad 4 10), .ref (ad 4 11)])), ((ad 5 0), .inr (4, [.int (tf 5 0), .int (tf 5 1), .int (tf 5 2), .int (tf 5 3), .ref (ad 5 4), .ref (ad 5 5), .ref (ad 5 6), .ref (ad 5 7), .ref (ad 5 8), .ref (ad 5 9), .ref (ad 5 10), .ref (ad 5 11)]))] := D_same hD rfl
  refine lv_if_ne (tgt := 14) hx hb dX6_block_9 (by decide) (fun c4 => absurd (by decide) c4) (fun _ => ?_)
  refine lv_iconst (v := -1) hx hb dX6_block_12 (by decide) ?_
  exact wr_iret hx hb hr hlocks hS hP rfl dX6_block_13
set_option maxHeartbeats 4000000 in
set_option maxRecDepth 100000 in
theorem k_X6_kind (l : Launch) (G : GG) (x : Nat) (a : Nat → Nat) (ad : Nat → Nat → Nat) (tf : Nat → Nat → Int32) (st cn gv : Int32) (p1 p2 p3 : Int32) (hcl : ∀ j, j < 6 → tf j 0 = 0) : WrI l yX6_kind cX6_kind 4 (some .int) ({ frames := 3, cells := 0, slots := 0, locals := 69 }) G (xW G x a ad tf st cn gv) [.ref x, .int p1, .int p2, .int p3] (fun r _ => r = -1) := by
  refine wr_entryI (by decide +kernel) (Nat.le_of_ble_eq_true rfl) ?_
  intro p e s m below meth c A C0 hP hK hD hA ls hl
  have hS : va_S A s.heap s.heap [] := va_S.rf
  obtain ⟨hx, hb, hml, hown, hts, hr, hlocks, hin⟩ := C0
  have hown : s.vm.findClass RX6 = some m.cls := hown
  have hl : lv_has ls 4 [(0, .ref x), (1, .int p1), (2, .int p2), (3, .int p3)] := hl
  refine lv_aload_n hx hb dX6_kind_0 rfl (lv_at hl 0 rfl) ?_
  refine lv_aload_n hx hb dX6_kind_1 rfl (lv_at hl 0 rfl) ?_
  refine lv_iload_n hx hb dX6_kind_2 rfl (lv_at hl 1 rfl) ?_
  refine lv_iload_n hx hb dX6_kind_3 rfl (lv_at hl 2 rfl) ?_
  refine lv_iload_n hx hb dX6_kind_4 rfl (lv_at hl 3 rfl) ?_
  refine rdV (rest := [.ref x]) (q0 := 0) ⟨hx, hb, hml, hown, hts⟩ (k_X6_placeStatus l G x a ad tf st cn gv p1 p2 p3 hcl) mi_yX6_placeStatus mv_yX6_placeStatus ml_X6_84 ⟨rfl, rfl, Nat.le_of_ble_eq_true rfl, Nat.le_of_ble_eq_true rfl⟩ hK (hP) rfl rfl rfl hl.1 rfl (Nat.le_of_ble_eq_true rfl) dX6_kind_5 ⟨Nat.zero_le _, Nat.zero_le _⟩ hS hA hP (fun r1 H locs hr1 hP hS => ?_)
  obtain rfl : r1 = 1 := hr1
  refine wrVI (rest := []) (q0 := 0) ⟨hx, hb, hml, hown, hts⟩ (c_X6_settled l G x a st cn gv 1) mi_yX6_settled mv_yX6_settled ml_X6_65 ⟨rfl, rfl, Nat.le_of_ble_eq_true rfl, Nat.le_of_ble_eq_true rfl⟩ hK hP hD [0] rfl (by decide) rfl rfl rfl hl.1 rfl (Nat.le_of_ble_eq_true rfl) dX6_kind_8 ⟨Nat.zero_le _, Nat.zero_le _⟩ hS hA (fun r2 w3 H locs hw3 hP hS => ?_)
  obtain ⟨hr2, rfl⟩ := hw3
  obtain rfl : r2 = 0 := hr2.trans (if_neg (by decide))
  have hP : PP G [(x, .inr (6, [.int 1, .ref (a 1), .ref (a 2), .ref (a 3), .ref (a 4), .ref (a 5), .ref (a 6), .int cn, .ref (a 8), .int gv])), ((a 1), .inl (G.2.2.2.1, 6, .inr (.inr (.inr (.inr (fun j => some (ad j 0))))))), ((ad 0 0), .inr (4, [.int (tf 0 0), .int (tf 0 1), .int (tf 0 2), .int (tf 0 3), .ref (ad 0 4), .ref (ad 0 5), .ref (ad 0 6), .ref (ad 0 7), .ref (ad 0 8), .ref (ad 0 9), .ref (ad 0 10), .ref (ad 0 11)])), ((ad 1 0), .inr (4, [.int (tf 1 0), .int (tf 1 1), .int (tf 1 2), .int (tf 1 3), .ref (ad 1 4), .ref (ad 1 5), .ref (ad 1 6), .ref (ad 1 7), .ref (ad 1 8), .ref (ad 1 9), .ref (ad 1 10), .ref (ad 1 11)])), ((ad 2 0), .inr (4, [.int (tf 2 0), .int (tf 2 1), .int (tf 2 2), .int (tf 2 3), .ref (ad 2 4), .ref (ad 2 5), .ref (ad 2 6), .ref (ad 2 7), .ref (ad 2 8), .ref (ad 2 9), .ref (ad 2 10), .ref (ad 2 11)])), ((ad 3 0), .inr (4, [.int (tf 3 0), .int (tf 3 1), .int (tf 3 2), .int (tf 3 3), .ref (ad 3 4), .ref (ad 3 5), .ref (ad 3 6), .ref (ad 3 7), .ref (ad 3 8), .ref (ad 3 9), .ref (ad 3 10), .ref (ad 3 11)])), ((ad 4 0), .inr (4, [.int (tf 4 0), .int (tf 4 1), .int (tf 4 2), .int (tf 4 3), .ref (ad 4 4), .ref (ad 4 5), .ref (ad 4 6), .ref (ad 4 7), .ref (ad 4 8), .ref (ad 4 9), .ref (ad 4 10), .ref (ad 4 11)])), ((ad 5 0), .inr (4, [.int (tf 5 0), .int (tf 5 1), .int (tf 5 2), .int (tf 5 3), .ref (ad 5 4), .ref (ad 5 5), .ref (ad 5 6), .ref (ad 5 7), .ref (ad 5 8), .ref (ad 5 9), .ref (ad 5 10), .ref (ad 5 11)]))] H := hP rfl
  have hD : va_D A [(x, .inr (6, [.int 1, .ref (a 1), .ref (a 2), .ref (a 3), .ref (a 4), .ref (a 5), .ref (a 6), .int cn, .ref (a 8), .int gv])), ((a 1), .inl (G.2.2.2.1, 6, .inr (.inr (.inr (.inr (fun j => some (ad j 0))))))), ((ad 0 0), .inr (4, [.int (tf 0 0), .int (tf 0 1), .int (tf 0 2), .int (tf 0 3), .ref (ad 0 4), .ref (ad 0 5), .ref (ad 0 6), .ref (ad 0 7), .ref (ad 0 8), .ref (ad 0 9), .ref (ad 0 10), .ref (ad 0 11)])), ((ad 1 0), .inr (4, [.int (tf 1 0), .int (tf 1 1), .int (tf 1 2), .int (tf 1 3), .ref (ad 1 4), .ref (ad 1 5), .ref (ad 1 6), .ref (ad 1 7), .ref (ad 1 8), .ref (ad 1 9), .ref (ad 1 10), .ref (ad 1 11)])), ((ad 2 0), .inr (4, [.int (tf 2 0), .int (tf 2 1), .int (tf 2 2), .int (tf 2 3), .ref (ad 2 4), .ref (ad 2 5), .ref (ad 2 6), .ref (ad 2 7), .ref (ad 2 8), .ref (ad 2 9), .ref (ad 2 10), .ref (ad 2 11)])), ((ad 3 0), .inr (4, [.int (tf 3 0), .int (tf 3 1), .int (tf 3 2), .int (tf 3 3), .ref (ad 3 4), .ref (ad 3 5), .ref (ad 3 6), .ref (ad 3 7), .ref (ad 3 8), .ref (ad 3 9), .ref (ad 3 10), .ref (ad 3 11)])), ((ad 4 0), .inr (4, [.int (tf 4 0), .int (tf 4 1), .int (tf 4 2), .int (tf 4 3), .ref (ad 4 4), .ref (ad 4 5), .ref (ad 4 6), .ref (ad 4 7), .ref (ad 4 8), .ref (ad 4 9), .ref (ad 4 10), .ref (ad 4 11)])), ((ad 5 0), .inr (4, [.int (tf 5 0), .int (tf 5 1), .int (tf 5 2), .int (tf 5 3), .ref (ad 5 4), .ref (ad 5 5), .ref (ad 5 6), .ref (ad 5 7), .ref (ad 5 8), .ref (ad 5 9), .ref (ad 5 10), .ref (ad 5 11)]))] := D_same hD rfl
  refine lv_if_ne (tgt := 16) hx hb dX6_kind_11 (by decide) (fun c4 => absurd (by decide) c4) (fun _ => ?_)
  refine lv_iconst (v := -1) hx hb dX6_kind_14 (by decide) ?_
  exact wr_iret hx hb hr hlocks hS hP rfl dX6_kind_15
set_option maxHeartbeats 4000000 in
set_option maxRecDepth 100000 in
theorem k_X6_number (l : Launch) (G : GG) (x : Nat) (a : Nat → Nat) (ad : Nat → Nat → Nat) (tf : Nat → Nat → Int32) (st cn gv : Int32) (p1 p2 p3 : Int32) (hcl : ∀ j, j < 6 → tf j 0 = 0) : WrI l yX6_number cX6_number 4 (some .int) ({ frames := 4, cells := 0, slots := 0, locals := 93 }) G (xW G x a ad tf st cn gv) [.ref x, .int p1, .int p2, .int p3] (fun r _ => r = -1) := by
  refine wr_entryI (by decide +kernel) (Nat.le_of_ble_eq_true rfl) ?_
  intro p e s m below meth c A C0 hP hK hD hA ls hl
  have hS : va_S A s.heap s.heap [] := va_S.rf
  obtain ⟨hx, hb, hml, hown, hts, hr, hlocks, hin⟩ := C0
  have hown : s.vm.findClass RX6 = some m.cls := hown
  have hl : lv_has ls 4 [(0, .ref x), (1, .int p1), (2, .int p2), (3, .int p3)] := hl
  refine lv_aload_n hx hb dX6_number_0 rfl (lv_at hl 0 rfl) ?_
  refine lv_aload_n hx hb dX6_number_1 rfl (lv_at hl 0 rfl) ?_
  refine lv_iload_n hx hb dX6_number_2 rfl (lv_at hl 1 rfl) ?_
  refine lv_iload_n hx hb dX6_number_3 rfl (lv_at hl 2 rfl) ?_
  refine lv_iload_n hx hb dX6_number_4 rfl (lv_at hl 3 rfl) ?_
  refine rdV (rest := [.ref x]) (q0 := 0) ⟨hx, hb, hml, hown, hts⟩ (k_X6_filledStatus l G x a ad tf st cn gv p1 p2 p3 hcl) mi_yX6_filledStatus mv_yX6_filledStatus ml_X6_107 ⟨rfl, rfl, Nat.le_of_ble_eq_true rfl, Nat.le_of_ble_eq_true rfl⟩ hK (hP) rfl rfl rfl hl.1 rfl (Nat.le_of_ble_eq_true rfl) dX6_number_5 ⟨Nat.zero_le _, Nat.zero_le _⟩ hS hA hP (fun r1 H locs hr1 hP hS => ?_)
  obtain rfl : r1 = 1 := hr1
  refine wrVI (rest := []) (q0 := 0) ⟨hx, hb, hml, hown, hts⟩ (c_X6_settled l G x a st cn gv 1) mi_yX6_settled mv_yX6_settled ml_X6_65 ⟨rfl, rfl, Nat.le_of_ble_eq_true rfl, Nat.le_of_ble_eq_true rfl⟩ hK hP hD [0] rfl (by decide) rfl rfl rfl hl.1 rfl (Nat.le_of_ble_eq_true rfl) dX6_number_8 ⟨Nat.zero_le _, Nat.zero_le _⟩ hS hA (fun r2 w3 H locs hw3 hP hS => ?_)
  obtain ⟨hr2, rfl⟩ := hw3
  obtain rfl : r2 = 0 := hr2.trans (if_neg (by decide))
  have hP : PP G [(x, .inr (6, [.int 1, .ref (a 1), .ref (a 2), .ref (a 3), .ref (a 4), .ref (a 5), .ref (a 6), .int cn, .ref (a 8), .int gv])), ((a 1), .inl (G.2.2.2.1, 6, .inr (.inr (.inr (.inr (fun j => some (ad j 0))))))), ((ad 0 0), .inr (4, [.int (tf 0 0), .int (tf 0 1), .int (tf 0 2), .int (tf 0 3), .ref (ad 0 4), .ref (ad 0 5), .ref (ad 0 6), .ref (ad 0 7), .ref (ad 0 8), .ref (ad 0 9), .ref (ad 0 10), .ref (ad 0 11)])), ((ad 1 0), .inr (4, [.int (tf 1 0), .int (tf 1 1), .int (tf 1 2), .int (tf 1 3), .ref (ad 1 4), .ref (ad 1 5), .ref (ad 1 6), .ref (ad 1 7), .ref (ad 1 8), .ref (ad 1 9), .ref (ad 1 10), .ref (ad 1 11)])), ((ad 2 0), .inr (4, [.int (tf 2 0), .int (tf 2 1), .int (tf 2 2), .int (tf 2 3), .ref (ad 2 4), .ref (ad 2 5), .ref (ad 2 6), .ref (ad 2 7), .ref (ad 2 8), .ref (ad 2 9), .ref (ad 2 10), .ref (ad 2 11)])), ((ad 3 0), .inr (4, [.int (tf 3 0), .int (tf 3 1), .int (tf 3 2), .int (tf 3 3), .ref (ad 3 4), .ref (ad 3 5), .ref (ad 3 6), .ref (ad 3 7), .ref (ad 3 8), .ref (ad 3 9), .ref (ad 3 10), .ref (ad 3 11)])), ((ad 4 0), .inr (4, [.int (tf 4 0), .int (tf 4 1), .int (tf 4 2), .int (tf 4 3), .ref (ad 4 4), .ref (ad 4 5), .ref (ad 4 6), .ref (ad 4 7), .ref (ad 4 8), .ref (ad 4 9), .ref (ad 4 10), .ref (ad 4 11)])), ((ad 5 0), .inr (4, [.int (tf 5 0), .int (tf 5 1), .int (tf 5 2), .int (tf 5 3), .ref (ad 5 4), .ref (ad 5 5), .ref (ad 5 6), .ref (ad 5 7), .ref (ad 5 8), .ref (ad 5 9), .ref (ad 5 10), .ref (ad 5 11)]))] H := hP rfl
  have hD : va_D A [(x, .inr (6, [.int 1, .ref (a 1), .ref (a 2), .ref (a 3), .ref (a 4), .ref (a 5), .ref (a 6), .int cn, .ref (a 8), .int gv])), ((a 1), .inl (G.2.2.2.1, 6, .inr (.inr (.inr (.inr (fun j => some (ad j 0))))))), ((ad 0 0), .inr (4, [.int (tf 0 0), .int (tf 0 1), .int (tf 0 2), .int (tf 0 3), .ref (ad 0 4), .ref (ad 0 5), .ref (ad 0 6), .ref (ad 0 7), .ref (ad 0 8), .ref (ad 0 9), .ref (ad 0 10), .ref (ad 0 11)])), ((ad 1 0), .inr (4, [.int (tf 1 0), .int (tf 1 1), .int (tf 1 2), .int (tf 1 3), .ref (ad 1 4), .ref (ad 1 5), .ref (ad 1 6), .ref (ad 1 7), .ref (ad 1 8), .ref (ad 1 9), .ref (ad 1 10), .ref (ad 1 11)])), ((ad 2 0), .inr (4, [.int (tf 2 0), .int (tf 2 1), .int (tf 2 2), .int (tf 2 3), .ref (ad 2 4), .ref (ad 2 5), .ref (ad 2 6), .ref (ad 2 7), .ref (ad 2 8), .ref (ad 2 9), .ref (ad 2 10), .ref (ad 2 11)])), ((ad 3 0), .inr (4, [.int (tf 3 0), .int (tf 3 1), .int (tf 3 2), .int (tf 3 3), .ref (ad 3 4), .ref (ad 3 5), .ref (ad 3 6), .ref (ad 3 7), .ref (ad 3 8), .ref (ad 3 9), .ref (ad 3 10), .ref (ad 3 11)])), ((ad 4 0), .inr (4, [.int (tf 4 0), .int (tf 4 1), .int (tf 4 2), .int (tf 4 3), .ref (ad 4 4), .ref (ad 4 5), .ref (ad 4 6), .ref (ad 4 7), .ref (ad 4 8), .ref (ad 4 9), .ref (ad 4 10), .ref (ad 4 11)])), ((ad 5 0), .inr (4, [.int (tf 5 0), .int (tf 5 1), .int (tf 5 2), .int (tf 5 3), .ref (ad 5 4), .ref (ad 5 5), .ref (ad 5 6), .ref (ad 5 7), .ref (ad 5 8), .ref (ad 5 9), .ref (ad 5 10), .ref (ad 5 11)]))] := D_same hD rfl
  refine lv_if_ne (tgt := 16) hx hb dX6_number_11 (by decide) (fun c4 => absurd (by decide) c4) (fun _ => ?_)
  refine lv_iconst (v := -1) hx hb dX6_number_14 (by decide) ?_
  exact wr_iret hx hb hr hlocks hS hP rfl dX6_number_15
set_option maxHeartbeats 4000000 in
set_option maxRecDepth 100000 in
theorem k_X6_givers (l : Launch) (G : GG) (x : Nat) (a : Nat → Nat) (ad : Nat → Nat → Nat) (tf : Nat → Nat → Int32) (st cn gv : Int32) (p1 p2 p3 : Int32) (hcl : ∀ j, j < 6 → tf j 0 = 0) : WrI l yX6_givers cX6_givers 4 (some .int) ({ frames := 5, cells := 0, slots := 0, locals := 117 }) G (xW G x a ad tf st cn gv) [.ref x, .int p1, .int p2, .int p3] (fun r _ => r = -1) := by
  refine wr_entryI (by decide +kernel) (Nat.le_of_ble_eq_true rfl) ?_
  intro p e s m below meth c A C0 hP hK hD hA ls hl
  have hS : va_S A s.heap s.heap [] := va_S.rf
  obtain ⟨hx, hb, hml, hown, hts, hr, hlocks, hin⟩ := C0
  have hown : s.vm.findClass RX6 = some m.cls := hown
  have hl : lv_has ls 4 [(0, .ref x), (1, .int p1), (2, .int p2), (3, .int p3)] := hl
  refine lv_aload_n hx hb dX6_givers_0 rfl (lv_at hl 0 rfl) ?_
  refine lv_aload_n hx hb dX6_givers_1 rfl (lv_at hl 0 rfl) ?_
  refine lv_iload_n hx hb dX6_givers_2 rfl (lv_at hl 1 rfl) ?_
  refine lv_iload_n hx hb dX6_givers_3 rfl (lv_at hl 2 rfl) ?_
  refine lv_iload_n hx hb dX6_givers_4 rfl (lv_at hl 3 rfl) ?_
  refine rdV (rest := [.ref x]) (q0 := 0) ⟨hx, hb, hml, hown, hts⟩ (k_X6_amountStatus l G x a ad tf st cn gv p1 p2 p3 hcl) mi_yX6_amountStatus mv_yX6_amountStatus ml_X6_100 ⟨rfl, rfl, Nat.le_of_ble_eq_true rfl, Nat.le_of_ble_eq_true rfl⟩ hK (hP) rfl rfl rfl hl.1 rfl (Nat.le_of_ble_eq_true rfl) dX6_givers_5 ⟨Nat.zero_le _, Nat.zero_le _⟩ hS hA hP (fun r1 H locs hr1 hP hS => ?_)
  obtain rfl : r1 = 1 := hr1
  refine wrVI (rest := []) (q0 := 0) ⟨hx, hb, hml, hown, hts⟩ (c_X6_settled l G x a st cn gv 1) mi_yX6_settled mv_yX6_settled ml_X6_65 ⟨rfl, rfl, Nat.le_of_ble_eq_true rfl, Nat.le_of_ble_eq_true rfl⟩ hK hP hD [0] rfl (by decide) rfl rfl rfl hl.1 rfl (Nat.le_of_ble_eq_true rfl) dX6_givers_8 ⟨Nat.zero_le _, Nat.zero_le _⟩ hS hA (fun r2 w3 H locs hw3 hP hS => ?_)
  obtain ⟨hr2, rfl⟩ := hw3
  obtain rfl : r2 = 0 := hr2.trans (if_neg (by decide))
  have hP : PP G [(x, .inr (6, [.int 1, .ref (a 1), .ref (a 2), .ref (a 3), .ref (a 4), .ref (a 5), .ref (a 6), .int cn, .ref (a 8), .int gv])), ((a 1), .inl (G.2.2.2.1, 6, .inr (.inr (.inr (.inr (fun j => some (ad j 0))))))), ((ad 0 0), .inr (4, [.int (tf 0 0), .int (tf 0 1), .int (tf 0 2), .int (tf 0 3), .ref (ad 0 4), .ref (ad 0 5), .ref (ad 0 6), .ref (ad 0 7), .ref (ad 0 8), .ref (ad 0 9), .ref (ad 0 10), .ref (ad 0 11)])), ((ad 1 0), .inr (4, [.int (tf 1 0), .int (tf 1 1), .int (tf 1 2), .int (tf 1 3), .ref (ad 1 4), .ref (ad 1 5), .ref (ad 1 6), .ref (ad 1 7), .ref (ad 1 8), .ref (ad 1 9), .ref (ad 1 10), .ref (ad 1 11)])), ((ad 2 0), .inr (4, [.int (tf 2 0), .int (tf 2 1), .int (tf 2 2), .int (tf 2 3), .ref (ad 2 4), .ref (ad 2 5), .ref (ad 2 6), .ref (ad 2 7), .ref (ad 2 8), .ref (ad 2 9), .ref (ad 2 10), .ref (ad 2 11)])), ((ad 3 0), .inr (4, [.int (tf 3 0), .int (tf 3 1), .int (tf 3 2), .int (tf 3 3), .ref (ad 3 4), .ref (ad 3 5), .ref (ad 3 6), .ref (ad 3 7), .ref (ad 3 8), .ref (ad 3 9), .ref (ad 3 10), .ref (ad 3 11)])), ((ad 4 0), .inr (4, [.int (tf 4 0), .int (tf 4 1), .int (tf 4 2), .int (tf 4 3), .ref (ad 4 4), .ref (ad 4 5), .ref (ad 4 6), .ref (ad 4 7), .ref (ad 4 8), .ref (ad 4 9), .ref (ad 4 10), .ref (ad 4 11)])), ((ad 5 0), .inr (4, [.int (tf 5 0), .int (tf 5 1), .int (tf 5 2), .int (tf 5 3), .ref (ad 5 4), .ref (ad 5 5), .ref (ad 5 6), .ref (ad 5 7), .ref (ad 5 8), .ref (ad 5 9), .ref (ad 5 10), .ref (ad 5 11)]))] H := hP rfl
  have hD : va_D A [(x, .inr (6, [.int 1, .ref (a 1), .ref (a 2), .ref (a 3), .ref (a 4), .ref (a 5), .ref (a 6), .int cn, .ref (a 8), .int gv])), ((a 1), .inl (G.2.2.2.1, 6, .inr (.inr (.inr (.inr (fun j => some (ad j 0))))))), ((ad 0 0), .inr (4, [.int (tf 0 0), .int (tf 0 1), .int (tf 0 2), .int (tf 0 3), .ref (ad 0 4), .ref (ad 0 5), .ref (ad 0 6), .ref (ad 0 7), .ref (ad 0 8), .ref (ad 0 9), .ref (ad 0 10), .ref (ad 0 11)])), ((ad 1 0), .inr (4, [.int (tf 1 0), .int (tf 1 1), .int (tf 1 2), .int (tf 1 3), .ref (ad 1 4), .ref (ad 1 5), .ref (ad 1 6), .ref (ad 1 7), .ref (ad 1 8), .ref (ad 1 9), .ref (ad 1 10), .ref (ad 1 11)])), ((ad 2 0), .inr (4, [.int (tf 2 0), .int (tf 2 1), .int (tf 2 2), .int (tf 2 3), .ref (ad 2 4), .ref (ad 2 5), .ref (ad 2 6), .ref (ad 2 7), .ref (ad 2 8), .ref (ad 2 9), .ref (ad 2 10), .ref (ad 2 11)])), ((ad 3 0), .inr (4, [.int (tf 3 0), .int (tf 3 1), .int (tf 3 2), .int (tf 3 3), .ref (ad 3 4), .ref (ad 3 5), .ref (ad 3 6), .ref (ad 3 7), .ref (ad 3 8), .ref (ad 3 9), .ref (ad 3 10), .ref (ad 3 11)])), ((ad 4 0), .inr (4, [.int (tf 4 0), .int (tf 4 1), .int (tf 4 2), .int (tf 4 3), .ref (ad 4 4), .ref (ad 4 5), .ref (ad 4 6), .ref (ad 4 7), .ref (ad 4 8), .ref (ad 4 9), .ref (ad 4 10), .ref (ad 4 11)])), ((ad 5 0), .inr (4, [.int (tf 5 0), .int (tf 5 1), .int (tf 5 2), .int (tf 5 3), .ref (ad 5 4), .ref (ad 5 5), .ref (ad 5 6), .ref (ad 5 7), .ref (ad 5 8), .ref (ad 5 9), .ref (ad 5 10), .ref (ad 5 11)]))] := D_same hD rfl
  refine lv_if_ne (tgt := 16) hx hb dX6_givers_11 (by decide) (fun c4 => absurd (by decide) c4) (fun _ => ?_)
  refine lv_iconst (v := -1) hx hb dX6_givers_14 (by decide) ?_
  exact wr_iret hx hb hr hlocks hS hP rfl dX6_givers_15
set_option maxHeartbeats 4000000 in
set_option maxRecDepth 100000 in
theorem k_X6_part (l : Launch) (G : GG) (x : Nat) (a : Nat → Nat) (ad : Nat → Nat → Nat) (tf : Nat → Nat → Int32) (st cn gv : Int32) (p1 p2 p3 p4 : Int32) (hcl : ∀ j, j < 6 → tf j 0 = 0) : WrI l yX6_part cX6_part 6 (some .int) ({ frames := 5, cells := 0, slots := 0, locals := 117 }) G (xW G x a ad tf st cn gv) [.ref x, .int p1, .int p2, .int p3, .int p4] (fun r _ => r = -1) := by
  refine wr_entryI (by decide +kernel) (Nat.le_of_ble_eq_true rfl) ?_
  intro p e s m below meth c A C0 hP hK hD hA ls hl
  have hS : va_S A s.heap s.heap [] := va_S.rf
  obtain ⟨hx, hb, hml, hown, hts, hr, hlocks, hin⟩ := C0
  have hown : s.vm.findClass RX6 = some m.cls := hown
  have hl : lv_has ls 6 [(0, .ref x), (1, .int p1), (2, .int p2), (3, .int p3), (4, .int p4)] := hl
  refine lv_aload_n hx hb dX6_part_0 rfl (lv_at hl 0 rfl) ?_
  refine lv_aload_n hx hb dX6_part_1 rfl (lv_at hl 0 rfl) ?_
  refine lv_iload_n hx hb dX6_part_2 rfl (lv_at hl 1 rfl) ?_
  refine lv_iload_n hx hb dX6_part_3 rfl (lv_at hl 2 rfl) ?_
  refine lv_iload_n hx hb dX6_part_4 rfl (lv_at hl 3 rfl) ?_
  refine rdV (rest := [.ref x]) (q0 := 0) ⟨hx, hb, hml, hown, hts⟩ (k_X6_amountStatus l G x a ad tf st cn gv p1 p2 p3 hcl) mi_yX6_amountStatus mv_yX6_amountStatus ml_X6_100 ⟨rfl, rfl, Nat.le_of_ble_eq_true rfl, Nat.le_of_ble_eq_true rfl⟩ hK (hP) rfl rfl rfl hl.1 rfl (Nat.le_of_ble_eq_true rfl) dX6_part_5 ⟨Nat.zero_le _, Nat.zero_le _⟩ hS hA hP (fun r1 H locs hr1 hP hS => ?_)
  obtain rfl : r1 = 1 := hr1
  refine wrVI (rest := []) (q0 := 0) ⟨hx, hb, hml, hown, hts⟩ (c_X6_settled l G x a st cn gv 1) mi_yX6_settled mv_yX6_settled ml_X6_65 ⟨rfl, rfl, Nat.le_of_ble_eq_true rfl, Nat.le_of_ble_eq_true rfl⟩ hK hP hD [0] rfl (by decide) rfl rfl rfl hl.1 rfl (Nat.le_of_ble_eq_true rfl) dX6_part_8 ⟨Nat.zero_le _, Nat.zero_le _⟩ hS hA (fun r2 w3 H locs hw3 hP hS => ?_)
  obtain ⟨hr2, rfl⟩ := hw3
  obtain rfl : r2 = 0 := hr2.trans (if_neg (by decide))
  have hP : PP G [(x, .inr (6, [.int 1, .ref (a 1), .ref (a 2), .ref (a 3), .ref (a 4), .ref (a 5), .ref (a 6), .int cn, .ref (a 8), .int gv])), ((a 1), .inl (G.2.2.2.1, 6, .inr (.inr (.inr (.inr (fun j => some (ad j 0))))))), ((ad 0 0), .inr (4, [.int (tf 0 0), .int (tf 0 1), .int (tf 0 2), .int (tf 0 3), .ref (ad 0 4), .ref (ad 0 5), .ref (ad 0 6), .ref (ad 0 7), .ref (ad 0 8), .ref (ad 0 9), .ref (ad 0 10), .ref (ad 0 11)])), ((ad 1 0), .inr (4, [.int (tf 1 0), .int (tf 1 1), .int (tf 1 2), .int (tf 1 3), .ref (ad 1 4), .ref (ad 1 5), .ref (ad 1 6), .ref (ad 1 7), .ref (ad 1 8), .ref (ad 1 9), .ref (ad 1 10), .ref (ad 1 11)])), ((ad 2 0), .inr (4, [.int (tf 2 0), .int (tf 2 1), .int (tf 2 2), .int (tf 2 3), .ref (ad 2 4), .ref (ad 2 5), .ref (ad 2 6), .ref (ad 2 7), .ref (ad 2 8), .ref (ad 2 9), .ref (ad 2 10), .ref (ad 2 11)])), ((ad 3 0), .inr (4, [.int (tf 3 0), .int (tf 3 1), .int (tf 3 2), .int (tf 3 3), .ref (ad 3 4), .ref (ad 3 5), .ref (ad 3 6), .ref (ad 3 7), .ref (ad 3 8), .ref (ad 3 9), .ref (ad 3 10), .ref (ad 3 11)])), ((ad 4 0), .inr (4, [.int (tf 4 0), .int (tf 4 1), .int (tf 4 2), .int (tf 4 3), .ref (ad 4 4), .ref (ad 4 5), .ref (ad 4 6), .ref (ad 4 7), .ref (ad 4 8), .ref (ad 4 9), .ref (ad 4 10), .ref (ad 4 11)])), ((ad 5 0), .inr (4, [.int (tf 5 0), .int (tf 5 1), .int (tf 5 2), .int (tf 5 3), .ref (ad 5 4), .ref (ad 5 5), .ref (ad 5 6), .ref (ad 5 7), .ref (ad 5 8), .ref (ad 5 9), .ref (ad 5 10), .ref (ad 5 11)]))] H := hP rfl
  have hD : va_D A [(x, .inr (6, [.int 1, .ref (a 1), .ref (a 2), .ref (a 3), .ref (a 4), .ref (a 5), .ref (a 6), .int cn, .ref (a 8), .int gv])), ((a 1), .inl (G.2.2.2.1, 6, .inr (.inr (.inr (.inr (fun j => some (ad j 0))))))), ((ad 0 0), .inr (4, [.int (tf 0 0), .int (tf 0 1), .int (tf 0 2), .int (tf 0 3), .ref (ad 0 4), .ref (ad 0 5), .ref (ad 0 6), .ref (ad 0 7), .ref (ad 0 8), .ref (ad 0 9), .ref (ad 0 10), .ref (ad 0 11)])), ((ad 1 0), .inr (4, [.int (tf 1 0), .int (tf 1 1), .int (tf 1 2), .int (tf 1 3), .ref (ad 1 4), .ref (ad 1 5), .ref (ad 1 6), .ref (ad 1 7), .ref (ad 1 8), .ref (ad 1 9), .ref (ad 1 10), .ref (ad 1 11)])), ((ad 2 0), .inr (4, [.int (tf 2 0), .int (tf 2 1), .int (tf 2 2), .int (tf 2 3), .ref (ad 2 4), .ref (ad 2 5), .ref (ad 2 6), .ref (ad 2 7), .ref (ad 2 8), .ref (ad 2 9), .ref (ad 2 10), .ref (ad 2 11)])), ((ad 3 0), .inr (4, [.int (tf 3 0), .int (tf 3 1), .int (tf 3 2), .int (tf 3 3), .ref (ad 3 4), .ref (ad 3 5), .ref (ad 3 6), .ref (ad 3 7), .ref (ad 3 8), .ref (ad 3 9), .ref (ad 3 10), .ref (ad 3 11)])), ((ad 4 0), .inr (4, [.int (tf 4 0), .int (tf 4 1), .int (tf 4 2), .int (tf 4 3), .ref (ad 4 4), .ref (ad 4 5), .ref (ad 4 6), .ref (ad 4 7), .ref (ad 4 8), .ref (ad 4 9), .ref (ad 4 10), .ref (ad 4 11)])), ((ad 5 0), .inr (4, [.int (tf 5 0), .int (tf 5 1), .int (tf 5 2), .int (tf 5 3), .ref (ad 5 4), .ref (ad 5 5), .ref (ad 5 6), .ref (ad 5 7), .ref (ad 5 8), .ref (ad 5 9), .ref (ad 5 10), .ref (ad 5 11)]))] := D_same hD rfl
  refine lv_if_ne (tgt := 16) hx hb dX6_part_11 (by decide) (fun c4 => absurd (by decide) c4) (fun _ => ?_)
  refine lv_iconst (v := -1) hx hb dX6_part_14 (by decide) ?_
  exact wr_iret hx hb hr hlocks hS hP rfl dX6_part_15
set_option maxHeartbeats 4000000 in
set_option maxRecDepth 100000 in
theorem k_X6_hand (l : Launch) (G : GG) (x : Nat) (a : Nat → Nat) (ad : Nat → Nat → Nat) (tf : Nat → Nat → Int32) (st cn gv : Int32) (p1 p2 p3 p4 : Int32) (hcl : ∀ j, j < 6 → tf j 0 = 0) : WrI l yX6_hand cX6_hand 5 (some .boolean) ({ frames := 6, cells := 0, slots := 0, locals := 141 }) G (xW G x a ad tf st cn gv) [.ref x, .int p1, .int p2, .int p3, .int p4] (fun r _ => r = 0) := by
  refine wr_entryI (by decide +kernel) (Nat.le_of_ble_eq_true rfl) ?_
  intro p e s m below meth c A C0 hP hK hD hA ls hl
  have hS : va_S A s.heap s.heap [] := va_S.rf
  obtain ⟨hx, hb, hml, hown, hts, hr, hlocks, hin⟩ := C0
  have hown : s.vm.findClass RX6 = some m.cls := hown
  have hl : lv_has ls 5 [(0, .ref x), (1, .int p1), (2, .int p2), (3, .int p3), (4, .int p4)] := hl
  refine lv_aload_n hx hb dX6_hand_0 rfl (lv_at hl 0 rfl) ?_
  refine lv_aload_n hx hb dX6_hand_1 rfl (lv_at hl 0 rfl) ?_
  refine lv_iload_n hx hb dX6_hand_2 rfl (lv_at hl 1 rfl) ?_
  refine lv_iload_n hx hb dX6_hand_3 rfl (lv_at hl 2 rfl) ?_
  refine lv_iload_n hx hb dX6_hand_4 rfl (lv_at hl 3 rfl) ?_
  refine rdV (rest := [.ref x]) (q0 := 0) ⟨hx, hb, hml, hown, hts⟩ (k_X6_guardableStatus l G x a ad tf st cn gv p1 p2 p3 hcl) mi_yX6_guardableStatus mv_yX6_guardableStatus ml_X6_146 ⟨rfl, rfl, Nat.le_of_ble_eq_true rfl, Nat.le_of_ble_eq_true rfl⟩ hK (hP) rfl rfl rfl hl.1 rfl (Nat.le_of_ble_eq_true rfl) dX6_hand_5 ⟨Nat.zero_le _, Nat.zero_le _⟩ hS hA hP (fun r1 H locs hr1 hP hS => ?_)
  obtain rfl : r1 = 1 := hr1
  refine wrVI (rest := []) (q0 := 0) ⟨hx, hb, hml, hown, hts⟩ (c_X6_settled l G x a st cn gv 1) mi_yX6_settled mv_yX6_settled ml_X6_65 ⟨rfl, rfl, Nat.le_of_ble_eq_true rfl, Nat.le_of_ble_eq_true rfl⟩ hK hP hD [0] rfl (by decide) rfl rfl rfl hl.1 rfl (Nat.le_of_ble_eq_true rfl) dX6_hand_8 ⟨Nat.zero_le _, Nat.zero_le _⟩ hS hA (fun r2 w3 H locs hw3 hP hS => ?_)
  obtain ⟨hr2, rfl⟩ := hw3
  obtain rfl : r2 = 0 := hr2.trans (if_neg (by decide))
  have hP : PP G [(x, .inr (6, [.int 1, .ref (a 1), .ref (a 2), .ref (a 3), .ref (a 4), .ref (a 5), .ref (a 6), .int cn, .ref (a 8), .int gv])), ((a 1), .inl (G.2.2.2.1, 6, .inr (.inr (.inr (.inr (fun j => some (ad j 0))))))), ((ad 0 0), .inr (4, [.int (tf 0 0), .int (tf 0 1), .int (tf 0 2), .int (tf 0 3), .ref (ad 0 4), .ref (ad 0 5), .ref (ad 0 6), .ref (ad 0 7), .ref (ad 0 8), .ref (ad 0 9), .ref (ad 0 10), .ref (ad 0 11)])), ((ad 1 0), .inr (4, [.int (tf 1 0), .int (tf 1 1), .int (tf 1 2), .int (tf 1 3), .ref (ad 1 4), .ref (ad 1 5), .ref (ad 1 6), .ref (ad 1 7), .ref (ad 1 8), .ref (ad 1 9), .ref (ad 1 10), .ref (ad 1 11)])), ((ad 2 0), .inr (4, [.int (tf 2 0), .int (tf 2 1), .int (tf 2 2), .int (tf 2 3), .ref (ad 2 4), .ref (ad 2 5), .ref (ad 2 6), .ref (ad 2 7), .ref (ad 2 8), .ref (ad 2 9), .ref (ad 2 10), .ref (ad 2 11)])), ((ad 3 0), .inr (4, [.int (tf 3 0), .int (tf 3 1), .int (tf 3 2), .int (tf 3 3), .ref (ad 3 4), .ref (ad 3 5), .ref (ad 3 6), .ref (ad 3 7), .ref (ad 3 8), .ref (ad 3 9), .ref (ad 3 10), .ref (ad 3 11)])), ((ad 4 0), .inr (4, [.int (tf 4 0), .int (tf 4 1), .int (tf 4 2), .int (tf 4 3), .ref (ad 4 4), .ref (ad 4 5), .ref (ad 4 6), .ref (ad 4 7), .ref (ad 4 8), .ref (ad 4 9), .ref (ad 4 10), .ref (ad 4 11)])), ((ad 5 0), .inr (4, [.int (tf 5 0), .int (tf 5 1), .int (tf 5 2), .int (tf 5 3), .ref (ad 5 4), .ref (ad 5 5), .ref (ad 5 6), .ref (ad 5 7), .ref (ad 5 8), .ref (ad 5 9), .ref (ad 5 10), .ref (ad 5 11)]))] H := hP rfl
  have hD : va_D A [(x, .inr (6, [.int 1, .ref (a 1), .ref (a 2), .ref (a 3), .ref (a 4), .ref (a 5), .ref (a 6), .int cn, .ref (a 8), .int gv])), ((a 1), .inl (G.2.2.2.1, 6, .inr (.inr (.inr (.inr (fun j => some (ad j 0))))))), ((ad 0 0), .inr (4, [.int (tf 0 0), .int (tf 0 1), .int (tf 0 2), .int (tf 0 3), .ref (ad 0 4), .ref (ad 0 5), .ref (ad 0 6), .ref (ad 0 7), .ref (ad 0 8), .ref (ad 0 9), .ref (ad 0 10), .ref (ad 0 11)])), ((ad 1 0), .inr (4, [.int (tf 1 0), .int (tf 1 1), .int (tf 1 2), .int (tf 1 3), .ref (ad 1 4), .ref (ad 1 5), .ref (ad 1 6), .ref (ad 1 7), .ref (ad 1 8), .ref (ad 1 9), .ref (ad 1 10), .ref (ad 1 11)])), ((ad 2 0), .inr (4, [.int (tf 2 0), .int (tf 2 1), .int (tf 2 2), .int (tf 2 3), .ref (ad 2 4), .ref (ad 2 5), .ref (ad 2 6), .ref (ad 2 7), .ref (ad 2 8), .ref (ad 2 9), .ref (ad 2 10), .ref (ad 2 11)])), ((ad 3 0), .inr (4, [.int (tf 3 0), .int (tf 3 1), .int (tf 3 2), .int (tf 3 3), .ref (ad 3 4), .ref (ad 3 5), .ref (ad 3 6), .ref (ad 3 7), .ref (ad 3 8), .ref (ad 3 9), .ref (ad 3 10), .ref (ad 3 11)])), ((ad 4 0), .inr (4, [.int (tf 4 0), .int (tf 4 1), .int (tf 4 2), .int (tf 4 3), .ref (ad 4 4), .ref (ad 4 5), .ref (ad 4 6), .ref (ad 4 7), .ref (ad 4 8), .ref (ad 4 9), .ref (ad 4 10), .ref (ad 4 11)])), ((ad 5 0), .inr (4, [.int (tf 5 0), .int (tf 5 1), .int (tf 5 2), .int (tf 5 3), .ref (ad 5 4), .ref (ad 5 5), .ref (ad 5 6), .ref (ad 5 7), .ref (ad 5 8), .ref (ad 5 9), .ref (ad 5 10), .ref (ad 5 11)]))] := D_same hD rfl
  refine lv_if_ne (tgt := 16) hx hb dX6_hand_11 (by decide) (fun c4 => absurd (by decide) c4) (fun _ => ?_)
  refine lv_iconst (v := 0) hx hb dX6_hand_14 (by decide) ?_
  exact wr_zret hx hb hr hlocks (Or.inl rfl) hS hP rfl dX6_hand_15
set_option maxHeartbeats 4000000 in
set_option maxRecDepth 100000 in
theorem k_X6_keep (l : Launch) (G : GG) (x : Nat) (a : Nat → Nat) (ad : Nat → Nat → Nat) (tf : Nat → Nat → Int32) (st cn gv : Int32) (p1 p2 p3 p4 : Int32) (hcl : ∀ j, j < 6 → tf j 0 = 0) : WrI l yX6_keep cX6_keep 5 (some .boolean) ({ frames := 6, cells := 0, slots := 0, locals := 141 }) G (xW G x a ad tf st cn gv) [.ref x, .int p1, .int p2, .int p3, .int p4] (fun r _ => r = 0) := by
  refine wr_entryI (by decide +kernel) (Nat.le_of_ble_eq_true rfl) ?_
  intro p e s m below meth c A C0 hP hK hD hA ls hl
  have hS : va_S A s.heap s.heap [] := va_S.rf
  obtain ⟨hx, hb, hml, hown, hts, hr, hlocks, hin⟩ := C0
  have hown : s.vm.findClass RX6 = some m.cls := hown
  have hl : lv_has ls 5 [(0, .ref x), (1, .int p1), (2, .int p2), (3, .int p3), (4, .int p4)] := hl
  refine lv_aload_n hx hb dX6_keep_0 rfl (lv_at hl 0 rfl) ?_
  refine lv_aload_n hx hb dX6_keep_1 rfl (lv_at hl 0 rfl) ?_
  refine lv_iload_n hx hb dX6_keep_2 rfl (lv_at hl 1 rfl) ?_
  refine lv_iload_n hx hb dX6_keep_3 rfl (lv_at hl 2 rfl) ?_
  refine lv_iload_n hx hb dX6_keep_4 rfl (lv_at hl 3 rfl) ?_
  refine rdV (rest := [.ref x]) (q0 := 0) ⟨hx, hb, hml, hown, hts⟩ (k_X6_guardableStatus l G x a ad tf st cn gv p1 p2 p3 hcl) mi_yX6_guardableStatus mv_yX6_guardableStatus ml_X6_146 ⟨rfl, rfl, Nat.le_of_ble_eq_true rfl, Nat.le_of_ble_eq_true rfl⟩ hK (hP) rfl rfl rfl hl.1 rfl (Nat.le_of_ble_eq_true rfl) dX6_keep_5 ⟨Nat.zero_le _, Nat.zero_le _⟩ hS hA hP (fun r1 H locs hr1 hP hS => ?_)
  obtain rfl : r1 = 1 := hr1
  refine wrVI (rest := []) (q0 := 0) ⟨hx, hb, hml, hown, hts⟩ (c_X6_settled l G x a st cn gv 1) mi_yX6_settled mv_yX6_settled ml_X6_65 ⟨rfl, rfl, Nat.le_of_ble_eq_true rfl, Nat.le_of_ble_eq_true rfl⟩ hK hP hD [0] rfl (by decide) rfl rfl rfl hl.1 rfl (Nat.le_of_ble_eq_true rfl) dX6_keep_8 ⟨Nat.zero_le _, Nat.zero_le _⟩ hS hA (fun r2 w3 H locs hw3 hP hS => ?_)
  obtain ⟨hr2, rfl⟩ := hw3
  obtain rfl : r2 = 0 := hr2.trans (if_neg (by decide))
  have hP : PP G [(x, .inr (6, [.int 1, .ref (a 1), .ref (a 2), .ref (a 3), .ref (a 4), .ref (a 5), .ref (a 6), .int cn, .ref (a 8), .int gv])), ((a 1), .inl (G.2.2.2.1, 6, .inr (.inr (.inr (.inr (fun j => some (ad j 0))))))), ((ad 0 0), .inr (4, [.int (tf 0 0), .int (tf 0 1), .int (tf 0 2), .int (tf 0 3), .ref (ad 0 4), .ref (ad 0 5), .ref (ad 0 6), .ref (ad 0 7), .ref (ad 0 8), .ref (ad 0 9), .ref (ad 0 10), .ref (ad 0 11)])), ((ad 1 0), .inr (4, [.int (tf 1 0), .int (tf 1 1), .int (tf 1 2), .int (tf 1 3), .ref (ad 1 4), .ref (ad 1 5), .ref (ad 1 6), .ref (ad 1 7), .ref (ad 1 8), .ref (ad 1 9), .ref (ad 1 10), .ref (ad 1 11)])), ((ad 2 0), .inr (4, [.int (tf 2 0), .int (tf 2 1), .int (tf 2 2), .int (tf 2 3), .ref (ad 2 4), .ref (ad 2 5), .ref (ad 2 6), .ref (ad 2 7), .ref (ad 2 8), .ref (ad 2 9), .ref (ad 2 10), .ref (ad 2 11)])), ((ad 3 0), .inr (4, [.int (tf 3 0), .int (tf 3 1), .int (tf 3 2), .int (tf 3 3), .ref (ad 3 4), .ref (ad 3 5), .ref (ad 3 6), .ref (ad 3 7), .ref (ad 3 8), .ref (ad 3 9), .ref (ad 3 10), .ref (ad 3 11)])), ((ad 4 0), .inr (4, [.int (tf 4 0), .int (tf 4 1), .int (tf 4 2), .int (tf 4 3), .ref (ad 4 4), .ref (ad 4 5), .ref (ad 4 6), .ref (ad 4 7), .ref (ad 4 8), .ref (ad 4 9), .ref (ad 4 10), .ref (ad 4 11)])), ((ad 5 0), .inr (4, [.int (tf 5 0), .int (tf 5 1), .int (tf 5 2), .int (tf 5 3), .ref (ad 5 4), .ref (ad 5 5), .ref (ad 5 6), .ref (ad 5 7), .ref (ad 5 8), .ref (ad 5 9), .ref (ad 5 10), .ref (ad 5 11)]))] H := hP rfl
  have hD : va_D A [(x, .inr (6, [.int 1, .ref (a 1), .ref (a 2), .ref (a 3), .ref (a 4), .ref (a 5), .ref (a 6), .int cn, .ref (a 8), .int gv])), ((a 1), .inl (G.2.2.2.1, 6, .inr (.inr (.inr (.inr (fun j => some (ad j 0))))))), ((ad 0 0), .inr (4, [.int (tf 0 0), .int (tf 0 1), .int (tf 0 2), .int (tf 0 3), .ref (ad 0 4), .ref (ad 0 5), .ref (ad 0 6), .ref (ad 0 7), .ref (ad 0 8), .ref (ad 0 9), .ref (ad 0 10), .ref (ad 0 11)])), ((ad 1 0), .inr (4, [.int (tf 1 0), .int (tf 1 1), .int (tf 1 2), .int (tf 1 3), .ref (ad 1 4), .ref (ad 1 5), .ref (ad 1 6), .ref (ad 1 7), .ref (ad 1 8), .ref (ad 1 9), .ref (ad 1 10), .ref (ad 1 11)])), ((ad 2 0), .inr (4, [.int (tf 2 0), .int (tf 2 1), .int (tf 2 2), .int (tf 2 3), .ref (ad 2 4), .ref (ad 2 5), .ref (ad 2 6), .ref (ad 2 7), .ref (ad 2 8), .ref (ad 2 9), .ref (ad 2 10), .ref (ad 2 11)])), ((ad 3 0), .inr (4, [.int (tf 3 0), .int (tf 3 1), .int (tf 3 2), .int (tf 3 3), .ref (ad 3 4), .ref (ad 3 5), .ref (ad 3 6), .ref (ad 3 7), .ref (ad 3 8), .ref (ad 3 9), .ref (ad 3 10), .ref (ad 3 11)])), ((ad 4 0), .inr (4, [.int (tf 4 0), .int (tf 4 1), .int (tf 4 2), .int (tf 4 3), .ref (ad 4 4), .ref (ad 4 5), .ref (ad 4 6), .ref (ad 4 7), .ref (ad 4 8), .ref (ad 4 9), .ref (ad 4 10), .ref (ad 4 11)])), ((ad 5 0), .inr (4, [.int (tf 5 0), .int (tf 5 1), .int (tf 5 2), .int (tf 5 3), .ref (ad 5 4), .ref (ad 5 5), .ref (ad 5 6), .ref (ad 5 7), .ref (ad 5 8), .ref (ad 5 9), .ref (ad 5 10), .ref (ad 5 11)]))] := D_same hD rfl
  refine lv_if_ne (tgt := 16) hx hb dX6_keep_11 (by decide) (fun c4 => absurd (by decide) c4) (fun _ => ?_)
  refine lv_iconst (v := 0) hx hb dX6_keep_14 (by decide) ?_
  exact wr_zret hx hb hr hlocks (Or.inl rfl) hS hP rfl dX6_keep_15
set_option maxHeartbeats 4000000 in
set_option maxRecDepth 100000 in
theorem k_X6_sound (l : Launch) (G : GG) (x : Nat) (a : Nat → Nat) (ad : Nat → Nat → Nat) (tf : Nat → Nat → Int32) (st cn gv : Int32) (p1 p2 : Int32) (hcl : ∀ j, j < 6 → tf j 0 = 0) : WrI l yX6_sound cX6_sound 3 (some .int) ({ frames := 2, cells := 0, slots := 0, locals := 44 }) G (xW G x a ad tf st cn gv) [.ref x, .int p1, .int p2] (fun r _ => r = -1) := by
  refine wr_entryI (by decide +kernel) (Nat.le_of_ble_eq_true rfl) ?_
  intro p e s m below meth c A C0 hP hK hD hA ls hl
  have hS : va_S A s.heap s.heap [] := va_S.rf
  obtain ⟨hx, hb, hml, hown, hts, hr, hlocks, hin⟩ := C0
  have hown : s.vm.findClass RX6 = some m.cls := hown
  have hl : lv_has ls 3 [(0, .ref x), (1, .int p1), (2, .int p2)] := hl
  refine lv_aload_n hx hb dX6_sound_0 rfl (lv_at hl 0 rfl) ?_
  refine lv_aload_n hx hb dX6_sound_1 rfl (lv_at hl 0 rfl) ?_
  refine lv_iload_n hx hb dX6_sound_2 rfl (lv_at hl 1 rfl) ?_
  refine lv_iload_n hx hb dX6_sound_3 rfl (lv_at hl 2 rfl) ?_
  refine rdV (rest := [.ref x]) (q0 := 0) ⟨hx, hb, hml, hown, hts⟩ (k_X6_rowStatus l G x a ad tf st cn gv p1 p2 hcl) mi_yX6_rowStatus mv_yX6_rowStatus ml_X6_110 ⟨rfl, rfl, Nat.le_of_ble_eq_true rfl, Nat.le_of_ble_eq_true rfl⟩ hK (hP) rfl rfl rfl hl.1 rfl (Nat.le_of_ble_eq_true rfl) dX6_sound_4 ⟨Nat.zero_le _, Nat.zero_le _⟩ hS hA hP (fun r1 H locs hr1 hP hS => ?_)
  obtain rfl : r1 = 1 := hr1
  refine wrVI (rest := []) (q0 := 0) ⟨hx, hb, hml, hown, hts⟩ (c_X6_settled l G x a st cn gv 1) mi_yX6_settled mv_yX6_settled ml_X6_65 ⟨rfl, rfl, Nat.le_of_ble_eq_true rfl, Nat.le_of_ble_eq_true rfl⟩ hK hP hD [0] rfl (by decide) rfl rfl rfl hl.1 rfl (Nat.le_of_ble_eq_true rfl) dX6_sound_7 ⟨Nat.zero_le _, Nat.zero_le _⟩ hS hA (fun r2 w3 H locs hw3 hP hS => ?_)
  obtain ⟨hr2, rfl⟩ := hw3
  obtain rfl : r2 = 0 := hr2.trans (if_neg (by decide))
  have hP : PP G [(x, .inr (6, [.int 1, .ref (a 1), .ref (a 2), .ref (a 3), .ref (a 4), .ref (a 5), .ref (a 6), .int cn, .ref (a 8), .int gv])), ((a 1), .inl (G.2.2.2.1, 6, .inr (.inr (.inr (.inr (fun j => some (ad j 0))))))), ((ad 0 0), .inr (4, [.int (tf 0 0), .int (tf 0 1), .int (tf 0 2), .int (tf 0 3), .ref (ad 0 4), .ref (ad 0 5), .ref (ad 0 6), .ref (ad 0 7), .ref (ad 0 8), .ref (ad 0 9), .ref (ad 0 10), .ref (ad 0 11)])), ((ad 1 0), .inr (4, [.int (tf 1 0), .int (tf 1 1), .int (tf 1 2), .int (tf 1 3), .ref (ad 1 4), .ref (ad 1 5), .ref (ad 1 6), .ref (ad 1 7), .ref (ad 1 8), .ref (ad 1 9), .ref (ad 1 10), .ref (ad 1 11)])), ((ad 2 0), .inr (4, [.int (tf 2 0), .int (tf 2 1), .int (tf 2 2), .int (tf 2 3), .ref (ad 2 4), .ref (ad 2 5), .ref (ad 2 6), .ref (ad 2 7), .ref (ad 2 8), .ref (ad 2 9), .ref (ad 2 10), .ref (ad 2 11)])), ((ad 3 0), .inr (4, [.int (tf 3 0), .int (tf 3 1), .int (tf 3 2), .int (tf 3 3), .ref (ad 3 4), .ref (ad 3 5), .ref (ad 3 6), .ref (ad 3 7), .ref (ad 3 8), .ref (ad 3 9), .ref (ad 3 10), .ref (ad 3 11)])), ((ad 4 0), .inr (4, [.int (tf 4 0), .int (tf 4 1), .int (tf 4 2), .int (tf 4 3), .ref (ad 4 4), .ref (ad 4 5), .ref (ad 4 6), .ref (ad 4 7), .ref (ad 4 8), .ref (ad 4 9), .ref (ad 4 10), .ref (ad 4 11)])), ((ad 5 0), .inr (4, [.int (tf 5 0), .int (tf 5 1), .int (tf 5 2), .int (tf 5 3), .ref (ad 5 4), .ref (ad 5 5), .ref (ad 5 6), .ref (ad 5 7), .ref (ad 5 8), .ref (ad 5 9), .ref (ad 5 10), .ref (ad 5 11)]))] H := hP rfl
  have hD : va_D A [(x, .inr (6, [.int 1, .ref (a 1), .ref (a 2), .ref (a 3), .ref (a 4), .ref (a 5), .ref (a 6), .int cn, .ref (a 8), .int gv])), ((a 1), .inl (G.2.2.2.1, 6, .inr (.inr (.inr (.inr (fun j => some (ad j 0))))))), ((ad 0 0), .inr (4, [.int (tf 0 0), .int (tf 0 1), .int (tf 0 2), .int (tf 0 3), .ref (ad 0 4), .ref (ad 0 5), .ref (ad 0 6), .ref (ad 0 7), .ref (ad 0 8), .ref (ad 0 9), .ref (ad 0 10), .ref (ad 0 11)])), ((ad 1 0), .inr (4, [.int (tf 1 0), .int (tf 1 1), .int (tf 1 2), .int (tf 1 3), .ref (ad 1 4), .ref (ad 1 5), .ref (ad 1 6), .ref (ad 1 7), .ref (ad 1 8), .ref (ad 1 9), .ref (ad 1 10), .ref (ad 1 11)])), ((ad 2 0), .inr (4, [.int (tf 2 0), .int (tf 2 1), .int (tf 2 2), .int (tf 2 3), .ref (ad 2 4), .ref (ad 2 5), .ref (ad 2 6), .ref (ad 2 7), .ref (ad 2 8), .ref (ad 2 9), .ref (ad 2 10), .ref (ad 2 11)])), ((ad 3 0), .inr (4, [.int (tf 3 0), .int (tf 3 1), .int (tf 3 2), .int (tf 3 3), .ref (ad 3 4), .ref (ad 3 5), .ref (ad 3 6), .ref (ad 3 7), .ref (ad 3 8), .ref (ad 3 9), .ref (ad 3 10), .ref (ad 3 11)])), ((ad 4 0), .inr (4, [.int (tf 4 0), .int (tf 4 1), .int (tf 4 2), .int (tf 4 3), .ref (ad 4 4), .ref (ad 4 5), .ref (ad 4 6), .ref (ad 4 7), .ref (ad 4 8), .ref (ad 4 9), .ref (ad 4 10), .ref (ad 4 11)])), ((ad 5 0), .inr (4, [.int (tf 5 0), .int (tf 5 1), .int (tf 5 2), .int (tf 5 3), .ref (ad 5 4), .ref (ad 5 5), .ref (ad 5 6), .ref (ad 5 7), .ref (ad 5 8), .ref (ad 5 9), .ref (ad 5 10), .ref (ad 5 11)]))] := D_same hD rfl
  refine lv_if_ne (tgt := 15) hx hb dX6_sound_10 (by decide) (fun c4 => absurd (by decide) c4) (fun _ => ?_)
  refine lv_iconst (v := -1) hx hb dX6_sound_13 (by decide) ?_
  exact wr_iret hx hb hr hlocks hS hP rfl dX6_sound_14
set_option maxHeartbeats 4000000 in
set_option maxRecDepth 100000 in
theorem k_X6_sum (l : Launch) (G : GG) (x : Nat) (a : Nat → Nat) (ad : Nat → Nat → Nat) (tf : Nat → Nat → Int32) (st cn gv : Int32) (p1 p2 : Int32) (hcl : ∀ j, j < 6 → tf j 0 = 0) : WrI l yX6_sum cX6_sum 3 (some .int) ({ frames := 2, cells := 0, slots := 0, locals := 44 }) G (xW G x a ad tf st cn gv) [.ref x, .int p1, .int p2] (fun r _ => r = -1) := by
  refine wr_entryI (by decide +kernel) (Nat.le_of_ble_eq_true rfl) ?_
  intro p e s m below meth c A C0 hP hK hD hA ls hl
  have hS : va_S A s.heap s.heap [] := va_S.rf
  obtain ⟨hx, hb, hml, hown, hts, hr, hlocks, hin⟩ := C0
  have hown : s.vm.findClass RX6 = some m.cls := hown
  have hl : lv_has ls 3 [(0, .ref x), (1, .int p1), (2, .int p2)] := hl
  refine lv_aload_n hx hb dX6_sum_0 rfl (lv_at hl 0 rfl) ?_
  refine lv_aload_n hx hb dX6_sum_1 rfl (lv_at hl 0 rfl) ?_
  refine lv_iload_n hx hb dX6_sum_2 rfl (lv_at hl 1 rfl) ?_
  refine lv_iload_n hx hb dX6_sum_3 rfl (lv_at hl 2 rfl) ?_
  refine rdV (rest := [.ref x]) (q0 := 0) ⟨hx, hb, hml, hown, hts⟩ (k_X6_rowStatus l G x a ad tf st cn gv p1 p2 hcl) mi_yX6_rowStatus mv_yX6_rowStatus ml_X6_110 ⟨rfl, rfl, Nat.le_of_ble_eq_true rfl, Nat.le_of_ble_eq_true rfl⟩ hK (hP) rfl rfl rfl hl.1 rfl (Nat.le_of_ble_eq_true rfl) dX6_sum_4 ⟨Nat.zero_le _, Nat.zero_le _⟩ hS hA hP (fun r1 H locs hr1 hP hS => ?_)
  obtain rfl : r1 = 1 := hr1
  refine wrVI (rest := []) (q0 := 0) ⟨hx, hb, hml, hown, hts⟩ (c_X6_settled l G x a st cn gv 1) mi_yX6_settled mv_yX6_settled ml_X6_65 ⟨rfl, rfl, Nat.le_of_ble_eq_true rfl, Nat.le_of_ble_eq_true rfl⟩ hK hP hD [0] rfl (by decide) rfl rfl rfl hl.1 rfl (Nat.le_of_ble_eq_true rfl) dX6_sum_7 ⟨Nat.zero_le _, Nat.zero_le _⟩ hS hA (fun r2 w3 H locs hw3 hP hS => ?_)
  obtain ⟨hr2, rfl⟩ := hw3
  obtain rfl : r2 = 0 := hr2.trans (if_neg (by decide))
  have hP : PP G [(x, .inr (6, [.int 1, .ref (a 1), .ref (a 2), .ref (a 3), .ref (a 4), .ref (a 5), .ref (a 6), .int cn, .ref (a 8), .int gv])), ((a 1), .inl (G.2.2.2.1, 6, .inr (.inr (.inr (.inr (fun j => some (ad j 0))))))), ((ad 0 0), .inr (4, [.int (tf 0 0), .int (tf 0 1), .int (tf 0 2), .int (tf 0 3), .ref (ad 0 4), .ref (ad 0 5), .ref (ad 0 6), .ref (ad 0 7), .ref (ad 0 8), .ref (ad 0 9), .ref (ad 0 10), .ref (ad 0 11)])), ((ad 1 0), .inr (4, [.int (tf 1 0), .int (tf 1 1), .int (tf 1 2), .int (tf 1 3), .ref (ad 1 4), .ref (ad 1 5), .ref (ad 1 6), .ref (ad 1 7), .ref (ad 1 8), .ref (ad 1 9), .ref (ad 1 10), .ref (ad 1 11)])), ((ad 2 0), .inr (4, [.int (tf 2 0), .int (tf 2 1), .int (tf 2 2), .int (tf 2 3), .ref (ad 2 4), .ref (ad 2 5), .ref (ad 2 6), .ref (ad 2 7), .ref (ad 2 8), .ref (ad 2 9), .ref (ad 2 10), .ref (ad 2 11)])), ((ad 3 0), .inr (4, [.int (tf 3 0), .int (tf 3 1), .int (tf 3 2), .int (tf 3 3), .ref (ad 3 4), .ref (ad 3 5), .ref (ad 3 6), .ref (ad 3 7), .ref (ad 3 8), .ref (ad 3 9), .ref (ad 3 10), .ref (ad 3 11)])), ((ad 4 0), .inr (4, [.int (tf 4 0), .int (tf 4 1), .int (tf 4 2), .int (tf 4 3), .ref (ad 4 4), .ref (ad 4 5), .ref (ad 4 6), .ref (ad 4 7), .ref (ad 4 8), .ref (ad 4 9), .ref (ad 4 10), .ref (ad 4 11)])), ((ad 5 0), .inr (4, [.int (tf 5 0), .int (tf 5 1), .int (tf 5 2), .int (tf 5 3), .ref (ad 5 4), .ref (ad 5 5), .ref (ad 5 6), .ref (ad 5 7), .ref (ad 5 8), .ref (ad 5 9), .ref (ad 5 10), .ref (ad 5 11)]))] H := hP rfl
  have hD : va_D A [(x, .inr (6, [.int 1, .ref (a 1), .ref (a 2), .ref (a 3), .ref (a 4), .ref (a 5), .ref (a 6), .int cn, .ref (a 8), .int gv])), ((a 1), .inl (G.2.2.2.1, 6, .inr (.inr (.inr (.inr (fun j => some (ad j 0))))))), ((ad 0 0), .inr (4, [.int (tf 0 0), .int (tf 0 1), .int (tf 0 2), .int (tf 0 3), .ref (ad 0 4), .ref (ad 0 5), .ref (ad 0 6), .ref (ad 0 7), .ref (ad 0 8), .ref (ad 0 9), .ref (ad 0 10), .ref (ad 0 11)])), ((ad 1 0), .inr (4, [.int (tf 1 0), .int (tf 1 1), .int (tf 1 2), .int (tf 1 3), .ref (ad 1 4), .ref (ad 1 5), .ref (ad 1 6), .ref (ad 1 7), .ref (ad 1 8), .ref (ad 1 9), .ref (ad 1 10), .ref (ad 1 11)])), ((ad 2 0), .inr (4, [.int (tf 2 0), .int (tf 2 1), .int (tf 2 2), .int (tf 2 3), .ref (ad 2 4), .ref (ad 2 5), .ref (ad 2 6), .ref (ad 2 7), .ref (ad 2 8), .ref (ad 2 9), .ref (ad 2 10), .ref (ad 2 11)])), ((ad 3 0), .inr (4, [.int (tf 3 0), .int (tf 3 1), .int (tf 3 2), .int (tf 3 3), .ref (ad 3 4), .ref (ad 3 5), .ref (ad 3 6), .ref (ad 3 7), .ref (ad 3 8), .ref (ad 3 9), .ref (ad 3 10), .ref (ad 3 11)])), ((ad 4 0), .inr (4, [.int (tf 4 0), .int (tf 4 1), .int (tf 4 2), .int (tf 4 3), .ref (ad 4 4), .ref (ad 4 5), .ref (ad 4 6), .ref (ad 4 7), .ref (ad 4 8), .ref (ad 4 9), .ref (ad 4 10), .ref (ad 4 11)])), ((ad 5 0), .inr (4, [.int (tf 5 0), .int (tf 5 1), .int (tf 5 2), .int (tf 5 3), .ref (ad 5 4), .ref (ad 5 5), .ref (ad 5 6), .ref (ad 5 7), .ref (ad 5 8), .ref (ad 5 9), .ref (ad 5 10), .ref (ad 5 11)]))] := D_same hD rfl
  refine lv_if_ne (tgt := 15) hx hb dX6_sum_10 (by decide) (fun c4 => absurd (by decide) c4) (fun _ => ?_)
  refine lv_iconst (v := -1) hx hb dX6_sum_13 (by decide) ?_
  exact wr_iret hx hb hr hlocks hS hP rfl dX6_sum_14
set_option maxHeartbeats 4000000 in
set_option maxRecDepth 100000 in
theorem k_X6_total (l : Launch) (G : GG) (x : Nat) (a : Nat → Nat) (ad : Nat → Nat → Nat) (tf : Nat → Nat → Int32) (st cn gv : Int32) (p1 p2 p3 : Int32) (hcl : ∀ j, j < 6 → tf j 0 = 0) : WrI l yX6_total cX6_total 4 (some .int) ({ frames := 2, cells := 0, slots := 0, locals := 44 }) G (xW G x a ad tf st cn gv) [.ref x, .int p1, .int p2, .int p3] (fun r _ => r = -1) := by
  refine wr_entryI (by decide +kernel) (Nat.le_of_ble_eq_true rfl) ?_
  intro p e s m below meth c A C0 hP hK hD hA ls hl
  have hS : va_S A s.heap s.heap [] := va_S.rf
  obtain ⟨hx, hb, hml, hown, hts, hr, hlocks, hin⟩ := C0
  have hown : s.vm.findClass RX6 = some m.cls := hown
  have hl : lv_has ls 4 [(0, .ref x), (1, .int p1), (2, .int p2), (3, .int p3)] := hl
  refine lv_aload_n hx hb dX6_total_0 rfl (lv_at hl 0 rfl) ?_
  refine lv_aload_n hx hb dX6_total_1 rfl (lv_at hl 0 rfl) ?_
  refine lv_iload_n hx hb dX6_total_2 rfl (lv_at hl 1 rfl) ?_
  refine lv_iload_n hx hb dX6_total_3 rfl (lv_at hl 2 rfl) ?_
  refine rdV (rest := [.ref x]) (q0 := 0) ⟨hx, hb, hml, hown, hts⟩ (k_X6_rowStatus l G x a ad tf st cn gv p1 p2 hcl) mi_yX6_rowStatus mv_yX6_rowStatus ml_X6_110 ⟨rfl, rfl, Nat.le_of_ble_eq_true rfl, Nat.le_of_ble_eq_true rfl⟩ hK (hP) rfl rfl rfl hl.1 rfl (Nat.le_of_ble_eq_true rfl) dX6_total_4 ⟨Nat.zero_le _, Nat.zero_le _⟩ hS hA hP (fun r1 H locs hr1 hP hS => ?_)
  obtain rfl : r1 = 1 := hr1
  refine wrVI (rest := []) (q0 := 0) ⟨hx, hb, hml, hown, hts⟩ (c_X6_settled l G x a st cn gv 1) mi_yX6_settled mv_yX6_settled ml_X6_65 ⟨rfl, rfl, Nat.le_of_ble_eq_true rfl, Nat.le_of_ble_eq_true rfl⟩ hK hP hD [0] rfl (by decide) rfl rfl rfl hl.1 rfl (Nat.le_of_ble_eq_true rfl) dX6_total_7 ⟨Nat.zero_le _, Nat.zero_le _⟩ hS hA (fun r2 w3 H locs hw3 hP hS => ?_)
  obtain ⟨hr2, rfl⟩ := hw3
  obtain rfl : r2 = 0 := hr2.trans (if_neg (by decide))
  have hP : PP G [(x, .inr (6, [.int 1, .ref (a 1), .ref (a 2), .ref (a 3), .ref (a 4), .ref (a 5), .ref (a 6), .int cn, .ref (a 8), .int gv])), ((a 1), .inl (G.2.2.2.1, 6, .inr (.inr (.inr (.inr (fun j => some (ad j 0))))))), ((ad 0 0), .inr (4, [.int (tf 0 0), .int (tf 0 1), .int (tf 0 2), .int (tf 0 3), .ref (ad 0 4), .ref (ad 0 5), .ref (ad 0 6), .ref (ad 0 7), .ref (ad 0 8), .ref (ad 0 9), .ref (ad 0 10), .ref (ad 0 11)])), ((ad 1 0), .inr (4, [.int (tf 1 0), .int (tf 1 1), .int (tf 1 2), .int (tf 1 3), .ref (ad 1 4), .ref (ad 1 5), .ref (ad 1 6), .ref (ad 1 7), .ref (ad 1 8), .ref (ad 1 9), .ref (ad 1 10), .ref (ad 1 11)])), ((ad 2 0), .inr (4, [.int (tf 2 0), .int (tf 2 1), .int (tf 2 2), .int (tf 2 3), .ref (ad 2 4), .ref (ad 2 5), .ref (ad 2 6), .ref (ad 2 7), .ref (ad 2 8), .ref (ad 2 9), .ref (ad 2 10), .ref (ad 2 11)])), ((ad 3 0), .inr (4, [.int (tf 3 0), .int (tf 3 1), .int (tf 3 2), .int (tf 3 3), .ref (ad 3 4), .ref (ad 3 5), .ref (ad 3 6), .ref (ad 3 7), .ref (ad 3 8), .ref (ad 3 9), .ref (ad 3 10), .ref (ad 3 11)])), ((ad 4 0), .inr (4, [.int (tf 4 0), .int (tf 4 1), .int (tf 4 2), .int (tf 4 3), .ref (ad 4 4), .ref (ad 4 5), .ref (ad 4 6), .ref (ad 4 7), .ref (ad 4 8), .ref (ad 4 9), .ref (ad 4 10), .ref (ad 4 11)])), ((ad 5 0), .inr (4, [.int (tf 5 0), .int (tf 5 1), .int (tf 5 2), .int (tf 5 3), .ref (ad 5 4), .ref (ad 5 5), .ref (ad 5 6), .ref (ad 5 7), .ref (ad 5 8), .ref (ad 5 9), .ref (ad 5 10), .ref (ad 5 11)]))] H := hP rfl
  have hD : va_D A [(x, .inr (6, [.int 1, .ref (a 1), .ref (a 2), .ref (a 3), .ref (a 4), .ref (a 5), .ref (a 6), .int cn, .ref (a 8), .int gv])), ((a 1), .inl (G.2.2.2.1, 6, .inr (.inr (.inr (.inr (fun j => some (ad j 0))))))), ((ad 0 0), .inr (4, [.int (tf 0 0), .int (tf 0 1), .int (tf 0 2), .int (tf 0 3), .ref (ad 0 4), .ref (ad 0 5), .ref (ad 0 6), .ref (ad 0 7), .ref (ad 0 8), .ref (ad 0 9), .ref (ad 0 10), .ref (ad 0 11)])), ((ad 1 0), .inr (4, [.int (tf 1 0), .int (tf 1 1), .int (tf 1 2), .int (tf 1 3), .ref (ad 1 4), .ref (ad 1 5), .ref (ad 1 6), .ref (ad 1 7), .ref (ad 1 8), .ref (ad 1 9), .ref (ad 1 10), .ref (ad 1 11)])), ((ad 2 0), .inr (4, [.int (tf 2 0), .int (tf 2 1), .int (tf 2 2), .int (tf 2 3), .ref (ad 2 4), .ref (ad 2 5), .ref (ad 2 6), .ref (ad 2 7), .ref (ad 2 8), .ref (ad 2 9), .ref (ad 2 10), .ref (ad 2 11)])), ((ad 3 0), .inr (4, [.int (tf 3 0), .int (tf 3 1), .int (tf 3 2), .int (tf 3 3), .ref (ad 3 4), .ref (ad 3 5), .ref (ad 3 6), .ref (ad 3 7), .ref (ad 3 8), .ref (ad 3 9), .ref (ad 3 10), .ref (ad 3 11)])), ((ad 4 0), .inr (4, [.int (tf 4 0), .int (tf 4 1), .int (tf 4 2), .int (tf 4 3), .ref (ad 4 4), .ref (ad 4 5), .ref (ad 4 6), .ref (ad 4 7), .ref (ad 4 8), .ref (ad 4 9), .ref (ad 4 10), .ref (ad 4 11)])), ((ad 5 0), .inr (4, [.int (tf 5 0), .int (tf 5 1), .int (tf 5 2), .int (tf 5 3), .ref (ad 5 4), .ref (ad 5 5), .ref (ad 5 6), .ref (ad 5 7), .ref (ad 5 8), .ref (ad 5 9), .ref (ad 5 10), .ref (ad 5 11)]))] := D_same hD rfl
  refine lv_if_ne (tgt := 15) hx hb dX6_total_10 (by decide) (fun c4 => absurd (by decide) c4) (fun _ => ?_)
  refine lv_iconst (v := -1) hx hb dX6_total_13 (by decide) ?_
  exact wr_iret hx hb hr hlocks hS hP rfl dX6_total_14
set_option maxHeartbeats 4000000 in
set_option maxRecDepth 100000 in
theorem k_X6_secret (l : Launch) (G : GG) (x : Nat) (a : Nat → Nat) (ad : Nat → Nat → Nat) (tf : Nat → Nat → Int32) (st cn gv : Int32) (p1 p2 p3 : Int32) (hcl : ∀ j, j < 6 → tf j 0 = 0) : WrI l yX6_secret cX6_secret 4 (some .int) ({ frames := 6, cells := 0, slots := 0, locals := 141 }) G (xW G x a ad tf st cn gv) [.ref x, .int p1, .int p2, .int p3] (fun r _ => r = -1) := by
  refine wr_entryI (by decide +kernel) (Nat.le_of_ble_eq_true rfl) ?_
  intro p e s m below meth c A C0 hP hK hD hA ls hl
  have hS : va_S A s.heap s.heap [] := va_S.rf
  obtain ⟨hx, hb, hml, hown, hts, hr, hlocks, hin⟩ := C0
  have hown : s.vm.findClass RX6 = some m.cls := hown
  have hl : lv_has ls 4 [(0, .ref x), (1, .int p1), (2, .int p2), (3, .int p3)] := hl
  refine lv_aload_n hx hb dX6_secret_0 rfl (lv_at hl 0 rfl) ?_
  refine lv_aload_n hx hb dX6_secret_1 rfl (lv_at hl 0 rfl) ?_
  refine lv_iload_n hx hb dX6_secret_2 rfl (lv_at hl 1 rfl) ?_
  refine lv_iload_n hx hb dX6_secret_3 rfl (lv_at hl 2 rfl) ?_
  refine lv_iload_n hx hb dX6_secret_4 rfl (lv_at hl 3 rfl) ?_
  refine rdV (rest := [.ref x]) (q0 := 0) ⟨hx, hb, hml, hown, hts⟩ (k_X6_soundCellStatus l G x a ad tf st cn gv p1 p2 p3 hcl) mi_yX6_soundCellStatus mv_yX6_soundCellStatus ml_X6_165 ⟨rfl, rfl, Nat.le_of_ble_eq_true rfl, Nat.le_of_ble_eq_true rfl⟩ hK (hP) rfl rfl rfl hl.1 rfl (Nat.le_of_ble_eq_true rfl) dX6_secret_5 ⟨Nat.zero_le _, Nat.zero_le _⟩ hS hA hP (fun r1 H locs hr1 hP hS => ?_)
  obtain rfl : r1 = 1 := hr1
  refine wrVI (rest := []) (q0 := 0) ⟨hx, hb, hml, hown, hts⟩ (c_X6_settled l G x a st cn gv 1) mi_yX6_settled mv_yX6_settled ml_X6_65 ⟨rfl, rfl, Nat.le_of_ble_eq_true rfl, Nat.le_of_ble_eq_true rfl⟩ hK hP hD [0] rfl (by decide) rfl rfl rfl hl.1 rfl (Nat.le_of_ble_eq_true rfl) dX6_secret_8 ⟨Nat.zero_le _, Nat.zero_le _⟩ hS hA (fun r2 w3 H locs hw3 hP hS => ?_)
  obtain ⟨hr2, rfl⟩ := hw3
  obtain rfl : r2 = 0 := hr2.trans (if_neg (by decide))
  have hP : PP G [(x, .inr (6, [.int 1, .ref (a 1), .ref (a 2), .ref (a 3), .ref (a 4), .ref (a 5), .ref (a 6), .int cn, .ref (a 8), .int gv])), ((a 1), .inl (G.2.2.2.1, 6, .inr (.inr (.inr (.inr (fun j => some (ad j 0))))))), ((ad 0 0), .inr (4, [.int (tf 0 0), .int (tf 0 1), .int (tf 0 2), .int (tf 0 3), .ref (ad 0 4), .ref (ad 0 5), .ref (ad 0 6), .ref (ad 0 7), .ref (ad 0 8), .ref (ad 0 9), .ref (ad 0 10), .ref (ad 0 11)])), ((ad 1 0), .inr (4, [.int (tf 1 0), .int (tf 1 1), .int (tf 1 2), .int (tf 1 3), .ref (ad 1 4), .ref (ad 1 5), .ref (ad 1 6), .ref (ad 1 7), .ref (ad 1 8), .ref (ad 1 9), .ref (ad 1 10), .ref (ad 1 11)])), ((ad 2 0), .inr (4, [.int (tf 2 0), .int (tf 2 1), .int (tf 2 2), .int (tf 2 3), .ref (ad 2 4), .ref (ad 2 5), .ref (ad 2 6), .ref (ad 2 7), .ref (ad 2 8), .ref (ad 2 9), .ref (ad 2 10), .ref (ad 2 11)])), ((ad 3 0), .inr (4, [.int (tf 3 0), .int (tf 3 1), .int (tf 3 2), .int (tf 3 3), .ref (ad 3 4), .ref (ad 3 5), .ref (ad 3 6), .ref (ad 3 7), .ref (ad 3 8), .ref (ad 3 9), .ref (ad 3 10), .ref (ad 3 11)])), ((ad 4 0), .inr (4, [.int (tf 4 0), .int (tf 4 1), .int (tf 4 2), .int (tf 4 3), .ref (ad 4 4), .ref (ad 4 5), .ref (ad 4 6), .ref (ad 4 7), .ref (ad 4 8), .ref (ad 4 9), .ref (ad 4 10), .ref (ad 4 11)])), ((ad 5 0), .inr (4, [.int (tf 5 0), .int (tf 5 1), .int (tf 5 2), .int (tf 5 3), .ref (ad 5 4), .ref (ad 5 5), .ref (ad 5 6), .ref (ad 5 7), .ref (ad 5 8), .ref (ad 5 9), .ref (ad 5 10), .ref (ad 5 11)]))] H := hP rfl
  have hD : va_D A [(x, .inr (6, [.int 1, .ref (a 1), .ref (a 2), .ref (a 3), .ref (a 4), .ref (a 5), .ref (a 6), .int cn, .ref (a 8), .int gv])), ((a 1), .inl (G.2.2.2.1, 6, .inr (.inr (.inr (.inr (fun j => some (ad j 0))))))), ((ad 0 0), .inr (4, [.int (tf 0 0), .int (tf 0 1), .int (tf 0 2), .int (tf 0 3), .ref (ad 0 4), .ref (ad 0 5), .ref (ad 0 6), .ref (ad 0 7), .ref (ad 0 8), .ref (ad 0 9), .ref (ad 0 10), .ref (ad 0 11)])), ((ad 1 0), .inr (4, [.int (tf 1 0), .int (tf 1 1), .int (tf 1 2), .int (tf 1 3), .ref (ad 1 4), .ref (ad 1 5), .ref (ad 1 6), .ref (ad 1 7), .ref (ad 1 8), .ref (ad 1 9), .ref (ad 1 10), .ref (ad 1 11)])), ((ad 2 0), .inr (4, [.int (tf 2 0), .int (tf 2 1), .int (tf 2 2), .int (tf 2 3), .ref (ad 2 4), .ref (ad 2 5), .ref (ad 2 6), .ref (ad 2 7), .ref (ad 2 8), .ref (ad 2 9), .ref (ad 2 10), .ref (ad 2 11)])), ((ad 3 0), .inr (4, [.int (tf 3 0), .int (tf 3 1), .int (tf 3 2), .int (tf 3 3), .ref (ad 3 4), .ref (ad 3 5), .ref (ad 3 6), .ref (ad 3 7), .ref (ad 3 8), .ref (ad 3 9), .ref (ad 3 10), .ref (ad 3 11)])), ((ad 4 0), .inr (4, [.int (tf 4 0), .int (tf 4 1), .int (tf 4 2), .int (tf 4 3), .ref (ad 4 4), .ref (ad 4 5), .ref (ad 4 6), .ref (ad 4 7), .ref (ad 4 8), .ref (ad 4 9), .ref (ad 4 10), .ref (ad 4 11)])), ((ad 5 0), .inr (4, [.int (tf 5 0), .int (tf 5 1), .int (tf 5 2), .int (tf 5 3), .ref (ad 5 4), .ref (ad 5 5), .ref (ad 5 6), .ref (ad 5 7), .ref (ad 5 8), .ref (ad 5 9), .ref (ad 5 10), .ref (ad 5 11)]))] := D_same hD rfl
  refine lv_if_ne (tgt := 16) hx hb dX6_secret_11 (by decide) (fun c4 => absurd (by decide) c4) (fun _ => ?_)
  refine lv_iconst (v := -1) hx hb dX6_secret_14 (by decide) ?_
  exact wr_iret hx hb hr hlocks hS hP rfl dX6_secret_15
set_option maxHeartbeats 4000000 in
set_option maxRecDepth 100000 in
theorem k_X6_kept (l : Launch) (G : GG) (x : Nat) (a : Nat → Nat) (ad : Nat → Nat → Nat) (tf : Nat → Nat → Int32) (st cn gv : Int32) (p1 p2 p3 : Int32) (hcl : ∀ j, j < 6 → tf j 0 = 0) : WrI l yX6_kept cX6_kept 4 (some .int) ({ frames := 6, cells := 0, slots := 0, locals := 141 }) G (xW G x a ad tf st cn gv) [.ref x, .int p1, .int p2, .int p3] (fun r _ => r = -1) := by
  refine wr_entryI (by decide +kernel) (Nat.le_of_ble_eq_true rfl) ?_
  intro p e s m below meth c A C0 hP hK hD hA ls hl
  have hS : va_S A s.heap s.heap [] := va_S.rf
  obtain ⟨hx, hb, hml, hown, hts, hr, hlocks, hin⟩ := C0
  have hown : s.vm.findClass RX6 = some m.cls := hown
  have hl : lv_has ls 4 [(0, .ref x), (1, .int p1), (2, .int p2), (3, .int p3)] := hl
  refine lv_aload_n hx hb dX6_kept_0 rfl (lv_at hl 0 rfl) ?_
  refine lv_aload_n hx hb dX6_kept_1 rfl (lv_at hl 0 rfl) ?_
  refine lv_iload_n hx hb dX6_kept_2 rfl (lv_at hl 1 rfl) ?_
  refine lv_iload_n hx hb dX6_kept_3 rfl (lv_at hl 2 rfl) ?_
  refine lv_iload_n hx hb dX6_kept_4 rfl (lv_at hl 3 rfl) ?_
  refine rdV (rest := [.ref x]) (q0 := 0) ⟨hx, hb, hml, hown, hts⟩ (k_X6_soundCellStatus l G x a ad tf st cn gv p1 p2 p3 hcl) mi_yX6_soundCellStatus mv_yX6_soundCellStatus ml_X6_165 ⟨rfl, rfl, Nat.le_of_ble_eq_true rfl, Nat.le_of_ble_eq_true rfl⟩ hK (hP) rfl rfl rfl hl.1 rfl (Nat.le_of_ble_eq_true rfl) dX6_kept_5 ⟨Nat.zero_le _, Nat.zero_le _⟩ hS hA hP (fun r1 H locs hr1 hP hS => ?_)
  obtain rfl : r1 = 1 := hr1
  refine wrVI (rest := []) (q0 := 0) ⟨hx, hb, hml, hown, hts⟩ (c_X6_settled l G x a st cn gv 1) mi_yX6_settled mv_yX6_settled ml_X6_65 ⟨rfl, rfl, Nat.le_of_ble_eq_true rfl, Nat.le_of_ble_eq_true rfl⟩ hK hP hD [0] rfl (by decide) rfl rfl rfl hl.1 rfl (Nat.le_of_ble_eq_true rfl) dX6_kept_8 ⟨Nat.zero_le _, Nat.zero_le _⟩ hS hA (fun r2 w3 H locs hw3 hP hS => ?_)
  obtain ⟨hr2, rfl⟩ := hw3
  obtain rfl : r2 = 0 := hr2.trans (if_neg (by decide))
  have hP : PP G [(x, .inr (6, [.int 1, .ref (a 1), .ref (a 2), .ref (a 3), .ref (a 4), .ref (a 5), .ref (a 6), .int cn, .ref (a 8), .int gv])), ((a 1), .inl (G.2.2.2.1, 6, .inr (.inr (.inr (.inr (fun j => some (ad j 0))))))), ((ad 0 0), .inr (4, [.int (tf 0 0), .int (tf 0 1), .int (tf 0 2), .int (tf 0 3), .ref (ad 0 4), .ref (ad 0 5), .ref (ad 0 6), .ref (ad 0 7), .ref (ad 0 8), .ref (ad 0 9), .ref (ad 0 10), .ref (ad 0 11)])), ((ad 1 0), .inr (4, [.int (tf 1 0), .int (tf 1 1), .int (tf 1 2), .int (tf 1 3), .ref (ad 1 4), .ref (ad 1 5), .ref (ad 1 6), .ref (ad 1 7), .ref (ad 1 8), .ref (ad 1 9), .ref (ad 1 10), .ref (ad 1 11)])), ((ad 2 0), .inr (4, [.int (tf 2 0), .int (tf 2 1), .int (tf 2 2), .int (tf 2 3), .ref (ad 2 4), .ref (ad 2 5), .ref (ad 2 6), .ref (ad 2 7), .ref (ad 2 8), .ref (ad 2 9), .ref (ad 2 10), .ref (ad 2 11)])), ((ad 3 0), .inr (4, [.int (tf 3 0), .int (tf 3 1), .int (tf 3 2), .int (tf 3 3), .ref (ad 3 4), .ref (ad 3 5), .ref (ad 3 6), .ref (ad 3 7), .ref (ad 3 8), .ref (ad 3 9), .ref (ad 3 10), .ref (ad 3 11)])), ((ad 4 0), .inr (4, [.int (tf 4 0), .int (tf 4 1), .int (tf 4 2), .int (tf 4 3), .ref (ad 4 4), .ref (ad 4 5), .ref (ad 4 6), .ref (ad 4 7), .ref (ad 4 8), .ref (ad 4 9), .ref (ad 4 10), .ref (ad 4 11)])), ((ad 5 0), .inr (4, [.int (tf 5 0), .int (tf 5 1), .int (tf 5 2), .int (tf 5 3), .ref (ad 5 4), .ref (ad 5 5), .ref (ad 5 6), .ref (ad 5 7), .ref (ad 5 8), .ref (ad 5 9), .ref (ad 5 10), .ref (ad 5 11)]))] H := hP rfl
  have hD : va_D A [(x, .inr (6, [.int 1, .ref (a 1), .ref (a 2), .ref (a 3), .ref (a 4), .ref (a 5), .ref (a 6), .int cn, .ref (a 8), .int gv])), ((a 1), .inl (G.2.2.2.1, 6, .inr (.inr (.inr (.inr (fun j => some (ad j 0))))))), ((ad 0 0), .inr (4, [.int (tf 0 0), .int (tf 0 1), .int (tf 0 2), .int (tf 0 3), .ref (ad 0 4), .ref (ad 0 5), .ref (ad 0 6), .ref (ad 0 7), .ref (ad 0 8), .ref (ad 0 9), .ref (ad 0 10), .ref (ad 0 11)])), ((ad 1 0), .inr (4, [.int (tf 1 0), .int (tf 1 1), .int (tf 1 2), .int (tf 1 3), .ref (ad 1 4), .ref (ad 1 5), .ref (ad 1 6), .ref (ad 1 7), .ref (ad 1 8), .ref (ad 1 9), .ref (ad 1 10), .ref (ad 1 11)])), ((ad 2 0), .inr (4, [.int (tf 2 0), .int (tf 2 1), .int (tf 2 2), .int (tf 2 3), .ref (ad 2 4), .ref (ad 2 5), .ref (ad 2 6), .ref (ad 2 7), .ref (ad 2 8), .ref (ad 2 9), .ref (ad 2 10), .ref (ad 2 11)])), ((ad 3 0), .inr (4, [.int (tf 3 0), .int (tf 3 1), .int (tf 3 2), .int (tf 3 3), .ref (ad 3 4), .ref (ad 3 5), .ref (ad 3 6), .ref (ad 3 7), .ref (ad 3 8), .ref (ad 3 9), .ref (ad 3 10), .ref (ad 3 11)])), ((ad 4 0), .inr (4, [.int (tf 4 0), .int (tf 4 1), .int (tf 4 2), .int (tf 4 3), .ref (ad 4 4), .ref (ad 4 5), .ref (ad 4 6), .ref (ad 4 7), .ref (ad 4 8), .ref (ad 4 9), .ref (ad 4 10), .ref (ad 4 11)])), ((ad 5 0), .inr (4, [.int (tf 5 0), .int (tf 5 1), .int (tf 5 2), .int (tf 5 3), .ref (ad 5 4), .ref (ad 5 5), .ref (ad 5 6), .ref (ad 5 7), .ref (ad 5 8), .ref (ad 5 9), .ref (ad 5 10), .ref (ad 5 11)]))] := D_same hD rfl
  refine lv_if_ne (tgt := 16) hx hb dX6_kept_11 (by decide) (fun c4 => absurd (by decide) c4) (fun _ => ?_)
  refine lv_iconst (v := -1) hx hb dX6_kept_14 (by decide) ?_
  exact wr_iret hx hb hr hlocks hS hP rfl dX6_kept_15
set_option maxHeartbeats 4000000 in
set_option maxRecDepth 100000 in
theorem k_X6_thousandths (l : Launch) (G : GG) (x : Nat) (a : Nat → Nat) (ad : Nat → Nat → Nat) (tf : Nat → Nat → Int32) (st cn gv : Int32) (p1 p2 p3 : Int32) (hcl : ∀ j, j < 6 → tf j 0 = 0) : WrI l yX6_thousandths cX6_thousandths 4 (some .int) ({ frames := 5, cells := 0, slots := 0, locals := 117 }) G (xW G x a ad tf st cn gv) [.ref x, .int p1, .int p2, .int p3] (fun r _ => r = -1) := by
  refine wr_entryI (by decide +kernel) (Nat.le_of_ble_eq_true rfl) ?_
  intro p e s m below meth c A C0 hP hK hD hA ls hl
  have hS : va_S A s.heap s.heap [] := va_S.rf
  obtain ⟨hx, hb, hml, hown, hts, hr, hlocks, hin⟩ := C0
  have hown : s.vm.findClass RX6 = some m.cls := hown
  have hl : lv_has ls 4 [(0, .ref x), (1, .int p1), (2, .int p2), (3, .int p3)] := hl
  refine lv_aload_n hx hb dX6_thousandths_0 rfl (lv_at hl 0 rfl) ?_
  refine lv_aload_n hx hb dX6_thousandths_1 rfl (lv_at hl 0 rfl) ?_
  refine lv_iload_n hx hb dX6_thousandths_2 rfl (lv_at hl 1 rfl) ?_
  refine lv_iload_n hx hb dX6_thousandths_3 rfl (lv_at hl 2 rfl) ?_
  refine lv_iload_n hx hb dX6_thousandths_4 rfl (lv_at hl 3 rfl) ?_
  refine rdV (rest := [.ref x]) (q0 := 0) ⟨hx, hb, hml, hown, hts⟩ (k_X6_cellStatus l G x a ad tf st cn gv p1 p2 p3 hcl) mi_yX6_cellStatus mv_yX6_cellStatus ml_X6_174 ⟨rfl, rfl, Nat.le_of_ble_eq_true rfl, Nat.le_of_ble_eq_true rfl⟩ hK (hP) rfl rfl rfl hl.1 rfl (Nat.le_of_ble_eq_true rfl) dX6_thousandths_5 ⟨Nat.zero_le _, Nat.zero_le _⟩ hS hA hP (fun r1 H locs hr1 hP hS => ?_)
  obtain rfl : r1 = 1 := hr1
  refine wrVI (rest := []) (q0 := 0) ⟨hx, hb, hml, hown, hts⟩ (c_X6_settled l G x a st cn gv 1) mi_yX6_settled mv_yX6_settled ml_X6_65 ⟨rfl, rfl, Nat.le_of_ble_eq_true rfl, Nat.le_of_ble_eq_true rfl⟩ hK hP hD [0] rfl (by decide) rfl rfl rfl hl.1 rfl (Nat.le_of_ble_eq_true rfl) dX6_thousandths_8 ⟨Nat.zero_le _, Nat.zero_le _⟩ hS hA (fun r2 w3 H locs hw3 hP hS => ?_)
  obtain ⟨hr2, rfl⟩ := hw3
  obtain rfl : r2 = 0 := hr2.trans (if_neg (by decide))
  have hP : PP G [(x, .inr (6, [.int 1, .ref (a 1), .ref (a 2), .ref (a 3), .ref (a 4), .ref (a 5), .ref (a 6), .int cn, .ref (a 8), .int gv])), ((a 1), .inl (G.2.2.2.1, 6, .inr (.inr (.inr (.inr (fun j => some (ad j 0))))))), ((ad 0 0), .inr (4, [.int (tf 0 0), .int (tf 0 1), .int (tf 0 2), .int (tf 0 3), .ref (ad 0 4), .ref (ad 0 5), .ref (ad 0 6), .ref (ad 0 7), .ref (ad 0 8), .ref (ad 0 9), .ref (ad 0 10), .ref (ad 0 11)])), ((ad 1 0), .inr (4, [.int (tf 1 0), .int (tf 1 1), .int (tf 1 2), .int (tf 1 3), .ref (ad 1 4), .ref (ad 1 5), .ref (ad 1 6), .ref (ad 1 7), .ref (ad 1 8), .ref (ad 1 9), .ref (ad 1 10), .ref (ad 1 11)])), ((ad 2 0), .inr (4, [.int (tf 2 0), .int (tf 2 1), .int (tf 2 2), .int (tf 2 3), .ref (ad 2 4), .ref (ad 2 5), .ref (ad 2 6), .ref (ad 2 7), .ref (ad 2 8), .ref (ad 2 9), .ref (ad 2 10), .ref (ad 2 11)])), ((ad 3 0), .inr (4, [.int (tf 3 0), .int (tf 3 1), .int (tf 3 2), .int (tf 3 3), .ref (ad 3 4), .ref (ad 3 5), .ref (ad 3 6), .ref (ad 3 7), .ref (ad 3 8), .ref (ad 3 9), .ref (ad 3 10), .ref (ad 3 11)])), ((ad 4 0), .inr (4, [.int (tf 4 0), .int (tf 4 1), .int (tf 4 2), .int (tf 4 3), .ref (ad 4 4), .ref (ad 4 5), .ref (ad 4 6), .ref (ad 4 7), .ref (ad 4 8), .ref (ad 4 9), .ref (ad 4 10), .ref (ad 4 11)])), ((ad 5 0), .inr (4, [.int (tf 5 0), .int (tf 5 1), .int (tf 5 2), .int (tf 5 3), .ref (ad 5 4), .ref (ad 5 5), .ref (ad 5 6), .ref (ad 5 7), .ref (ad 5 8), .ref (ad 5 9), .ref (ad 5 10), .ref (ad 5 11)]))] H := hP rfl
  have hD : va_D A [(x, .inr (6, [.int 1, .ref (a 1), .ref (a 2), .ref (a 3), .ref (a 4), .ref (a 5), .ref (a 6), .int cn, .ref (a 8), .int gv])), ((a 1), .inl (G.2.2.2.1, 6, .inr (.inr (.inr (.inr (fun j => some (ad j 0))))))), ((ad 0 0), .inr (4, [.int (tf 0 0), .int (tf 0 1), .int (tf 0 2), .int (tf 0 3), .ref (ad 0 4), .ref (ad 0 5), .ref (ad 0 6), .ref (ad 0 7), .ref (ad 0 8), .ref (ad 0 9), .ref (ad 0 10), .ref (ad 0 11)])), ((ad 1 0), .inr (4, [.int (tf 1 0), .int (tf 1 1), .int (tf 1 2), .int (tf 1 3), .ref (ad 1 4), .ref (ad 1 5), .ref (ad 1 6), .ref (ad 1 7), .ref (ad 1 8), .ref (ad 1 9), .ref (ad 1 10), .ref (ad 1 11)])), ((ad 2 0), .inr (4, [.int (tf 2 0), .int (tf 2 1), .int (tf 2 2), .int (tf 2 3), .ref (ad 2 4), .ref (ad 2 5), .ref (ad 2 6), .ref (ad 2 7), .ref (ad 2 8), .ref (ad 2 9), .ref (ad 2 10), .ref (ad 2 11)])), ((ad 3 0), .inr (4, [.int (tf 3 0), .int (tf 3 1), .int (tf 3 2), .int (tf 3 3), .ref (ad 3 4), .ref (ad 3 5), .ref (ad 3 6), .ref (ad 3 7), .ref (ad 3 8), .ref (ad 3 9), .ref (ad 3 10), .ref (ad 3 11)])), ((ad 4 0), .inr (4, [.int (tf 4 0), .int (tf 4 1), .int (tf 4 2), .int (tf 4 3), .ref (ad 4 4), .ref (ad 4 5), .ref (ad 4 6), .ref (ad 4 7), .ref (ad 4 8), .ref (ad 4 9), .ref (ad 4 10), .ref (ad 4 11)])), ((ad 5 0), .inr (4, [.int (tf 5 0), .int (tf 5 1), .int (tf 5 2), .int (tf 5 3), .ref (ad 5 4), .ref (ad 5 5), .ref (ad 5 6), .ref (ad 5 7), .ref (ad 5 8), .ref (ad 5 9), .ref (ad 5 10), .ref (ad 5 11)]))] := D_same hD rfl
  refine lv_if_ne (tgt := 16) hx hb dX6_thousandths_11 (by decide) (fun c4 => absurd (by decide) c4) (fun _ => ?_)
  refine lv_iconst (v := -1) hx hb dX6_thousandths_14 (by decide) ?_
  exact wr_iret hx hb hr hlocks hS hP rfl dX6_thousandths_15
set_option maxHeartbeats 4000000 in
set_option maxRecDepth 100000 in
theorem k_X6_spanEnd (l : Launch) (G : GG) (x : Nat) (a : Nat → Nat) (ad : Nat → Nat → Nat) (tf : Nat → Nat → Int32) (st cn gv : Int32) (p1 p2 p3 p4 : Int32) (hcl : ∀ j, j < 6 → tf j 0 = 0) : WrI l yX6_spanEnd cX6_spanEnd 5 (some .int) ({ frames := 6, cells := 0, slots := 0, locals := 141 }) G (xW G x a ad tf st cn gv) [.ref x, .int p1, .int p2, .int p3, .int p4] (fun r _ => r = -1) := by
  refine wr_entryI (by decide +kernel) (Nat.le_of_ble_eq_true rfl) ?_
  intro p e s m below meth c A C0 hP hK hD hA ls hl
  have hS : va_S A s.heap s.heap [] := va_S.rf
  obtain ⟨hx, hb, hml, hown, hts, hr, hlocks, hin⟩ := C0
  have hown : s.vm.findClass RX6 = some m.cls := hown
  have hl : lv_has ls 5 [(0, .ref x), (1, .int p1), (2, .int p2), (3, .int p3), (4, .int p4)] := hl
  refine lv_aload_n hx hb dX6_spanEnd_0 rfl (lv_at hl 0 rfl) ?_
  refine lv_aload_n hx hb dX6_spanEnd_1 rfl (lv_at hl 0 rfl) ?_
  refine lv_iload_n hx hb dX6_spanEnd_2 rfl (lv_at hl 1 rfl) ?_
  refine lv_iload_n hx hb dX6_spanEnd_3 rfl (lv_at hl 2 rfl) ?_
  refine lv_iload_n hx hb dX6_spanEnd_4 rfl (lv_at hl 3 rfl) ?_
  refine rdV (rest := [.ref x]) (q0 := 0) ⟨hx, hb, hml, hown, hts⟩ (k_X6_soundCellStatus l G x a ad tf st cn gv p1 p2 p3 hcl) mi_yX6_soundCellStatus mv_yX6_soundCellStatus ml_X6_165 ⟨rfl, rfl, Nat.le_of_ble_eq_true rfl, Nat.le_of_ble_eq_true rfl⟩ hK (hP) rfl rfl rfl hl.1 rfl (Nat.le_of_ble_eq_true rfl) dX6_spanEnd_5 ⟨Nat.zero_le _, Nat.zero_le _⟩ hS hA hP (fun r1 H locs hr1 hP hS => ?_)
  obtain rfl : r1 = 1 := hr1
  refine wrVI (rest := []) (q0 := 0) ⟨hx, hb, hml, hown, hts⟩ (c_X6_settled l G x a st cn gv 1) mi_yX6_settled mv_yX6_settled ml_X6_65 ⟨rfl, rfl, Nat.le_of_ble_eq_true rfl, Nat.le_of_ble_eq_true rfl⟩ hK hP hD [0] rfl (by decide) rfl rfl rfl hl.1 rfl (Nat.le_of_ble_eq_true rfl) dX6_spanEnd_8 ⟨Nat.zero_le _, Nat.zero_le _⟩ hS hA (fun r2 w3 H locs hw3 hP hS => ?_)
  obtain ⟨hr2, rfl⟩ := hw3
  obtain rfl : r2 = 0 := hr2.trans (if_neg (by decide))
  have hP : PP G [(x, .inr (6, [.int 1, .ref (a 1), .ref (a 2), .ref (a 3), .ref (a 4), .ref (a 5), .ref (a 6), .int cn, .ref (a 8), .int gv])), ((a 1), .inl (G.2.2.2.1, 6, .inr (.inr (.inr (.inr (fun j => some (ad j 0))))))), ((ad 0 0), .inr (4, [.int (tf 0 0), .int (tf 0 1), .int (tf 0 2), .int (tf 0 3), .ref (ad 0 4), .ref (ad 0 5), .ref (ad 0 6), .ref (ad 0 7), .ref (ad 0 8), .ref (ad 0 9), .ref (ad 0 10), .ref (ad 0 11)])), ((ad 1 0), .inr (4, [.int (tf 1 0), .int (tf 1 1), .int (tf 1 2), .int (tf 1 3), .ref (ad 1 4), .ref (ad 1 5), .ref (ad 1 6), .ref (ad 1 7), .ref (ad 1 8), .ref (ad 1 9), .ref (ad 1 10), .ref (ad 1 11)])), ((ad 2 0), .inr (4, [.int (tf 2 0), .int (tf 2 1), .int (tf 2 2), .int (tf 2 3), .ref (ad 2 4), .ref (ad 2 5), .ref (ad 2 6), .ref (ad 2 7), .ref (ad 2 8), .ref (ad 2 9), .ref (ad 2 10), .ref (ad 2 11)])), ((ad 3 0), .inr (4, [.int (tf 3 0), .int (tf 3 1), .int (tf 3 2), .int (tf 3 3), .ref (ad 3 4), .ref (ad 3 5), .ref (ad 3 6), .ref (ad 3 7), .ref (ad 3 8), .ref (ad 3 9), .ref (ad 3 10), .ref (ad 3 11)])), ((ad 4 0), .inr (4, [.int (tf 4 0), .int (tf 4 1), .int (tf 4 2), .int (tf 4 3), .ref (ad 4 4), .ref (ad 4 5), .ref (ad 4 6), .ref (ad 4 7), .ref (ad 4 8), .ref (ad 4 9), .ref (ad 4 10), .ref (ad 4 11)])), ((ad 5 0), .inr (4, [.int (tf 5 0), .int (tf 5 1), .int (tf 5 2), .int (tf 5 3), .ref (ad 5 4), .ref (ad 5 5), .ref (ad 5 6), .ref (ad 5 7), .ref (ad 5 8), .ref (ad 5 9), .ref (ad 5 10), .ref (ad 5 11)]))] H := hP rfl
  have hD : va_D A [(x, .inr (6, [.int 1, .ref (a 1), .ref (a 2), .ref (a 3), .ref (a 4), .ref (a 5), .ref (a 6), .int cn, .ref (a 8), .int gv])), ((a 1), .inl (G.2.2.2.1, 6, .inr (.inr (.inr (.inr (fun j => some (ad j 0))))))), ((ad 0 0), .inr (4, [.int (tf 0 0), .int (tf 0 1), .int (tf 0 2), .int (tf 0 3), .ref (ad 0 4), .ref (ad 0 5), .ref (ad 0 6), .ref (ad 0 7), .ref (ad 0 8), .ref (ad 0 9), .ref (ad 0 10), .ref (ad 0 11)])), ((ad 1 0), .inr (4, [.int (tf 1 0), .int (tf 1 1), .int (tf 1 2), .int (tf 1 3), .ref (ad 1 4), .ref (ad 1 5), .ref (ad 1 6), .ref (ad 1 7), .ref (ad 1 8), .ref (ad 1 9), .ref (ad 1 10), .ref (ad 1 11)])), ((ad 2 0), .inr (4, [.int (tf 2 0), .int (tf 2 1), .int (tf 2 2), .int (tf 2 3), .ref (ad 2 4), .ref (ad 2 5), .ref (ad 2 6), .ref (ad 2 7), .ref (ad 2 8), .ref (ad 2 9), .ref (ad 2 10), .ref (ad 2 11)])), ((ad 3 0), .inr (4, [.int (tf 3 0), .int (tf 3 1), .int (tf 3 2), .int (tf 3 3), .ref (ad 3 4), .ref (ad 3 5), .ref (ad 3 6), .ref (ad 3 7), .ref (ad 3 8), .ref (ad 3 9), .ref (ad 3 10), .ref (ad 3 11)])), ((ad 4 0), .inr (4, [.int (tf 4 0), .int (tf 4 1), .int (tf 4 2), .int (tf 4 3), .ref (ad 4 4), .ref (ad 4 5), .ref (ad 4 6), .ref (ad 4 7), .ref (ad 4 8), .ref (ad 4 9), .ref (ad 4 10), .ref (ad 4 11)])), ((ad 5 0), .inr (4, [.int (tf 5 0), .int (tf 5 1), .int (tf 5 2), .int (tf 5 3), .ref (ad 5 4), .ref (ad 5 5), .ref (ad 5 6), .ref (ad 5 7), .ref (ad 5 8), .ref (ad 5 9), .ref (ad 5 10), .ref (ad 5 11)]))] := D_same hD rfl
  refine lv_if_ne (tgt := 16) hx hb dX6_spanEnd_11 (by decide) (fun c4 => absurd (by decide) c4) (fun _ => ?_)
  refine lv_iconst (v := -1) hx hb dX6_spanEnd_14 (by decide) ?_
  exact wr_iret hx hb hr hlocks hS hP rfl dX6_spanEnd_15
set_option maxHeartbeats 4000000 in
set_option maxRecDepth 100000 in
theorem k_X6_safe (l : Launch) (G : GG) (x : Nat) (a : Nat → Nat) (ad : Nat → Nat → Nat) (tf : Nat → Nat → Int32) (st cn gv : Int32) (p1 p2 p3 : Int32) (hcl : ∀ j, j < 6 → tf j 0 = 0) : WrI l yX6_safe cX6_safe 4 (some .int) ({ frames := 6, cells := 0, slots := 0, locals := 141 }) G (xW G x a ad tf st cn gv) [.ref x, .int p1, .int p2, .int p3] (fun r _ => r = -1) := by
  refine wr_entryI (by decide +kernel) (Nat.le_of_ble_eq_true rfl) ?_
  intro p e s m below meth c A C0 hP hK hD hA ls hl
  have hS : va_S A s.heap s.heap [] := va_S.rf
  obtain ⟨hx, hb, hml, hown, hts, hr, hlocks, hin⟩ := C0
  have hown : s.vm.findClass RX6 = some m.cls := hown
  have hl : lv_has ls 4 [(0, .ref x), (1, .int p1), (2, .int p2), (3, .int p3)] := hl
  refine lv_aload_n hx hb dX6_safe_0 rfl (lv_at hl 0 rfl) ?_
  refine lv_aload_n hx hb dX6_safe_1 rfl (lv_at hl 0 rfl) ?_
  refine lv_iload_n hx hb dX6_safe_2 rfl (lv_at hl 1 rfl) ?_
  refine lv_iload_n hx hb dX6_safe_3 rfl (lv_at hl 2 rfl) ?_
  refine lv_iload_n hx hb dX6_safe_4 rfl (lv_at hl 3 rfl) ?_
  refine rdV (rest := [.ref x]) (q0 := 0) ⟨hx, hb, hml, hown, hts⟩ (k_X6_soundCellStatus l G x a ad tf st cn gv p1 p2 p3 hcl) mi_yX6_soundCellStatus mv_yX6_soundCellStatus ml_X6_165 ⟨rfl, rfl, Nat.le_of_ble_eq_true rfl, Nat.le_of_ble_eq_true rfl⟩ hK (hP) rfl rfl rfl hl.1 rfl (Nat.le_of_ble_eq_true rfl) dX6_safe_5 ⟨Nat.zero_le _, Nat.zero_le _⟩ hS hA hP (fun r1 H locs hr1 hP hS => ?_)
  obtain rfl : r1 = 1 := hr1
  refine wrVI (rest := []) (q0 := 0) ⟨hx, hb, hml, hown, hts⟩ (c_X6_settled l G x a st cn gv 1) mi_yX6_settled mv_yX6_settled ml_X6_65 ⟨rfl, rfl, Nat.le_of_ble_eq_true rfl, Nat.le_of_ble_eq_true rfl⟩ hK hP hD [0] rfl (by decide) rfl rfl rfl hl.1 rfl (Nat.le_of_ble_eq_true rfl) dX6_safe_8 ⟨Nat.zero_le _, Nat.zero_le _⟩ hS hA (fun r2 w3 H locs hw3 hP hS => ?_)
  obtain ⟨hr2, rfl⟩ := hw3
  obtain rfl : r2 = 0 := hr2.trans (if_neg (by decide))
  have hP : PP G [(x, .inr (6, [.int 1, .ref (a 1), .ref (a 2), .ref (a 3), .ref (a 4), .ref (a 5), .ref (a 6), .int cn, .ref (a 8), .int gv])), ((a 1), .inl (G.2.2.2.1, 6, .inr (.inr (.inr (.inr (fun j => some (ad j 0))))))), ((ad 0 0), .inr (4, [.int (tf 0 0), .int (tf 0 1), .int (tf 0 2), .int (tf 0 3), .ref (ad 0 4), .ref (ad 0 5), .ref (ad 0 6), .ref (ad 0 7), .ref (ad 0 8), .ref (ad 0 9), .ref (ad 0 10), .ref (ad 0 11)])), ((ad 1 0), .inr (4, [.int (tf 1 0), .int (tf 1 1), .int (tf 1 2), .int (tf 1 3), .ref (ad 1 4), .ref (ad 1 5), .ref (ad 1 6), .ref (ad 1 7), .ref (ad 1 8), .ref (ad 1 9), .ref (ad 1 10), .ref (ad 1 11)])), ((ad 2 0), .inr (4, [.int (tf 2 0), .int (tf 2 1), .int (tf 2 2), .int (tf 2 3), .ref (ad 2 4), .ref (ad 2 5), .ref (ad 2 6), .ref (ad 2 7), .ref (ad 2 8), .ref (ad 2 9), .ref (ad 2 10), .ref (ad 2 11)])), ((ad 3 0), .inr (4, [.int (tf 3 0), .int (tf 3 1), .int (tf 3 2), .int (tf 3 3), .ref (ad 3 4), .ref (ad 3 5), .ref (ad 3 6), .ref (ad 3 7), .ref (ad 3 8), .ref (ad 3 9), .ref (ad 3 10), .ref (ad 3 11)])), ((ad 4 0), .inr (4, [.int (tf 4 0), .int (tf 4 1), .int (tf 4 2), .int (tf 4 3), .ref (ad 4 4), .ref (ad 4 5), .ref (ad 4 6), .ref (ad 4 7), .ref (ad 4 8), .ref (ad 4 9), .ref (ad 4 10), .ref (ad 4 11)])), ((ad 5 0), .inr (4, [.int (tf 5 0), .int (tf 5 1), .int (tf 5 2), .int (tf 5 3), .ref (ad 5 4), .ref (ad 5 5), .ref (ad 5 6), .ref (ad 5 7), .ref (ad 5 8), .ref (ad 5 9), .ref (ad 5 10), .ref (ad 5 11)]))] H := hP rfl
  have hD : va_D A [(x, .inr (6, [.int 1, .ref (a 1), .ref (a 2), .ref (a 3), .ref (a 4), .ref (a 5), .ref (a 6), .int cn, .ref (a 8), .int gv])), ((a 1), .inl (G.2.2.2.1, 6, .inr (.inr (.inr (.inr (fun j => some (ad j 0))))))), ((ad 0 0), .inr (4, [.int (tf 0 0), .int (tf 0 1), .int (tf 0 2), .int (tf 0 3), .ref (ad 0 4), .ref (ad 0 5), .ref (ad 0 6), .ref (ad 0 7), .ref (ad 0 8), .ref (ad 0 9), .ref (ad 0 10), .ref (ad 0 11)])), ((ad 1 0), .inr (4, [.int (tf 1 0), .int (tf 1 1), .int (tf 1 2), .int (tf 1 3), .ref (ad 1 4), .ref (ad 1 5), .ref (ad 1 6), .ref (ad 1 7), .ref (ad 1 8), .ref (ad 1 9), .ref (ad 1 10), .ref (ad 1 11)])), ((ad 2 0), .inr (4, [.int (tf 2 0), .int (tf 2 1), .int (tf 2 2), .int (tf 2 3), .ref (ad 2 4), .ref (ad 2 5), .ref (ad 2 6), .ref (ad 2 7), .ref (ad 2 8), .ref (ad 2 9), .ref (ad 2 10), .ref (ad 2 11)])), ((ad 3 0), .inr (4, [.int (tf 3 0), .int (tf 3 1), .int (tf 3 2), .int (tf 3 3), .ref (ad 3 4), .ref (ad 3 5), .ref (ad 3 6), .ref (ad 3 7), .ref (ad 3 8), .ref (ad 3 9), .ref (ad 3 10), .ref (ad 3 11)])), ((ad 4 0), .inr (4, [.int (tf 4 0), .int (tf 4 1), .int (tf 4 2), .int (tf 4 3), .ref (ad 4 4), .ref (ad 4 5), .ref (ad 4 6), .ref (ad 4 7), .ref (ad 4 8), .ref (ad 4 9), .ref (ad 4 10), .ref (ad 4 11)])), ((ad 5 0), .inr (4, [.int (tf 5 0), .int (tf 5 1), .int (tf 5 2), .int (tf 5 3), .ref (ad 5 4), .ref (ad 5 5), .ref (ad 5 6), .ref (ad 5 7), .ref (ad 5 8), .ref (ad 5 9), .ref (ad 5 10), .ref (ad 5 11)]))] := D_same hD rfl
  refine lv_if_ne (tgt := 16) hx hb dX6_safe_11 (by decide) (fun c4 => absurd (by decide) c4) (fun _ => ?_)
  refine lv_iconst (v := -1) hx hb dX6_safe_14 (by decide) ?_
  exact wr_iret hx hb hr hlocks hS hP rfl dX6_safe_15
set_option maxHeartbeats 4000000 in
set_option maxRecDepth 100000 in
theorem k_X6_unsafe (l : Launch) (G : GG) (x : Nat) (a : Nat → Nat) (ad : Nat → Nat → Nat) (tf : Nat → Nat → Int32) (st cn gv : Int32) (p1 : Int32) (hcl : ∀ j, j < 6 → tf j 0 = 0) : WrI l yX6_unsafe cX6_unsafe 2 (some .int) ({ frames := 1, cells := 0, slots := 0, locals := 21 }) G (xW G x a ad tf st cn gv) [.ref x, .int p1] (fun r _ => r = -1) := by
  refine wr_entryI (by decide +kernel) (Nat.le_of_ble_eq_true rfl) ?_
  intro p e s m below meth c A C0 hP hK hD hA ls hl
  have hS : va_S A s.heap s.heap [] := va_S.rf
  obtain ⟨hx, hb, hml, hown, hts, hr, hlocks, hin⟩ := C0
  have hown : s.vm.findClass RX6 = some m.cls := hown
  have hl : lv_has ls 2 [(0, .ref x), (1, .int p1)] := hl
  refine lv_aload_n hx hb dX6_unsafe_0 rfl (lv_at hl 0 rfl) ?_
  refine lv_aload_n hx hb dX6_unsafe_1 rfl (lv_at hl 0 rfl) ?_
  refine lv_iload_n hx hb dX6_unsafe_2 rfl (lv_at hl 1 rfl) ?_
  refine rdV (rest := [.ref x]) (q0 := 0) ⟨hx, hb, hml, hown, hts⟩ (c_X6_tableStatus l G x a ad tf st cn gv p1) mi_yX6_tableStatus mv_yX6_tableStatus ml_X6_73 ⟨rfl, rfl, Nat.le_of_ble_eq_true rfl, Nat.le_of_ble_eq_true rfl⟩ hK (hP) rfl rfl rfl hl.1 rfl (Nat.le_of_ble_eq_true rfl) dX6_unsafe_3 ⟨Nat.zero_le _, Nat.zero_le _⟩ hS hA hP (fun r1 H locs hr1 hP hS => ?_)
  obtain rfl : r1 = 1 := ts_one hr1 hcl
  refine wrVI (rest := []) (q0 := 0) ⟨hx, hb, hml, hown, hts⟩ (c_X6_settled l G x a st cn gv 1) mi_yX6_settled mv_yX6_settled ml_X6_65 ⟨rfl, rfl, Nat.le_of_ble_eq_true rfl, Nat.le_of_ble_eq_true rfl⟩ hK hP hD [0] rfl (by decide) rfl rfl rfl hl.1 rfl (Nat.le_of_ble_eq_true rfl) dX6_unsafe_6 ⟨Nat.zero_le _, Nat.zero_le _⟩ hS hA (fun r2 w3 H locs hw3 hP hS => ?_)
  obtain ⟨hr2, rfl⟩ := hw3
  obtain rfl : r2 = 0 := hr2.trans (if_neg (by decide))
  have hP : PP G [(x, .inr (6, [.int 1, .ref (a 1), .ref (a 2), .ref (a 3), .ref (a 4), .ref (a 5), .ref (a 6), .int cn, .ref (a 8), .int gv])), ((a 1), .inl (G.2.2.2.1, 6, .inr (.inr (.inr (.inr (fun j => some (ad j 0))))))), ((ad 0 0), .inr (4, [.int (tf 0 0), .int (tf 0 1), .int (tf 0 2), .int (tf 0 3), .ref (ad 0 4), .ref (ad 0 5), .ref (ad 0 6), .ref (ad 0 7), .ref (ad 0 8), .ref (ad 0 9), .ref (ad 0 10), .ref (ad 0 11)])), ((ad 1 0), .inr (4, [.int (tf 1 0), .int (tf 1 1), .int (tf 1 2), .int (tf 1 3), .ref (ad 1 4), .ref (ad 1 5), .ref (ad 1 6), .ref (ad 1 7), .ref (ad 1 8), .ref (ad 1 9), .ref (ad 1 10), .ref (ad 1 11)])), ((ad 2 0), .inr (4, [.int (tf 2 0), .int (tf 2 1), .int (tf 2 2), .int (tf 2 3), .ref (ad 2 4), .ref (ad 2 5), .ref (ad 2 6), .ref (ad 2 7), .ref (ad 2 8), .ref (ad 2 9), .ref (ad 2 10), .ref (ad 2 11)])), ((ad 3 0), .inr (4, [.int (tf 3 0), .int (tf 3 1), .int (tf 3 2), .int (tf 3 3), .ref (ad 3 4), .ref (ad 3 5), .ref (ad 3 6), .ref (ad 3 7), .ref (ad 3 8), .ref (ad 3 9), .ref (ad 3 10), .ref (ad 3 11)])), ((ad 4 0), .inr (4, [.int (tf 4 0), .int (tf 4 1), .int (tf 4 2), .int (tf 4 3), .ref (ad 4 4), .ref (ad 4 5), .ref (ad 4 6), .ref (ad 4 7), .ref (ad 4 8), .ref (ad 4 9), .ref (ad 4 10), .ref (ad 4 11)])), ((ad 5 0), .inr (4, [.int (tf 5 0), .int (tf 5 1), .int (tf 5 2), .int (tf 5 3), .ref (ad 5 4), .ref (ad 5 5), .ref (ad 5 6), .ref (ad 5 7), .ref (ad 5 8), .ref (ad 5 9), .ref (ad 5 10), .ref (ad 5 11)]))] H := hP rfl
  have hD : va_D A [(x, .inr (6, [.int 1, .ref (a 1), .ref (a 2), .ref (a 3), .ref (a 4), .ref (a 5), .ref (a 6), .int cn, .ref (a 8), .int gv])), ((a 1), .inl (G.2.2.2.1, 6, .inr (.inr (.inr (.inr (fun j => some (ad j 0))))))), ((ad 0 0), .inr (4, [.int (tf 0 0), .int (tf 0 1), .int (tf 0 2), .int (tf 0 3), .ref (ad 0 4), .ref (ad 0 5), .ref (ad 0 6), .ref (ad 0 7), .ref (ad 0 8), .ref (ad 0 9), .ref (ad 0 10), .ref (ad 0 11)])), ((ad 1 0), .inr (4, [.int (tf 1 0), .int (tf 1 1), .int (tf 1 2), .int (tf 1 3), .ref (ad 1 4), .ref (ad 1 5), .ref (ad 1 6), .ref (ad 1 7), .ref (ad 1 8), .ref (ad 1 9), .ref (ad 1 10), .ref (ad 1 11)])), ((ad 2 0), .inr (4, [.int (tf 2 0), .int (tf 2 1), .int (tf 2 2), .int (tf 2 3), .ref (ad 2 4), .ref (ad 2 5), .ref (ad 2 6), .ref (ad 2 7), .ref (ad 2 8), .ref (ad 2 9), .ref (ad 2 10), .ref (ad 2 11)])), ((ad 3 0), .inr (4, [.int (tf 3 0), .int (tf 3 1), .int (tf 3 2), .int (tf 3 3), .ref (ad 3 4), .ref (ad 3 5), .ref (ad 3 6), .ref (ad 3 7), .ref (ad 3 8), .ref (ad 3 9), .ref (ad 3 10), .ref (ad 3 11)])), ((ad 4 0), .inr (4, [.int (tf 4 0), .int (tf 4 1), .int (tf 4 2), .int (tf 4 3), .ref (ad 4 4), .ref (ad 4 5), .ref (ad 4 6), .ref (ad 4 7), .ref (ad 4 8), .ref (ad 4 9), .ref (ad 4 10), .ref (ad 4 11)])), ((ad 5 0), .inr (4, [.int (tf 5 0), .int (tf 5 1), .int (tf 5 2), .int (tf 5 3), .ref (ad 5 4), .ref (ad 5 5), .ref (ad 5 6), .ref (ad 5 7), .ref (ad 5 8), .ref (ad 5 9), .ref (ad 5 10), .ref (ad 5 11)]))] := D_same hD rfl
  refine lv_if_ne (tgt := 14) hx hb dX6_unsafe_9 (by decide) (fun c4 => absurd (by decide) c4) (fun _ => ?_)
  refine lv_iconst (v := -1) hx hb dX6_unsafe_12 (by decide) ?_
  exact wr_iret hx hb hr hlocks hS hP rfl dX6_unsafe_13
set_option maxHeartbeats 4000000 in
set_option maxRecDepth 100000 in
theorem k_X6_witness (l : Launch) (G : GG) (x : Nat) (a : Nat → Nat) (ad : Nat → Nat → Nat) (tf : Nat → Nat → Int32) (st cn gv : Int32) (p1 p2 p3 p4 : Int32) (hcl : ∀ j, j < 6 → tf j 0 = 0) : WrI l yX6_witness cX6_witness 5 (some .int) ({ frames := 6, cells := 0, slots := 0, locals := 141 }) G (xW G x a ad tf st cn gv) [.ref x, .int p1, .int p2, .int p3, .int p4] (fun r _ => r = -1) := by
  refine wr_entryI (by decide +kernel) (Nat.le_of_ble_eq_true rfl) ?_
  intro p e s m below meth c A C0 hP hK hD hA ls hl
  have hS : va_S A s.heap s.heap [] := va_S.rf
  obtain ⟨hx, hb, hml, hown, hts, hr, hlocks, hin⟩ := C0
  have hown : s.vm.findClass RX6 = some m.cls := hown
  have hl : lv_has ls 5 [(0, .ref x), (1, .int p1), (2, .int p2), (3, .int p3), (4, .int p4)] := hl
  refine lv_aload_n hx hb dX6_witness_0 rfl (lv_at hl 0 rfl) ?_
  refine lv_aload_n hx hb dX6_witness_1 rfl (lv_at hl 0 rfl) ?_
  refine lv_iload_n hx hb dX6_witness_2 rfl (lv_at hl 1 rfl) ?_
  refine lv_iload_n hx hb dX6_witness_3 rfl (lv_at hl 2 rfl) ?_
  refine lv_iload_n hx hb dX6_witness_4 rfl (lv_at hl 3 rfl) ?_
  refine rdV (rest := [.ref x]) (q0 := 0) ⟨hx, hb, hml, hown, hts⟩ (k_X6_soundCellStatus l G x a ad tf st cn gv p1 p2 p3 hcl) mi_yX6_soundCellStatus mv_yX6_soundCellStatus ml_X6_165 ⟨rfl, rfl, Nat.le_of_ble_eq_true rfl, Nat.le_of_ble_eq_true rfl⟩ hK (hP) rfl rfl rfl hl.1 rfl (Nat.le_of_ble_eq_true rfl) dX6_witness_5 ⟨Nat.zero_le _, Nat.zero_le _⟩ hS hA hP (fun r1 H locs hr1 hP hS => ?_)
  obtain rfl : r1 = 1 := hr1
  refine wrVI (rest := []) (q0 := 0) ⟨hx, hb, hml, hown, hts⟩ (c_X6_settled l G x a st cn gv 1) mi_yX6_settled mv_yX6_settled ml_X6_65 ⟨rfl, rfl, Nat.le_of_ble_eq_true rfl, Nat.le_of_ble_eq_true rfl⟩ hK hP hD [0] rfl (by decide) rfl rfl rfl hl.1 rfl (Nat.le_of_ble_eq_true rfl) dX6_witness_8 ⟨Nat.zero_le _, Nat.zero_le _⟩ hS hA (fun r2 w3 H locs hw3 hP hS => ?_)
  obtain ⟨hr2, rfl⟩ := hw3
  obtain rfl : r2 = 0 := hr2.trans (if_neg (by decide))
  have hP : PP G [(x, .inr (6, [.int 1, .ref (a 1), .ref (a 2), .ref (a 3), .ref (a 4), .ref (a 5), .ref (a 6), .int cn, .ref (a 8), .int gv])), ((a 1), .inl (G.2.2.2.1, 6, .inr (.inr (.inr (.inr (fun j => some (ad j 0))))))), ((ad 0 0), .inr (4, [.int (tf 0 0), .int (tf 0 1), .int (tf 0 2), .int (tf 0 3), .ref (ad 0 4), .ref (ad 0 5), .ref (ad 0 6), .ref (ad 0 7), .ref (ad 0 8), .ref (ad 0 9), .ref (ad 0 10), .ref (ad 0 11)])), ((ad 1 0), .inr (4, [.int (tf 1 0), .int (tf 1 1), .int (tf 1 2), .int (tf 1 3), .ref (ad 1 4), .ref (ad 1 5), .ref (ad 1 6), .ref (ad 1 7), .ref (ad 1 8), .ref (ad 1 9), .ref (ad 1 10), .ref (ad 1 11)])), ((ad 2 0), .inr (4, [.int (tf 2 0), .int (tf 2 1), .int (tf 2 2), .int (tf 2 3), .ref (ad 2 4), .ref (ad 2 5), .ref (ad 2 6), .ref (ad 2 7), .ref (ad 2 8), .ref (ad 2 9), .ref (ad 2 10), .ref (ad 2 11)])), ((ad 3 0), .inr (4, [.int (tf 3 0), .int (tf 3 1), .int (tf 3 2), .int (tf 3 3), .ref (ad 3 4), .ref (ad 3 5), .ref (ad 3 6), .ref (ad 3 7), .ref (ad 3 8), .ref (ad 3 9), .ref (ad 3 10), .ref (ad 3 11)])), ((ad 4 0), .inr (4, [.int (tf 4 0), .int (tf 4 1), .int (tf 4 2), .int (tf 4 3), .ref (ad 4 4), .ref (ad 4 5), .ref (ad 4 6), .ref (ad 4 7), .ref (ad 4 8), .ref (ad 4 9), .ref (ad 4 10), .ref (ad 4 11)])), ((ad 5 0), .inr (4, [.int (tf 5 0), .int (tf 5 1), .int (tf 5 2), .int (tf 5 3), .ref (ad 5 4), .ref (ad 5 5), .ref (ad 5 6), .ref (ad 5 7), .ref (ad 5 8), .ref (ad 5 9), .ref (ad 5 10), .ref (ad 5 11)]))] H := hP rfl
  have hD : va_D A [(x, .inr (6, [.int 1, .ref (a 1), .ref (a 2), .ref (a 3), .ref (a 4), .ref (a 5), .ref (a 6), .int cn, .ref (a 8), .int gv])), ((a 1), .inl (G.2.2.2.1, 6, .inr (.inr (.inr (.inr (fun j => some (ad j 0))))))), ((ad 0 0), .inr (4, [.int (tf 0 0), .int (tf 0 1), .int (tf 0 2), .int (tf 0 3), .ref (ad 0 4), .ref (ad 0 5), .ref (ad 0 6), .ref (ad 0 7), .ref (ad 0 8), .ref (ad 0 9), .ref (ad 0 10), .ref (ad 0 11)])), ((ad 1 0), .inr (4, [.int (tf 1 0), .int (tf 1 1), .int (tf 1 2), .int (tf 1 3), .ref (ad 1 4), .ref (ad 1 5), .ref (ad 1 6), .ref (ad 1 7), .ref (ad 1 8), .ref (ad 1 9), .ref (ad 1 10), .ref (ad 1 11)])), ((ad 2 0), .inr (4, [.int (tf 2 0), .int (tf 2 1), .int (tf 2 2), .int (tf 2 3), .ref (ad 2 4), .ref (ad 2 5), .ref (ad 2 6), .ref (ad 2 7), .ref (ad 2 8), .ref (ad 2 9), .ref (ad 2 10), .ref (ad 2 11)])), ((ad 3 0), .inr (4, [.int (tf 3 0), .int (tf 3 1), .int (tf 3 2), .int (tf 3 3), .ref (ad 3 4), .ref (ad 3 5), .ref (ad 3 6), .ref (ad 3 7), .ref (ad 3 8), .ref (ad 3 9), .ref (ad 3 10), .ref (ad 3 11)])), ((ad 4 0), .inr (4, [.int (tf 4 0), .int (tf 4 1), .int (tf 4 2), .int (tf 4 3), .ref (ad 4 4), .ref (ad 4 5), .ref (ad 4 6), .ref (ad 4 7), .ref (ad 4 8), .ref (ad 4 9), .ref (ad 4 10), .ref (ad 4 11)])), ((ad 5 0), .inr (4, [.int (tf 5 0), .int (tf 5 1), .int (tf 5 2), .int (tf 5 3), .ref (ad 5 4), .ref (ad 5 5), .ref (ad 5 6), .ref (ad 5 7), .ref (ad 5 8), .ref (ad 5 9), .ref (ad 5 10), .ref (ad 5 11)]))] := D_same hD rfl
  refine lv_if_ne (tgt := 16) hx hb dX6_witness_11 (by decide) (fun c4 => absurd (by decide) c4) (fun _ => ?_)
  refine lv_iconst (v := -1) hx hb dX6_witness_14 (by decide) ?_
  exact wr_iret hx hb hr hlocks hS hP rfl dX6_witness_15
set_option maxHeartbeats 4000000 in
set_option maxRecDepth 100000 in
theorem k_X6_plan (l : Launch) (G : GG) (x : Nat) (a : Nat → Nat) (ad : Nat → Nat → Nat) (tf : Nat → Nat → Int32) (st cn gv : Int32) (p1 : Int32) (hcl : ∀ j, j < 6 → tf j 0 = 0) : WrI l yX6_plan cX6_plan 3 (some .int) ({ frames := 1, cells := 0, slots := 0, locals := 21 }) G (xW G x a ad tf st cn gv) [.ref x, .int p1] (fun r _ => r = -1) := by
  refine wr_entryI (by decide +kernel) (Nat.le_of_ble_eq_true rfl) ?_
  intro p e s m below meth c A C0 hP hK hD hA ls hl
  have hS : va_S A s.heap s.heap [] := va_S.rf
  obtain ⟨hx, hb, hml, hown, hts, hr, hlocks, hin⟩ := C0
  have hown : s.vm.findClass RX6 = some m.cls := hown
  have hl : lv_has ls 3 [(0, .ref x), (1, .int p1)] := hl
  refine lv_aload_n hx hb dX6_plan_0 rfl (lv_at hl 0 rfl) ?_
  refine lv_aload_n hx hb dX6_plan_1 rfl (lv_at hl 0 rfl) ?_
  refine lv_iload_n hx hb dX6_plan_2 rfl (lv_at hl 1 rfl) ?_
  refine rdV (rest := [.ref x]) (q0 := 0) ⟨hx, hb, hml, hown, hts⟩ (c_X6_tableStatus l G x a ad tf st cn gv p1) mi_yX6_tableStatus mv_yX6_tableStatus ml_X6_73 ⟨rfl, rfl, Nat.le_of_ble_eq_true rfl, Nat.le_of_ble_eq_true rfl⟩ hK (hP) rfl rfl rfl hl.1 rfl (Nat.le_of_ble_eq_true rfl) dX6_plan_3 ⟨Nat.zero_le _, Nat.zero_le _⟩ hS hA hP (fun r1 H locs hr1 hP hS => ?_)
  obtain rfl : r1 = 1 := ts_one hr1 hcl
  refine wrVI (rest := []) (q0 := 0) ⟨hx, hb, hml, hown, hts⟩ (c_X6_settled l G x a st cn gv 1) mi_yX6_settled mv_yX6_settled ml_X6_65 ⟨rfl, rfl, Nat.le_of_ble_eq_true rfl, Nat.le_of_ble_eq_true rfl⟩ hK hP hD [0] rfl (by decide) rfl rfl rfl hl.1 rfl (Nat.le_of_ble_eq_true rfl) dX6_plan_6 ⟨Nat.zero_le _, Nat.zero_le _⟩ hS hA (fun r2 w3 H locs hw3 hP hS => ?_)
  obtain ⟨hr2, rfl⟩ := hw3
  obtain rfl : r2 = 0 := hr2.trans (if_neg (by decide))
  have hP : PP G [(x, .inr (6, [.int 1, .ref (a 1), .ref (a 2), .ref (a 3), .ref (a 4), .ref (a 5), .ref (a 6), .int cn, .ref (a 8), .int gv])), ((a 1), .inl (G.2.2.2.1, 6, .inr (.inr (.inr (.inr (fun j => some (ad j 0))))))), ((ad 0 0), .inr (4, [.int (tf 0 0), .int (tf 0 1), .int (tf 0 2), .int (tf 0 3), .ref (ad 0 4), .ref (ad 0 5), .ref (ad 0 6), .ref (ad 0 7), .ref (ad 0 8), .ref (ad 0 9), .ref (ad 0 10), .ref (ad 0 11)])), ((ad 1 0), .inr (4, [.int (tf 1 0), .int (tf 1 1), .int (tf 1 2), .int (tf 1 3), .ref (ad 1 4), .ref (ad 1 5), .ref (ad 1 6), .ref (ad 1 7), .ref (ad 1 8), .ref (ad 1 9), .ref (ad 1 10), .ref (ad 1 11)])), ((ad 2 0), .inr (4, [.int (tf 2 0), .int (tf 2 1), .int (tf 2 2), .int (tf 2 3), .ref (ad 2 4), .ref (ad 2 5), .ref (ad 2 6), .ref (ad 2 7), .ref (ad 2 8), .ref (ad 2 9), .ref (ad 2 10), .ref (ad 2 11)])), ((ad 3 0), .inr (4, [.int (tf 3 0), .int (tf 3 1), .int (tf 3 2), .int (tf 3 3), .ref (ad 3 4), .ref (ad 3 5), .ref (ad 3 6), .ref (ad 3 7), .ref (ad 3 8), .ref (ad 3 9), .ref (ad 3 10), .ref (ad 3 11)])), ((ad 4 0), .inr (4, [.int (tf 4 0), .int (tf 4 1), .int (tf 4 2), .int (tf 4 3), .ref (ad 4 4), .ref (ad 4 5), .ref (ad 4 6), .ref (ad 4 7), .ref (ad 4 8), .ref (ad 4 9), .ref (ad 4 10), .ref (ad 4 11)])), ((ad 5 0), .inr (4, [.int (tf 5 0), .int (tf 5 1), .int (tf 5 2), .int (tf 5 3), .ref (ad 5 4), .ref (ad 5 5), .ref (ad 5 6), .ref (ad 5 7), .ref (ad 5 8), .ref (ad 5 9), .ref (ad 5 10), .ref (ad 5 11)]))] H := hP rfl
  have hD : va_D A [(x, .inr (6, [.int 1, .ref (a 1), .ref (a 2), .ref (a 3), .ref (a 4), .ref (a 5), .ref (a 6), .int cn, .ref (a 8), .int gv])), ((a 1), .inl (G.2.2.2.1, 6, .inr (.inr (.inr (.inr (fun j => some (ad j 0))))))), ((ad 0 0), .inr (4, [.int (tf 0 0), .int (tf 0 1), .int (tf 0 2), .int (tf 0 3), .ref (ad 0 4), .ref (ad 0 5), .ref (ad 0 6), .ref (ad 0 7), .ref (ad 0 8), .ref (ad 0 9), .ref (ad 0 10), .ref (ad 0 11)])), ((ad 1 0), .inr (4, [.int (tf 1 0), .int (tf 1 1), .int (tf 1 2), .int (tf 1 3), .ref (ad 1 4), .ref (ad 1 5), .ref (ad 1 6), .ref (ad 1 7), .ref (ad 1 8), .ref (ad 1 9), .ref (ad 1 10), .ref (ad 1 11)])), ((ad 2 0), .inr (4, [.int (tf 2 0), .int (tf 2 1), .int (tf 2 2), .int (tf 2 3), .ref (ad 2 4), .ref (ad 2 5), .ref (ad 2 6), .ref (ad 2 7), .ref (ad 2 8), .ref (ad 2 9), .ref (ad 2 10), .ref (ad 2 11)])), ((ad 3 0), .inr (4, [.int (tf 3 0), .int (tf 3 1), .int (tf 3 2), .int (tf 3 3), .ref (ad 3 4), .ref (ad 3 5), .ref (ad 3 6), .ref (ad 3 7), .ref (ad 3 8), .ref (ad 3 9), .ref (ad 3 10), .ref (ad 3 11)])), ((ad 4 0), .inr (4, [.int (tf 4 0), .int (tf 4 1), .int (tf 4 2), .int (tf 4 3), .ref (ad 4 4), .ref (ad 4 5), .ref (ad 4 6), .ref (ad 4 7), .ref (ad 4 8), .ref (ad 4 9), .ref (ad 4 10), .ref (ad 4 11)])), ((ad 5 0), .inr (4, [.int (tf 5 0), .int (tf 5 1), .int (tf 5 2), .int (tf 5 3), .ref (ad 5 4), .ref (ad 5 5), .ref (ad 5 6), .ref (ad 5 7), .ref (ad 5 8), .ref (ad 5 9), .ref (ad 5 10), .ref (ad 5 11)]))] := D_same hD rfl
  refine lv_if_ne (tgt := 14) hx hb dX6_plan_9 (by decide) (fun c4 => absurd (by decide) c4) (fun _ => ?_)
  refine lv_iconst (v := -1) hx hb dX6_plan_12 (by decide) ?_
  exact wr_iret hx hb hr hlocks hS hP rfl dX6_plan_13
set_option maxHeartbeats 4000000 in
set_option maxRecDepth 100000 in
theorem k_X6_fewest (l : Launch) (G : GG) (x : Nat) (a : Nat → Nat) (ad : Nat → Nat → Nat) (tf : Nat → Nat → Int32) (st cn gv : Int32) (p1 : Int32) (hcl : ∀ j, j < 6 → tf j 0 = 0) : WrI l yX6_fewest cX6_fewest 3 (some .int) ({ frames := 1, cells := 0, slots := 0, locals := 21 }) G (xW G x a ad tf st cn gv) [.ref x, .int p1] (fun r _ => r = -1) := by
  refine wr_entryI (by decide +kernel) (Nat.le_of_ble_eq_true rfl) ?_
  intro p e s m below meth c A C0 hP hK hD hA ls hl
  have hS : va_S A s.heap s.heap [] := va_S.rf
  obtain ⟨hx, hb, hml, hown, hts, hr, hlocks, hin⟩ := C0
  have hown : s.vm.findClass RX6 = some m.cls := hown
  have hl : lv_has ls 3 [(0, .ref x), (1, .int p1)] := hl
  refine lv_aload_n hx hb dX6_fewest_0 rfl (lv_at hl 0 rfl) ?_
  refine lv_aload_n hx hb dX6_fewest_1 rfl (lv_at hl 0 rfl) ?_
  refine lv_iload_n hx hb dX6_fewest_2 rfl (lv_at hl 1 rfl) ?_
  refine rdV (rest := [.ref x]) (q0 := 0) ⟨hx, hb, hml, hown, hts⟩ (c_X6_tableStatus l G x a ad tf st cn gv p1) mi_yX6_tableStatus mv_yX6_tableStatus ml_X6_73 ⟨rfl, rfl, Nat.le_of_ble_eq_true rfl, Nat.le_of_ble_eq_true rfl⟩ hK (hP) rfl rfl rfl hl.1 rfl (Nat.le_of_ble_eq_true rfl) dX6_fewest_3 ⟨Nat.zero_le _, Nat.zero_le _⟩ hS hA hP (fun r1 H locs hr1 hP hS => ?_)
  obtain rfl : r1 = 1 := ts_one hr1 hcl
  refine wrVI (rest := []) (q0 := 0) ⟨hx, hb, hml, hown, hts⟩ (c_X6_settled l G x a st cn gv 1) mi_yX6_settled mv_yX6_settled ml_X6_65 ⟨rfl, rfl, Nat.le_of_ble_eq_true rfl, Nat.le_of_ble_eq_true rfl⟩ hK hP hD [0] rfl (by decide) rfl rfl rfl hl.1 rfl (Nat.le_of_ble_eq_true rfl) dX6_fewest_6 ⟨Nat.zero_le _, Nat.zero_le _⟩ hS hA (fun r2 w3 H locs hw3 hP hS => ?_)
  obtain ⟨hr2, rfl⟩ := hw3
  obtain rfl : r2 = 0 := hr2.trans (if_neg (by decide))
  have hP : PP G [(x, .inr (6, [.int 1, .ref (a 1), .ref (a 2), .ref (a 3), .ref (a 4), .ref (a 5), .ref (a 6), .int cn, .ref (a 8), .int gv])), ((a 1), .inl (G.2.2.2.1, 6, .inr (.inr (.inr (.inr (fun j => some (ad j 0))))))), ((ad 0 0), .inr (4, [.int (tf 0 0), .int (tf 0 1), .int (tf 0 2), .int (tf 0 3), .ref (ad 0 4), .ref (ad 0 5), .ref (ad 0 6), .ref (ad 0 7), .ref (ad 0 8), .ref (ad 0 9), .ref (ad 0 10), .ref (ad 0 11)])), ((ad 1 0), .inr (4, [.int (tf 1 0), .int (tf 1 1), .int (tf 1 2), .int (tf 1 3), .ref (ad 1 4), .ref (ad 1 5), .ref (ad 1 6), .ref (ad 1 7), .ref (ad 1 8), .ref (ad 1 9), .ref (ad 1 10), .ref (ad 1 11)])), ((ad 2 0), .inr (4, [.int (tf 2 0), .int (tf 2 1), .int (tf 2 2), .int (tf 2 3), .ref (ad 2 4), .ref (ad 2 5), .ref (ad 2 6), .ref (ad 2 7), .ref (ad 2 8), .ref (ad 2 9), .ref (ad 2 10), .ref (ad 2 11)])), ((ad 3 0), .inr (4, [.int (tf 3 0), .int (tf 3 1), .int (tf 3 2), .int (tf 3 3), .ref (ad 3 4), .ref (ad 3 5), .ref (ad 3 6), .ref (ad 3 7), .ref (ad 3 8), .ref (ad 3 9), .ref (ad 3 10), .ref (ad 3 11)])), ((ad 4 0), .inr (4, [.int (tf 4 0), .int (tf 4 1), .int (tf 4 2), .int (tf 4 3), .ref (ad 4 4), .ref (ad 4 5), .ref (ad 4 6), .ref (ad 4 7), .ref (ad 4 8), .ref (ad 4 9), .ref (ad 4 10), .ref (ad 4 11)])), ((ad 5 0), .inr (4, [.int (tf 5 0), .int (tf 5 1), .int (tf 5 2), .int (tf 5 3), .ref (ad 5 4), .ref (ad 5 5), .ref (ad 5 6), .ref (ad 5 7), .ref (ad 5 8), .ref (ad 5 9), .ref (ad 5 10), .ref (ad 5 11)]))] H := hP rfl
  have hD : va_D A [(x, .inr (6, [.int 1, .ref (a 1), .ref (a 2), .ref (a 3), .ref (a 4), .ref (a 5), .ref (a 6), .int cn, .ref (a 8), .int gv])), ((a 1), .inl (G.2.2.2.1, 6, .inr (.inr (.inr (.inr (fun j => some (ad j 0))))))), ((ad 0 0), .inr (4, [.int (tf 0 0), .int (tf 0 1), .int (tf 0 2), .int (tf 0 3), .ref (ad 0 4), .ref (ad 0 5), .ref (ad 0 6), .ref (ad 0 7), .ref (ad 0 8), .ref (ad 0 9), .ref (ad 0 10), .ref (ad 0 11)])), ((ad 1 0), .inr (4, [.int (tf 1 0), .int (tf 1 1), .int (tf 1 2), .int (tf 1 3), .ref (ad 1 4), .ref (ad 1 5), .ref (ad 1 6), .ref (ad 1 7), .ref (ad 1 8), .ref (ad 1 9), .ref (ad 1 10), .ref (ad 1 11)])), ((ad 2 0), .inr (4, [.int (tf 2 0), .int (tf 2 1), .int (tf 2 2), .int (tf 2 3), .ref (ad 2 4), .ref (ad 2 5), .ref (ad 2 6), .ref (ad 2 7), .ref (ad 2 8), .ref (ad 2 9), .ref (ad 2 10), .ref (ad 2 11)])), ((ad 3 0), .inr (4, [.int (tf 3 0), .int (tf 3 1), .int (tf 3 2), .int (tf 3 3), .ref (ad 3 4), .ref (ad 3 5), .ref (ad 3 6), .ref (ad 3 7), .ref (ad 3 8), .ref (ad 3 9), .ref (ad 3 10), .ref (ad 3 11)])), ((ad 4 0), .inr (4, [.int (tf 4 0), .int (tf 4 1), .int (tf 4 2), .int (tf 4 3), .ref (ad 4 4), .ref (ad 4 5), .ref (ad 4 6), .ref (ad 4 7), .ref (ad 4 8), .ref (ad 4 9), .ref (ad 4 10), .ref (ad 4 11)])), ((ad 5 0), .inr (4, [.int (tf 5 0), .int (tf 5 1), .int (tf 5 2), .int (tf 5 3), .ref (ad 5 4), .ref (ad 5 5), .ref (ad 5 6), .ref (ad 5 7), .ref (ad 5 8), .ref (ad 5 9), .ref (ad 5 10), .ref (ad 5 11)]))] := D_same hD rfl
  refine lv_if_ne (tgt := 14) hx hb dX6_fewest_9 (by decide) (fun c4 => absurd (by decide) c4) (fun _ => ?_)
  refine lv_iconst (v := -1) hx hb dX6_fewest_12 (by decide) ?_
  exact wr_iret hx hb hr hlocks hS hP rfl dX6_fewest_13
set_option maxHeartbeats 4000000 in
set_option maxRecDepth 100000 in
theorem k_X6_cost (l : Launch) (G : GG) (x : Nat) (a : Nat → Nat) (ad : Nat → Nat → Nat) (tf : Nat → Nat → Int32) (st cn gv : Int32) (p1 : Int32) (hcl : ∀ j, j < 6 → tf j 0 = 0) : WrI l yX6_cost cX6_cost 2 (some .int) ({ frames := 1, cells := 0, slots := 0, locals := 21 }) G (xW G x a ad tf st cn gv) [.ref x, .int p1] (fun r _ => r = -1) := by
  refine wr_entryI (by decide +kernel) (Nat.le_of_ble_eq_true rfl) ?_
  intro p e s m below meth c A C0 hP hK hD hA ls hl
  have hS : va_S A s.heap s.heap [] := va_S.rf
  obtain ⟨hx, hb, hml, hown, hts, hr, hlocks, hin⟩ := C0
  have hown : s.vm.findClass RX6 = some m.cls := hown
  have hl : lv_has ls 2 [(0, .ref x), (1, .int p1)] := hl
  refine lv_aload_n hx hb dX6_cost_0 rfl (lv_at hl 0 rfl) ?_
  refine lv_aload_n hx hb dX6_cost_1 rfl (lv_at hl 0 rfl) ?_
  refine lv_iload_n hx hb dX6_cost_2 rfl (lv_at hl 1 rfl) ?_
  refine rdV (rest := [.ref x]) (q0 := 0) ⟨hx, hb, hml, hown, hts⟩ (c_X6_tableStatus l G x a ad tf st cn gv p1) mi_yX6_tableStatus mv_yX6_tableStatus ml_X6_73 ⟨rfl, rfl, Nat.le_of_ble_eq_true rfl, Nat.le_of_ble_eq_true rfl⟩ hK (hP) rfl rfl rfl hl.1 rfl (Nat.le_of_ble_eq_true rfl) dX6_cost_3 ⟨Nat.zero_le _, Nat.zero_le _⟩ hS hA hP (fun r1 H locs hr1 hP hS => ?_)
  obtain rfl : r1 = 1 := ts_one hr1 hcl
  refine wrVI (rest := []) (q0 := 0) ⟨hx, hb, hml, hown, hts⟩ (c_X6_settled l G x a st cn gv 1) mi_yX6_settled mv_yX6_settled ml_X6_65 ⟨rfl, rfl, Nat.le_of_ble_eq_true rfl, Nat.le_of_ble_eq_true rfl⟩ hK hP hD [0] rfl (by decide) rfl rfl rfl hl.1 rfl (Nat.le_of_ble_eq_true rfl) dX6_cost_6 ⟨Nat.zero_le _, Nat.zero_le _⟩ hS hA (fun r2 w3 H locs hw3 hP hS => ?_)
  obtain ⟨hr2, rfl⟩ := hw3
  obtain rfl : r2 = 0 := hr2.trans (if_neg (by decide))
  have hP : PP G [(x, .inr (6, [.int 1, .ref (a 1), .ref (a 2), .ref (a 3), .ref (a 4), .ref (a 5), .ref (a 6), .int cn, .ref (a 8), .int gv])), ((a 1), .inl (G.2.2.2.1, 6, .inr (.inr (.inr (.inr (fun j => some (ad j 0))))))), ((ad 0 0), .inr (4, [.int (tf 0 0), .int (tf 0 1), .int (tf 0 2), .int (tf 0 3), .ref (ad 0 4), .ref (ad 0 5), .ref (ad 0 6), .ref (ad 0 7), .ref (ad 0 8), .ref (ad 0 9), .ref (ad 0 10), .ref (ad 0 11)])), ((ad 1 0), .inr (4, [.int (tf 1 0), .int (tf 1 1), .int (tf 1 2), .int (tf 1 3), .ref (ad 1 4), .ref (ad 1 5), .ref (ad 1 6), .ref (ad 1 7), .ref (ad 1 8), .ref (ad 1 9), .ref (ad 1 10), .ref (ad 1 11)])), ((ad 2 0), .inr (4, [.int (tf 2 0), .int (tf 2 1), .int (tf 2 2), .int (tf 2 3), .ref (ad 2 4), .ref (ad 2 5), .ref (ad 2 6), .ref (ad 2 7), .ref (ad 2 8), .ref (ad 2 9), .ref (ad 2 10), .ref (ad 2 11)])), ((ad 3 0), .inr (4, [.int (tf 3 0), .int (tf 3 1), .int (tf 3 2), .int (tf 3 3), .ref (ad 3 4), .ref (ad 3 5), .ref (ad 3 6), .ref (ad 3 7), .ref (ad 3 8), .ref (ad 3 9), .ref (ad 3 10), .ref (ad 3 11)])), ((ad 4 0), .inr (4, [.int (tf 4 0), .int (tf 4 1), .int (tf 4 2), .int (tf 4 3), .ref (ad 4 4), .ref (ad 4 5), .ref (ad 4 6), .ref (ad 4 7), .ref (ad 4 8), .ref (ad 4 9), .ref (ad 4 10), .ref (ad 4 11)])), ((ad 5 0), .inr (4, [.int (tf 5 0), .int (tf 5 1), .int (tf 5 2), .int (tf 5 3), .ref (ad 5 4), .ref (ad 5 5), .ref (ad 5 6), .ref (ad 5 7), .ref (ad 5 8), .ref (ad 5 9), .ref (ad 5 10), .ref (ad 5 11)]))] H := hP rfl
  have hD : va_D A [(x, .inr (6, [.int 1, .ref (a 1), .ref (a 2), .ref (a 3), .ref (a 4), .ref (a 5), .ref (a 6), .int cn, .ref (a 8), .int gv])), ((a 1), .inl (G.2.2.2.1, 6, .inr (.inr (.inr (.inr (fun j => some (ad j 0))))))), ((ad 0 0), .inr (4, [.int (tf 0 0), .int (tf 0 1), .int (tf 0 2), .int (tf 0 3), .ref (ad 0 4), .ref (ad 0 5), .ref (ad 0 6), .ref (ad 0 7), .ref (ad 0 8), .ref (ad 0 9), .ref (ad 0 10), .ref (ad 0 11)])), ((ad 1 0), .inr (4, [.int (tf 1 0), .int (tf 1 1), .int (tf 1 2), .int (tf 1 3), .ref (ad 1 4), .ref (ad 1 5), .ref (ad 1 6), .ref (ad 1 7), .ref (ad 1 8), .ref (ad 1 9), .ref (ad 1 10), .ref (ad 1 11)])), ((ad 2 0), .inr (4, [.int (tf 2 0), .int (tf 2 1), .int (tf 2 2), .int (tf 2 3), .ref (ad 2 4), .ref (ad 2 5), .ref (ad 2 6), .ref (ad 2 7), .ref (ad 2 8), .ref (ad 2 9), .ref (ad 2 10), .ref (ad 2 11)])), ((ad 3 0), .inr (4, [.int (tf 3 0), .int (tf 3 1), .int (tf 3 2), .int (tf 3 3), .ref (ad 3 4), .ref (ad 3 5), .ref (ad 3 6), .ref (ad 3 7), .ref (ad 3 8), .ref (ad 3 9), .ref (ad 3 10), .ref (ad 3 11)])), ((ad 4 0), .inr (4, [.int (tf 4 0), .int (tf 4 1), .int (tf 4 2), .int (tf 4 3), .ref (ad 4 4), .ref (ad 4 5), .ref (ad 4 6), .ref (ad 4 7), .ref (ad 4 8), .ref (ad 4 9), .ref (ad 4 10), .ref (ad 4 11)])), ((ad 5 0), .inr (4, [.int (tf 5 0), .int (tf 5 1), .int (tf 5 2), .int (tf 5 3), .ref (ad 5 4), .ref (ad 5 5), .ref (ad 5 6), .ref (ad 5 7), .ref (ad 5 8), .ref (ad 5 9), .ref (ad 5 10), .ref (ad 5 11)]))] := D_same hD rfl
  refine lv_if_ne (tgt := 14) hx hb dX6_cost_9 (by decide) (fun c4 => absurd (by decide) c4) (fun _ => ?_)
  refine lv_iconst (v := -1) hx hb dX6_cost_12 (by decide) ?_
  exact wr_iret hx hb hr hlocks hS hP rfl dX6_cost_13
set_option maxHeartbeats 4000000 in
set_option maxRecDepth 100000 in
theorem k_X6_round (l : Launch) (G : GG) (x : Nat) (a : Nat → Nat) (ad : Nat → Nat → Nat) (tf : Nat → Nat → Int32) (st cn gv : Int32) (p1 p2 : Int32) (hcl : ∀ j, j < 6 → tf j 0 = 0) : WrI l yX6_round cX6_round 3 (some .int) ({ frames := 1, cells := 0, slots := 0, locals := 21 }) G (xW G x a ad tf st cn gv) [.ref x, .int p1, .int p2] (fun r _ => r = -1) := by
  refine wr_entryI (by decide +kernel) (Nat.le_of_ble_eq_true rfl) ?_
  intro p e s m below meth c A C0 hP hK hD hA ls hl
  have hS : va_S A s.heap s.heap [] := va_S.rf
  obtain ⟨hx, hb, hml, hown, hts, hr, hlocks, hin⟩ := C0
  have hown : s.vm.findClass RX6 = some m.cls := hown
  have hl : lv_has ls 3 [(0, .ref x), (1, .int p1), (2, .int p2)] := hl
  refine lv_aload_n hx hb dX6_round_0 rfl (lv_at hl 0 rfl) ?_
  refine lv_aload_n hx hb dX6_round_1 rfl (lv_at hl 0 rfl) ?_
  refine lv_iload_n hx hb dX6_round_2 rfl (lv_at hl 1 rfl) ?_
  refine rdV (rest := [.ref x]) (q0 := 0) ⟨hx, hb, hml, hown, hts⟩ (c_X6_tableStatus l G x a ad tf st cn gv p1) mi_yX6_tableStatus mv_yX6_tableStatus ml_X6_73 ⟨rfl, rfl, Nat.le_of_ble_eq_true rfl, Nat.le_of_ble_eq_true rfl⟩ hK (hP) rfl rfl rfl hl.1 rfl (Nat.le_of_ble_eq_true rfl) dX6_round_3 ⟨Nat.zero_le _, Nat.zero_le _⟩ hS hA hP (fun r1 H locs hr1 hP hS => ?_)
  obtain rfl : r1 = 1 := ts_one hr1 hcl
  refine wrVI (rest := []) (q0 := 0) ⟨hx, hb, hml, hown, hts⟩ (c_X6_settled l G x a st cn gv 1) mi_yX6_settled mv_yX6_settled ml_X6_65 ⟨rfl, rfl, Nat.le_of_ble_eq_true rfl, Nat.le_of_ble_eq_true rfl⟩ hK hP hD [0] rfl (by decide) rfl rfl rfl hl.1 rfl (Nat.le_of_ble_eq_true rfl) dX6_round_6 ⟨Nat.zero_le _, Nat.zero_le _⟩ hS hA (fun r2 w3 H locs hw3 hP hS => ?_)
  obtain ⟨hr2, rfl⟩ := hw3
  obtain rfl : r2 = 0 := hr2.trans (if_neg (by decide))
  have hP : PP G [(x, .inr (6, [.int 1, .ref (a 1), .ref (a 2), .ref (a 3), .ref (a 4), .ref (a 5), .ref (a 6), .int cn, .ref (a 8), .int gv])), ((a 1), .inl (G.2.2.2.1, 6, .inr (.inr (.inr (.inr (fun j => some (ad j 0))))))), ((ad 0 0), .inr (4, [.int (tf 0 0), .int (tf 0 1), .int (tf 0 2), .int (tf 0 3), .ref (ad 0 4), .ref (ad 0 5), .ref (ad 0 6), .ref (ad 0 7), .ref (ad 0 8), .ref (ad 0 9), .ref (ad 0 10), .ref (ad 0 11)])), ((ad 1 0), .inr (4, [.int (tf 1 0), .int (tf 1 1), .int (tf 1 2), .int (tf 1 3), .ref (ad 1 4), .ref (ad 1 5), .ref (ad 1 6), .ref (ad 1 7), .ref (ad 1 8), .ref (ad 1 9), .ref (ad 1 10), .ref (ad 1 11)])), ((ad 2 0), .inr (4, [.int (tf 2 0), .int (tf 2 1), .int (tf 2 2), .int (tf 2 3), .ref (ad 2 4), .ref (ad 2 5), .ref (ad 2 6), .ref (ad 2 7), .ref (ad 2 8), .ref (ad 2 9), .ref (ad 2 10), .ref (ad 2 11)])), ((ad 3 0), .inr (4, [.int (tf 3 0), .int (tf 3 1), .int (tf 3 2), .int (tf 3 3), .ref (ad 3 4), .ref (ad 3 5), .ref (ad 3 6), .ref (ad 3 7), .ref (ad 3 8), .ref (ad 3 9), .ref (ad 3 10), .ref (ad 3 11)])), ((ad 4 0), .inr (4, [.int (tf 4 0), .int (tf 4 1), .int (tf 4 2), .int (tf 4 3), .ref (ad 4 4), .ref (ad 4 5), .ref (ad 4 6), .ref (ad 4 7), .ref (ad 4 8), .ref (ad 4 9), .ref (ad 4 10), .ref (ad 4 11)])), ((ad 5 0), .inr (4, [.int (tf 5 0), .int (tf 5 1), .int (tf 5 2), .int (tf 5 3), .ref (ad 5 4), .ref (ad 5 5), .ref (ad 5 6), .ref (ad 5 7), .ref (ad 5 8), .ref (ad 5 9), .ref (ad 5 10), .ref (ad 5 11)]))] H := hP rfl
  have hD : va_D A [(x, .inr (6, [.int 1, .ref (a 1), .ref (a 2), .ref (a 3), .ref (a 4), .ref (a 5), .ref (a 6), .int cn, .ref (a 8), .int gv])), ((a 1), .inl (G.2.2.2.1, 6, .inr (.inr (.inr (.inr (fun j => some (ad j 0))))))), ((ad 0 0), .inr (4, [.int (tf 0 0), .int (tf 0 1), .int (tf 0 2), .int (tf 0 3), .ref (ad 0 4), .ref (ad 0 5), .ref (ad 0 6), .ref (ad 0 7), .ref (ad 0 8), .ref (ad 0 9), .ref (ad 0 10), .ref (ad 0 11)])), ((ad 1 0), .inr (4, [.int (tf 1 0), .int (tf 1 1), .int (tf 1 2), .int (tf 1 3), .ref (ad 1 4), .ref (ad 1 5), .ref (ad 1 6), .ref (ad 1 7), .ref (ad 1 8), .ref (ad 1 9), .ref (ad 1 10), .ref (ad 1 11)])), ((ad 2 0), .inr (4, [.int (tf 2 0), .int (tf 2 1), .int (tf 2 2), .int (tf 2 3), .ref (ad 2 4), .ref (ad 2 5), .ref (ad 2 6), .ref (ad 2 7), .ref (ad 2 8), .ref (ad 2 9), .ref (ad 2 10), .ref (ad 2 11)])), ((ad 3 0), .inr (4, [.int (tf 3 0), .int (tf 3 1), .int (tf 3 2), .int (tf 3 3), .ref (ad 3 4), .ref (ad 3 5), .ref (ad 3 6), .ref (ad 3 7), .ref (ad 3 8), .ref (ad 3 9), .ref (ad 3 10), .ref (ad 3 11)])), ((ad 4 0), .inr (4, [.int (tf 4 0), .int (tf 4 1), .int (tf 4 2), .int (tf 4 3), .ref (ad 4 4), .ref (ad 4 5), .ref (ad 4 6), .ref (ad 4 7), .ref (ad 4 8), .ref (ad 4 9), .ref (ad 4 10), .ref (ad 4 11)])), ((ad 5 0), .inr (4, [.int (tf 5 0), .int (tf 5 1), .int (tf 5 2), .int (tf 5 3), .ref (ad 5 4), .ref (ad 5 5), .ref (ad 5 6), .ref (ad 5 7), .ref (ad 5 8), .ref (ad 5 9), .ref (ad 5 10), .ref (ad 5 11)]))] := D_same hD rfl
  refine lv_if_ne (tgt := 14) hx hb dX6_round_9 (by decide) (fun c4 => absurd (by decide) c4) (fun _ => ?_)
  refine lv_iconst (v := -1) hx hb dX6_round_12 (by decide) ?_
  exact wr_iret hx hb hr hlocks hS hP rfl dX6_round_13
set_option maxHeartbeats 4000000 in
set_option maxRecDepth 100000 in
theorem k_X6_give (l : Launch) (G : GG) (x : Nat) (a : Nat → Nat) (ad : Nat → Nat → Nat) (tf : Nat → Nat → Int32) (st cn gv : Int32) (p1 : Int32) (hcl : ∀ j, j < 6 → tf j 0 = 0) : WrI l yX6_give cX6_give 2 (some .int) ({ frames := 1, cells := 0, slots := 0, locals := 21 }) G (xW G x a ad tf st cn gv) [.ref x, .int p1] (fun r _ => r = -1) := by
  refine wr_entryI (by decide +kernel) (Nat.le_of_ble_eq_true rfl) ?_
  intro p e s m below meth c A C0 hP hK hD hA ls hl
  have hS : va_S A s.heap s.heap [] := va_S.rf
  obtain ⟨hx, hb, hml, hown, hts, hr, hlocks, hin⟩ := C0
  have hown : s.vm.findClass RX6 = some m.cls := hown
  have hl : lv_has ls 2 [(0, .ref x), (1, .int p1)] := hl
  refine lv_aload_n hx hb dX6_give_0 rfl (lv_at hl 0 rfl) ?_
  refine lv_aload_n hx hb dX6_give_1 rfl (lv_at hl 0 rfl) ?_
  refine lv_iload_n hx hb dX6_give_2 rfl (lv_at hl 1 rfl) ?_
  refine rdV (rest := [.ref x]) (q0 := 0) ⟨hx, hb, hml, hown, hts⟩ (c_X6_tableStatus l G x a ad tf st cn gv p1) mi_yX6_tableStatus mv_yX6_tableStatus ml_X6_73 ⟨rfl, rfl, Nat.le_of_ble_eq_true rfl, Nat.le_of_ble_eq_true rfl⟩ hK (hP) rfl rfl rfl hl.1 rfl (Nat.le_of_ble_eq_true rfl) dX6_give_3 ⟨Nat.zero_le _, Nat.zero_le _⟩ hS hA hP (fun r1 H locs hr1 hP hS => ?_)
  obtain rfl : r1 = 1 := ts_one hr1 hcl
  refine wrVI (rest := []) (q0 := 0) ⟨hx, hb, hml, hown, hts⟩ (c_X6_settled l G x a st cn gv 1) mi_yX6_settled mv_yX6_settled ml_X6_65 ⟨rfl, rfl, Nat.le_of_ble_eq_true rfl, Nat.le_of_ble_eq_true rfl⟩ hK hP hD [0] rfl (by decide) rfl rfl rfl hl.1 rfl (Nat.le_of_ble_eq_true rfl) dX6_give_6 ⟨Nat.zero_le _, Nat.zero_le _⟩ hS hA (fun r2 w3 H locs hw3 hP hS => ?_)
  obtain ⟨hr2, rfl⟩ := hw3
  obtain rfl : r2 = 0 := hr2.trans (if_neg (by decide))
  have hP : PP G [(x, .inr (6, [.int 1, .ref (a 1), .ref (a 2), .ref (a 3), .ref (a 4), .ref (a 5), .ref (a 6), .int cn, .ref (a 8), .int gv])), ((a 1), .inl (G.2.2.2.1, 6, .inr (.inr (.inr (.inr (fun j => some (ad j 0))))))), ((ad 0 0), .inr (4, [.int (tf 0 0), .int (tf 0 1), .int (tf 0 2), .int (tf 0 3), .ref (ad 0 4), .ref (ad 0 5), .ref (ad 0 6), .ref (ad 0 7), .ref (ad 0 8), .ref (ad 0 9), .ref (ad 0 10), .ref (ad 0 11)])), ((ad 1 0), .inr (4, [.int (tf 1 0), .int (tf 1 1), .int (tf 1 2), .int (tf 1 3), .ref (ad 1 4), .ref (ad 1 5), .ref (ad 1 6), .ref (ad 1 7), .ref (ad 1 8), .ref (ad 1 9), .ref (ad 1 10), .ref (ad 1 11)])), ((ad 2 0), .inr (4, [.int (tf 2 0), .int (tf 2 1), .int (tf 2 2), .int (tf 2 3), .ref (ad 2 4), .ref (ad 2 5), .ref (ad 2 6), .ref (ad 2 7), .ref (ad 2 8), .ref (ad 2 9), .ref (ad 2 10), .ref (ad 2 11)])), ((ad 3 0), .inr (4, [.int (tf 3 0), .int (tf 3 1), .int (tf 3 2), .int (tf 3 3), .ref (ad 3 4), .ref (ad 3 5), .ref (ad 3 6), .ref (ad 3 7), .ref (ad 3 8), .ref (ad 3 9), .ref (ad 3 10), .ref (ad 3 11)])), ((ad 4 0), .inr (4, [.int (tf 4 0), .int (tf 4 1), .int (tf 4 2), .int (tf 4 3), .ref (ad 4 4), .ref (ad 4 5), .ref (ad 4 6), .ref (ad 4 7), .ref (ad 4 8), .ref (ad 4 9), .ref (ad 4 10), .ref (ad 4 11)])), ((ad 5 0), .inr (4, [.int (tf 5 0), .int (tf 5 1), .int (tf 5 2), .int (tf 5 3), .ref (ad 5 4), .ref (ad 5 5), .ref (ad 5 6), .ref (ad 5 7), .ref (ad 5 8), .ref (ad 5 9), .ref (ad 5 10), .ref (ad 5 11)]))] H := hP rfl
  have hD : va_D A [(x, .inr (6, [.int 1, .ref (a 1), .ref (a 2), .ref (a 3), .ref (a 4), .ref (a 5), .ref (a 6), .int cn, .ref (a 8), .int gv])), ((a 1), .inl (G.2.2.2.1, 6, .inr (.inr (.inr (.inr (fun j => some (ad j 0))))))), ((ad 0 0), .inr (4, [.int (tf 0 0), .int (tf 0 1), .int (tf 0 2), .int (tf 0 3), .ref (ad 0 4), .ref (ad 0 5), .ref (ad 0 6), .ref (ad 0 7), .ref (ad 0 8), .ref (ad 0 9), .ref (ad 0 10), .ref (ad 0 11)])), ((ad 1 0), .inr (4, [.int (tf 1 0), .int (tf 1 1), .int (tf 1 2), .int (tf 1 3), .ref (ad 1 4), .ref (ad 1 5), .ref (ad 1 6), .ref (ad 1 7), .ref (ad 1 8), .ref (ad 1 9), .ref (ad 1 10), .ref (ad 1 11)])), ((ad 2 0), .inr (4, [.int (tf 2 0), .int (tf 2 1), .int (tf 2 2), .int (tf 2 3), .ref (ad 2 4), .ref (ad 2 5), .ref (ad 2 6), .ref (ad 2 7), .ref (ad 2 8), .ref (ad 2 9), .ref (ad 2 10), .ref (ad 2 11)])), ((ad 3 0), .inr (4, [.int (tf 3 0), .int (tf 3 1), .int (tf 3 2), .int (tf 3 3), .ref (ad 3 4), .ref (ad 3 5), .ref (ad 3 6), .ref (ad 3 7), .ref (ad 3 8), .ref (ad 3 9), .ref (ad 3 10), .ref (ad 3 11)])), ((ad 4 0), .inr (4, [.int (tf 4 0), .int (tf 4 1), .int (tf 4 2), .int (tf 4 3), .ref (ad 4 4), .ref (ad 4 5), .ref (ad 4 6), .ref (ad 4 7), .ref (ad 4 8), .ref (ad 4 9), .ref (ad 4 10), .ref (ad 4 11)])), ((ad 5 0), .inr (4, [.int (tf 5 0), .int (tf 5 1), .int (tf 5 2), .int (tf 5 3), .ref (ad 5 4), .ref (ad 5 5), .ref (ad 5 6), .ref (ad 5 7), .ref (ad 5 8), .ref (ad 5 9), .ref (ad 5 10), .ref (ad 5 11)]))] := D_same hD rfl
  refine lv_if_ne (tgt := 14) hx hb dX6_give_9 (by decide) (fun c4 => absurd (by decide) c4) (fun _ => ?_)
  refine lv_iconst (v := -1) hx hb dX6_give_12 (by decide) ?_
  exact wr_iret hx hb hr hlocks hS hP rfl dX6_give_13
set_option maxHeartbeats 4000000 in
set_option maxRecDepth 100000 in
theorem k_X6_least (l : Launch) (G : GG) (x : Nat) (a : Nat → Nat) (ad : Nat → Nat → Nat) (tf : Nat → Nat → Int32) (st cn gv : Int32) (p1 p2 p3 : Int32) (hcl : ∀ j, j < 6 → tf j 0 = 0) : WrI l yX6_least cX6_least 4 (some .int) ({ frames := 7, cells := 0, slots := 0, locals := 165 }) G (xW G x a ad tf st cn gv) [.ref x, .int p1, .int p2, .int p3] (fun r _ => r = -1) := by
  refine wr_entryI (by decide +kernel) (Nat.le_of_ble_eq_true rfl) ?_
  intro p e s m below meth c A C0 hP hK hD hA ls hl
  have hS : va_S A s.heap s.heap [] := va_S.rf
  obtain ⟨hx, hb, hml, hown, hts, hr, hlocks, hin⟩ := C0
  have hown : s.vm.findClass RX6 = some m.cls := hown
  have hl : lv_has ls 4 [(0, .ref x), (1, .int p1), (2, .int p2), (3, .int p3)] := hl
  refine lv_aload_n hx hb dX6_least_0 rfl (lv_at hl 0 rfl) ?_
  refine lv_iload_n hx hb dX6_least_1 rfl (lv_at hl 1 rfl) ?_
  refine lv_iload_n hx hb dX6_least_2 rfl (lv_at hl 2 rfl) ?_
  refine lv_iload_n hx hb dX6_least_3 rfl (lv_at hl 3 rfl) ?_
  refine lv_iconst (v := 0) hx hb dX6_least_4 (by decide) ?_
  refine wrVI (rest := []) (q0 := 0) ⟨hx, hb, hml, hown, hts⟩ (k_X6_spanEnd l G x a ad tf st cn gv p1 p2 p3 0 hcl) mi_yX6_spanEnd mv_yX6_spanEnd ml_X6_180 ⟨rfl, rfl, Nat.le_of_ble_eq_true rfl, Nat.le_of_ble_eq_true rfl⟩ hK hP hD [0, 1, 2, 3, 4, 5, 6, 7] rfl (by decide) rfl rfl rfl hl.1 rfl (Nat.le_of_ble_eq_true rfl) dX6_least_5 ⟨Nat.zero_le _, Nat.zero_le _⟩ hS hA (fun r1 w2 H locs hw2 hP hS => ?_)
  obtain rfl := hw2
  exact wr_iret (wa := []) hx hb hr hlocks hS (fun k q h => by simp at h) rfl dX6_least_8
set_option maxHeartbeats 4000000 in
set_option maxRecDepth 100000 in
theorem k_X6_greatest (l : Launch) (G : GG) (x : Nat) (a : Nat → Nat) (ad : Nat → Nat → Nat) (tf : Nat → Nat → Int32) (st cn gv : Int32) (p1 p2 p3 : Int32) (hcl : ∀ j, j < 6 → tf j 0 = 0) : WrI l yX6_greatest cX6_greatest 4 (some .int) ({ frames := 7, cells := 0, slots := 0, locals := 165 }) G (xW G x a ad tf st cn gv) [.ref x, .int p1, .int p2, .int p3] (fun r _ => r = -1) := by
  refine wr_entryI (by decide +kernel) (Nat.le_of_ble_eq_true rfl) ?_
  intro p e s m below meth c A C0 hP hK hD hA ls hl
  have hS : va_S A s.heap s.heap [] := va_S.rf
  obtain ⟨hx, hb, hml, hown, hts, hr, hlocks, hin⟩ := C0
  have hown : s.vm.findClass RX6 = some m.cls := hown
  have hl : lv_has ls 4 [(0, .ref x), (1, .int p1), (2, .int p2), (3, .int p3)] := hl
  refine lv_aload_n hx hb dX6_greatest_0 rfl (lv_at hl 0 rfl) ?_
  refine lv_iload_n hx hb dX6_greatest_1 rfl (lv_at hl 1 rfl) ?_
  refine lv_iload_n hx hb dX6_greatest_2 rfl (lv_at hl 2 rfl) ?_
  refine lv_iload_n hx hb dX6_greatest_3 rfl (lv_at hl 3 rfl) ?_
  refine lv_iconst (v := 1) hx hb dX6_greatest_4 (by decide) ?_
  refine wrVI (rest := []) (q0 := 0) ⟨hx, hb, hml, hown, hts⟩ (k_X6_spanEnd l G x a ad tf st cn gv p1 p2 p3 1 hcl) mi_yX6_spanEnd mv_yX6_spanEnd ml_X6_180 ⟨rfl, rfl, Nat.le_of_ble_eq_true rfl, Nat.le_of_ble_eq_true rfl⟩ hK hP hD [0, 1, 2, 3, 4, 5, 6, 7] rfl (by decide) rfl rfl rfl hl.1 rfl (Nat.le_of_ble_eq_true rfl) dX6_greatest_5 ⟨Nat.zero_le _, Nat.zero_le _⟩ hS hA (fun r1 w2 H locs hw2 hP hS => ?_)
  obtain rfl := hw2
  exact wr_iret (wa := []) hx hb hr hlocks hS (fun k q h => by simp at h) rfl dX6_greatest_8
