theorem ml_X6_73 : Cond.methodLink RX6 73 yX6_tableStatus ∈ TB := TB_t2 86 rfl rfl
theorem mcode_yX6_tableStatus : Cond.code yX6_tableStatus cX6_tableStatus 2 (some .int) ∈ TB := TB_t2 89 rfl rfl
theorem mi_yX6_tableStatus : MI yX6_tableStatus cX6_tableStatus 2 (some .int) 1 := ⟨mz_RX6, mcode_yX6_tableStatus, by decide +kernel, by decide +kernel, by decide +kernel⟩
theorem mim_yX6_tableStatus : Cond.instanceMethod yX6_tableStatus ∈ TB := TB_t2 88 rfl rfl
theorem msel_yX6_tableStatus : Cond.selects yX6_tableStatus.cls yX6_tableStatus yX6_tableStatus ∈ TB := TB_s (n := 10) 1 (by decide +kernel)
theorem mv_yX6_tableStatus : Cond.instanceMethod yX6_tableStatus ∈ TB ∧ Cond.selects yX6_tableStatus.cls yX6_tableStatus yX6_tableStatus ∈ TB := ⟨mim_yX6_tableStatus, msel_yX6_tableStatus⟩
theorem mf_X6_119 : Cond.fieldLink RX6 119 "CellKeeper$Table" "rows" "I" ∈ TB := TB_t1 215 rfl rfl
theorem ml_X6_110 : Cond.methodLink RX6 110 yX6_rowStatus ∈ TB := TB_t2 104 rfl rfl
theorem mcode_yX6_rowStatus : Cond.code yX6_rowStatus cX6_rowStatus 4 (some .int) ∈ TB := TB_t2 107 rfl rfl
theorem mi_yX6_rowStatus : MI yX6_rowStatus cX6_rowStatus 4 (some .int) 2 := ⟨mz_RX6, mcode_yX6_rowStatus, by decide +kernel, by decide +kernel, by decide +kernel⟩
theorem mim_yX6_rowStatus : Cond.instanceMethod yX6_rowStatus ∈ TB := TB_t2 106 rfl rfl
theorem msel_yX6_rowStatus : Cond.selects yX6_rowStatus.cls yX6_rowStatus yX6_rowStatus ∈ TB := TB_s (n := 10) 3 (by decide +kernel)
theorem mv_yX6_rowStatus : Cond.instanceMethod yX6_rowStatus ∈ TB ∧ Cond.selects yX6_rowStatus.cls yX6_rowStatus yX6_rowStatus ∈ TB := ⟨mim_yX6_rowStatus, msel_yX6_rowStatus⟩
theorem mf_X6_159 : Cond.fieldLink RX6 159 "CellKeeper$Table" "columns" "I" ∈ TB := TB_t1 218 rfl rfl
theorem mf_X6_113 : Cond.fieldLink RX6 113 "CellKeeper$Table" "places" "[I" ∈ TB := TB_t1 222 rfl rfl
theorem ml_X6_84 : Cond.methodLink RX6 84 yX6_placeStatus ∈ TB := TB_t2 100 rfl rfl
theorem mcode_yX6_placeStatus : Cond.code yX6_placeStatus cX6_placeStatus 6 (some .int) ∈ TB := TB_t2 103 rfl rfl
theorem mi_yX6_placeStatus : MI yX6_placeStatus cX6_placeStatus 6 (some .int) 3 := ⟨mz_RX6, mcode_yX6_placeStatus, by decide +kernel, by decide +kernel, by decide +kernel⟩
theorem mim_yX6_placeStatus : Cond.instanceMethod yX6_placeStatus ∈ TB := TB_t2 102 rfl rfl
theorem msel_yX6_placeStatus : Cond.selects yX6_placeStatus.cls yX6_placeStatus yX6_placeStatus ∈ TB := TB_s (n := 10) 2 (by decide +kernel)
theorem mv_yX6_placeStatus : Cond.instanceMethod yX6_placeStatus ∈ TB ∧ Cond.selects yX6_placeStatus.cls yX6_placeStatus yX6_placeStatus ∈ TB := ⟨mim_yX6_placeStatus, msel_yX6_placeStatus⟩
theorem mf_X6_134 : Cond.fieldLink RX6 134 "CellKeeper$Table" "kind" "[I" ∈ TB := TB_t1 225 rfl rfl
theorem ml_X6_92 : Cond.methodLink RX6 92 yX6_spotOf ∈ TB := TB_t2 112 rfl rfl
theorem ml_X6_107 : Cond.methodLink RX6 107 yX6_filledStatus ∈ TB := TB_t2 122 rfl rfl
theorem mcode_yX6_filledStatus : Cond.code yX6_filledStatus cX6_filledStatus 5 (some .int) ∈ TB := TB_t2 125 rfl rfl
theorem mi_yX6_filledStatus : MI yX6_filledStatus cX6_filledStatus 5 (some .int) 3 := ⟨mz_RX6, mcode_yX6_filledStatus, by decide +kernel, by decide +kernel, by decide +kernel⟩
theorem mim_yX6_filledStatus : Cond.instanceMethod yX6_filledStatus ∈ TB := TB_t2 124 rfl rfl
theorem msel_yX6_filledStatus : Cond.selects yX6_filledStatus.cls yX6_filledStatus yX6_filledStatus ∈ TB := TB_s (n := 10) 5 (by decide +kernel)
theorem mv_yX6_filledStatus : Cond.instanceMethod yX6_filledStatus ∈ TB ∧ Cond.selects yX6_filledStatus.cls yX6_filledStatus yX6_filledStatus ∈ TB := ⟨mim_yX6_filledStatus, msel_yX6_filledStatus⟩
theorem ml_X6_174 : Cond.methodLink RX6 174 yX6_cellStatus ∈ TB := TB_t2 188 rfl rfl
theorem mcode_yX6_cellStatus : Cond.code yX6_cellStatus cX6_cellStatus 5 (some .int) ∈ TB := TB_t2 191 rfl rfl
theorem mi_yX6_cellStatus : MI yX6_cellStatus cX6_cellStatus 5 (some .int) 3 := ⟨mz_RX6, mcode_yX6_cellStatus, by decide +kernel, by decide +kernel, by decide +kernel⟩
theorem mim_yX6_cellStatus : Cond.instanceMethod yX6_cellStatus ∈ TB := TB_t2 190 rfl rfl
theorem msel_yX6_cellStatus : Cond.selects yX6_cellStatus.cls yX6_cellStatus yX6_cellStatus ∈ TB := TB_s (n := 10) 8 (by decide +kernel)
theorem mv_yX6_cellStatus : Cond.instanceMethod yX6_cellStatus ∈ TB ∧ Cond.selects yX6_cellStatus.cls yX6_cellStatus yX6_cellStatus ∈ TB := ⟨mim_yX6_cellStatus, msel_yX6_cellStatus⟩
theorem ml_X6_153 : Cond.methodLink RX6 153 yX4_isSound ∈ TB := TB_t2 204 rfl rfl
theorem mk_X6_255 : Cond.constant RX6 255 (1000000) ∈ TB := TB_t2 111 rfl rfl
theorem ml_X6_65 : Cond.methodLink RX6 65 yX6_settled ∈ TB := TB_t2 61 rfl rfl
theorem mcode_yX6_settled : Cond.code yX6_settled cX6_settled 2 (some .boolean) ∈ TB := TB_t2 64 rfl rfl
theorem mi_yX6_settled : MI yX6_settled cX6_settled 2 (some .boolean) 1 := ⟨mz_RX6, mcode_yX6_settled, by decide +kernel, by decide +kernel, by decide +kernel⟩
theorem mim_yX6_settled : Cond.instanceMethod yX6_settled ∈ TB := TB_t2 63 rfl rfl
theorem msel_yX6_settled : Cond.selects yX6_settled.cls yX6_settled yX6_settled ∈ TB := TB_s (n := 10) 0 (by decide +kernel)
theorem mv_yX6_settled : Cond.instanceMethod yX6_settled ∈ TB ∧ Cond.selects yX6_settled.cls yX6_settled yX6_settled ∈ TB := ⟨mim_yX6_settled, msel_yX6_settled⟩
theorem ml_X6_69 : Cond.methodLink RX6 69 yX4_begin ∈ TB := TB_t2 65 rfl rfl
theorem mcode_yX4_begin : Cond.code yX4_begin cX4_begin 5 none ∈ TB := TB_t2 68 rfl rfl
theorem mi_yX4_begin : MI yX4_begin cX4_begin 5 none 2 := ⟨mz_RX4, mcode_yX4_begin, by decide +kernel, by decide +kernel, by decide +kernel⟩
theorem mim_yX4_begin : Cond.instanceMethod yX4_begin ∈ TB := TB_t2 66 rfl rfl
theorem msel_yX4_begin : Cond.selects yX4_begin.cls yX4_begin yX4_begin ∈ TB := TB_t2 67 rfl rfl
theorem mv_yX4_begin : Cond.instanceMethod yX4_begin ∈ TB ∧ Cond.selects yX4_begin.cls yX4_begin yX4_begin ∈ TB := ⟨mim_yX4_begin, msel_yX4_begin⟩
theorem ml_X0_41 : Cond.methodLink RX0 41 yX0_forgetPlan ∈ TB := TB_t3 171 rfl rfl
theorem mcode_yX0_forgetPlan : Cond.code yX0_forgetPlan cX0_forgetPlan 2 none ∈ TB := TB_t3 174 rfl rfl
theorem mi_yX0_forgetPlan : MI yX0_forgetPlan cX0_forgetPlan 2 none 0 := ⟨mz_RX0, mcode_yX0_forgetPlan, by decide +kernel, by decide +kernel, by decide +kernel⟩
theorem mim_yX0_forgetPlan : Cond.instanceMethod yX0_forgetPlan ∈ TB := TB_t3 173 rfl rfl
theorem msel_yX0_forgetPlan : Cond.selects yX0_forgetPlan.cls yX0_forgetPlan yX0_forgetPlan ∈ TB := TB_s (n := 9) 20 (by decide +kernel)
theorem mv_yX0_forgetPlan : Cond.instanceMethod yX0_forgetPlan ∈ TB ∧ Cond.selects yX0_forgetPlan.cls yX0_forgetPlan yX0_forgetPlan ∈ TB := ⟨mim_yX0_forgetPlan, msel_yX0_forgetPlan⟩
theorem ml_X0_71 : Cond.methodLink RX0 71 yX0_tellPlanned ∈ TB := TB_t3 202 rfl rfl
theorem mcode_yX0_tellPlanned : Cond.code yX0_tellPlanned cX0_tellPlanned 3 none ∈ TB := TB_t3 205 rfl rfl
theorem mi_yX0_tellPlanned : MI yX0_tellPlanned cX0_tellPlanned 3 none 1 := ⟨mz_RX0, mcode_yX0_tellPlanned, by decide +kernel, by decide +kernel, by decide +kernel⟩
theorem mim_yX0_tellPlanned : Cond.instanceMethod yX0_tellPlanned ∈ TB := TB_t3 204 rfl rfl
theorem msel_yX0_tellPlanned : Cond.selects yX0_tellPlanned.cls yX0_tellPlanned yX0_tellPlanned ∈ TB := TB_s (n := 9) 25 (by decide +kernel)
theorem mv_yX0_tellPlanned : Cond.instanceMethod yX0_tellPlanned ∈ TB ∧ Cond.selects yX0_tellPlanned.cls yX0_tellPlanned yX0_tellPlanned ∈ TB := ⟨mim_yX0_tellPlanned, msel_yX0_tellPlanned⟩
theorem ml_X0_63 : Cond.methodLink RX0 63 yX0_findThree ∈ TB := TB_t3 177 rfl rfl
theorem mcode_yX0_findThree : Cond.code yX0_findThree cX0_findThree 13 none ∈ TB := TB_t3 180 rfl rfl
theorem mi_yX0_findThree : MI yX0_findThree cX0_findThree 13 none 4 := ⟨mz_RX0, mcode_yX0_findThree, by decide +kernel, by decide +kernel, by decide +kernel⟩
theorem mim_yX0_findThree : Cond.instanceMethod yX0_findThree ∈ TB := TB_t3 179 rfl rfl
theorem msel_yX0_findThree : Cond.selects yX0_findThree.cls yX0_findThree yX0_findThree ∈ TB := TB_s (n := 9) 21 (by decide +kernel)
theorem mv_yX0_findThree : Cond.instanceMethod yX0_findThree ∈ TB ∧ Cond.selects yX0_findThree.cls yX0_findThree yX0_findThree ∈ TB := ⟨mim_yX0_findThree, msel_yX0_findThree⟩
theorem ml_X0_67 : Cond.methodLink RX0 67 yX0_keepThree ∈ TB := TB_t3 190 rfl rfl
theorem mcode_yX0_keepThree : Cond.code yX0_keepThree cX0_keepThree 4 (some .int) ∈ TB := TB_t3 193 rfl rfl
theorem mi_yX0_keepThree : MI yX0_keepThree cX0_keepThree 4 (some .int) 3 := ⟨mz_RX0, mcode_yX0_keepThree, by decide +kernel, by decide +kernel, by decide +kernel⟩
theorem mim_yX0_keepThree : Cond.instanceMethod yX0_keepThree ∈ TB := TB_t3 192 rfl rfl
theorem msel_yX0_keepThree : Cond.selects yX0_keepThree.cls yX0_keepThree yX0_keepThree ∈ TB := TB_s (n := 9) 23 (by decide +kernel)
theorem mv_yX0_keepThree : Cond.instanceMethod yX0_keepThree ∈ TB ∧ Cond.selects yX0_keepThree.cls yX0_keepThree yX0_keepThree ∈ TB := ⟨mim_yX0_keepThree, msel_yX0_keepThree⟩
theorem mf_X6_77 : Cond.fieldLink RX6 77 "CellKeeper" "RULES_AT_MOST" "[I" ∈ TB := TB_t2 94 rfl rfl
theorem mf_X6_81 : Cond.fieldLink RX6 81 "CellKeeper$Table" "rules" "[I" ∈ TB := TB_t1 234 rfl rfl
theorem ml_X6_88 : Cond.methodLink RX6 88 yX6_canBeTold ∈ TB := TB_t2 108 rfl rfl
theorem mcode_yX6_canBeTold : Cond.code yX6_canBeTold cX6_canBeTold 2 (some .boolean) ∈ TB := TB_t2 110 rfl rfl
theorem mi_yX6_canBeTold : MI yX6_canBeTold cX6_canBeTold 2 (some .boolean) 2 := ⟨mz_RX6, mcode_yX6_canBeTold, by decide +kernel, by decide +kernel, by decide +kernel⟩
theorem mst_yX6_canBeTold : Cond.static yX6_canBeTold ∈ TB := TB_t2 109 rfl rfl
theorem ml_X6_96 : Cond.methodLink RX6 96 yX4_put ∈ TB := TB_t2 113 rfl rfl
theorem ml_X6_100 : Cond.methodLink RX6 100 yX6_amountStatus ∈ TB := TB_t2 118 rfl rfl
theorem mcode_yX6_amountStatus : Cond.code yX6_amountStatus cX6_amountStatus 5 (some .int) ∈ TB := TB_t2 121 rfl rfl
theorem mi_yX6_amountStatus : MI yX6_amountStatus cX6_amountStatus 5 (some .int) 3 := ⟨mz_RX6, mcode_yX6_amountStatus, by decide +kernel, by decide +kernel, by decide +kernel⟩
theorem mim_yX6_amountStatus : Cond.instanceMethod yX6_amountStatus ∈ TB := TB_t2 120 rfl rfl
theorem msel_yX6_amountStatus : Cond.selects yX6_amountStatus.cls yX6_amountStatus yX6_amountStatus ∈ TB := TB_s (n := 10) 4 (by decide +kernel)
theorem mv_yX6_amountStatus : Cond.instanceMethod yX6_amountStatus ∈ TB ∧ Cond.selects yX6_amountStatus.cls yX6_amountStatus yX6_amountStatus ∈ TB := ⟨mim_yX6_amountStatus, msel_yX6_amountStatus⟩
theorem mk_X6_103 : Cond.constant RX6 103 (100000) ∈ TB := TB_t2 126 rfl rfl
theorem ml_X6_104 : Cond.methodLink RX6 104 yX4_addGiver ∈ TB := TB_t2 127 rfl rfl
theorem mcode_yX4_addGiver : Cond.code yX4_addGiver cX4_addGiver 4 (some .boolean) ∈ TB := TB_t2 130 rfl rfl
theorem mi_yX4_addGiver : MI yX4_addGiver cX4_addGiver 4 (some .boolean) 2 := ⟨mz_RX4, mcode_yX4_addGiver, by decide +kernel, by decide +kernel, by decide +kernel⟩
theorem mim_yX4_addGiver : Cond.instanceMethod yX4_addGiver ∈ TB := TB_t2 128 rfl rfl
theorem msel_yX4_addGiver : Cond.selects yX4_addGiver.cls yX4_addGiver yX4_addGiver ∈ TB := TB_t2 129 rfl rfl
theorem mv_yX4_addGiver : Cond.instanceMethod yX4_addGiver ∈ TB ∧ Cond.selects yX4_addGiver.cls yX4_addGiver yX4_addGiver ∈ TB := ⟨mim_yX4_addGiver, msel_yX4_addGiver⟩
theorem ml_X6_116 : Cond.methodLink RX6 116 yX4_shorten ∈ TB := TB_t2 143 rfl rfl
theorem mcode_yX4_shorten : Cond.code yX4_shorten cX4_shorten 4 none ∈ TB := TB_t2 146 rfl rfl
theorem mi_yX4_shorten : MI yX4_shorten cX4_shorten 4 none 2 := ⟨mz_RX4, mcode_yX4_shorten, by decide +kernel, by decide +kernel, by decide +kernel⟩
theorem mim_yX4_shorten : Cond.instanceMethod yX4_shorten ∈ TB := TB_t2 144 rfl rfl
theorem msel_yX4_shorten : Cond.selects yX4_shorten.cls yX4_shorten yX4_shorten ∈ TB := TB_t2 145 rfl rfl
theorem mv_yX4_shorten : Cond.instanceMethod yX4_shorten ∈ TB ∧ Cond.selects yX4_shorten.cls yX4_shorten yX4_shorten ∈ TB := ⟨mim_yX4_shorten, msel_yX4_shorten⟩
theorem ml_X6_122 : Cond.methodLink RX6 122 yX6_refused ∈ TB := TB_t2 151 rfl rfl
theorem mcode_yX6_refused : Cond.code yX6_refused cX6_refused 2 (some .int) ∈ TB := TB_t2 154 rfl rfl
theorem mi_yX6_refused : MI yX6_refused cX6_refused 2 (some .int) 1 := ⟨mz_RX6, mcode_yX6_refused, by decide +kernel, by decide +kernel, by decide +kernel⟩
theorem mim_yX6_refused : Cond.instanceMethod yX6_refused ∈ TB := TB_t2 153 rfl rfl
theorem msel_yX6_refused : Cond.selects yX6_refused.cls yX6_refused yX6_refused ∈ TB := TB_s (n := 10) 6 (by decide +kernel)
theorem mv_yX6_refused : Cond.instanceMethod yX6_refused ∈ TB ∧ Cond.selects yX6_refused.cls yX6_refused yX6_refused ∈ TB := ⟨mim_yX6_refused, msel_yX6_refused⟩
theorem mf_X6_125 : Cond.fieldLink RX6 125 "CellKeeper$Table" "blocks" "I" ∈ TB := TB_t1 220 rfl rfl
theorem ml_X6_128 : Cond.methodLink RX6 128 yX4_mayLie ∈ TB := TB_t2 155 rfl rfl
theorem mcode_yX4_mayLie : Cond.code yX4_mayLie cX4_mayLie 8 (some .boolean) ∈ TB := TB_t2 158 rfl rfl
theorem mi_yX4_mayLie : MI yX4_mayLie cX4_mayLie 8 (some .boolean) 2 := ⟨mz_RX4, mcode_yX4_mayLie, by decide +kernel, by decide +kernel, by decide +kernel⟩
theorem mim_yX4_mayLie : Cond.instanceMethod yX4_mayLie ∈ TB := TB_t2 156 rfl rfl
theorem msel_yX4_mayLie : Cond.selects yX4_mayLie.cls yX4_mayLie yX4_mayLie ∈ TB := TB_t2 157 rfl rfl
theorem mv_yX4_mayLie : Cond.instanceMethod yX4_mayLie ∈ TB ∧ Cond.selects yX4_mayLie.cls yX4_mayLie yX4_mayLie ∈ TB := ⟨mim_yX4_mayLie, msel_yX4_mayLie⟩
theorem ml_X6_131 : Cond.methodLink RX6 131 yX4_addBlock ∈ TB := TB_t2 159 rfl rfl
theorem mcode_yX4_addBlock : Cond.code yX4_addBlock cX4_addBlock 3 none ∈ TB := TB_t2 162 rfl rfl
theorem mi_yX4_addBlock : MI yX4_addBlock cX4_addBlock 3 none 2 := ⟨mz_RX4, mcode_yX4_addBlock, by decide +kernel, by decide +kernel, by decide +kernel⟩
theorem mim_yX4_addBlock : Cond.instanceMethod yX4_addBlock ∈ TB := TB_t2 160 rfl rfl
theorem msel_yX4_addBlock : Cond.selects yX4_addBlock.cls yX4_addBlock yX4_addBlock ∈ TB := TB_t2 161 rfl rfl
theorem mv_yX4_addBlock : Cond.instanceMethod yX4_addBlock ∈ TB ∧ Cond.selects yX4_addBlock.cls yX4_addBlock yX4_addBlock ∈ TB := ⟨mim_yX4_addBlock, msel_yX4_addBlock⟩
theorem mf_X6_137 : Cond.fieldLink RX6 137 "CellKeeper$Table" "number" "[I" ∈ TB := TB_t1 228 rfl rfl
theorem ml_X6_140 : Cond.methodLink RX6 140 yX4_giversAt ∈ TB := TB_t2 175 rfl rfl
theorem mf_X6_143 : Cond.fieldLink RX6 143 "CellKeeper$Table" "parts" "[I" ∈ TB := TB_t1 231 rfl rfl
theorem ml_X6_146 : Cond.methodLink RX6 146 yX6_guardableStatus ∈ TB := TB_t2 184 rfl rfl
theorem mcode_yX6_guardableStatus : Cond.code yX6_guardableStatus cX6_guardableStatus 5 (some .int) ∈ TB := TB_t2 187 rfl rfl
theorem mi_yX6_guardableStatus : MI yX6_guardableStatus cX6_guardableStatus 5 (some .int) 3 := ⟨mz_RX6, mcode_yX6_guardableStatus, by decide +kernel, by decide +kernel, by decide +kernel⟩
theorem mim_yX6_guardableStatus : Cond.instanceMethod yX6_guardableStatus ∈ TB := TB_t2 186 rfl rfl
theorem msel_yX6_guardableStatus : Cond.selects yX6_guardableStatus.cls yX6_guardableStatus yX6_guardableStatus ∈ TB := TB_s (n := 10) 7 (by decide +kernel)
theorem mv_yX6_guardableStatus : Cond.instanceMethod yX6_guardableStatus ∈ TB ∧ Cond.selects yX6_guardableStatus.cls yX6_guardableStatus yX6_guardableStatus ∈ TB := ⟨mim_yX6_guardableStatus, msel_yX6_guardableStatus⟩
theorem ml_X6_149 : Cond.methodLink RX6 149 yX4_tell ∈ TB := TB_t2 192 rfl rfl
theorem ml_X6_156 : Cond.methodLink RX6 156 yX4_rowSum ∈ TB := TB_t2 212 rfl rfl
theorem ml_X6_162 : Cond.methodLink RX6 162 yX4_classSum ∈ TB := TB_t2 220 rfl rfl
theorem mcode_yX4_classSum : Cond.code yX4_classSum cX4_classSum 6 (some .int) ∈ TB := TB_t2 223 rfl rfl
theorem mi_yX4_classSum : MI yX4_classSum cX4_classSum 6 (some .int) 2 := ⟨mz_RX4, mcode_yX4_classSum, by decide +kernel, by decide +kernel, by decide +kernel⟩
theorem mim_yX4_classSum : Cond.instanceMethod yX4_classSum ∈ TB := TB_t2 221 rfl rfl
theorem msel_yX4_classSum : Cond.selects yX4_classSum.cls yX4_classSum yX4_classSum ∈ TB := TB_t2 222 rfl rfl
theorem mv_yX4_classSum : Cond.instanceMethod yX4_classSum ∈ TB ∧ Cond.selects yX4_classSum.cls yX4_classSum yX4_classSum ∈ TB := ⟨mim_yX4_classSum, msel_yX4_classSum⟩
theorem ml_X6_165 : Cond.methodLink RX6 165 yX6_soundCellStatus ∈ TB := TB_t2 233 rfl rfl
theorem mcode_yX6_soundCellStatus : Cond.code yX6_soundCellStatus cX6_soundCellStatus 5 (some .int) ∈ TB := TB_t2 236 rfl rfl
theorem mi_yX6_soundCellStatus : MI yX6_soundCellStatus cX6_soundCellStatus 5 (some .int) 3 := ⟨mz_RX6, mcode_yX6_soundCellStatus, by decide +kernel, by decide +kernel, by decide +kernel⟩
theorem mim_yX6_soundCellStatus : Cond.instanceMethod yX6_soundCellStatus ∈ TB := TB_t2 235 rfl rfl
theorem msel_yX6_soundCellStatus : Cond.selects yX6_soundCellStatus.cls yX6_soundCellStatus yX6_soundCellStatus ∈ TB := TB_s (n := 10) 9 (by decide +kernel)
theorem mv_yX6_soundCellStatus : Cond.instanceMethod yX6_soundCellStatus ∈ TB ∧ Cond.selects yX6_soundCellStatus.cls yX6_soundCellStatus yX6_soundCellStatus ∈ TB := ⟨mim_yX6_soundCellStatus, msel_yX6_soundCellStatus⟩
theorem ml_X6_168 : Cond.methodLink RX6 168 yX4_reasons ∈ TB := TB_t2 237 rfl rfl
theorem ml_X6_171 : Cond.methodLink RX6 171 yX4_isKept ∈ TB := TB_t3 13 rfl rfl
theorem mcode_yX4_isKept : Cond.code yX4_isKept cX4_isKept 2 (some .boolean) ∈ TB := TB_t3 16 rfl rfl
theorem mi_yX4_isKept : MI yX4_isKept cX4_isKept 2 (some .boolean) 1 := ⟨mz_RX4, mcode_yX4_isKept, by decide +kernel, by decide +kernel, by decide +kernel⟩
theorem mim_yX4_isKept : Cond.instanceMethod yX4_isKept ∈ TB := TB_t3 14 rfl rfl
theorem msel_yX4_isKept : Cond.selects yX4_isKept.cls yX4_isKept yX4_isKept ∈ TB := TB_t3 15 rfl rfl
theorem mv_yX4_isKept : Cond.instanceMethod yX4_isKept ∈ TB ∧ Cond.selects yX4_isKept.cls yX4_isKept yX4_isKept ∈ TB := ⟨mim_yX4_isKept, msel_yX4_isKept⟩
theorem ml_X6_177 : Cond.methodLink RX6 177 yX6_thousandthsOf ∈ TB := TB_t3 22 rfl rfl
theorem ml_X6_184 : Cond.methodLink RX6 184 yX2_load ∈ TB := TB_t3 34 rfl rfl
theorem mcode_yX2_load : Cond.code yX2_load cX2_load 3 none ∈ TB := TB_t3 37 rfl rfl
theorem mi_yX2_load : MI yX2_load cX2_load 3 none 1 := ⟨mz_RX2, mcode_yX2_load, by decide +kernel, by decide +kernel, by decide +kernel⟩
theorem mim_yX2_load : Cond.instanceMethod yX2_load ∈ TB := TB_t3 35 rfl rfl
theorem msel_yX2_load : Cond.selects yX2_load.cls yX2_load yX2_load ∈ TB := TB_t3 36 rfl rfl
theorem mv_yX2_load : Cond.instanceMethod yX2_load ∈ TB ∧ Cond.selects yX2_load.cls yX2_load yX2_load ∈ TB := ⟨mim_yX2_load, msel_yX2_load⟩
theorem ml_X6_249 : Cond.methodLink RX6 249 yX2_moveToEnd ∈ TB := TB_t3 60 rfl rfl
theorem mf_X6_252 : Cond.fieldLink RX6 252 "CellKeeper$Reader" "value" "[I" ∈ TB := TB_t1 75 rfl rfl
theorem ml_X6_180 : Cond.methodLink RX6 180 yX6_spanEnd ∈ TB := TB_t3 30 rfl rfl
theorem mcode_yX6_spanEnd : Cond.code yX6_spanEnd cX6_spanEnd 5 (some .int) ∈ TB := TB_t3 33 rfl rfl
theorem mi_yX6_spanEnd : MI yX6_spanEnd cX6_spanEnd 5 (some .int) 4 := ⟨mz_RX6, mcode_yX6_spanEnd, by decide +kernel, by decide +kernel, by decide +kernel⟩
theorem mim_yX6_spanEnd : Cond.instanceMethod yX6_spanEnd ∈ TB := TB_t3 32 rfl rfl
theorem msel_yX6_spanEnd : Cond.selects yX6_spanEnd.cls yX6_spanEnd yX6_spanEnd ∈ TB := TB_s (n := 10) 11 (by decide +kernel)
theorem mv_yX6_spanEnd : Cond.instanceMethod yX6_spanEnd ∈ TB ∧ Cond.selects yX6_spanEnd.cls yX6_spanEnd yX6_spanEnd ∈ TB := ⟨mim_yX6_spanEnd, msel_yX6_spanEnd⟩
theorem ml_X6_188 : Cond.methodLink RX6 188 yX2_isSafe ∈ TB := TB_t3 112 rfl rfl
theorem ml_X6_191 : Cond.methodLink RX6 191 yX2_countUnsafe ∈ TB := TB_t3 123 rfl rfl
theorem mcode_yX2_countUnsafe : Cond.code yX2_countUnsafe cX2_countUnsafe 4 (some .int) ∈ TB := TB_t3 126 rfl rfl
theorem mi_yX2_countUnsafe : MI yX2_countUnsafe cX2_countUnsafe 4 (some .int) 0 := ⟨mz_RX2, mcode_yX2_countUnsafe, by decide +kernel, by decide +kernel, by decide +kernel⟩
theorem mim_yX2_countUnsafe : Cond.instanceMethod yX2_countUnsafe ∈ TB := TB_t3 124 rfl rfl
theorem msel_yX2_countUnsafe : Cond.selects yX2_countUnsafe.cls yX2_countUnsafe yX2_countUnsafe ∈ TB := TB_t3 125 rfl rfl
theorem mv_yX2_countUnsafe : Cond.instanceMethod yX2_countUnsafe ∈ TB ∧ Cond.selects yX2_countUnsafe.cls yX2_countUnsafe yX2_countUnsafe ∈ TB := ⟨mim_yX2_countUnsafe, msel_yX2_countUnsafe⟩
theorem ml_X6_195 : Cond.methodLink RX6 195 yX2_findFirst ∈ TB := TB_t3 132 rfl rfl
theorem mcode_yX2_findFirst : Cond.code yX2_findFirst cX2_findFirst 7 none ∈ TB := TB_t3 135 rfl rfl
theorem mi_yX2_findFirst : MI yX2_findFirst cX2_findFirst 7 none 3 := ⟨mz_RX2, mcode_yX2_findFirst, by decide +kernel, by decide +kernel, by decide +kernel⟩
theorem mim_yX2_findFirst : Cond.instanceMethod yX2_findFirst ∈ TB := TB_t3 133 rfl rfl
theorem msel_yX2_findFirst : Cond.selects yX2_findFirst.cls yX2_findFirst yX2_findFirst ∈ TB := TB_t3 134 rfl rfl
theorem mv_yX2_findFirst : Cond.instanceMethod yX2_findFirst ∈ TB ∧ Cond.selects yX2_findFirst.cls yX2_findFirst yX2_findFirst ∈ TB := ⟨mim_yX2_findFirst, msel_yX2_findFirst⟩
theorem ml_X6_198 : Cond.methodLink RX6 198 yX2_showValues ∈ TB := TB_t3 137 rfl rfl
theorem mcode_yX2_showValues : Cond.code yX2_showValues cX2_showValues 5 none ∈ TB := TB_t3 140 rfl rfl
theorem mi_yX2_showValues : MI yX2_showValues cX2_showValues 5 none 1 := ⟨mz_RX2, mcode_yX2_showValues, by decide +kernel, by decide +kernel, by decide +kernel⟩
theorem mim_yX2_showValues : Cond.instanceMethod yX2_showValues ∈ TB := TB_t3 138 rfl rfl
theorem msel_yX2_showValues : Cond.selects yX2_showValues.cls yX2_showValues yX2_showValues ∈ TB := TB_t3 139 rfl rfl
theorem mv_yX2_showValues : Cond.instanceMethod yX2_showValues ∈ TB ∧ Cond.selects yX2_showValues.cls yX2_showValues yX2_showValues ∈ TB := ⟨mim_yX2_showValues, msel_yX2_showValues⟩
theorem ml_X6_202 : Cond.methodLink RX6 202 yX2_cutOf ∈ TB := TB_t3 141 rfl rfl
theorem mcode_yX2_cutOf : Cond.code yX2_cutOf cX2_cutOf 5 (some .int) ∈ TB := TB_t3 144 rfl rfl
theorem mi_yX2_cutOf : MI yX2_cutOf cX2_cutOf 5 (some .int) 3 := ⟨mz_RX2, mcode_yX2_cutOf, by decide +kernel, by decide +kernel, by decide +kernel⟩
theorem mim_yX2_cutOf : Cond.instanceMethod yX2_cutOf ∈ TB := TB_t3 142 rfl rfl
theorem msel_yX2_cutOf : Cond.selects yX2_cutOf.cls yX2_cutOf yX2_cutOf ∈ TB := TB_t3 143 rfl rfl
theorem mv_yX2_cutOf : Cond.instanceMethod yX2_cutOf ∈ TB ∧ Cond.selects yX2_cutOf.cls yX2_cutOf yX2_cutOf ∈ TB := ⟨mim_yX2_cutOf, msel_yX2_cutOf⟩
theorem ml_X6_206 : Cond.methodLink RX6 206 yX1_at ∈ TB := TB_t3 150 rfl rfl
theorem mcode_yX1_at : Cond.code yX1_at cX1_at 4 (some .int) ∈ TB := TB_t3 153 rfl rfl
theorem mi_yX1_at : MI yX1_at cX1_at 4 (some .int) 2 := ⟨mz_RX1, mcode_yX1_at, by decide +kernel, by decide +kernel, by decide +kernel⟩
theorem mim_yX1_at : Cond.instanceMethod yX1_at ∈ TB := TB_t3 151 rfl rfl
theorem msel_yX1_at : Cond.selects yX1_at.cls yX1_at yX1_at ∈ TB := TB_t3 152 rfl rfl
theorem mv_yX1_at : Cond.instanceMethod yX1_at ∈ TB ∧ Cond.selects yX1_at.cls yX1_at yX1_at ∈ TB := ⟨mim_yX1_at, msel_yX1_at⟩
theorem mf_X6_210 : Cond.fieldLink RX6 210 "CellKeeper$Leaf" "columns" "I" ∈ TB := TB_t1 192 rfl rfl
theorem mf_X6_209 : Cond.fieldLink RX6 209 "CellKeeper$Leaf" "rows" "I" ∈ TB := TB_t1 188 rfl rfl
theorem ml_X6_211 : Cond.methodLink RX6 211 yX0_followPlan ∈ TB := TB_t3 167 rfl rfl
theorem mcode_yX0_followPlan : Cond.code yX0_followPlan cX0_followPlan 8 (some .int) ∈ TB := TB_t3 170 rfl rfl
theorem mi_yX0_followPlan : MI yX0_followPlan cX0_followPlan 8 (some .int) 2 := ⟨mz_RX0, mcode_yX0_followPlan, by decide +kernel, by decide +kernel, by decide +kernel⟩
theorem mim_yX0_followPlan : Cond.instanceMethod yX0_followPlan ∈ TB := TB_t3 168 rfl rfl
theorem msel_yX0_followPlan : Cond.selects yX0_followPlan.cls yX0_followPlan yX0_followPlan ∈ TB := TB_t3 169 rfl rfl
theorem mv_yX0_followPlan : Cond.instanceMethod yX0_followPlan ∈ TB ∧ Cond.selects yX0_followPlan.cls yX0_followPlan yX0_followPlan ∈ TB := ⟨mim_yX0_followPlan, msel_yX0_followPlan⟩
theorem ml_X6_215 : Cond.methodLink RX6 215 yX0_gather ∈ TB := TB_t3 211 rfl rfl
theorem mcode_yX0_gather : Cond.code yX0_gather cX0_gather 8 none ∈ TB := TB_t3 214 rfl rfl
theorem mi_yX0_gather : MI yX0_gather cX0_gather 8 none 2 := ⟨mz_RX0, mcode_yX0_gather, by decide +kernel, by decide +kernel, by decide +kernel⟩
theorem mim_yX0_gather : Cond.instanceMethod yX0_gather ∈ TB := TB_t3 212 rfl rfl
theorem msel_yX0_gather : Cond.selects yX0_gather.cls yX0_gather yX0_gather ∈ TB := TB_t3 213 rfl rfl
theorem mv_yX0_gather : Cond.instanceMethod yX0_gather ∈ TB ∧ Cond.selects yX0_gather.cls yX0_gather yX0_gather ∈ TB := ⟨mim_yX0_gather, msel_yX0_gather⟩
theorem mf_X6_219 : Cond.fieldLink RX6 219 "CellKeeper$Guard" "choices" "I" ∈ TB := TB_t1 122 rfl rfl
theorem ml_X6_222 : Cond.methodLink RX6 222 yX0_cheapest ∈ TB := TB_t3 215 rfl rfl
theorem mcode_yX0_cheapest : Cond.code yX0_cheapest cX0_cheapest 5 (some .int) ∈ TB := TB_t3 218 rfl rfl
theorem mi_yX0_cheapest : MI yX0_cheapest cX0_cheapest 5 (some .int) 1 := ⟨mz_RX0, mcode_yX0_cheapest, by decide +kernel, by decide +kernel, by decide +kernel⟩
theorem mim_yX0_cheapest : Cond.instanceMethod yX0_cheapest ∈ TB := TB_t3 216 rfl rfl
theorem msel_yX0_cheapest : Cond.selects yX0_cheapest.cls yX0_cheapest yX0_cheapest ∈ TB := TB_t3 217 rfl rfl
theorem mv_yX0_cheapest : Cond.instanceMethod yX0_cheapest ∈ TB ∧ Cond.selects yX0_cheapest.cls yX0_cheapest yX0_cheapest ∈ TB := ⟨mim_yX0_cheapest, msel_yX0_cheapest⟩
theorem ml_X6_226 : Cond.methodLink RX6 226 yX0_tell ∈ TB := TB_t4 3 rfl rfl
theorem mcode_yX0_tell : Cond.code yX0_tell cX0_tell 4 none ∈ TB := TB_t4 6 rfl rfl
theorem mi_yX0_tell : MI yX0_tell cX0_tell 4 none 2 := ⟨mz_RX0, mcode_yX0_tell, by decide +kernel, by decide +kernel, by decide +kernel⟩
theorem mim_yX0_tell : Cond.instanceMethod yX0_tell ∈ TB := TB_t4 4 rfl rfl
theorem msel_yX0_tell : Cond.selects yX0_tell.cls yX0_tell yX0_tell ∈ TB := TB_t4 5 rfl rfl
theorem mv_yX0_tell : Cond.instanceMethod yX0_tell ∈ TB ∧ Cond.selects yX0_tell.cls yX0_tell yX0_tell ∈ TB := ⟨mim_yX0_tell, msel_yX0_tell⟩
theorem mf_X6_229 : Cond.fieldLink RX6 229 "CellKeeper$Guard" "prices" "[I" ∈ TB := TB_t1 120 rfl rfl
theorem ml_X6_232 : Cond.methodLink RX6 232 yX4_priceOfKept ∈ TB := TB_t4 11 rfl rfl
theorem mcode_yX4_priceOfKept : Cond.code yX4_priceOfKept cX4_priceOfKept 6 (some .int) ∈ TB := TB_t4 14 rfl rfl
theorem mi_yX4_priceOfKept : MI yX4_priceOfKept cX4_priceOfKept 6 (some .int) 0 := ⟨mz_RX4, mcode_yX4_priceOfKept, by decide +kernel, by decide +kernel, by decide +kernel⟩
theorem mim_yX4_priceOfKept : Cond.instanceMethod yX4_priceOfKept ∈ TB := TB_t4 12 rfl rfl
theorem msel_yX4_priceOfKept : Cond.selects yX4_priceOfKept.cls yX4_priceOfKept yX4_priceOfKept ∈ TB := TB_t4 13 rfl rfl
theorem mv_yX4_priceOfKept : Cond.instanceMethod yX4_priceOfKept ∈ TB ∧ Cond.selects yX4_priceOfKept.cls yX4_priceOfKept yX4_priceOfKept ∈ TB := ⟨mim_yX4_priceOfKept, msel_yX4_priceOfKept⟩
theorem ml_X6_235 : Cond.methodLink RX6 235 yX3_fill ∈ TB := TB_t4 20 rfl rfl
theorem mcode_yX3_fill : Cond.code yX3_fill cX3_fill 5 (some .int) ∈ TB := TB_t4 23 rfl rfl
theorem mi_yX3_fill : MI yX3_fill cX3_fill 5 (some .int) 3 := ⟨mz_RX3, mcode_yX3_fill, by decide +kernel, by decide +kernel, by decide +kernel⟩
theorem mim_yX3_fill : Cond.instanceMethod yX3_fill ∈ TB := TB_t4 21 rfl rfl
theorem msel_yX3_fill : Cond.selects yX3_fill.cls yX3_fill yX3_fill ∈ TB := TB_t4 22 rfl rfl
theorem mv_yX3_fill : Cond.instanceMethod yX3_fill ∈ TB ∧ Cond.selects yX3_fill.cls yX3_fill yX3_fill ∈ TB := ⟨mim_yX3_fill, msel_yX3_fill⟩
theorem ml_X6_239 : Cond.methodLink RX6 239 yX2_showOpenly ∈ TB := TB_t4 73 rfl rfl
theorem mcode_yX2_showOpenly : Cond.code yX2_showOpenly cX2_showOpenly 6 none ∈ TB := TB_t4 76 rfl rfl
theorem mi_yX2_showOpenly : MI yX2_showOpenly cX2_showOpenly 6 none 1 := ⟨mz_RX2, mcode_yX2_showOpenly, by decide +kernel, by decide +kernel, by decide +kernel⟩
theorem mim_yX2_showOpenly : Cond.instanceMethod yX2_showOpenly ∈ TB := TB_t4 74 rfl rfl
theorem msel_yX2_showOpenly : Cond.selects yX2_showOpenly.cls yX2_showOpenly yX2_showOpenly ∈ TB := TB_t4 75 rfl rfl
theorem mv_yX2_showOpenly : Cond.instanceMethod yX2_showOpenly ∈ TB ∧ Cond.selects yX2_showOpenly.cls yX2_showOpenly yX2_showOpenly ∈ TB := ⟨mim_yX2_showOpenly, msel_yX2_showOpenly⟩
theorem ml_X6_242 : Cond.methodLink RX6 242 yX6_isGift ∈ TB := TB_t4 81 rfl rfl
theorem mcode_yX6_isGift : Cond.code yX6_isGift cX6_isGift 2 (some .boolean) ∈ TB := TB_t4 84 rfl rfl
theorem mi_yX6_isGift : MI yX6_isGift cX6_isGift 2 (some .boolean) 1 := ⟨mz_RX6, mcode_yX6_isGift, by decide +kernel, by decide +kernel, by decide +kernel⟩
theorem mim_yX6_isGift : Cond.instanceMethod yX6_isGift ∈ TB := TB_t4 83 rfl rfl
theorem msel_yX6_isGift : Cond.selects yX6_isGift.cls yX6_isGift yX6_isGift ∈ TB := TB_s (n := 10) 40 (by decide +kernel)
theorem mv_yX6_isGift : Cond.instanceMethod yX6_isGift ∈ TB ∧ Cond.selects yX6_isGift.cls yX6_isGift yX6_isGift ∈ TB := ⟨mim_yX6_isGift, msel_yX6_isGift⟩
theorem ml_X6_245 : Cond.methodLink RX6 245 yX1_firstUnlike ∈ TB := TB_t4 89 rfl rfl
theorem mcode_yX1_firstUnlike : Cond.code yX1_firstUnlike cX1_firstUnlike 8 (some .int) ∈ TB := TB_t4 92 rfl rfl
theorem mi_yX1_firstUnlike : MI yX1_firstUnlike cX1_firstUnlike 8 (some .int) 1 := ⟨mz_RX1, mcode_yX1_firstUnlike, by decide +kernel, by decide +kernel, by decide +kernel⟩
theorem mim_yX1_firstUnlike : Cond.instanceMethod yX1_firstUnlike ∈ TB := TB_t4 90 rfl rfl
theorem msel_yX1_firstUnlike : Cond.selects yX1_firstUnlike.cls yX1_firstUnlike yX1_firstUnlike ∈ TB := TB_t4 91 rfl rfl
theorem mv_yX1_firstUnlike : Cond.instanceMethod yX1_firstUnlike ∈ TB ∧ Cond.selects yX1_firstUnlike.cls yX1_firstUnlike yX1_firstUnlike ∈ TB := ⟨mim_yX1_firstUnlike, msel_yX1_firstUnlike⟩
theorem kcX6_status_0 : CHb cX6_status 0 [42, 180, 0, 9, 172] := CHb_of (by decide +kernel)
theorem dX6_status_0 : decode cX6_status 0 = .ok (.aload_n 0, 1) := dw_42 (kcX6_status_0 0 42 rfl)
theorem dX6_status_1 : decode cX6_status 1 = .ok (.getfield 9, 3) := dw_180 (kcX6_status_0 1 180 rfl) (kcX6_status_0 2 0 rfl) (kcX6_status_0 3 9 rfl) rfl
theorem dX6_status_4 : decode cX6_status 4 = .ok (.ireturn, 1) := dw_172 (kcX6_status_0 4 172 rfl)
theorem kcX6_rowStatus_0 : CHb cX6_rowStatus 0 [42, 27, 182, 0, 73, 62, 29, 153, 0, 5, 29, 172, 28, 155, 0, 20, 28, 42, 180, 0, 15, 27, 50, 180, 0, 119, 162, 0, 7, 3, 167, 0, 4, 5, 172] := CHb_of (by decide +kernel)
theorem dX6_rowStatus_0 : decode cX6_rowStatus 0 = .ok (.aload_n 0, 1) := dw_42 (kcX6_rowStatus_0 0 42 rfl)
theorem dX6_rowStatus_1 : decode cX6_rowStatus 1 = .ok (.iload_n 1, 1) := dw_27 (kcX6_rowStatus_0 1 27 rfl)
theorem dX6_rowStatus_2 : decode cX6_rowStatus 2 = .ok (.invokevirtual 73, 3) := dw_182 (kcX6_rowStatus_0 2 182 rfl) (kcX6_rowStatus_0 3 0 rfl) (kcX6_rowStatus_0 4 73 rfl) rfl
theorem dX6_rowStatus_5 : decode cX6_rowStatus 5 = .ok (.istore_n 3, 1) := dw_62 (kcX6_rowStatus_0 5 62 rfl)
theorem dX6_rowStatus_6 : decode cX6_rowStatus 6 = .ok (.iload_n 3, 1) := dw_29 (kcX6_rowStatus_0 6 29 rfl)
theorem dX6_rowStatus_7 : decode cX6_rowStatus 7 = .ok (.ifCond .eq 5, 3) := dw_153 (kcX6_rowStatus_0 7 153 rfl) (kcX6_rowStatus_0 8 0 rfl) (kcX6_rowStatus_0 9 5 rfl) rfl
theorem dX6_rowStatus_12 : decode cX6_rowStatus 12 = .ok (.iload_n 2, 1) := dw_28 (kcX6_rowStatus_0 12 28 rfl)
theorem dX6_rowStatus_13 : decode cX6_rowStatus 13 = .ok (.ifCond .lt 20, 3) := dw_155 (kcX6_rowStatus_0 13 155 rfl) (kcX6_rowStatus_0 14 0 rfl) (kcX6_rowStatus_0 15 20 rfl) rfl
theorem dX6_rowStatus_33 : decode cX6_rowStatus 33 = .ok (.iconst 2, 1) := dw_5 (kcX6_rowStatus_0 33 5 rfl)
theorem dX6_rowStatus_34 : decode cX6_rowStatus 34 = .ok (.ireturn, 1) := dw_172 (kcX6_rowStatus_0 34 172 rfl)
theorem dX6_rowStatus_16 : decode cX6_rowStatus 16 = .ok (.iload_n 2, 1) := dw_28 (kcX6_rowStatus_0 16 28 rfl)
theorem dX6_rowStatus_17 : decode cX6_rowStatus 17 = .ok (.aload_n 0, 1) := dw_42 (kcX6_rowStatus_0 17 42 rfl)
theorem dX6_rowStatus_18 : decode cX6_rowStatus 18 = .ok (.getfield 15, 3) := dw_180 (kcX6_rowStatus_0 18 180 rfl) (kcX6_rowStatus_0 19 0 rfl) (kcX6_rowStatus_0 20 15 rfl) rfl
theorem dX6_rowStatus_21 : decode cX6_rowStatus 21 = .ok (.iload_n 1, 1) := dw_27 (kcX6_rowStatus_0 21 27 rfl)
theorem dX6_rowStatus_22 : decode cX6_rowStatus 22 = .ok (.aaload, 1) := dw_50 (kcX6_rowStatus_0 22 50 rfl)
theorem dX6_rowStatus_23 : decode cX6_rowStatus 23 = .ok (.getfield 119, 3) := dw_180 (kcX6_rowStatus_0 23 180 rfl) (kcX6_rowStatus_0 24 0 rfl) (kcX6_rowStatus_0 25 119 rfl) rfl
theorem dX6_rowStatus_26 : decode cX6_rowStatus 26 = .ok (.if_icmp .ge 7, 3) := dw_162 (kcX6_rowStatus_0 26 162 rfl) (kcX6_rowStatus_0 27 0 rfl) (kcX6_rowStatus_0 28 7 rfl) rfl
theorem dX6_rowStatus_29 : decode cX6_rowStatus 29 = .ok (.iconst 0, 1) := dw_3 (kcX6_rowStatus_0 29 3 rfl)
theorem dX6_rowStatus_30 : decode cX6_rowStatus 30 = .ok (.goto 4, 3) := dw_167 (kcX6_rowStatus_0 30 167 rfl) (kcX6_rowStatus_0 31 0 rfl) (kcX6_rowStatus_0 32 4 rfl) rfl
theorem dX6_rowStatus_10 : decode cX6_rowStatus 10 = .ok (.iload_n 3, 1) := dw_29 (kcX6_rowStatus_0 10 29 rfl)
theorem dX6_rowStatus_11 : decode cX6_rowStatus 11 = .ok (.ireturn, 1) := dw_172 (kcX6_rowStatus_0 11 172 rfl)
theorem kcX6_placeStatus_0 : CHb cX6_placeStatus 0 [42, 27, 28, 182, 0, 110, 54, 4, 21, 4, 153, 0, 6, 21, 4, 172, 29, 155, 0, 16, 29, 42, 180, 0, 15, 27, 50, 180, 0, 159, 161, 0, 5, 5, 172, 42, 180, 0, 15, 27, 50, 180, 0, 113, 28, 46, 54, 5, 21, 5, 154, 0, 5, 6, 172, 29, 21, 5, 162, 0, 7, 3, 167, 0] := CHb_of (by decide +kernel)
theorem dX6_placeStatus_0 : decode cX6_placeStatus 0 = .ok (.aload_n 0, 1) := dw_42 (kcX6_placeStatus_0 0 42 rfl)
theorem dX6_placeStatus_1 : decode cX6_placeStatus 1 = .ok (.iload_n 1, 1) := dw_27 (kcX6_placeStatus_0 1 27 rfl)
theorem dX6_placeStatus_2 : decode cX6_placeStatus 2 = .ok (.iload_n 2, 1) := dw_28 (kcX6_placeStatus_0 2 28 rfl)
theorem dX6_placeStatus_3 : decode cX6_placeStatus 3 = .ok (.invokevirtual 110, 3) := dw_182 (kcX6_placeStatus_0 3 182 rfl) (kcX6_placeStatus_0 4 0 rfl) (kcX6_placeStatus_0 5 110 rfl) rfl
theorem dX6_placeStatus_6 : decode cX6_placeStatus 6 = .ok (.istore 4, 2) := dw_54 (kcX6_placeStatus_0 6 54 rfl) (kcX6_placeStatus_0 7 4 rfl)
theorem dX6_placeStatus_8 : decode cX6_placeStatus 8 = .ok (.iload 4, 2) := dw_21 (kcX6_placeStatus_0 8 21 rfl) (kcX6_placeStatus_0 9 4 rfl)
theorem dX6_placeStatus_10 : decode cX6_placeStatus 10 = .ok (.ifCond .eq 6, 3) := dw_153 (kcX6_placeStatus_0 10 153 rfl) (kcX6_placeStatus_0 11 0 rfl) (kcX6_placeStatus_0 12 6 rfl) rfl
theorem dX6_placeStatus_16 : decode cX6_placeStatus 16 = .ok (.iload_n 3, 1) := dw_29 (kcX6_placeStatus_0 16 29 rfl)
theorem dX6_placeStatus_17 : decode cX6_placeStatus 17 = .ok (.ifCond .lt 16, 3) := dw_155 (kcX6_placeStatus_0 17 155 rfl) (kcX6_placeStatus_0 18 0 rfl) (kcX6_placeStatus_0 19 16 rfl) rfl
theorem dX6_placeStatus_33 : decode cX6_placeStatus 33 = .ok (.iconst 2, 1) := dw_5 (kcX6_placeStatus_0 33 5 rfl)
theorem dX6_placeStatus_34 : decode cX6_placeStatus 34 = .ok (.ireturn, 1) := dw_172 (kcX6_placeStatus_0 34 172 rfl)
theorem dX6_placeStatus_20 : decode cX6_placeStatus 20 = .ok (.iload_n 3, 1) := dw_29 (kcX6_placeStatus_0 20 29 rfl)
theorem dX6_placeStatus_21 : decode cX6_placeStatus 21 = .ok (.aload_n 0, 1) := dw_42 (kcX6_placeStatus_0 21 42 rfl)
theorem dX6_placeStatus_22 : decode cX6_placeStatus 22 = .ok (.getfield 15, 3) := dw_180 (kcX6_placeStatus_0 22 180 rfl) (kcX6_placeStatus_0 23 0 rfl) (kcX6_placeStatus_0 24 15 rfl) rfl
theorem dX6_placeStatus_25 : decode cX6_placeStatus 25 = .ok (.iload_n 1, 1) := dw_27 (kcX6_placeStatus_0 25 27 rfl)
theorem dX6_placeStatus_26 : decode cX6_placeStatus 26 = .ok (.aaload, 1) := dw_50 (kcX6_placeStatus_0 26 50 rfl)
theorem dX6_placeStatus_27 : decode cX6_placeStatus 27 = .ok (.getfield 159, 3) := dw_180 (kcX6_placeStatus_0 27 180 rfl) (kcX6_placeStatus_0 28 0 rfl) (kcX6_placeStatus_0 29 159 rfl) rfl
theorem dX6_placeStatus_30 : decode cX6_placeStatus 30 = .ok (.if_icmp .lt 5, 3) := dw_161 (kcX6_placeStatus_0 30 161 rfl) (kcX6_placeStatus_0 31 0 rfl) (kcX6_placeStatus_0 32 5 rfl) rfl
theorem dX6_placeStatus_35 : decode cX6_placeStatus 35 = .ok (.aload_n 0, 1) := dw_42 (kcX6_placeStatus_0 35 42 rfl)
theorem dX6_placeStatus_36 : decode cX6_placeStatus 36 = .ok (.getfield 15, 3) := dw_180 (kcX6_placeStatus_0 36 180 rfl) (kcX6_placeStatus_0 37 0 rfl) (kcX6_placeStatus_0 38 15 rfl) rfl
theorem dX6_placeStatus_39 : decode cX6_placeStatus 39 = .ok (.iload_n 1, 1) := dw_27 (kcX6_placeStatus_0 39 27 rfl)
theorem dX6_placeStatus_40 : decode cX6_placeStatus 40 = .ok (.aaload, 1) := dw_50 (kcX6_placeStatus_0 40 50 rfl)
theorem dX6_placeStatus_41 : decode cX6_placeStatus 41 = .ok (.getfield 113, 3) := dw_180 (kcX6_placeStatus_0 41 180 rfl) (kcX6_placeStatus_0 42 0 rfl) (kcX6_placeStatus_0 43 113 rfl) rfl
theorem dX6_placeStatus_44 : decode cX6_placeStatus 44 = .ok (.iload_n 2, 1) := dw_28 (kcX6_placeStatus_0 44 28 rfl)
theorem dX6_placeStatus_45 : decode cX6_placeStatus 45 = .ok (.iaload, 1) := dw_46 (kcX6_placeStatus_0 45 46 rfl)
theorem dX6_placeStatus_46 : decode cX6_placeStatus 46 = .ok (.istore 5, 2) := dw_54 (kcX6_placeStatus_0 46 54 rfl) (kcX6_placeStatus_0 47 5 rfl)
theorem dX6_placeStatus_48 : decode cX6_placeStatus 48 = .ok (.iload 5, 2) := dw_21 (kcX6_placeStatus_0 48 21 rfl) (kcX6_placeStatus_0 49 5 rfl)
theorem dX6_placeStatus_50 : decode cX6_placeStatus 50 = .ok (.ifCond .ne 5, 3) := dw_154 (kcX6_placeStatus_0 50 154 rfl) (kcX6_placeStatus_0 51 0 rfl) (kcX6_placeStatus_0 52 5 rfl) rfl
theorem dX6_placeStatus_55 : decode cX6_placeStatus 55 = .ok (.iload_n 3, 1) := dw_29 (kcX6_placeStatus_0 55 29 rfl)
theorem dX6_placeStatus_56 : decode cX6_placeStatus 56 = .ok (.iload 5, 2) := dw_21 (kcX6_placeStatus_0 56 21 rfl) (kcX6_placeStatus_0 57 5 rfl)
theorem dX6_placeStatus_58 : decode cX6_placeStatus 58 = .ok (.if_icmp .ge 7, 3) := dw_162 (kcX6_placeStatus_0 58 162 rfl) (kcX6_placeStatus_0 59 0 rfl) (kcX6_placeStatus_0 60 7 rfl) rfl
theorem kcX6_placeStatus_1 : CHb cX6_placeStatus 64 [4, 7, 172] := CHb_of (by decide +kernel)
theorem dX6_placeStatus_65 : decode cX6_placeStatus 65 = .ok (.iconst 4, 1) := dw_7 (kcX6_placeStatus_1 1 7 rfl)
theorem dX6_placeStatus_66 : decode cX6_placeStatus 66 = .ok (.ireturn, 1) := dw_172 (kcX6_placeStatus_1 2 172 rfl)
theorem dX6_placeStatus_61 : decode cX6_placeStatus 61 = .ok (.iconst 0, 1) := dw_3 (kcX6_placeStatus_0 61 3 rfl)
theorem dX6_placeStatus_62 : decode cX6_placeStatus 62 = .ok (.goto 4, 3) := dw_167 (kcX6_placeStatus_0 62 167 rfl) (kcX6_placeStatus_0 63 0 rfl) (kcX6_placeStatus_1 0 4 rfl) rfl
theorem dX6_placeStatus_53 : decode cX6_placeStatus 53 = .ok (.iconst 3, 1) := dw_6 (kcX6_placeStatus_0 53 6 rfl)
theorem dX6_placeStatus_54 : decode cX6_placeStatus 54 = .ok (.ireturn, 1) := dw_172 (kcX6_placeStatus_0 54 172 rfl)
theorem dX6_placeStatus_13 : decode cX6_placeStatus 13 = .ok (.iload 4, 2) := dw_21 (kcX6_placeStatus_0 13 21 rfl) (kcX6_placeStatus_0 14 4 rfl)
theorem dX6_placeStatus_15 : decode cX6_placeStatus 15 = .ok (.ireturn, 1) := dw_172 (kcX6_placeStatus_0 15 172 rfl)
theorem kcX6_filledStatus_0 : CHb cX6_filledStatus 0 [42, 27, 28, 29, 182, 0, 84, 54, 4, 21, 4, 153, 0, 6, 21, 4, 172, 42, 180, 0, 15, 27, 50, 180, 0, 134, 28, 29, 184, 0, 92, 46, 154, 0, 7, 8, 167, 0, 4, 3, 172] := CHb_of (by decide +kernel)
theorem dX6_filledStatus_0 : decode cX6_filledStatus 0 = .ok (.aload_n 0, 1) := dw_42 (kcX6_filledStatus_0 0 42 rfl)
theorem dX6_filledStatus_1 : decode cX6_filledStatus 1 = .ok (.iload_n 1, 1) := dw_27 (kcX6_filledStatus_0 1 27 rfl)
theorem dX6_filledStatus_2 : decode cX6_filledStatus 2 = .ok (.iload_n 2, 1) := dw_28 (kcX6_filledStatus_0 2 28 rfl)
theorem dX6_filledStatus_3 : decode cX6_filledStatus 3 = .ok (.iload_n 3, 1) := dw_29 (kcX6_filledStatus_0 3 29 rfl)
theorem dX6_filledStatus_4 : decode cX6_filledStatus 4 = .ok (.invokevirtual 84, 3) := dw_182 (kcX6_filledStatus_0 4 182 rfl) (kcX6_filledStatus_0 5 0 rfl) (kcX6_filledStatus_0 6 84 rfl) rfl
theorem dX6_filledStatus_7 : decode cX6_filledStatus 7 = .ok (.istore 4, 2) := dw_54 (kcX6_filledStatus_0 7 54 rfl) (kcX6_filledStatus_0 8 4 rfl)
theorem dX6_filledStatus_9 : decode cX6_filledStatus 9 = .ok (.iload 4, 2) := dw_21 (kcX6_filledStatus_0 9 21 rfl) (kcX6_filledStatus_0 10 4 rfl)
theorem dX6_filledStatus_11 : decode cX6_filledStatus 11 = .ok (.ifCond .eq 6, 3) := dw_153 (kcX6_filledStatus_0 11 153 rfl) (kcX6_filledStatus_0 12 0 rfl) (kcX6_filledStatus_0 13 6 rfl) rfl
theorem dX6_filledStatus_17 : decode cX6_filledStatus 17 = .ok (.aload_n 0, 1) := dw_42 (kcX6_filledStatus_0 17 42 rfl)
theorem dX6_filledStatus_18 : decode cX6_filledStatus 18 = .ok (.getfield 15, 3) := dw_180 (kcX6_filledStatus_0 18 180 rfl) (kcX6_filledStatus_0 19 0 rfl) (kcX6_filledStatus_0 20 15 rfl) rfl
theorem dX6_filledStatus_21 : decode cX6_filledStatus 21 = .ok (.iload_n 1, 1) := dw_27 (kcX6_filledStatus_0 21 27 rfl)
theorem dX6_filledStatus_22 : decode cX6_filledStatus 22 = .ok (.aaload, 1) := dw_50 (kcX6_filledStatus_0 22 50 rfl)
theorem dX6_filledStatus_23 : decode cX6_filledStatus 23 = .ok (.getfield 134, 3) := dw_180 (kcX6_filledStatus_0 23 180 rfl) (kcX6_filledStatus_0 24 0 rfl) (kcX6_filledStatus_0 25 134 rfl) rfl
theorem dX6_filledStatus_26 : decode cX6_filledStatus 26 = .ok (.iload_n 2, 1) := dw_28 (kcX6_filledStatus_0 26 28 rfl)
theorem dX6_filledStatus_27 : decode cX6_filledStatus 27 = .ok (.iload_n 3, 1) := dw_29 (kcX6_filledStatus_0 27 29 rfl)
theorem dX6_filledStatus_28 : decode cX6_filledStatus 28 = .ok (.invokestatic 92, 3) := dw_184 (kcX6_filledStatus_0 28 184 rfl) (kcX6_filledStatus_0 29 0 rfl) (kcX6_filledStatus_0 30 92 rfl) rfl
theorem dX6_filledStatus_31 : decode cX6_filledStatus 31 = .ok (.iaload, 1) := dw_46 (kcX6_filledStatus_0 31 46 rfl)
theorem dX6_filledStatus_32 : decode cX6_filledStatus 32 = .ok (.ifCond .ne 7, 3) := dw_154 (kcX6_filledStatus_0 32 154 rfl) (kcX6_filledStatus_0 33 0 rfl) (kcX6_filledStatus_0 34 7 rfl) rfl
theorem dX6_filledStatus_39 : decode cX6_filledStatus 39 = .ok (.iconst 0, 1) := dw_3 (kcX6_filledStatus_0 39 3 rfl)
theorem dX6_filledStatus_40 : decode cX6_filledStatus 40 = .ok (.ireturn, 1) := dw_172 (kcX6_filledStatus_0 40 172 rfl)
theorem dX6_filledStatus_35 : decode cX6_filledStatus 35 = .ok (.iconst 5, 1) := dw_8 (kcX6_filledStatus_0 35 8 rfl)
theorem dX6_filledStatus_36 : decode cX6_filledStatus 36 = .ok (.goto 4, 3) := dw_167 (kcX6_filledStatus_0 36 167 rfl) (kcX6_filledStatus_0 37 0 rfl) (kcX6_filledStatus_0 38 4 rfl) rfl
theorem dX6_filledStatus_14 : decode cX6_filledStatus 14 = .ok (.iload 4, 2) := dw_21 (kcX6_filledStatus_0 14 21 rfl) (kcX6_filledStatus_0 15 4 rfl)
theorem dX6_filledStatus_16 : decode cX6_filledStatus 16 = .ok (.ireturn, 1) := dw_172 (kcX6_filledStatus_0 16 172 rfl)
theorem kcX6_cellStatus_0 : CHb cX6_cellStatus 0 [42, 27, 28, 29, 182, 0, 107, 54, 4, 21, 4, 153, 0, 6, 21, 4, 172, 42, 180, 0, 15, 27, 50, 180, 0, 134, 28, 29, 184, 0, 92, 46, 8, 160, 0, 8, 16, 6, 167, 0, 4, 3, 172] := CHb_of (by decide +kernel)
theorem dX6_cellStatus_0 : decode cX6_cellStatus 0 = .ok (.aload_n 0, 1) := dw_42 (kcX6_cellStatus_0 0 42 rfl)
theorem dX6_cellStatus_1 : decode cX6_cellStatus 1 = .ok (.iload_n 1, 1) := dw_27 (kcX6_cellStatus_0 1 27 rfl)
theorem dX6_cellStatus_2 : decode cX6_cellStatus 2 = .ok (.iload_n 2, 1) := dw_28 (kcX6_cellStatus_0 2 28 rfl)
theorem dX6_cellStatus_3 : decode cX6_cellStatus 3 = .ok (.iload_n 3, 1) := dw_29 (kcX6_cellStatus_0 3 29 rfl)
theorem dX6_cellStatus_4 : decode cX6_cellStatus 4 = .ok (.invokevirtual 107, 3) := dw_182 (kcX6_cellStatus_0 4 182 rfl) (kcX6_cellStatus_0 5 0 rfl) (kcX6_cellStatus_0 6 107 rfl) rfl
theorem dX6_cellStatus_7 : decode cX6_cellStatus 7 = .ok (.istore 4, 2) := dw_54 (kcX6_cellStatus_0 7 54 rfl) (kcX6_cellStatus_0 8 4 rfl)
theorem dX6_cellStatus_9 : decode cX6_cellStatus 9 = .ok (.iload 4, 2) := dw_21 (kcX6_cellStatus_0 9 21 rfl) (kcX6_cellStatus_0 10 4 rfl)
theorem dX6_cellStatus_11 : decode cX6_cellStatus 11 = .ok (.ifCond .eq 6, 3) := dw_153 (kcX6_cellStatus_0 11 153 rfl) (kcX6_cellStatus_0 12 0 rfl) (kcX6_cellStatus_0 13 6 rfl) rfl
theorem dX6_cellStatus_17 : decode cX6_cellStatus 17 = .ok (.aload_n 0, 1) := dw_42 (kcX6_cellStatus_0 17 42 rfl)
theorem dX6_cellStatus_18 : decode cX6_cellStatus 18 = .ok (.getfield 15, 3) := dw_180 (kcX6_cellStatus_0 18 180 rfl) (kcX6_cellStatus_0 19 0 rfl) (kcX6_cellStatus_0 20 15 rfl) rfl
theorem dX6_cellStatus_21 : decode cX6_cellStatus 21 = .ok (.iload_n 1, 1) := dw_27 (kcX6_cellStatus_0 21 27 rfl)
theorem dX6_cellStatus_22 : decode cX6_cellStatus 22 = .ok (.aaload, 1) := dw_50 (kcX6_cellStatus_0 22 50 rfl)
theorem dX6_cellStatus_23 : decode cX6_cellStatus 23 = .ok (.getfield 134, 3) := dw_180 (kcX6_cellStatus_0 23 180 rfl) (kcX6_cellStatus_0 24 0 rfl) (kcX6_cellStatus_0 25 134 rfl) rfl
theorem dX6_cellStatus_26 : decode cX6_cellStatus 26 = .ok (.iload_n 2, 1) := dw_28 (kcX6_cellStatus_0 26 28 rfl)
theorem dX6_cellStatus_27 : decode cX6_cellStatus 27 = .ok (.iload_n 3, 1) := dw_29 (kcX6_cellStatus_0 27 29 rfl)
theorem dX6_cellStatus_28 : decode cX6_cellStatus 28 = .ok (.invokestatic 92, 3) := dw_184 (kcX6_cellStatus_0 28 184 rfl) (kcX6_cellStatus_0 29 0 rfl) (kcX6_cellStatus_0 30 92 rfl) rfl
theorem dX6_cellStatus_31 : decode cX6_cellStatus 31 = .ok (.iaload, 1) := dw_46 (kcX6_cellStatus_0 31 46 rfl)
theorem dX6_cellStatus_32 : decode cX6_cellStatus 32 = .ok (.iconst 5, 1) := dw_8 (kcX6_cellStatus_0 32 8 rfl)
theorem dX6_cellStatus_33 : decode cX6_cellStatus 33 = .ok (.if_icmp .ne 8, 3) := dw_160 (kcX6_cellStatus_0 33 160 rfl) (kcX6_cellStatus_0 34 0 rfl) (kcX6_cellStatus_0 35 8 rfl) rfl
theorem dX6_cellStatus_41 : decode cX6_cellStatus 41 = .ok (.iconst 0, 1) := dw_3 (kcX6_cellStatus_0 41 3 rfl)
theorem dX6_cellStatus_42 : decode cX6_cellStatus 42 = .ok (.ireturn, 1) := dw_172 (kcX6_cellStatus_0 42 172 rfl)
theorem dX6_cellStatus_36 : decode cX6_cellStatus 36 = .ok (.bipush 6, 2) := dw_16 (kcX6_cellStatus_0 36 16 rfl) (kcX6_cellStatus_0 37 6 rfl) rfl
theorem dX6_cellStatus_38 : decode cX6_cellStatus 38 = .ok (.goto 4, 3) := dw_167 (kcX6_cellStatus_0 38 167 rfl) (kcX6_cellStatus_0 39 0 rfl) (kcX6_cellStatus_0 40 4 rfl) rfl
theorem dX6_cellStatus_14 : decode cX6_cellStatus 14 = .ok (.iload 4, 2) := dw_21 (kcX6_cellStatus_0 14 21 rfl) (kcX6_cellStatus_0 15 4 rfl)
theorem dX6_cellStatus_16 : decode cX6_cellStatus 16 = .ok (.ireturn, 1) := dw_172 (kcX6_cellStatus_0 16 172 rfl)
theorem kcX6_guardableStatus_0 : CHb cX6_guardableStatus 0 [42, 27, 28, 29, 182, 0, 174, 54, 4, 21, 4, 153, 0, 6, 21, 4, 172, 42, 180, 0, 15, 27, 50, 180, 0, 134, 28, 29, 184, 0, 92, 46, 7, 160, 0, 8, 16, 6, 167, 0, 4, 3, 172] := CHb_of (by decide +kernel)
theorem dX6_guardableStatus_0 : decode cX6_guardableStatus 0 = .ok (.aload_n 0, 1) := dw_42 (kcX6_guardableStatus_0 0 42 rfl)
theorem dX6_guardableStatus_1 : decode cX6_guardableStatus 1 = .ok (.iload_n 1, 1) := dw_27 (kcX6_guardableStatus_0 1 27 rfl)
theorem dX6_guardableStatus_2 : decode cX6_guardableStatus 2 = .ok (.iload_n 2, 1) := dw_28 (kcX6_guardableStatus_0 2 28 rfl)
theorem dX6_guardableStatus_3 : decode cX6_guardableStatus 3 = .ok (.iload_n 3, 1) := dw_29 (kcX6_guardableStatus_0 3 29 rfl)
theorem dX6_guardableStatus_4 : decode cX6_guardableStatus 4 = .ok (.invokevirtual 174, 3) := dw_182 (kcX6_guardableStatus_0 4 182 rfl) (kcX6_guardableStatus_0 5 0 rfl) (kcX6_guardableStatus_0 6 174 rfl) rfl
theorem dX6_guardableStatus_7 : decode cX6_guardableStatus 7 = .ok (.istore 4, 2) := dw_54 (kcX6_guardableStatus_0 7 54 rfl) (kcX6_guardableStatus_0 8 4 rfl)
theorem dX6_guardableStatus_9 : decode cX6_guardableStatus 9 = .ok (.iload 4, 2) := dw_21 (kcX6_guardableStatus_0 9 21 rfl) (kcX6_guardableStatus_0 10 4 rfl)
theorem dX6_guardableStatus_11 : decode cX6_guardableStatus 11 = .ok (.ifCond .eq 6, 3) := dw_153 (kcX6_guardableStatus_0 11 153 rfl) (kcX6_guardableStatus_0 12 0 rfl) (kcX6_guardableStatus_0 13 6 rfl) rfl
theorem dX6_guardableStatus_17 : decode cX6_guardableStatus 17 = .ok (.aload_n 0, 1) := dw_42 (kcX6_guardableStatus_0 17 42 rfl)
theorem dX6_guardableStatus_18 : decode cX6_guardableStatus 18 = .ok (.getfield 15, 3) := dw_180 (kcX6_guardableStatus_0 18 180 rfl) (kcX6_guardableStatus_0 19 0 rfl) (kcX6_guardableStatus_0 20 15 rfl) rfl
theorem dX6_guardableStatus_21 : decode cX6_guardableStatus 21 = .ok (.iload_n 1, 1) := dw_27 (kcX6_guardableStatus_0 21 27 rfl)
theorem dX6_guardableStatus_22 : decode cX6_guardableStatus 22 = .ok (.aaload, 1) := dw_50 (kcX6_guardableStatus_0 22 50 rfl)
theorem dX6_guardableStatus_23 : decode cX6_guardableStatus 23 = .ok (.getfield 134, 3) := dw_180 (kcX6_guardableStatus_0 23 180 rfl) (kcX6_guardableStatus_0 24 0 rfl) (kcX6_guardableStatus_0 25 134 rfl) rfl
theorem dX6_guardableStatus_26 : decode cX6_guardableStatus 26 = .ok (.iload_n 2, 1) := dw_28 (kcX6_guardableStatus_0 26 28 rfl)
theorem dX6_guardableStatus_27 : decode cX6_guardableStatus 27 = .ok (.iload_n 3, 1) := dw_29 (kcX6_guardableStatus_0 27 29 rfl)
theorem dX6_guardableStatus_28 : decode cX6_guardableStatus 28 = .ok (.invokestatic 92, 3) := dw_184 (kcX6_guardableStatus_0 28 184 rfl) (kcX6_guardableStatus_0 29 0 rfl) (kcX6_guardableStatus_0 30 92 rfl) rfl
theorem dX6_guardableStatus_31 : decode cX6_guardableStatus 31 = .ok (.iaload, 1) := dw_46 (kcX6_guardableStatus_0 31 46 rfl)
theorem dX6_guardableStatus_32 : decode cX6_guardableStatus 32 = .ok (.iconst 4, 1) := dw_7 (kcX6_guardableStatus_0 32 7 rfl)
theorem dX6_guardableStatus_33 : decode cX6_guardableStatus 33 = .ok (.if_icmp .ne 8, 3) := dw_160 (kcX6_guardableStatus_0 33 160 rfl) (kcX6_guardableStatus_0 34 0 rfl) (kcX6_guardableStatus_0 35 8 rfl) rfl
theorem dX6_guardableStatus_41 : decode cX6_guardableStatus 41 = .ok (.iconst 0, 1) := dw_3 (kcX6_guardableStatus_0 41 3 rfl)
theorem dX6_guardableStatus_42 : decode cX6_guardableStatus 42 = .ok (.ireturn, 1) := dw_172 (kcX6_guardableStatus_0 42 172 rfl)
theorem dX6_guardableStatus_36 : decode cX6_guardableStatus 36 = .ok (.bipush 6, 2) := dw_16 (kcX6_guardableStatus_0 36 16 rfl) (kcX6_guardableStatus_0 37 6 rfl) rfl
theorem dX6_guardableStatus_38 : decode cX6_guardableStatus 38 = .ok (.goto 4, 3) := dw_167 (kcX6_guardableStatus_0 38 167 rfl) (kcX6_guardableStatus_0 39 0 rfl) (kcX6_guardableStatus_0 40 4 rfl) rfl
theorem dX6_guardableStatus_14 : decode cX6_guardableStatus 14 = .ok (.iload 4, 2) := dw_21 (kcX6_guardableStatus_0 14 21 rfl) (kcX6_guardableStatus_0 15 4 rfl)
theorem dX6_guardableStatus_16 : decode cX6_guardableStatus 16 = .ok (.ireturn, 1) := dw_172 (kcX6_guardableStatus_0 16 172 rfl)
theorem kcX6_amountStatus_0 : CHb cX6_amountStatus 0 [42, 27, 28, 29, 182, 0, 107, 54, 4, 21, 4, 153, 0, 6, 21, 4, 172, 42, 180, 0, 15, 27, 50, 180, 0, 134, 28, 29, 184, 0, 92, 46, 5, 160, 0, 7, 3, 167, 0, 5, 16, 6, 172] := CHb_of (by decide +kernel)
theorem dX6_amountStatus_0 : decode cX6_amountStatus 0 = .ok (.aload_n 0, 1) := dw_42 (kcX6_amountStatus_0 0 42 rfl)
theorem dX6_amountStatus_1 : decode cX6_amountStatus 1 = .ok (.iload_n 1, 1) := dw_27 (kcX6_amountStatus_0 1 27 rfl)
theorem dX6_amountStatus_2 : decode cX6_amountStatus 2 = .ok (.iload_n 2, 1) := dw_28 (kcX6_amountStatus_0 2 28 rfl)
theorem dX6_amountStatus_3 : decode cX6_amountStatus 3 = .ok (.iload_n 3, 1) := dw_29 (kcX6_amountStatus_0 3 29 rfl)
theorem dX6_amountStatus_4 : decode cX6_amountStatus 4 = .ok (.invokevirtual 107, 3) := dw_182 (kcX6_amountStatus_0 4 182 rfl) (kcX6_amountStatus_0 5 0 rfl) (kcX6_amountStatus_0 6 107 rfl) rfl
theorem dX6_amountStatus_7 : decode cX6_amountStatus 7 = .ok (.istore 4, 2) := dw_54 (kcX6_amountStatus_0 7 54 rfl) (kcX6_amountStatus_0 8 4 rfl)
theorem dX6_amountStatus_9 : decode cX6_amountStatus 9 = .ok (.iload 4, 2) := dw_21 (kcX6_amountStatus_0 9 21 rfl) (kcX6_amountStatus_0 10 4 rfl)
theorem dX6_amountStatus_11 : decode cX6_amountStatus 11 = .ok (.ifCond .eq 6, 3) := dw_153 (kcX6_amountStatus_0 11 153 rfl) (kcX6_amountStatus_0 12 0 rfl) (kcX6_amountStatus_0 13 6 rfl) rfl
theorem dX6_amountStatus_17 : decode cX6_amountStatus 17 = .ok (.aload_n 0, 1) := dw_42 (kcX6_amountStatus_0 17 42 rfl)
theorem dX6_amountStatus_18 : decode cX6_amountStatus 18 = .ok (.getfield 15, 3) := dw_180 (kcX6_amountStatus_0 18 180 rfl) (kcX6_amountStatus_0 19 0 rfl) (kcX6_amountStatus_0 20 15 rfl) rfl
theorem dX6_amountStatus_21 : decode cX6_amountStatus 21 = .ok (.iload_n 1, 1) := dw_27 (kcX6_amountStatus_0 21 27 rfl)
theorem dX6_amountStatus_22 : decode cX6_amountStatus 22 = .ok (.aaload, 1) := dw_50 (kcX6_amountStatus_0 22 50 rfl)
theorem dX6_amountStatus_23 : decode cX6_amountStatus 23 = .ok (.getfield 134, 3) := dw_180 (kcX6_amountStatus_0 23 180 rfl) (kcX6_amountStatus_0 24 0 rfl) (kcX6_amountStatus_0 25 134 rfl) rfl
theorem dX6_amountStatus_26 : decode cX6_amountStatus 26 = .ok (.iload_n 2, 1) := dw_28 (kcX6_amountStatus_0 26 28 rfl)
theorem dX6_amountStatus_27 : decode cX6_amountStatus 27 = .ok (.iload_n 3, 1) := dw_29 (kcX6_amountStatus_0 27 29 rfl)
theorem dX6_amountStatus_28 : decode cX6_amountStatus 28 = .ok (.invokestatic 92, 3) := dw_184 (kcX6_amountStatus_0 28 184 rfl) (kcX6_amountStatus_0 29 0 rfl) (kcX6_amountStatus_0 30 92 rfl) rfl
theorem dX6_amountStatus_31 : decode cX6_amountStatus 31 = .ok (.iaload, 1) := dw_46 (kcX6_amountStatus_0 31 46 rfl)
theorem dX6_amountStatus_32 : decode cX6_amountStatus 32 = .ok (.iconst 2, 1) := dw_5 (kcX6_amountStatus_0 32 5 rfl)
theorem dX6_amountStatus_33 : decode cX6_amountStatus 33 = .ok (.if_icmp .ne 7, 3) := dw_160 (kcX6_amountStatus_0 33 160 rfl) (kcX6_amountStatus_0 34 0 rfl) (kcX6_amountStatus_0 35 7 rfl) rfl
theorem dX6_amountStatus_40 : decode cX6_amountStatus 40 = .ok (.bipush 6, 2) := dw_16 (kcX6_amountStatus_0 40 16 rfl) (kcX6_amountStatus_0 41 6 rfl) rfl
theorem dX6_amountStatus_42 : decode cX6_amountStatus 42 = .ok (.ireturn, 1) := dw_172 (kcX6_amountStatus_0 42 172 rfl)
theorem dX6_amountStatus_36 : decode cX6_amountStatus 36 = .ok (.iconst 0, 1) := dw_3 (kcX6_amountStatus_0 36 3 rfl)
theorem dX6_amountStatus_37 : decode cX6_amountStatus 37 = .ok (.goto 5, 3) := dw_167 (kcX6_amountStatus_0 37 167 rfl) (kcX6_amountStatus_0 38 0 rfl) (kcX6_amountStatus_0 39 5 rfl) rfl
theorem dX6_amountStatus_14 : decode cX6_amountStatus 14 = .ok (.iload 4, 2) := dw_21 (kcX6_amountStatus_0 14 21 rfl) (kcX6_amountStatus_0 15 4 rfl)
theorem dX6_amountStatus_16 : decode cX6_amountStatus 16 = .ok (.ireturn, 1) := dw_172 (kcX6_amountStatus_0 16 172 rfl)
theorem kcX6_soundCellStatus_0 : CHb cX6_soundCellStatus 0 [42, 27, 28, 29, 182, 0, 174, 54, 4, 21, 4, 153, 0, 6, 21, 4, 172, 42, 180, 0, 15, 27, 50, 28, 182, 0, 153, 153, 0, 7, 3, 167, 0, 5, 16, 11, 172] := CHb_of (by decide +kernel)
theorem dX6_soundCellStatus_0 : decode cX6_soundCellStatus 0 = .ok (.aload_n 0, 1) := dw_42 (kcX6_soundCellStatus_0 0 42 rfl)
theorem dX6_soundCellStatus_1 : decode cX6_soundCellStatus 1 = .ok (.iload_n 1, 1) := dw_27 (kcX6_soundCellStatus_0 1 27 rfl)
theorem dX6_soundCellStatus_2 : decode cX6_soundCellStatus 2 = .ok (.iload_n 2, 1) := dw_28 (kcX6_soundCellStatus_0 2 28 rfl)
theorem dX6_soundCellStatus_3 : decode cX6_soundCellStatus 3 = .ok (.iload_n 3, 1) := dw_29 (kcX6_soundCellStatus_0 3 29 rfl)
theorem dX6_soundCellStatus_4 : decode cX6_soundCellStatus 4 = .ok (.invokevirtual 174, 3) := dw_182 (kcX6_soundCellStatus_0 4 182 rfl) (kcX6_soundCellStatus_0 5 0 rfl) (kcX6_soundCellStatus_0 6 174 rfl) rfl
theorem dX6_soundCellStatus_7 : decode cX6_soundCellStatus 7 = .ok (.istore 4, 2) := dw_54 (kcX6_soundCellStatus_0 7 54 rfl) (kcX6_soundCellStatus_0 8 4 rfl)
theorem dX6_soundCellStatus_9 : decode cX6_soundCellStatus 9 = .ok (.iload 4, 2) := dw_21 (kcX6_soundCellStatus_0 9 21 rfl) (kcX6_soundCellStatus_0 10 4 rfl)
theorem dX6_soundCellStatus_11 : decode cX6_soundCellStatus 11 = .ok (.ifCond .eq 6, 3) := dw_153 (kcX6_soundCellStatus_0 11 153 rfl) (kcX6_soundCellStatus_0 12 0 rfl) (kcX6_soundCellStatus_0 13 6 rfl) rfl
theorem dX6_soundCellStatus_17 : decode cX6_soundCellStatus 17 = .ok (.aload_n 0, 1) := dw_42 (kcX6_soundCellStatus_0 17 42 rfl)
theorem dX6_soundCellStatus_18 : decode cX6_soundCellStatus 18 = .ok (.getfield 15, 3) := dw_180 (kcX6_soundCellStatus_0 18 180 rfl) (kcX6_soundCellStatus_0 19 0 rfl) (kcX6_soundCellStatus_0 20 15 rfl) rfl
theorem dX6_soundCellStatus_21 : decode cX6_soundCellStatus 21 = .ok (.iload_n 1, 1) := dw_27 (kcX6_soundCellStatus_0 21 27 rfl)
theorem dX6_soundCellStatus_22 : decode cX6_soundCellStatus 22 = .ok (.aaload, 1) := dw_50 (kcX6_soundCellStatus_0 22 50 rfl)
theorem dX6_soundCellStatus_23 : decode cX6_soundCellStatus 23 = .ok (.iload_n 2, 1) := dw_28 (kcX6_soundCellStatus_0 23 28 rfl)
theorem dX6_soundCellStatus_24 : decode cX6_soundCellStatus 24 = .ok (.invokevirtual 153, 3) := dw_182 (kcX6_soundCellStatus_0 24 182 rfl) (kcX6_soundCellStatus_0 25 0 rfl) (kcX6_soundCellStatus_0 26 153 rfl) rfl
theorem dX6_soundCellStatus_27 : decode cX6_soundCellStatus 27 = .ok (.ifCond .eq 7, 3) := dw_153 (kcX6_soundCellStatus_0 27 153 rfl) (kcX6_soundCellStatus_0 28 0 rfl) (kcX6_soundCellStatus_0 29 7 rfl) rfl
theorem dX6_soundCellStatus_34 : decode cX6_soundCellStatus 34 = .ok (.bipush 11, 2) := dw_16 (kcX6_soundCellStatus_0 34 16 rfl) (kcX6_soundCellStatus_0 35 11 rfl) rfl
theorem dX6_soundCellStatus_36 : decode cX6_soundCellStatus 36 = .ok (.ireturn, 1) := dw_172 (kcX6_soundCellStatus_0 36 172 rfl)
theorem dX6_soundCellStatus_30 : decode cX6_soundCellStatus 30 = .ok (.iconst 0, 1) := dw_3 (kcX6_soundCellStatus_0 30 3 rfl)
theorem dX6_soundCellStatus_31 : decode cX6_soundCellStatus 31 = .ok (.goto 5, 3) := dw_167 (kcX6_soundCellStatus_0 31 167 rfl) (kcX6_soundCellStatus_0 32 0 rfl) (kcX6_soundCellStatus_0 33 5 rfl) rfl
theorem dX6_soundCellStatus_14 : decode cX6_soundCellStatus 14 = .ok (.iload 4, 2) := dw_21 (kcX6_soundCellStatus_0 14 21 rfl) (kcX6_soundCellStatus_0 15 4 rfl)
theorem dX6_soundCellStatus_16 : decode cX6_soundCellStatus 16 = .ok (.ireturn, 1) := dw_172 (kcX6_soundCellStatus_0 16 172 rfl)
theorem kcX6_canBeTold_0 : CHb cX6_canBeTold 0 [26, 170, 0, 0, 0, 0, 0, 78, 0, 0, 0, 0, 0, 0, 0, 4, 0, 0, 0, 35, 0, 0, 0, 52, 0, 0, 0, 68, 0, 0, 0, 52, 0, 0, 0, 68, 27, 4, 161, 0, 13, 27, 16, 99, 163, 0, 7, 4, 167, 0, 4, 3, 172, 27, 155, 0, 13, 27, 18, 255, 163, 0, 7, 4] := CHb_of (by decide +kernel)
theorem dX6_canBeTold_0 : decode cX6_canBeTold 0 = .ok (.iload_n 0, 1) := dw_26 (kcX6_canBeTold_0 0 26 rfl)
theorem dX6_canBeTold_1 : decode cX6_canBeTold 1 = .ok (.tableswitch 78 0 4 #[35, 52, 68, 52, 68], 35) := by decide +kernel
theorem kcX6_canBeTold_1 : CHb cX6_canBeTold 64 [167, 0, 4, 3, 172, 27, 154, 0, 7, 4, 167, 0, 4, 3, 172, 3, 172] := CHb_of (by decide +kernel)
theorem dX6_canBeTold_79 : decode cX6_canBeTold 79 = .ok (.iconst 0, 1) := dw_3 (kcX6_canBeTold_1 15 3 rfl)
theorem dX6_canBeTold_80 : decode cX6_canBeTold 80 = .ok (.ireturn, 1) := dw_172 (kcX6_canBeTold_1 16 172 rfl)
theorem dX6_canBeTold_36 : decode cX6_canBeTold 36 = .ok (.iload_n 1, 1) := dw_27 (kcX6_canBeTold_0 36 27 rfl)
theorem dX6_canBeTold_37 : decode cX6_canBeTold 37 = .ok (.iconst 1, 1) := dw_4 (kcX6_canBeTold_0 37 4 rfl)
theorem dX6_canBeTold_38 : decode cX6_canBeTold 38 = .ok (.if_icmp .lt 13, 3) := dw_161 (kcX6_canBeTold_0 38 161 rfl) (kcX6_canBeTold_0 39 0 rfl) (kcX6_canBeTold_0 40 13 rfl) rfl
theorem dX6_canBeTold_51 : decode cX6_canBeTold 51 = .ok (.iconst 0, 1) := dw_3 (kcX6_canBeTold_0 51 3 rfl)
theorem dX6_canBeTold_52 : decode cX6_canBeTold 52 = .ok (.ireturn, 1) := dw_172 (kcX6_canBeTold_0 52 172 rfl)
theorem dX6_canBeTold_41 : decode cX6_canBeTold 41 = .ok (.iload_n 1, 1) := dw_27 (kcX6_canBeTold_0 41 27 rfl)
theorem dX6_canBeTold_42 : decode cX6_canBeTold 42 = .ok (.bipush 99, 2) := dw_16 (kcX6_canBeTold_0 42 16 rfl) (kcX6_canBeTold_0 43 99 rfl) rfl
theorem dX6_canBeTold_44 : decode cX6_canBeTold 44 = .ok (.if_icmp .gt 7, 3) := dw_163 (kcX6_canBeTold_0 44 163 rfl) (kcX6_canBeTold_0 45 0 rfl) (kcX6_canBeTold_0 46 7 rfl) rfl
theorem dX6_canBeTold_47 : decode cX6_canBeTold 47 = .ok (.iconst 1, 1) := dw_4 (kcX6_canBeTold_0 47 4 rfl)
theorem dX6_canBeTold_48 : decode cX6_canBeTold 48 = .ok (.goto 4, 3) := dw_167 (kcX6_canBeTold_0 48 167 rfl) (kcX6_canBeTold_0 49 0 rfl) (kcX6_canBeTold_0 50 4 rfl) rfl
theorem dX6_canBeTold_53 : decode cX6_canBeTold 53 = .ok (.iload_n 1, 1) := dw_27 (kcX6_canBeTold_0 53 27 rfl)
theorem dX6_canBeTold_54 : decode cX6_canBeTold 54 = .ok (.ifCond .lt 13, 3) := dw_155 (kcX6_canBeTold_0 54 155 rfl) (kcX6_canBeTold_0 55 0 rfl) (kcX6_canBeTold_0 56 13 rfl) rfl
theorem dX6_canBeTold_67 : decode cX6_canBeTold 67 = .ok (.iconst 0, 1) := dw_3 (kcX6_canBeTold_1 3 3 rfl)
theorem dX6_canBeTold_68 : decode cX6_canBeTold 68 = .ok (.ireturn, 1) := dw_172 (kcX6_canBeTold_1 4 172 rfl)
theorem dX6_canBeTold_57 : decode cX6_canBeTold 57 = .ok (.iload_n 1, 1) := dw_27 (kcX6_canBeTold_0 57 27 rfl)
theorem dX6_canBeTold_58 : decode cX6_canBeTold 58 = .ok (.ldc 255, 2) := dw_18 (kcX6_canBeTold_0 58 18 rfl) (kcX6_canBeTold_0 59 255 rfl)
theorem dX6_canBeTold_60 : decode cX6_canBeTold 60 = .ok (.if_icmp .gt 7, 3) := dw_163 (kcX6_canBeTold_0 60 163 rfl) (kcX6_canBeTold_0 61 0 rfl) (kcX6_canBeTold_0 62 7 rfl) rfl
theorem dX6_canBeTold_63 : decode cX6_canBeTold 63 = .ok (.iconst 1, 1) := dw_4 (kcX6_canBeTold_0 63 4 rfl)
theorem dX6_canBeTold_64 : decode cX6_canBeTold 64 = .ok (.goto 4, 3) := dw_167 (kcX6_canBeTold_1 0 167 rfl) (kcX6_canBeTold_1 1 0 rfl) (kcX6_canBeTold_1 2 4 rfl) rfl
theorem dX6_canBeTold_69 : decode cX6_canBeTold 69 = .ok (.iload_n 1, 1) := dw_27 (kcX6_canBeTold_1 5 27 rfl)
theorem dX6_canBeTold_70 : decode cX6_canBeTold 70 = .ok (.ifCond .ne 7, 3) := dw_154 (kcX6_canBeTold_1 6 154 rfl) (kcX6_canBeTold_1 7 0 rfl) (kcX6_canBeTold_1 8 7 rfl) rfl
theorem dX6_canBeTold_77 : decode cX6_canBeTold 77 = .ok (.iconst 0, 1) := dw_3 (kcX6_canBeTold_1 13 3 rfl)
theorem dX6_canBeTold_78 : decode cX6_canBeTold 78 = .ok (.ireturn, 1) := dw_172 (kcX6_canBeTold_1 14 172 rfl)
theorem dX6_canBeTold_73 : decode cX6_canBeTold 73 = .ok (.iconst 1, 1) := dw_4 (kcX6_canBeTold_1 9 4 rfl)
theorem dX6_canBeTold_74 : decode cX6_canBeTold 74 = .ok (.goto 4, 3) := dw_167 (kcX6_canBeTold_1 10 167 rfl) (kcX6_canBeTold_1 11 0 rfl) (kcX6_canBeTold_1 12 4 rfl) rfl
theorem kcX6_open_0 : CHb cX6_open 0 [27, 155, 0, 21, 27, 16, 6, 162, 0, 15, 42, 180, 0, 15, 27, 50, 180, 0, 61, 153, 0, 9, 42, 4, 182, 0, 65, 172, 28, 4, 161, 0, 20, 28, 16, 12, 163, 0, 14, 29, 4, 161, 0, 9, 29, 16, 12, 164, 0, 9, 42, 5, 182, 0, 65, 172, 42, 180, 0, 15, 27, 50, 28, 29] := CHb_of (by decide +kernel)
theorem dX6_open_0 : decode cX6_open 0 = .ok (.iload_n 1, 1) := dw_27 (kcX6_open_0 0 27 rfl)
theorem dX6_open_1 : decode cX6_open 1 = .ok (.ifCond .lt 21, 3) := dw_155 (kcX6_open_0 1 155 rfl) (kcX6_open_0 2 0 rfl) (kcX6_open_0 3 21 rfl) rfl
theorem dX6_open_22 : decode cX6_open 22 = .ok (.aload_n 0, 1) := dw_42 (kcX6_open_0 22 42 rfl)
theorem dX6_open_23 : decode cX6_open 23 = .ok (.iconst 1, 1) := dw_4 (kcX6_open_0 23 4 rfl)
theorem dX6_open_24 : decode cX6_open 24 = .ok (.invokevirtual 65, 3) := dw_182 (kcX6_open_0 24 182 rfl) (kcX6_open_0 25 0 rfl) (kcX6_open_0 26 65 rfl) rfl
theorem dX6_open_27 : decode cX6_open 27 = .ok (.ireturn, 1) := dw_172 (kcX6_open_0 27 172 rfl)
theorem dX6_open_4 : decode cX6_open 4 = .ok (.iload_n 1, 1) := dw_27 (kcX6_open_0 4 27 rfl)
theorem dX6_open_5 : decode cX6_open 5 = .ok (.bipush 6, 2) := dw_16 (kcX6_open_0 5 16 rfl) (kcX6_open_0 6 6 rfl) rfl
theorem dX6_open_7 : decode cX6_open 7 = .ok (.if_icmp .ge 15, 3) := dw_162 (kcX6_open_0 7 162 rfl) (kcX6_open_0 8 0 rfl) (kcX6_open_0 9 15 rfl) rfl
theorem dX6_open_10 : decode cX6_open 10 = .ok (.aload_n 0, 1) := dw_42 (kcX6_open_0 10 42 rfl)
theorem dX6_open_11 : decode cX6_open 11 = .ok (.getfield 15, 3) := dw_180 (kcX6_open_0 11 180 rfl) (kcX6_open_0 12 0 rfl) (kcX6_open_0 13 15 rfl) rfl
theorem dX6_open_14 : decode cX6_open 14 = .ok (.iload_n 1, 1) := dw_27 (kcX6_open_0 14 27 rfl)
theorem dX6_open_15 : decode cX6_open 15 = .ok (.aaload, 1) := dw_50 (kcX6_open_0 15 50 rfl)
theorem dX6_open_16 : decode cX6_open 16 = .ok (.getfield 61, 3) := dw_180 (kcX6_open_0 16 180 rfl) (kcX6_open_0 17 0 rfl) (kcX6_open_0 18 61 rfl) rfl
theorem dX6_open_19 : decode cX6_open 19 = .ok (.ifCond .eq 9, 3) := dw_153 (kcX6_open_0 19 153 rfl) (kcX6_open_0 20 0 rfl) (kcX6_open_0 21 9 rfl) rfl
theorem dX6_open_28 : decode cX6_open 28 = .ok (.iload_n 2, 1) := dw_28 (kcX6_open_0 28 28 rfl)
theorem dX6_open_29 : decode cX6_open 29 = .ok (.iconst 1, 1) := dw_4 (kcX6_open_0 29 4 rfl)
theorem dX6_open_30 : decode cX6_open 30 = .ok (.if_icmp .lt 20, 3) := dw_161 (kcX6_open_0 30 161 rfl) (kcX6_open_0 31 0 rfl) (kcX6_open_0 32 20 rfl) rfl
theorem dX6_open_50 : decode cX6_open 50 = .ok (.aload_n 0, 1) := dw_42 (kcX6_open_0 50 42 rfl)
theorem dX6_open_51 : decode cX6_open 51 = .ok (.iconst 2, 1) := dw_5 (kcX6_open_0 51 5 rfl)
theorem dX6_open_52 : decode cX6_open 52 = .ok (.invokevirtual 65, 3) := dw_182 (kcX6_open_0 52 182 rfl) (kcX6_open_0 53 0 rfl) (kcX6_open_0 54 65 rfl) rfl
theorem dX6_open_55 : decode cX6_open 55 = .ok (.ireturn, 1) := dw_172 (kcX6_open_0 55 172 rfl)
theorem dX6_open_33 : decode cX6_open 33 = .ok (.iload_n 2, 1) := dw_28 (kcX6_open_0 33 28 rfl)
theorem dX6_open_34 : decode cX6_open 34 = .ok (.bipush 12, 2) := dw_16 (kcX6_open_0 34 16 rfl) (kcX6_open_0 35 12 rfl) rfl
theorem dX6_open_36 : decode cX6_open 36 = .ok (.if_icmp .gt 14, 3) := dw_163 (kcX6_open_0 36 163 rfl) (kcX6_open_0 37 0 rfl) (kcX6_open_0 38 14 rfl) rfl
theorem dX6_open_39 : decode cX6_open 39 = .ok (.iload_n 3, 1) := dw_29 (kcX6_open_0 39 29 rfl)
theorem dX6_open_40 : decode cX6_open 40 = .ok (.iconst 1, 1) := dw_4 (kcX6_open_0 40 4 rfl)
theorem dX6_open_41 : decode cX6_open 41 = .ok (.if_icmp .lt 9, 3) := dw_161 (kcX6_open_0 41 161 rfl) (kcX6_open_0 42 0 rfl) (kcX6_open_0 43 9 rfl) rfl
theorem dX6_open_44 : decode cX6_open 44 = .ok (.iload_n 3, 1) := dw_29 (kcX6_open_0 44 29 rfl)
theorem dX6_open_45 : decode cX6_open 45 = .ok (.bipush 12, 2) := dw_16 (kcX6_open_0 45 16 rfl) (kcX6_open_0 46 12 rfl) rfl
theorem dX6_open_47 : decode cX6_open 47 = .ok (.if_icmp .le 9, 3) := dw_164 (kcX6_open_0 47 164 rfl) (kcX6_open_0 48 0 rfl) (kcX6_open_0 49 9 rfl) rfl
theorem dX6_open_56 : decode cX6_open 56 = .ok (.aload_n 0, 1) := dw_42 (kcX6_open_0 56 42 rfl)
theorem dX6_open_57 : decode cX6_open 57 = .ok (.getfield 15, 3) := dw_180 (kcX6_open_0 57 180 rfl) (kcX6_open_0 58 0 rfl) (kcX6_open_0 59 15 rfl) rfl
theorem dX6_open_60 : decode cX6_open 60 = .ok (.iload_n 1, 1) := dw_27 (kcX6_open_0 60 27 rfl)
theorem dX6_open_61 : decode cX6_open 61 = .ok (.aaload, 1) := dw_50 (kcX6_open_0 61 50 rfl)
theorem dX6_open_62 : decode cX6_open 62 = .ok (.iload_n 2, 1) := dw_28 (kcX6_open_0 62 28 rfl)
theorem dX6_open_63 : decode cX6_open 63 = .ok (.iload_n 3, 1) := dw_29 (kcX6_open_0 63 29 rfl)
theorem kcX6_open_1 : CHb cX6_open 64 [182, 0, 69, 42, 3, 182, 0, 65, 172] := CHb_of (by decide +kernel)
theorem dX6_open_64 : decode cX6_open 64 = .ok (.invokevirtual 69, 3) := dw_182 (kcX6_open_1 0 182 rfl) (kcX6_open_1 1 0 rfl) (kcX6_open_1 2 69 rfl) rfl
theorem dX6_open_67 : decode cX6_open 67 = .ok (.aload_n 0, 1) := dw_42 (kcX6_open_1 3 42 rfl)
theorem dX6_open_68 : decode cX6_open 68 = .ok (.iconst 0, 1) := dw_3 (kcX6_open_1 4 3 rfl)
theorem dX6_open_69 : decode cX6_open 69 = .ok (.invokevirtual 65, 3) := dw_182 (kcX6_open_1 5 182 rfl) (kcX6_open_1 6 0 rfl) (kcX6_open_1 7 65 rfl) rfl
theorem dX6_open_72 : decode cX6_open 72 = .ok (.ireturn, 1) := dw_172 (kcX6_open_1 8 172 rfl)
theorem kcX6_close_0 : CHb cX6_close 0 [42, 42, 27, 182, 0, 73, 182, 0, 65, 154, 0, 5, 3, 172, 42, 180, 0, 15, 27, 50, 3, 181, 0, 61, 4, 172] := CHb_of (by decide +kernel)
theorem dX6_close_0 : decode cX6_close 0 = .ok (.aload_n 0, 1) := dw_42 (kcX6_close_0 0 42 rfl)
theorem dX6_close_1 : decode cX6_close 1 = .ok (.aload_n 0, 1) := dw_42 (kcX6_close_0 1 42 rfl)
theorem dX6_close_2 : decode cX6_close 2 = .ok (.iload_n 1, 1) := dw_27 (kcX6_close_0 2 27 rfl)
theorem dX6_close_3 : decode cX6_close 3 = .ok (.invokevirtual 73, 3) := dw_182 (kcX6_close_0 3 182 rfl) (kcX6_close_0 4 0 rfl) (kcX6_close_0 5 73 rfl) rfl
theorem dX6_close_6 : decode cX6_close 6 = .ok (.invokevirtual 65, 3) := dw_182 (kcX6_close_0 6 182 rfl) (kcX6_close_0 7 0 rfl) (kcX6_close_0 8 65 rfl) rfl
theorem dX6_close_9 : decode cX6_close 9 = .ok (.ifCond .ne 5, 3) := dw_154 (kcX6_close_0 9 154 rfl) (kcX6_close_0 10 0 rfl) (kcX6_close_0 11 5 rfl) rfl
theorem dX6_close_14 : decode cX6_close 14 = .ok (.aload_n 0, 1) := dw_42 (kcX6_close_0 14 42 rfl)
theorem dX6_close_15 : decode cX6_close 15 = .ok (.getfield 15, 3) := dw_180 (kcX6_close_0 15 180 rfl) (kcX6_close_0 16 0 rfl) (kcX6_close_0 17 15 rfl) rfl
theorem dX6_close_18 : decode cX6_close 18 = .ok (.iload_n 1, 1) := dw_27 (kcX6_close_0 18 27 rfl)
theorem dX6_close_19 : decode cX6_close 19 = .ok (.aaload, 1) := dw_50 (kcX6_close_0 19 50 rfl)
theorem dX6_close_20 : decode cX6_close 20 = .ok (.iconst 0, 1) := dw_3 (kcX6_close_0 20 3 rfl)
theorem dX6_close_21 : decode cX6_close 21 = .ok (.putfield 61, 3) := dw_181 (kcX6_close_0 21 181 rfl) (kcX6_close_0 22 0 rfl) (kcX6_close_0 23 61 rfl) rfl
theorem dX6_close_24 : decode cX6_close 24 = .ok (.iconst 1, 1) := dw_4 (kcX6_close_0 24 4 rfl)
theorem dX6_close_25 : decode cX6_close 25 = .ok (.ireturn, 1) := dw_172 (kcX6_close_0 25 172 rfl)
theorem dX6_close_12 : decode cX6_close 12 = .ok (.iconst 0, 1) := dw_3 (kcX6_close_0 12 3 rfl)
theorem dX6_close_13 : decode cX6_close 13 = .ok (.ireturn, 1) := dw_172 (kcX6_close_0 13 172 rfl)
theorem kcX0_followPlan_0 : CHb cX0_followPlan 0 [42, 182, 0, 41, 3, 62, 3, 54, 4, 21, 4, 44, 180, 0, 44, 162, 0, 124, 3, 54, 5, 21, 5, 44, 180, 0, 49, 162, 0, 106, 44, 180, 0, 52, 21, 4, 21, 5, 184, 0, 55, 46, 153, 0, 14, 44, 21, 4, 21, 5, 182, 0, 59, 153, 0, 7, 4, 167, 0, 4, 3, 54, 6, 3] := CHb_of (by decide +kernel)
theorem dX0_followPlan_0 : decode cX0_followPlan 0 = .ok (.aload_n 0, 1) := dw_42 (kcX0_followPlan_0 0 42 rfl)
theorem dX0_followPlan_1 : decode cX0_followPlan 1 = .ok (.invokevirtual 41, 3) := dw_182 (kcX0_followPlan_0 1 182 rfl) (kcX0_followPlan_0 2 0 rfl) (kcX0_followPlan_0 3 41 rfl) rfl
theorem dX0_followPlan_4 : decode cX0_followPlan 4 = .ok (.iconst 0, 1) := dw_3 (kcX0_followPlan_0 4 3 rfl)
theorem dX0_followPlan_5 : decode cX0_followPlan 5 = .ok (.istore_n 3, 1) := dw_62 (kcX0_followPlan_0 5 62 rfl)
theorem dX0_followPlan_6 : decode cX0_followPlan 6 = .ok (.iconst 0, 1) := dw_3 (kcX0_followPlan_0 6 3 rfl)
theorem dX0_followPlan_7 : decode cX0_followPlan 7 = .ok (.istore 4, 2) := dw_54 (kcX0_followPlan_0 7 54 rfl) (kcX0_followPlan_0 8 4 rfl)
theorem dX0_followPlan_9 : decode cX0_followPlan 9 = .ok (.iload 4, 2) := dw_21 (kcX0_followPlan_0 9 21 rfl) (kcX0_followPlan_0 10 4 rfl)
theorem dX0_followPlan_11 : decode cX0_followPlan 11 = .ok (.aload_n 2, 1) := dw_44 (kcX0_followPlan_0 11 44 rfl)
theorem dX0_followPlan_12 : decode cX0_followPlan 12 = .ok (.getfield 44, 3) := dw_180 (kcX0_followPlan_0 12 180 rfl) (kcX0_followPlan_0 13 0 rfl) (kcX0_followPlan_0 14 44 rfl) rfl
theorem dX0_followPlan_15 : decode cX0_followPlan 15 = .ok (.if_icmp .ge 124, 3) := dw_162 (kcX0_followPlan_0 15 162 rfl) (kcX0_followPlan_0 16 0 rfl) (kcX0_followPlan_0 17 124 rfl) rfl
theorem kcX0_followPlan_2 : CHb cX0_followPlan 128 [5, 1, 167, 255, 147, 132, 4, 1, 167, 255, 129, 42, 43, 182, 0, 71, 29, 172] := CHb_of (by decide +kernel)
theorem dX0_followPlan_139 : decode cX0_followPlan 139 = .ok (.aload_n 0, 1) := dw_42 (kcX0_followPlan_2 11 42 rfl)
theorem dX0_followPlan_140 : decode cX0_followPlan 140 = .ok (.aload_n 1, 1) := dw_43 (kcX0_followPlan_2 12 43 rfl)
theorem dX0_followPlan_141 : decode cX0_followPlan 141 = .ok (.invokevirtual 71, 3) := dw_182 (kcX0_followPlan_2 13 182 rfl) (kcX0_followPlan_2 14 0 rfl) (kcX0_followPlan_2 15 71 rfl) rfl
theorem dX0_followPlan_144 : decode cX0_followPlan 144 = .ok (.iload_n 3, 1) := dw_29 (kcX0_followPlan_2 16 29 rfl)
theorem dX0_followPlan_145 : decode cX0_followPlan 145 = .ok (.ireturn, 1) := dw_172 (kcX0_followPlan_2 17 172 rfl)
theorem dX0_followPlan_18 : decode cX0_followPlan 18 = .ok (.iconst 0, 1) := dw_3 (kcX0_followPlan_0 18 3 rfl)
theorem dX0_followPlan_19 : decode cX0_followPlan 19 = .ok (.istore 5, 2) := dw_54 (kcX0_followPlan_0 19 54 rfl) (kcX0_followPlan_0 20 5 rfl)
theorem dX0_followPlan_21 : decode cX0_followPlan 21 = .ok (.iload 5, 2) := dw_21 (kcX0_followPlan_0 21 21 rfl) (kcX0_followPlan_0 22 5 rfl)
theorem dX0_followPlan_23 : decode cX0_followPlan 23 = .ok (.aload_n 2, 1) := dw_44 (kcX0_followPlan_0 23 44 rfl)
theorem dX0_followPlan_24 : decode cX0_followPlan 24 = .ok (.getfield 49, 3) := dw_180 (kcX0_followPlan_0 24 180 rfl) (kcX0_followPlan_0 25 0 rfl) (kcX0_followPlan_0 26 49 rfl) rfl
theorem dX0_followPlan_27 : decode cX0_followPlan 27 = .ok (.if_icmp .ge 106, 3) := dw_162 (kcX0_followPlan_0 27 162 rfl) (kcX0_followPlan_0 28 0 rfl) (kcX0_followPlan_0 29 106 rfl) rfl
theorem dX0_followPlan_133 : decode cX0_followPlan 133 = .ok (.iinc 4 1, 3) := dw_132 (kcX0_followPlan_2 5 132 rfl) (kcX0_followPlan_2 6 4 rfl) (kcX0_followPlan_2 7 1 rfl) rfl
theorem dX0_followPlan_136 : decode cX0_followPlan 136 = .ok (.goto (-127), 3) := dw_167 (kcX0_followPlan_2 8 167 rfl) (kcX0_followPlan_2 9 255 rfl) (kcX0_followPlan_2 10 129 rfl) rfl
theorem dX0_followPlan_30 : decode cX0_followPlan 30 = .ok (.aload_n 2, 1) := dw_44 (kcX0_followPlan_0 30 44 rfl)
theorem dX0_followPlan_31 : decode cX0_followPlan 31 = .ok (.getfield 52, 3) := dw_180 (kcX0_followPlan_0 31 180 rfl) (kcX0_followPlan_0 32 0 rfl) (kcX0_followPlan_0 33 52 rfl) rfl
theorem dX0_followPlan_34 : decode cX0_followPlan 34 = .ok (.iload 4, 2) := dw_21 (kcX0_followPlan_0 34 21 rfl) (kcX0_followPlan_0 35 4 rfl)
theorem dX0_followPlan_36 : decode cX0_followPlan 36 = .ok (.iload 5, 2) := dw_21 (kcX0_followPlan_0 36 21 rfl) (kcX0_followPlan_0 37 5 rfl)
theorem dX0_followPlan_38 : decode cX0_followPlan 38 = .ok (.invokestatic 55, 3) := dw_184 (kcX0_followPlan_0 38 184 rfl) (kcX0_followPlan_0 39 0 rfl) (kcX0_followPlan_0 40 55 rfl) rfl
theorem dX0_followPlan_41 : decode cX0_followPlan 41 = .ok (.iaload, 1) := dw_46 (kcX0_followPlan_0 41 46 rfl)
theorem dX0_followPlan_42 : decode cX0_followPlan 42 = .ok (.ifCond .eq 14, 3) := dw_153 (kcX0_followPlan_0 42 153 rfl) (kcX0_followPlan_0 43 0 rfl) (kcX0_followPlan_0 44 14 rfl) rfl
theorem dX0_followPlan_56 : decode cX0_followPlan 56 = .ok (.iconst 1, 1) := dw_4 (kcX0_followPlan_0 56 4 rfl)
theorem dX0_followPlan_57 : decode cX0_followPlan 57 = .ok (.goto 4, 3) := dw_167 (kcX0_followPlan_0 57 167 rfl) (kcX0_followPlan_0 58 0 rfl) (kcX0_followPlan_0 59 4 rfl) rfl
theorem dX0_followPlan_45 : decode cX0_followPlan 45 = .ok (.aload_n 2, 1) := dw_44 (kcX0_followPlan_0 45 44 rfl)
theorem dX0_followPlan_46 : decode cX0_followPlan 46 = .ok (.iload 4, 2) := dw_21 (kcX0_followPlan_0 46 21 rfl) (kcX0_followPlan_0 47 4 rfl)
theorem dX0_followPlan_48 : decode cX0_followPlan 48 = .ok (.iload 5, 2) := dw_21 (kcX0_followPlan_0 48 21 rfl) (kcX0_followPlan_0 49 5 rfl)
theorem dX0_followPlan_50 : decode cX0_followPlan 50 = .ok (.invokevirtual 59, 3) := dw_182 (kcX0_followPlan_0 50 182 rfl) (kcX0_followPlan_0 51 0 rfl) (kcX0_followPlan_0 52 59 rfl) rfl
theorem dX0_followPlan_53 : decode cX0_followPlan 53 = .ok (.ifCond .eq 7, 3) := dw_153 (kcX0_followPlan_0 53 153 rfl) (kcX0_followPlan_0 54 0 rfl) (kcX0_followPlan_0 55 7 rfl) rfl
theorem dX0_followPlan_60 : decode cX0_followPlan 60 = .ok (.iconst 0, 1) := dw_3 (kcX0_followPlan_0 60 3 rfl)
theorem dX0_followPlan_61 : decode cX0_followPlan 61 = .ok (.istore 6, 2) := dw_54 (kcX0_followPlan_0 61 54 rfl) (kcX0_followPlan_0 62 6 rfl)
theorem dX0_followPlan_63 : decode cX0_followPlan 63 = .ok (.iconst 0, 1) := dw_3 (kcX0_followPlan_0 63 3 rfl)
theorem kcX0_followPlan_1 : CHb cX0_followPlan 64 [54, 7, 21, 7, 17, 0, 144, 162, 0, 56, 21, 6, 154, 0, 51, 42, 43, 44, 21, 4, 21, 5, 182, 0, 63, 42, 180, 0, 35, 2, 160, 0, 5, 2, 172, 29, 42, 44, 21, 4, 21, 5, 182, 0, 67, 96, 62, 44, 21, 4, 21, 5, 182, 0, 59, 54, 6, 132, 7, 1, 167, 255, 198, 132] := CHb_of (by decide +kernel)
theorem dX0_followPlan_64 : decode cX0_followPlan 64 = .ok (.istore 7, 2) := dw_54 (kcX0_followPlan_1 0 54 rfl) (kcX0_followPlan_1 1 7 rfl)
theorem dX0_followPlan_66 : decode cX0_followPlan 66 = .ok (.iload 7, 2) := dw_21 (kcX0_followPlan_1 2 21 rfl) (kcX0_followPlan_1 3 7 rfl)
theorem dX0_followPlan_68 : decode cX0_followPlan 68 = .ok (.sipush 144, 3) := dw_17 (kcX0_followPlan_1 4 17 rfl) (kcX0_followPlan_1 5 0 rfl) (kcX0_followPlan_1 6 144 rfl) rfl
theorem dX0_followPlan_71 : decode cX0_followPlan 71 = .ok (.if_icmp .ge 56, 3) := dw_162 (kcX0_followPlan_1 7 162 rfl) (kcX0_followPlan_1 8 0 rfl) (kcX0_followPlan_1 9 56 rfl) rfl
theorem dX0_followPlan_127 : decode cX0_followPlan 127 = .ok (.iinc 5 1, 3) := dw_132 (kcX0_followPlan_1 63 132 rfl) (kcX0_followPlan_2 0 5 rfl) (kcX0_followPlan_2 1 1 rfl) rfl
theorem dX0_followPlan_130 : decode cX0_followPlan 130 = .ok (.goto (-109), 3) := dw_167 (kcX0_followPlan_2 2 167 rfl) (kcX0_followPlan_2 3 255 rfl) (kcX0_followPlan_2 4 147 rfl) rfl
theorem dX0_followPlan_74 : decode cX0_followPlan 74 = .ok (.iload 6, 2) := dw_21 (kcX0_followPlan_1 10 21 rfl) (kcX0_followPlan_1 11 6 rfl)
theorem dX0_followPlan_76 : decode cX0_followPlan 76 = .ok (.ifCond .ne 51, 3) := dw_154 (kcX0_followPlan_1 12 154 rfl) (kcX0_followPlan_1 13 0 rfl) (kcX0_followPlan_1 14 51 rfl) rfl
theorem dX0_followPlan_79 : decode cX0_followPlan 79 = .ok (.aload_n 0, 1) := dw_42 (kcX0_followPlan_1 15 42 rfl)
theorem dX0_followPlan_80 : decode cX0_followPlan 80 = .ok (.aload_n 1, 1) := dw_43 (kcX0_followPlan_1 16 43 rfl)
theorem dX0_followPlan_81 : decode cX0_followPlan 81 = .ok (.aload_n 2, 1) := dw_44 (kcX0_followPlan_1 17 44 rfl)
theorem dX0_followPlan_82 : decode cX0_followPlan 82 = .ok (.iload 4, 2) := dw_21 (kcX0_followPlan_1 18 21 rfl) (kcX0_followPlan_1 19 4 rfl)
theorem dX0_followPlan_84 : decode cX0_followPlan 84 = .ok (.iload 5, 2) := dw_21 (kcX0_followPlan_1 20 21 rfl) (kcX0_followPlan_1 21 5 rfl)
theorem dX0_followPlan_86 : decode cX0_followPlan 86 = .ok (.invokevirtual 63, 3) := dw_182 (kcX0_followPlan_1 22 182 rfl) (kcX0_followPlan_1 23 0 rfl) (kcX0_followPlan_1 24 63 rfl) rfl
theorem dX0_followPlan_89 : decode cX0_followPlan 89 = .ok (.aload_n 0, 1) := dw_42 (kcX0_followPlan_1 25 42 rfl)
theorem dX0_followPlan_90 : decode cX0_followPlan 90 = .ok (.getfield 35, 3) := dw_180 (kcX0_followPlan_1 26 180 rfl) (kcX0_followPlan_1 27 0 rfl) (kcX0_followPlan_1 28 35 rfl) rfl
theorem dX0_followPlan_93 : decode cX0_followPlan 93 = .ok (.iconst (-1), 1) := dw_2 (kcX0_followPlan_1 29 2 rfl)
theorem dX0_followPlan_94 : decode cX0_followPlan 94 = .ok (.if_icmp .ne 5, 3) := dw_160 (kcX0_followPlan_1 30 160 rfl) (kcX0_followPlan_1 31 0 rfl) (kcX0_followPlan_1 32 5 rfl) rfl
theorem dX0_followPlan_99 : decode cX0_followPlan 99 = .ok (.iload_n 3, 1) := dw_29 (kcX0_followPlan_1 35 29 rfl)
theorem dX0_followPlan_100 : decode cX0_followPlan 100 = .ok (.aload_n 0, 1) := dw_42 (kcX0_followPlan_1 36 42 rfl)
theorem dX0_followPlan_101 : decode cX0_followPlan 101 = .ok (.aload_n 2, 1) := dw_44 (kcX0_followPlan_1 37 44 rfl)
theorem dX0_followPlan_102 : decode cX0_followPlan 102 = .ok (.iload 4, 2) := dw_21 (kcX0_followPlan_1 38 21 rfl) (kcX0_followPlan_1 39 4 rfl)
theorem dX0_followPlan_104 : decode cX0_followPlan 104 = .ok (.iload 5, 2) := dw_21 (kcX0_followPlan_1 40 21 rfl) (kcX0_followPlan_1 41 5 rfl)
theorem dX0_followPlan_106 : decode cX0_followPlan 106 = .ok (.invokevirtual 67, 3) := dw_182 (kcX0_followPlan_1 42 182 rfl) (kcX0_followPlan_1 43 0 rfl) (kcX0_followPlan_1 44 67 rfl) rfl
theorem dX0_followPlan_109 : decode cX0_followPlan 109 = .ok (.iadd, 1) := dw_96 (kcX0_followPlan_1 45 96 rfl)
theorem dX0_followPlan_110 : decode cX0_followPlan 110 = .ok (.istore_n 3, 1) := dw_62 (kcX0_followPlan_1 46 62 rfl)
theorem dX0_followPlan_111 : decode cX0_followPlan 111 = .ok (.aload_n 2, 1) := dw_44 (kcX0_followPlan_1 47 44 rfl)
theorem dX0_followPlan_112 : decode cX0_followPlan 112 = .ok (.iload 4, 2) := dw_21 (kcX0_followPlan_1 48 21 rfl) (kcX0_followPlan_1 49 4 rfl)
theorem dX0_followPlan_114 : decode cX0_followPlan 114 = .ok (.iload 5, 2) := dw_21 (kcX0_followPlan_1 50 21 rfl) (kcX0_followPlan_1 51 5 rfl)
theorem dX0_followPlan_116 : decode cX0_followPlan 116 = .ok (.invokevirtual 59, 3) := dw_182 (kcX0_followPlan_1 52 182 rfl) (kcX0_followPlan_1 53 0 rfl) (kcX0_followPlan_1 54 59 rfl) rfl
theorem dX0_followPlan_119 : decode cX0_followPlan 119 = .ok (.istore 6, 2) := dw_54 (kcX0_followPlan_1 55 54 rfl) (kcX0_followPlan_1 56 6 rfl)
theorem dX0_followPlan_121 : decode cX0_followPlan 121 = .ok (.iinc 7 1, 3) := dw_132 (kcX0_followPlan_1 57 132 rfl) (kcX0_followPlan_1 58 7 rfl) (kcX0_followPlan_1 59 1 rfl) rfl
theorem dX0_followPlan_124 : decode cX0_followPlan 124 = .ok (.goto (-58), 3) := dw_167 (kcX0_followPlan_1 60 167 rfl) (kcX0_followPlan_1 61 255 rfl) (kcX0_followPlan_1 62 198 rfl) rfl
theorem dX0_followPlan_97 : decode cX0_followPlan 97 = .ok (.iconst (-1), 1) := dw_2 (kcX0_followPlan_1 33 2 rfl)
theorem dX0_followPlan_98 : decode cX0_followPlan 98 = .ok (.ireturn, 1) := dw_172 (kcX0_followPlan_1 34 172 rfl)
theorem kcX6_rule_0 : CHb cX6_rule 0 [42, 42, 27, 182, 0, 73, 182, 0, 65, 154, 0, 5, 3, 172, 28, 155, 0, 24, 28, 178, 0, 77, 190, 162, 0, 16, 29, 155, 0, 12, 29, 178, 0, 77, 28, 46, 164, 0, 10, 42, 16, 7, 182, 0, 65, 172, 42, 180, 0, 15, 27, 50, 180, 0, 81, 28, 29, 79, 4, 172] := CHb_of (by decide +kernel)
theorem dX6_rule_0 : decode cX6_rule 0 = .ok (.aload_n 0, 1) := dw_42 (kcX6_rule_0 0 42 rfl)
theorem dX6_rule_1 : decode cX6_rule 1 = .ok (.aload_n 0, 1) := dw_42 (kcX6_rule_0 1 42 rfl)
theorem dX6_rule_2 : decode cX6_rule 2 = .ok (.iload_n 1, 1) := dw_27 (kcX6_rule_0 2 27 rfl)
theorem dX6_rule_3 : decode cX6_rule 3 = .ok (.invokevirtual 73, 3) := dw_182 (kcX6_rule_0 3 182 rfl) (kcX6_rule_0 4 0 rfl) (kcX6_rule_0 5 73 rfl) rfl
theorem dX6_rule_6 : decode cX6_rule 6 = .ok (.invokevirtual 65, 3) := dw_182 (kcX6_rule_0 6 182 rfl) (kcX6_rule_0 7 0 rfl) (kcX6_rule_0 8 65 rfl) rfl
theorem dX6_rule_9 : decode cX6_rule 9 = .ok (.ifCond .ne 5, 3) := dw_154 (kcX6_rule_0 9 154 rfl) (kcX6_rule_0 10 0 rfl) (kcX6_rule_0 11 5 rfl) rfl
theorem dX6_rule_14 : decode cX6_rule 14 = .ok (.iload_n 2, 1) := dw_28 (kcX6_rule_0 14 28 rfl)
theorem dX6_rule_15 : decode cX6_rule 15 = .ok (.ifCond .lt 24, 3) := dw_155 (kcX6_rule_0 15 155 rfl) (kcX6_rule_0 16 0 rfl) (kcX6_rule_0 17 24 rfl) rfl
theorem dX6_rule_39 : decode cX6_rule 39 = .ok (.aload_n 0, 1) := dw_42 (kcX6_rule_0 39 42 rfl)
theorem dX6_rule_40 : decode cX6_rule 40 = .ok (.bipush 7, 2) := dw_16 (kcX6_rule_0 40 16 rfl) (kcX6_rule_0 41 7 rfl) rfl
theorem dX6_rule_42 : decode cX6_rule 42 = .ok (.invokevirtual 65, 3) := dw_182 (kcX6_rule_0 42 182 rfl) (kcX6_rule_0 43 0 rfl) (kcX6_rule_0 44 65 rfl) rfl
theorem dX6_rule_45 : decode cX6_rule 45 = .ok (.ireturn, 1) := dw_172 (kcX6_rule_0 45 172 rfl)
theorem dX6_rule_18 : decode cX6_rule 18 = .ok (.iload_n 2, 1) := dw_28 (kcX6_rule_0 18 28 rfl)
theorem dX6_rule_19 : decode cX6_rule 19 = .ok (.getstatic 77, 3) := dw_178 (kcX6_rule_0 19 178 rfl) (kcX6_rule_0 20 0 rfl) (kcX6_rule_0 21 77 rfl) rfl
theorem dX6_rule_22 : decode cX6_rule 22 = .ok (.arraylength, 1) := dw_190 (kcX6_rule_0 22 190 rfl)
theorem dX6_rule_23 : decode cX6_rule 23 = .ok (.if_icmp .ge 16, 3) := dw_162 (kcX6_rule_0 23 162 rfl) (kcX6_rule_0 24 0 rfl) (kcX6_rule_0 25 16 rfl) rfl
theorem dX6_rule_26 : decode cX6_rule 26 = .ok (.iload_n 3, 1) := dw_29 (kcX6_rule_0 26 29 rfl)
theorem dX6_rule_27 : decode cX6_rule 27 = .ok (.ifCond .lt 12, 3) := dw_155 (kcX6_rule_0 27 155 rfl) (kcX6_rule_0 28 0 rfl) (kcX6_rule_0 29 12 rfl) rfl
theorem dX6_rule_30 : decode cX6_rule 30 = .ok (.iload_n 3, 1) := dw_29 (kcX6_rule_0 30 29 rfl)
theorem dX6_rule_31 : decode cX6_rule 31 = .ok (.getstatic 77, 3) := dw_178 (kcX6_rule_0 31 178 rfl) (kcX6_rule_0 32 0 rfl) (kcX6_rule_0 33 77 rfl) rfl
theorem dX6_rule_34 : decode cX6_rule 34 = .ok (.iload_n 2, 1) := dw_28 (kcX6_rule_0 34 28 rfl)
theorem dX6_rule_35 : decode cX6_rule 35 = .ok (.iaload, 1) := dw_46 (kcX6_rule_0 35 46 rfl)
theorem dX6_rule_36 : decode cX6_rule 36 = .ok (.if_icmp .le 10, 3) := dw_164 (kcX6_rule_0 36 164 rfl) (kcX6_rule_0 37 0 rfl) (kcX6_rule_0 38 10 rfl) rfl
theorem dX6_rule_46 : decode cX6_rule 46 = .ok (.aload_n 0, 1) := dw_42 (kcX6_rule_0 46 42 rfl)
theorem dX6_rule_47 : decode cX6_rule 47 = .ok (.getfield 15, 3) := dw_180 (kcX6_rule_0 47 180 rfl) (kcX6_rule_0 48 0 rfl) (kcX6_rule_0 49 15 rfl) rfl
theorem dX6_rule_50 : decode cX6_rule 50 = .ok (.iload_n 1, 1) := dw_27 (kcX6_rule_0 50 27 rfl)
theorem dX6_rule_51 : decode cX6_rule 51 = .ok (.aaload, 1) := dw_50 (kcX6_rule_0 51 50 rfl)
theorem dX6_rule_52 : decode cX6_rule 52 = .ok (.getfield 81, 3) := dw_180 (kcX6_rule_0 52 180 rfl) (kcX6_rule_0 53 0 rfl) (kcX6_rule_0 54 81 rfl) rfl
theorem dX6_rule_55 : decode cX6_rule 55 = .ok (.iload_n 2, 1) := dw_28 (kcX6_rule_0 55 28 rfl)
theorem dX6_rule_56 : decode cX6_rule 56 = .ok (.iload_n 3, 1) := dw_29 (kcX6_rule_0 56 29 rfl)
theorem dX6_rule_57 : decode cX6_rule 57 = .ok (.iastore, 1) := dw_79 (kcX6_rule_0 57 79 rfl)
theorem dX6_rule_58 : decode cX6_rule 58 = .ok (.iconst 1, 1) := dw_4 (kcX6_rule_0 58 4 rfl)
theorem dX6_rule_59 : decode cX6_rule 59 = .ok (.ireturn, 1) := dw_172 (kcX6_rule_0 59 172 rfl)
theorem dX6_rule_12 : decode cX6_rule 12 = .ok (.iconst 0, 1) := dw_3 (kcX6_rule_0 12 3 rfl)
theorem dX6_rule_13 : decode cX6_rule 13 = .ok (.ireturn, 1) := dw_172 (kcX6_rule_0 13 172 rfl)
theorem kcX6_cell_0 : CHb cX6_cell 0 [42, 42, 27, 28, 29, 182, 0, 84, 182, 0, 65, 154, 0, 5, 3, 172, 21, 4, 21, 5, 184, 0, 88, 154, 0, 10, 42, 16, 7, 182, 0, 65, 172, 42, 180, 0, 15, 27, 50, 28, 29, 184, 0, 92, 21, 4, 154, 0, 7, 8, 167, 0, 5, 21, 4, 21, 5, 182, 0, 96, 4, 172] := CHb_of (by decide +kernel)
theorem dX6_cell_0 : decode cX6_cell 0 = .ok (.aload_n 0, 1) := dw_42 (kcX6_cell_0 0 42 rfl)
theorem dX6_cell_1 : decode cX6_cell 1 = .ok (.aload_n 0, 1) := dw_42 (kcX6_cell_0 1 42 rfl)
theorem dX6_cell_2 : decode cX6_cell 2 = .ok (.iload_n 1, 1) := dw_27 (kcX6_cell_0 2 27 rfl)
theorem dX6_cell_3 : decode cX6_cell 3 = .ok (.iload_n 2, 1) := dw_28 (kcX6_cell_0 3 28 rfl)
theorem dX6_cell_4 : decode cX6_cell 4 = .ok (.iload_n 3, 1) := dw_29 (kcX6_cell_0 4 29 rfl)
theorem dX6_cell_5 : decode cX6_cell 5 = .ok (.invokevirtual 84, 3) := dw_182 (kcX6_cell_0 5 182 rfl) (kcX6_cell_0 6 0 rfl) (kcX6_cell_0 7 84 rfl) rfl
theorem dX6_cell_8 : decode cX6_cell 8 = .ok (.invokevirtual 65, 3) := dw_182 (kcX6_cell_0 8 182 rfl) (kcX6_cell_0 9 0 rfl) (kcX6_cell_0 10 65 rfl) rfl
theorem dX6_cell_11 : decode cX6_cell 11 = .ok (.ifCond .ne 5, 3) := dw_154 (kcX6_cell_0 11 154 rfl) (kcX6_cell_0 12 0 rfl) (kcX6_cell_0 13 5 rfl) rfl
theorem dX6_cell_16 : decode cX6_cell 16 = .ok (.iload 4, 2) := dw_21 (kcX6_cell_0 16 21 rfl) (kcX6_cell_0 17 4 rfl)
theorem dX6_cell_18 : decode cX6_cell 18 = .ok (.iload 5, 2) := dw_21 (kcX6_cell_0 18 21 rfl) (kcX6_cell_0 19 5 rfl)
theorem dX6_cell_20 : decode cX6_cell 20 = .ok (.invokestatic 88, 3) := dw_184 (kcX6_cell_0 20 184 rfl) (kcX6_cell_0 21 0 rfl) (kcX6_cell_0 22 88 rfl) rfl
theorem dX6_cell_23 : decode cX6_cell 23 = .ok (.ifCond .ne 10, 3) := dw_154 (kcX6_cell_0 23 154 rfl) (kcX6_cell_0 24 0 rfl) (kcX6_cell_0 25 10 rfl) rfl
theorem dX6_cell_33 : decode cX6_cell 33 = .ok (.aload_n 0, 1) := dw_42 (kcX6_cell_0 33 42 rfl)
theorem dX6_cell_34 : decode cX6_cell 34 = .ok (.getfield 15, 3) := dw_180 (kcX6_cell_0 34 180 rfl) (kcX6_cell_0 35 0 rfl) (kcX6_cell_0 36 15 rfl) rfl
theorem dX6_cell_37 : decode cX6_cell 37 = .ok (.iload_n 1, 1) := dw_27 (kcX6_cell_0 37 27 rfl)
theorem dX6_cell_38 : decode cX6_cell 38 = .ok (.aaload, 1) := dw_50 (kcX6_cell_0 38 50 rfl)
theorem dX6_cell_39 : decode cX6_cell 39 = .ok (.iload_n 2, 1) := dw_28 (kcX6_cell_0 39 28 rfl)
theorem dX6_cell_40 : decode cX6_cell 40 = .ok (.iload_n 3, 1) := dw_29 (kcX6_cell_0 40 29 rfl)
theorem dX6_cell_41 : decode cX6_cell 41 = .ok (.invokestatic 92, 3) := dw_184 (kcX6_cell_0 41 184 rfl) (kcX6_cell_0 42 0 rfl) (kcX6_cell_0 43 92 rfl) rfl
theorem dX6_cell_44 : decode cX6_cell 44 = .ok (.iload 4, 2) := dw_21 (kcX6_cell_0 44 21 rfl) (kcX6_cell_0 45 4 rfl)
theorem dX6_cell_46 : decode cX6_cell 46 = .ok (.ifCond .ne 7, 3) := dw_154 (kcX6_cell_0 46 154 rfl) (kcX6_cell_0 47 0 rfl) (kcX6_cell_0 48 7 rfl) rfl
theorem dX6_cell_53 : decode cX6_cell 53 = .ok (.iload 4, 2) := dw_21 (kcX6_cell_0 53 21 rfl) (kcX6_cell_0 54 4 rfl)
theorem dX6_cell_55 : decode cX6_cell 55 = .ok (.iload 5, 2) := dw_21 (kcX6_cell_0 55 21 rfl) (kcX6_cell_0 56 5 rfl)
theorem dX6_cell_57 : decode cX6_cell 57 = .ok (.invokevirtual 96, 3) := dw_182 (kcX6_cell_0 57 182 rfl) (kcX6_cell_0 58 0 rfl) (kcX6_cell_0 59 96 rfl) rfl
theorem dX6_cell_60 : decode cX6_cell 60 = .ok (.iconst 1, 1) := dw_4 (kcX6_cell_0 60 4 rfl)
theorem dX6_cell_61 : decode cX6_cell 61 = .ok (.ireturn, 1) := dw_172 (kcX6_cell_0 61 172 rfl)
theorem dX6_cell_49 : decode cX6_cell 49 = .ok (.iconst 5, 1) := dw_8 (kcX6_cell_0 49 8 rfl)
theorem dX6_cell_50 : decode cX6_cell 50 = .ok (.goto 5, 3) := dw_167 (kcX6_cell_0 50 167 rfl) (kcX6_cell_0 51 0 rfl) (kcX6_cell_0 52 5 rfl) rfl
theorem dX6_cell_26 : decode cX6_cell 26 = .ok (.aload_n 0, 1) := dw_42 (kcX6_cell_0 26 42 rfl)
theorem dX6_cell_27 : decode cX6_cell 27 = .ok (.bipush 7, 2) := dw_16 (kcX6_cell_0 27 16 rfl) (kcX6_cell_0 28 7 rfl) rfl
theorem dX6_cell_29 : decode cX6_cell 29 = .ok (.invokevirtual 65, 3) := dw_182 (kcX6_cell_0 29 182 rfl) (kcX6_cell_0 30 0 rfl) (kcX6_cell_0 31 65 rfl) rfl
theorem dX6_cell_32 : decode cX6_cell 32 = .ok (.ireturn, 1) := dw_172 (kcX6_cell_0 32 172 rfl)
theorem dX6_cell_14 : decode cX6_cell 14 = .ok (.iconst 0, 1) := dw_3 (kcX6_cell_0 14 3 rfl)
theorem dX6_cell_15 : decode cX6_cell 15 = .ok (.ireturn, 1) := dw_172 (kcX6_cell_0 15 172 rfl)
theorem kcX6_giver_0 : CHb cX6_giver 0 [42, 42, 27, 28, 29, 182, 0, 100, 182, 0, 65, 154, 0, 5, 3, 172, 21, 4, 4, 161, 0, 10, 21, 4, 18, 103, 164, 0, 10, 42, 16, 7, 182, 0, 65, 172, 42, 42, 180, 0, 15, 27, 50, 28, 29, 184, 0, 92, 21, 4, 182, 0, 104, 153, 0, 7, 3, 167, 0, 5, 16, 8, 182, 0] := CHb_of (by decide +kernel)
theorem dX6_giver_0 : decode cX6_giver 0 = .ok (.aload_n 0, 1) := dw_42 (kcX6_giver_0 0 42 rfl)
theorem dX6_giver_1 : decode cX6_giver 1 = .ok (.aload_n 0, 1) := dw_42 (kcX6_giver_0 1 42 rfl)
theorem dX6_giver_2 : decode cX6_giver 2 = .ok (.iload_n 1, 1) := dw_27 (kcX6_giver_0 2 27 rfl)
theorem dX6_giver_3 : decode cX6_giver 3 = .ok (.iload_n 2, 1) := dw_28 (kcX6_giver_0 3 28 rfl)
theorem dX6_giver_4 : decode cX6_giver 4 = .ok (.iload_n 3, 1) := dw_29 (kcX6_giver_0 4 29 rfl)
theorem dX6_giver_5 : decode cX6_giver 5 = .ok (.invokevirtual 100, 3) := dw_182 (kcX6_giver_0 5 182 rfl) (kcX6_giver_0 6 0 rfl) (kcX6_giver_0 7 100 rfl) rfl
theorem dX6_giver_8 : decode cX6_giver 8 = .ok (.invokevirtual 65, 3) := dw_182 (kcX6_giver_0 8 182 rfl) (kcX6_giver_0 9 0 rfl) (kcX6_giver_0 10 65 rfl) rfl
theorem dX6_giver_11 : decode cX6_giver 11 = .ok (.ifCond .ne 5, 3) := dw_154 (kcX6_giver_0 11 154 rfl) (kcX6_giver_0 12 0 rfl) (kcX6_giver_0 13 5 rfl) rfl
theorem dX6_giver_16 : decode cX6_giver 16 = .ok (.iload 4, 2) := dw_21 (kcX6_giver_0 16 21 rfl) (kcX6_giver_0 17 4 rfl)
theorem dX6_giver_18 : decode cX6_giver 18 = .ok (.iconst 1, 1) := dw_4 (kcX6_giver_0 18 4 rfl)
theorem dX6_giver_19 : decode cX6_giver 19 = .ok (.if_icmp .lt 10, 3) := dw_161 (kcX6_giver_0 19 161 rfl) (kcX6_giver_0 20 0 rfl) (kcX6_giver_0 21 10 rfl) rfl
theorem dX6_giver_29 : decode cX6_giver 29 = .ok (.aload_n 0, 1) := dw_42 (kcX6_giver_0 29 42 rfl)
theorem dX6_giver_30 : decode cX6_giver 30 = .ok (.bipush 7, 2) := dw_16 (kcX6_giver_0 30 16 rfl) (kcX6_giver_0 31 7 rfl) rfl
theorem dX6_giver_32 : decode cX6_giver 32 = .ok (.invokevirtual 65, 3) := dw_182 (kcX6_giver_0 32 182 rfl) (kcX6_giver_0 33 0 rfl) (kcX6_giver_0 34 65 rfl) rfl
theorem dX6_giver_35 : decode cX6_giver 35 = .ok (.ireturn, 1) := dw_172 (kcX6_giver_0 35 172 rfl)
theorem dX6_giver_22 : decode cX6_giver 22 = .ok (.iload 4, 2) := dw_21 (kcX6_giver_0 22 21 rfl) (kcX6_giver_0 23 4 rfl)
theorem dX6_giver_24 : decode cX6_giver 24 = .ok (.ldc 103, 2) := dw_18 (kcX6_giver_0 24 18 rfl) (kcX6_giver_0 25 103 rfl)
theorem dX6_giver_26 : decode cX6_giver 26 = .ok (.if_icmp .le 10, 3) := dw_164 (kcX6_giver_0 26 164 rfl) (kcX6_giver_0 27 0 rfl) (kcX6_giver_0 28 10 rfl) rfl
theorem dX6_giver_36 : decode cX6_giver 36 = .ok (.aload_n 0, 1) := dw_42 (kcX6_giver_0 36 42 rfl)
theorem dX6_giver_37 : decode cX6_giver 37 = .ok (.aload_n 0, 1) := dw_42 (kcX6_giver_0 37 42 rfl)
theorem dX6_giver_38 : decode cX6_giver 38 = .ok (.getfield 15, 3) := dw_180 (kcX6_giver_0 38 180 rfl) (kcX6_giver_0 39 0 rfl) (kcX6_giver_0 40 15 rfl) rfl
theorem dX6_giver_41 : decode cX6_giver 41 = .ok (.iload_n 1, 1) := dw_27 (kcX6_giver_0 41 27 rfl)
theorem dX6_giver_42 : decode cX6_giver 42 = .ok (.aaload, 1) := dw_50 (kcX6_giver_0 42 50 rfl)
theorem dX6_giver_43 : decode cX6_giver 43 = .ok (.iload_n 2, 1) := dw_28 (kcX6_giver_0 43 28 rfl)
theorem dX6_giver_44 : decode cX6_giver 44 = .ok (.iload_n 3, 1) := dw_29 (kcX6_giver_0 44 29 rfl)
theorem dX6_giver_45 : decode cX6_giver 45 = .ok (.invokestatic 92, 3) := dw_184 (kcX6_giver_0 45 184 rfl) (kcX6_giver_0 46 0 rfl) (kcX6_giver_0 47 92 rfl) rfl
theorem dX6_giver_48 : decode cX6_giver 48 = .ok (.iload 4, 2) := dw_21 (kcX6_giver_0 48 21 rfl) (kcX6_giver_0 49 4 rfl)
theorem dX6_giver_50 : decode cX6_giver 50 = .ok (.invokevirtual 104, 3) := dw_182 (kcX6_giver_0 50 182 rfl) (kcX6_giver_0 51 0 rfl) (kcX6_giver_0 52 104 rfl) rfl
theorem dX6_giver_53 : decode cX6_giver 53 = .ok (.ifCond .eq 7, 3) := dw_153 (kcX6_giver_0 53 153 rfl) (kcX6_giver_0 54 0 rfl) (kcX6_giver_0 55 7 rfl) rfl
theorem dX6_giver_60 : decode cX6_giver 60 = .ok (.bipush 8, 2) := dw_16 (kcX6_giver_0 60 16 rfl) (kcX6_giver_0 61 8 rfl) rfl
theorem kcX6_giver_1 : CHb cX6_giver 64 [65, 172] := CHb_of (by decide +kernel)
theorem dX6_giver_62 : decode cX6_giver 62 = .ok (.invokevirtual 65, 3) := dw_182 (kcX6_giver_0 62 182 rfl) (kcX6_giver_0 63 0 rfl) (kcX6_giver_1 0 65 rfl) rfl
theorem dX6_giver_65 : decode cX6_giver 65 = .ok (.ireturn, 1) := dw_172 (kcX6_giver_1 1 172 rfl)
theorem dX6_giver_56 : decode cX6_giver 56 = .ok (.iconst 0, 1) := dw_3 (kcX6_giver_0 56 3 rfl)
theorem dX6_giver_57 : decode cX6_giver 57 = .ok (.goto 5, 3) := dw_167 (kcX6_giver_0 57 167 rfl) (kcX6_giver_0 58 0 rfl) (kcX6_giver_0 59 5 rfl) rfl
theorem dX6_giver_14 : decode cX6_giver 14 = .ok (.iconst 0, 1) := dw_3 (kcX6_giver_0 14 3 rfl)
theorem dX6_giver_15 : decode cX6_giver 15 = .ok (.ireturn, 1) := dw_172 (kcX6_giver_0 15 172 rfl)
theorem kcX6_clear_0 : CHb cX6_clear 0 [42, 42, 27, 28, 29, 182, 0, 107, 182, 0, 65, 154, 0, 5, 3, 172, 42, 180, 0, 15, 27, 50, 28, 29, 184, 0, 92, 3, 3, 182, 0, 96, 4, 172] := CHb_of (by decide +kernel)
theorem dX6_clear_0 : decode cX6_clear 0 = .ok (.aload_n 0, 1) := dw_42 (kcX6_clear_0 0 42 rfl)
theorem dX6_clear_1 : decode cX6_clear 1 = .ok (.aload_n 0, 1) := dw_42 (kcX6_clear_0 1 42 rfl)
theorem dX6_clear_2 : decode cX6_clear 2 = .ok (.iload_n 1, 1) := dw_27 (kcX6_clear_0 2 27 rfl)
theorem dX6_clear_3 : decode cX6_clear 3 = .ok (.iload_n 2, 1) := dw_28 (kcX6_clear_0 3 28 rfl)
theorem dX6_clear_4 : decode cX6_clear 4 = .ok (.iload_n 3, 1) := dw_29 (kcX6_clear_0 4 29 rfl)
theorem dX6_clear_5 : decode cX6_clear 5 = .ok (.invokevirtual 107, 3) := dw_182 (kcX6_clear_0 5 182 rfl) (kcX6_clear_0 6 0 rfl) (kcX6_clear_0 7 107 rfl) rfl
theorem dX6_clear_8 : decode cX6_clear 8 = .ok (.invokevirtual 65, 3) := dw_182 (kcX6_clear_0 8 182 rfl) (kcX6_clear_0 9 0 rfl) (kcX6_clear_0 10 65 rfl) rfl
theorem dX6_clear_11 : decode cX6_clear 11 = .ok (.ifCond .ne 5, 3) := dw_154 (kcX6_clear_0 11 154 rfl) (kcX6_clear_0 12 0 rfl) (kcX6_clear_0 13 5 rfl) rfl
theorem dX6_clear_16 : decode cX6_clear 16 = .ok (.aload_n 0, 1) := dw_42 (kcX6_clear_0 16 42 rfl)
theorem dX6_clear_17 : decode cX6_clear 17 = .ok (.getfield 15, 3) := dw_180 (kcX6_clear_0 17 180 rfl) (kcX6_clear_0 18 0 rfl) (kcX6_clear_0 19 15 rfl) rfl
theorem dX6_clear_20 : decode cX6_clear 20 = .ok (.iload_n 1, 1) := dw_27 (kcX6_clear_0 20 27 rfl)
theorem dX6_clear_21 : decode cX6_clear 21 = .ok (.aaload, 1) := dw_50 (kcX6_clear_0 21 50 rfl)
theorem dX6_clear_22 : decode cX6_clear 22 = .ok (.iload_n 2, 1) := dw_28 (kcX6_clear_0 22 28 rfl)
theorem dX6_clear_23 : decode cX6_clear 23 = .ok (.iload_n 3, 1) := dw_29 (kcX6_clear_0 23 29 rfl)
theorem dX6_clear_24 : decode cX6_clear 24 = .ok (.invokestatic 92, 3) := dw_184 (kcX6_clear_0 24 184 rfl) (kcX6_clear_0 25 0 rfl) (kcX6_clear_0 26 92 rfl) rfl
theorem dX6_clear_27 : decode cX6_clear 27 = .ok (.iconst 0, 1) := dw_3 (kcX6_clear_0 27 3 rfl)
theorem dX6_clear_28 : decode cX6_clear 28 = .ok (.iconst 0, 1) := dw_3 (kcX6_clear_0 28 3 rfl)
theorem dX6_clear_29 : decode cX6_clear 29 = .ok (.invokevirtual 96, 3) := dw_182 (kcX6_clear_0 29 182 rfl) (kcX6_clear_0 30 0 rfl) (kcX6_clear_0 31 96 rfl) rfl
theorem dX6_clear_32 : decode cX6_clear 32 = .ok (.iconst 1, 1) := dw_4 (kcX6_clear_0 32 4 rfl)
theorem dX6_clear_33 : decode cX6_clear 33 = .ok (.ireturn, 1) := dw_172 (kcX6_clear_0 33 172 rfl)
theorem dX6_clear_14 : decode cX6_clear 14 = .ok (.iconst 0, 1) := dw_3 (kcX6_clear_0 14 3 rfl)
theorem dX6_clear_15 : decode cX6_clear 15 = .ok (.ireturn, 1) := dw_172 (kcX6_clear_0 15 172 rfl)
theorem kcX6_tear_0 : CHb cX6_tear 0 [42, 42, 27, 28, 182, 0, 110, 182, 0, 65, 154, 0, 5, 3, 172, 42, 180, 0, 15, 27, 50, 180, 0, 113, 28, 46, 54, 4, 21, 4, 154, 0, 9, 42, 6, 182, 0, 65, 172, 29, 21, 4, 164, 0, 9, 42, 7, 182, 0, 65, 172, 29, 156, 0, 10, 42, 16, 7, 182, 0, 65, 172, 42, 180] := CHb_of (by decide +kernel)
theorem dX6_tear_0 : decode cX6_tear 0 = .ok (.aload_n 0, 1) := dw_42 (kcX6_tear_0 0 42 rfl)
theorem dX6_tear_1 : decode cX6_tear 1 = .ok (.aload_n 0, 1) := dw_42 (kcX6_tear_0 1 42 rfl)
theorem dX6_tear_2 : decode cX6_tear 2 = .ok (.iload_n 1, 1) := dw_27 (kcX6_tear_0 2 27 rfl)
theorem dX6_tear_3 : decode cX6_tear 3 = .ok (.iload_n 2, 1) := dw_28 (kcX6_tear_0 3 28 rfl)
theorem dX6_tear_4 : decode cX6_tear 4 = .ok (.invokevirtual 110, 3) := dw_182 (kcX6_tear_0 4 182 rfl) (kcX6_tear_0 5 0 rfl) (kcX6_tear_0 6 110 rfl) rfl
theorem dX6_tear_7 : decode cX6_tear 7 = .ok (.invokevirtual 65, 3) := dw_182 (kcX6_tear_0 7 182 rfl) (kcX6_tear_0 8 0 rfl) (kcX6_tear_0 9 65 rfl) rfl
theorem dX6_tear_10 : decode cX6_tear 10 = .ok (.ifCond .ne 5, 3) := dw_154 (kcX6_tear_0 10 154 rfl) (kcX6_tear_0 11 0 rfl) (kcX6_tear_0 12 5 rfl) rfl
theorem dX6_tear_15 : decode cX6_tear 15 = .ok (.aload_n 0, 1) := dw_42 (kcX6_tear_0 15 42 rfl)
theorem dX6_tear_16 : decode cX6_tear 16 = .ok (.getfield 15, 3) := dw_180 (kcX6_tear_0 16 180 rfl) (kcX6_tear_0 17 0 rfl) (kcX6_tear_0 18 15 rfl) rfl
theorem dX6_tear_19 : decode cX6_tear 19 = .ok (.iload_n 1, 1) := dw_27 (kcX6_tear_0 19 27 rfl)
theorem dX6_tear_20 : decode cX6_tear 20 = .ok (.aaload, 1) := dw_50 (kcX6_tear_0 20 50 rfl)
theorem dX6_tear_21 : decode cX6_tear 21 = .ok (.getfield 113, 3) := dw_180 (kcX6_tear_0 21 180 rfl) (kcX6_tear_0 22 0 rfl) (kcX6_tear_0 23 113 rfl) rfl
theorem dX6_tear_24 : decode cX6_tear 24 = .ok (.iload_n 2, 1) := dw_28 (kcX6_tear_0 24 28 rfl)
theorem dX6_tear_25 : decode cX6_tear 25 = .ok (.iaload, 1) := dw_46 (kcX6_tear_0 25 46 rfl)
theorem dX6_tear_26 : decode cX6_tear 26 = .ok (.istore 4, 2) := dw_54 (kcX6_tear_0 26 54 rfl) (kcX6_tear_0 27 4 rfl)
theorem dX6_tear_28 : decode cX6_tear 28 = .ok (.iload 4, 2) := dw_21 (kcX6_tear_0 28 21 rfl) (kcX6_tear_0 29 4 rfl)
theorem dX6_tear_30 : decode cX6_tear 30 = .ok (.ifCond .ne 9, 3) := dw_154 (kcX6_tear_0 30 154 rfl) (kcX6_tear_0 31 0 rfl) (kcX6_tear_0 32 9 rfl) rfl
theorem dX6_tear_39 : decode cX6_tear 39 = .ok (.iload_n 3, 1) := dw_29 (kcX6_tear_0 39 29 rfl)
theorem dX6_tear_40 : decode cX6_tear 40 = .ok (.iload 4, 2) := dw_21 (kcX6_tear_0 40 21 rfl) (kcX6_tear_0 41 4 rfl)
theorem dX6_tear_42 : decode cX6_tear 42 = .ok (.if_icmp .le 9, 3) := dw_164 (kcX6_tear_0 42 164 rfl) (kcX6_tear_0 43 0 rfl) (kcX6_tear_0 44 9 rfl) rfl
theorem dX6_tear_51 : decode cX6_tear 51 = .ok (.iload_n 3, 1) := dw_29 (kcX6_tear_0 51 29 rfl)
theorem dX6_tear_52 : decode cX6_tear 52 = .ok (.ifCond .ge 10, 3) := dw_156 (kcX6_tear_0 52 156 rfl) (kcX6_tear_0 53 0 rfl) (kcX6_tear_0 54 10 rfl) rfl
theorem dX6_tear_62 : decode cX6_tear 62 = .ok (.aload_n 0, 1) := dw_42 (kcX6_tear_0 62 42 rfl)
theorem kcX6_tear_1 : CHb cX6_tear 64 [0, 15, 27, 50, 28, 29, 182, 0, 116, 4, 172] := CHb_of (by decide +kernel)
theorem dX6_tear_63 : decode cX6_tear 63 = .ok (.getfield 15, 3) := dw_180 (kcX6_tear_0 63 180 rfl) (kcX6_tear_1 0 0 rfl) (kcX6_tear_1 1 15 rfl) rfl
theorem dX6_tear_66 : decode cX6_tear 66 = .ok (.iload_n 1, 1) := dw_27 (kcX6_tear_1 2 27 rfl)
theorem dX6_tear_67 : decode cX6_tear 67 = .ok (.aaload, 1) := dw_50 (kcX6_tear_1 3 50 rfl)
theorem dX6_tear_68 : decode cX6_tear 68 = .ok (.iload_n 2, 1) := dw_28 (kcX6_tear_1 4 28 rfl)
theorem dX6_tear_69 : decode cX6_tear 69 = .ok (.iload_n 3, 1) := dw_29 (kcX6_tear_1 5 29 rfl)
theorem dX6_tear_70 : decode cX6_tear 70 = .ok (.invokevirtual 116, 3) := dw_182 (kcX6_tear_1 6 182 rfl) (kcX6_tear_1 7 0 rfl) (kcX6_tear_1 8 116 rfl) rfl
theorem dX6_tear_73 : decode cX6_tear 73 = .ok (.iconst 1, 1) := dw_4 (kcX6_tear_1 9 4 rfl)
theorem dX6_tear_74 : decode cX6_tear 74 = .ok (.ireturn, 1) := dw_172 (kcX6_tear_1 10 172 rfl)
theorem dX6_tear_55 : decode cX6_tear 55 = .ok (.aload_n 0, 1) := dw_42 (kcX6_tear_0 55 42 rfl)
theorem dX6_tear_56 : decode cX6_tear 56 = .ok (.bipush 7, 2) := dw_16 (kcX6_tear_0 56 16 rfl) (kcX6_tear_0 57 7 rfl) rfl
theorem dX6_tear_58 : decode cX6_tear 58 = .ok (.invokevirtual 65, 3) := dw_182 (kcX6_tear_0 58 182 rfl) (kcX6_tear_0 59 0 rfl) (kcX6_tear_0 60 65 rfl) rfl
theorem dX6_tear_61 : decode cX6_tear 61 = .ok (.ireturn, 1) := dw_172 (kcX6_tear_0 61 172 rfl)
theorem dX6_tear_45 : decode cX6_tear 45 = .ok (.aload_n 0, 1) := dw_42 (kcX6_tear_0 45 42 rfl)
theorem dX6_tear_46 : decode cX6_tear 46 = .ok (.iconst 4, 1) := dw_7 (kcX6_tear_0 46 7 rfl)
theorem dX6_tear_47 : decode cX6_tear 47 = .ok (.invokevirtual 65, 3) := dw_182 (kcX6_tear_0 47 182 rfl) (kcX6_tear_0 48 0 rfl) (kcX6_tear_0 49 65 rfl) rfl
theorem dX6_tear_50 : decode cX6_tear 50 = .ok (.ireturn, 1) := dw_172 (kcX6_tear_0 50 172 rfl)
theorem dX6_tear_33 : decode cX6_tear 33 = .ok (.aload_n 0, 1) := dw_42 (kcX6_tear_0 33 42 rfl)
theorem dX6_tear_34 : decode cX6_tear 34 = .ok (.iconst 3, 1) := dw_6 (kcX6_tear_0 34 6 rfl)
theorem dX6_tear_35 : decode cX6_tear 35 = .ok (.invokevirtual 65, 3) := dw_182 (kcX6_tear_0 35 182 rfl) (kcX6_tear_0 36 0 rfl) (kcX6_tear_0 37 65 rfl) rfl
theorem dX6_tear_38 : decode cX6_tear 38 = .ok (.ireturn, 1) := dw_172 (kcX6_tear_0 38 172 rfl)
theorem dX6_tear_13 : decode cX6_tear 13 = .ok (.iconst 0, 1) := dw_3 (kcX6_tear_0 13 3 rfl)
theorem dX6_tear_14 : decode cX6_tear 14 = .ok (.ireturn, 1) := dw_172 (kcX6_tear_0 14 172 rfl)
theorem kcX6_block_0 : CHb cX6_block 0 [42, 42, 27, 182, 0, 73, 182, 0, 65, 154, 0, 5, 2, 172, 42, 180, 0, 15, 27, 50, 58, 4, 28, 155, 0, 17, 29, 25, 4, 180, 0, 119, 162, 0, 8, 29, 28, 162, 0, 9, 42, 5, 182, 0, 122, 172, 25, 4, 180, 0, 125, 16, 12, 161, 0, 10, 42, 16, 8, 182, 0, 122, 172, 25] := CHb_of (by decide +kernel)
theorem dX6_block_0 : decode cX6_block 0 = .ok (.aload_n 0, 1) := dw_42 (kcX6_block_0 0 42 rfl)
theorem dX6_block_1 : decode cX6_block 1 = .ok (.aload_n 0, 1) := dw_42 (kcX6_block_0 1 42 rfl)
theorem dX6_block_2 : decode cX6_block 2 = .ok (.iload_n 1, 1) := dw_27 (kcX6_block_0 2 27 rfl)
theorem dX6_block_3 : decode cX6_block 3 = .ok (.invokevirtual 73, 3) := dw_182 (kcX6_block_0 3 182 rfl) (kcX6_block_0 4 0 rfl) (kcX6_block_0 5 73 rfl) rfl
theorem dX6_block_6 : decode cX6_block 6 = .ok (.invokevirtual 65, 3) := dw_182 (kcX6_block_0 6 182 rfl) (kcX6_block_0 7 0 rfl) (kcX6_block_0 8 65 rfl) rfl
theorem dX6_block_9 : decode cX6_block 9 = .ok (.ifCond .ne 5, 3) := dw_154 (kcX6_block_0 9 154 rfl) (kcX6_block_0 10 0 rfl) (kcX6_block_0 11 5 rfl) rfl
theorem dX6_block_14 : decode cX6_block 14 = .ok (.aload_n 0, 1) := dw_42 (kcX6_block_0 14 42 rfl)
theorem dX6_block_15 : decode cX6_block 15 = .ok (.getfield 15, 3) := dw_180 (kcX6_block_0 15 180 rfl) (kcX6_block_0 16 0 rfl) (kcX6_block_0 17 15 rfl) rfl
theorem dX6_block_18 : decode cX6_block 18 = .ok (.iload_n 1, 1) := dw_27 (kcX6_block_0 18 27 rfl)
theorem dX6_block_19 : decode cX6_block 19 = .ok (.aaload, 1) := dw_50 (kcX6_block_0 19 50 rfl)
theorem dX6_block_20 : decode cX6_block 20 = .ok (.astore 4, 2) := dw_58 (kcX6_block_0 20 58 rfl) (kcX6_block_0 21 4 rfl)
theorem dX6_block_22 : decode cX6_block 22 = .ok (.iload_n 2, 1) := dw_28 (kcX6_block_0 22 28 rfl)
theorem dX6_block_23 : decode cX6_block 23 = .ok (.ifCond .lt 17, 3) := dw_155 (kcX6_block_0 23 155 rfl) (kcX6_block_0 24 0 rfl) (kcX6_block_0 25 17 rfl) rfl
theorem dX6_block_40 : decode cX6_block 40 = .ok (.aload_n 0, 1) := dw_42 (kcX6_block_0 40 42 rfl)
theorem dX6_block_41 : decode cX6_block 41 = .ok (.iconst 2, 1) := dw_5 (kcX6_block_0 41 5 rfl)
theorem dX6_block_42 : decode cX6_block 42 = .ok (.invokevirtual 122, 3) := dw_182 (kcX6_block_0 42 182 rfl) (kcX6_block_0 43 0 rfl) (kcX6_block_0 44 122 rfl) rfl
theorem dX6_block_45 : decode cX6_block 45 = .ok (.ireturn, 1) := dw_172 (kcX6_block_0 45 172 rfl)
theorem dX6_block_26 : decode cX6_block 26 = .ok (.iload_n 3, 1) := dw_29 (kcX6_block_0 26 29 rfl)
theorem dX6_block_27 : decode cX6_block 27 = .ok (.aload 4, 2) := dw_25 (kcX6_block_0 27 25 rfl) (kcX6_block_0 28 4 rfl)
theorem dX6_block_29 : decode cX6_block 29 = .ok (.getfield 119, 3) := dw_180 (kcX6_block_0 29 180 rfl) (kcX6_block_0 30 0 rfl) (kcX6_block_0 31 119 rfl) rfl
theorem dX6_block_32 : decode cX6_block 32 = .ok (.if_icmp .ge 8, 3) := dw_162 (kcX6_block_0 32 162 rfl) (kcX6_block_0 33 0 rfl) (kcX6_block_0 34 8 rfl) rfl
theorem dX6_block_35 : decode cX6_block 35 = .ok (.iload_n 3, 1) := dw_29 (kcX6_block_0 35 29 rfl)
theorem dX6_block_36 : decode cX6_block 36 = .ok (.iload_n 2, 1) := dw_28 (kcX6_block_0 36 28 rfl)
theorem dX6_block_37 : decode cX6_block 37 = .ok (.if_icmp .ge 9, 3) := dw_162 (kcX6_block_0 37 162 rfl) (kcX6_block_0 38 0 rfl) (kcX6_block_0 39 9 rfl) rfl
theorem dX6_block_46 : decode cX6_block 46 = .ok (.aload 4, 2) := dw_25 (kcX6_block_0 46 25 rfl) (kcX6_block_0 47 4 rfl)
theorem dX6_block_48 : decode cX6_block 48 = .ok (.getfield 125, 3) := dw_180 (kcX6_block_0 48 180 rfl) (kcX6_block_0 49 0 rfl) (kcX6_block_0 50 125 rfl) rfl
theorem dX6_block_51 : decode cX6_block 51 = .ok (.bipush 12, 2) := dw_16 (kcX6_block_0 51 16 rfl) (kcX6_block_0 52 12 rfl) rfl
theorem dX6_block_53 : decode cX6_block 53 = .ok (.if_icmp .lt 10, 3) := dw_161 (kcX6_block_0 53 161 rfl) (kcX6_block_0 54 0 rfl) (kcX6_block_0 55 10 rfl) rfl
theorem kcX6_block_1 : CHb cX6_block 64 [4, 28, 29, 182, 0, 128, 154, 0, 10, 42, 16, 9, 182, 0, 122, 172, 25, 4, 28, 29, 182, 0, 131, 25, 4, 180, 0, 125, 172] := CHb_of (by decide +kernel)
theorem dX6_block_63 : decode cX6_block 63 = .ok (.aload 4, 2) := dw_25 (kcX6_block_0 63 25 rfl) (kcX6_block_1 0 4 rfl)
theorem dX6_block_65 : decode cX6_block 65 = .ok (.iload_n 2, 1) := dw_28 (kcX6_block_1 1 28 rfl)
theorem dX6_block_66 : decode cX6_block 66 = .ok (.iload_n 3, 1) := dw_29 (kcX6_block_1 2 29 rfl)
theorem dX6_block_67 : decode cX6_block 67 = .ok (.invokevirtual 128, 3) := dw_182 (kcX6_block_1 3 182 rfl) (kcX6_block_1 4 0 rfl) (kcX6_block_1 5 128 rfl) rfl
theorem dX6_block_70 : decode cX6_block 70 = .ok (.ifCond .ne 10, 3) := dw_154 (kcX6_block_1 6 154 rfl) (kcX6_block_1 7 0 rfl) (kcX6_block_1 8 10 rfl) rfl
theorem dX6_block_80 : decode cX6_block 80 = .ok (.aload 4, 2) := dw_25 (kcX6_block_1 16 25 rfl) (kcX6_block_1 17 4 rfl)
theorem dX6_block_82 : decode cX6_block 82 = .ok (.iload_n 2, 1) := dw_28 (kcX6_block_1 18 28 rfl)
theorem dX6_block_83 : decode cX6_block 83 = .ok (.iload_n 3, 1) := dw_29 (kcX6_block_1 19 29 rfl)
theorem dX6_block_84 : decode cX6_block 84 = .ok (.invokevirtual 131, 3) := dw_182 (kcX6_block_1 20 182 rfl) (kcX6_block_1 21 0 rfl) (kcX6_block_1 22 131 rfl) rfl
theorem dX6_block_87 : decode cX6_block 87 = .ok (.aload 4, 2) := dw_25 (kcX6_block_1 23 25 rfl) (kcX6_block_1 24 4 rfl)
theorem dX6_block_89 : decode cX6_block 89 = .ok (.getfield 125, 3) := dw_180 (kcX6_block_1 25 180 rfl) (kcX6_block_1 26 0 rfl) (kcX6_block_1 27 125 rfl) rfl
theorem dX6_block_92 : decode cX6_block 92 = .ok (.ireturn, 1) := dw_172 (kcX6_block_1 28 172 rfl)
theorem dX6_block_73 : decode cX6_block 73 = .ok (.aload_n 0, 1) := dw_42 (kcX6_block_1 9 42 rfl)
theorem dX6_block_74 : decode cX6_block 74 = .ok (.bipush 9, 2) := dw_16 (kcX6_block_1 10 16 rfl) (kcX6_block_1 11 9 rfl) rfl
theorem dX6_block_76 : decode cX6_block 76 = .ok (.invokevirtual 122, 3) := dw_182 (kcX6_block_1 12 182 rfl) (kcX6_block_1 13 0 rfl) (kcX6_block_1 14 122 rfl) rfl
theorem dX6_block_79 : decode cX6_block 79 = .ok (.ireturn, 1) := dw_172 (kcX6_block_1 15 172 rfl)
theorem dX6_block_56 : decode cX6_block 56 = .ok (.aload_n 0, 1) := dw_42 (kcX6_block_0 56 42 rfl)
theorem dX6_block_57 : decode cX6_block 57 = .ok (.bipush 8, 2) := dw_16 (kcX6_block_0 57 16 rfl) (kcX6_block_0 58 8 rfl) rfl
theorem dX6_block_59 : decode cX6_block 59 = .ok (.invokevirtual 122, 3) := dw_182 (kcX6_block_0 59 182 rfl) (kcX6_block_0 60 0 rfl) (kcX6_block_0 61 122 rfl) rfl
theorem dX6_block_62 : decode cX6_block 62 = .ok (.ireturn, 1) := dw_172 (kcX6_block_0 62 172 rfl)
theorem dX6_block_12 : decode cX6_block 12 = .ok (.iconst (-1), 1) := dw_2 (kcX6_block_0 12 2 rfl)
theorem dX6_block_13 : decode cX6_block 13 = .ok (.ireturn, 1) := dw_172 (kcX6_block_0 13 172 rfl)
theorem kcX6_kind_0 : CHb cX6_kind 0 [42, 42, 27, 28, 29, 182, 0, 84, 182, 0, 65, 154, 0, 5, 2, 172, 42, 180, 0, 15, 27, 50, 180, 0, 134, 28, 29, 184, 0, 92, 46, 172] := CHb_of (by decide +kernel)
theorem dX6_kind_0 : decode cX6_kind 0 = .ok (.aload_n 0, 1) := dw_42 (kcX6_kind_0 0 42 rfl)
theorem dX6_kind_1 : decode cX6_kind 1 = .ok (.aload_n 0, 1) := dw_42 (kcX6_kind_0 1 42 rfl)
theorem dX6_kind_2 : decode cX6_kind 2 = .ok (.iload_n 1, 1) := dw_27 (kcX6_kind_0 2 27 rfl)
theorem dX6_kind_3 : decode cX6_kind 3 = .ok (.iload_n 2, 1) := dw_28 (kcX6_kind_0 3 28 rfl)
theorem dX6_kind_4 : decode cX6_kind 4 = .ok (.iload_n 3, 1) := dw_29 (kcX6_kind_0 4 29 rfl)
theorem dX6_kind_5 : decode cX6_kind 5 = .ok (.invokevirtual 84, 3) := dw_182 (kcX6_kind_0 5 182 rfl) (kcX6_kind_0 6 0 rfl) (kcX6_kind_0 7 84 rfl) rfl
theorem dX6_kind_8 : decode cX6_kind 8 = .ok (.invokevirtual 65, 3) := dw_182 (kcX6_kind_0 8 182 rfl) (kcX6_kind_0 9 0 rfl) (kcX6_kind_0 10 65 rfl) rfl
theorem dX6_kind_11 : decode cX6_kind 11 = .ok (.ifCond .ne 5, 3) := dw_154 (kcX6_kind_0 11 154 rfl) (kcX6_kind_0 12 0 rfl) (kcX6_kind_0 13 5 rfl) rfl
theorem dX6_kind_16 : decode cX6_kind 16 = .ok (.aload_n 0, 1) := dw_42 (kcX6_kind_0 16 42 rfl)
theorem dX6_kind_17 : decode cX6_kind 17 = .ok (.getfield 15, 3) := dw_180 (kcX6_kind_0 17 180 rfl) (kcX6_kind_0 18 0 rfl) (kcX6_kind_0 19 15 rfl) rfl
theorem dX6_kind_20 : decode cX6_kind 20 = .ok (.iload_n 1, 1) := dw_27 (kcX6_kind_0 20 27 rfl)
theorem dX6_kind_21 : decode cX6_kind 21 = .ok (.aaload, 1) := dw_50 (kcX6_kind_0 21 50 rfl)
theorem dX6_kind_22 : decode cX6_kind 22 = .ok (.getfield 134, 3) := dw_180 (kcX6_kind_0 22 180 rfl) (kcX6_kind_0 23 0 rfl) (kcX6_kind_0 24 134 rfl) rfl
theorem dX6_kind_25 : decode cX6_kind 25 = .ok (.iload_n 2, 1) := dw_28 (kcX6_kind_0 25 28 rfl)
theorem dX6_kind_26 : decode cX6_kind 26 = .ok (.iload_n 3, 1) := dw_29 (kcX6_kind_0 26 29 rfl)
theorem dX6_kind_27 : decode cX6_kind 27 = .ok (.invokestatic 92, 3) := dw_184 (kcX6_kind_0 27 184 rfl) (kcX6_kind_0 28 0 rfl) (kcX6_kind_0 29 92 rfl) rfl
theorem dX6_kind_30 : decode cX6_kind 30 = .ok (.iaload, 1) := dw_46 (kcX6_kind_0 30 46 rfl)
theorem dX6_kind_31 : decode cX6_kind 31 = .ok (.ireturn, 1) := dw_172 (kcX6_kind_0 31 172 rfl)
theorem dX6_kind_14 : decode cX6_kind 14 = .ok (.iconst (-1), 1) := dw_2 (kcX6_kind_0 14 2 rfl)
theorem dX6_kind_15 : decode cX6_kind 15 = .ok (.ireturn, 1) := dw_172 (kcX6_kind_0 15 172 rfl)
theorem kcX6_number_0 : CHb cX6_number 0 [42, 42, 27, 28, 29, 182, 0, 107, 182, 0, 65, 154, 0, 5, 2, 172, 42, 180, 0, 15, 27, 50, 180, 0, 137, 28, 29, 184, 0, 92, 46, 172] := CHb_of (by decide +kernel)
theorem dX6_number_0 : decode cX6_number 0 = .ok (.aload_n 0, 1) := dw_42 (kcX6_number_0 0 42 rfl)
theorem dX6_number_1 : decode cX6_number 1 = .ok (.aload_n 0, 1) := dw_42 (kcX6_number_0 1 42 rfl)
theorem dX6_number_2 : decode cX6_number 2 = .ok (.iload_n 1, 1) := dw_27 (kcX6_number_0 2 27 rfl)
theorem dX6_number_3 : decode cX6_number 3 = .ok (.iload_n 2, 1) := dw_28 (kcX6_number_0 3 28 rfl)
theorem dX6_number_4 : decode cX6_number 4 = .ok (.iload_n 3, 1) := dw_29 (kcX6_number_0 4 29 rfl)
theorem dX6_number_5 : decode cX6_number 5 = .ok (.invokevirtual 107, 3) := dw_182 (kcX6_number_0 5 182 rfl) (kcX6_number_0 6 0 rfl) (kcX6_number_0 7 107 rfl) rfl
theorem dX6_number_8 : decode cX6_number 8 = .ok (.invokevirtual 65, 3) := dw_182 (kcX6_number_0 8 182 rfl) (kcX6_number_0 9 0 rfl) (kcX6_number_0 10 65 rfl) rfl
theorem dX6_number_11 : decode cX6_number 11 = .ok (.ifCond .ne 5, 3) := dw_154 (kcX6_number_0 11 154 rfl) (kcX6_number_0 12 0 rfl) (kcX6_number_0 13 5 rfl) rfl
theorem dX6_number_16 : decode cX6_number 16 = .ok (.aload_n 0, 1) := dw_42 (kcX6_number_0 16 42 rfl)
theorem dX6_number_17 : decode cX6_number 17 = .ok (.getfield 15, 3) := dw_180 (kcX6_number_0 17 180 rfl) (kcX6_number_0 18 0 rfl) (kcX6_number_0 19 15 rfl) rfl
theorem dX6_number_20 : decode cX6_number 20 = .ok (.iload_n 1, 1) := dw_27 (kcX6_number_0 20 27 rfl)
theorem dX6_number_21 : decode cX6_number 21 = .ok (.aaload, 1) := dw_50 (kcX6_number_0 21 50 rfl)
theorem dX6_number_22 : decode cX6_number 22 = .ok (.getfield 137, 3) := dw_180 (kcX6_number_0 22 180 rfl) (kcX6_number_0 23 0 rfl) (kcX6_number_0 24 137 rfl) rfl
theorem dX6_number_25 : decode cX6_number 25 = .ok (.iload_n 2, 1) := dw_28 (kcX6_number_0 25 28 rfl)
theorem dX6_number_26 : decode cX6_number 26 = .ok (.iload_n 3, 1) := dw_29 (kcX6_number_0 26 29 rfl)
theorem dX6_number_27 : decode cX6_number 27 = .ok (.invokestatic 92, 3) := dw_184 (kcX6_number_0 27 184 rfl) (kcX6_number_0 28 0 rfl) (kcX6_number_0 29 92 rfl) rfl
theorem dX6_number_30 : decode cX6_number 30 = .ok (.iaload, 1) := dw_46 (kcX6_number_0 30 46 rfl)
theorem dX6_number_31 : decode cX6_number 31 = .ok (.ireturn, 1) := dw_172 (kcX6_number_0 31 172 rfl)
theorem dX6_number_14 : decode cX6_number 14 = .ok (.iconst (-1), 1) := dw_2 (kcX6_number_0 14 2 rfl)
theorem dX6_number_15 : decode cX6_number 15 = .ok (.ireturn, 1) := dw_172 (kcX6_number_0 15 172 rfl)
theorem kcX6_givers_0 : CHb cX6_givers 0 [42, 42, 27, 28, 29, 182, 0, 100, 182, 0, 65, 154, 0, 5, 2, 172, 42, 180, 0, 15, 27, 50, 28, 29, 184, 0, 92, 182, 0, 140, 172] := CHb_of (by decide +kernel)
theorem dX6_givers_0 : decode cX6_givers 0 = .ok (.aload_n 0, 1) := dw_42 (kcX6_givers_0 0 42 rfl)
theorem dX6_givers_1 : decode cX6_givers 1 = .ok (.aload_n 0, 1) := dw_42 (kcX6_givers_0 1 42 rfl)
theorem dX6_givers_2 : decode cX6_givers 2 = .ok (.iload_n 1, 1) := dw_27 (kcX6_givers_0 2 27 rfl)
theorem dX6_givers_3 : decode cX6_givers 3 = .ok (.iload_n 2, 1) := dw_28 (kcX6_givers_0 3 28 rfl)
theorem dX6_givers_4 : decode cX6_givers 4 = .ok (.iload_n 3, 1) := dw_29 (kcX6_givers_0 4 29 rfl)
theorem dX6_givers_5 : decode cX6_givers 5 = .ok (.invokevirtual 100, 3) := dw_182 (kcX6_givers_0 5 182 rfl) (kcX6_givers_0 6 0 rfl) (kcX6_givers_0 7 100 rfl) rfl
theorem dX6_givers_8 : decode cX6_givers 8 = .ok (.invokevirtual 65, 3) := dw_182 (kcX6_givers_0 8 182 rfl) (kcX6_givers_0 9 0 rfl) (kcX6_givers_0 10 65 rfl) rfl
theorem dX6_givers_11 : decode cX6_givers 11 = .ok (.ifCond .ne 5, 3) := dw_154 (kcX6_givers_0 11 154 rfl) (kcX6_givers_0 12 0 rfl) (kcX6_givers_0 13 5 rfl) rfl
theorem dX6_givers_16 : decode cX6_givers 16 = .ok (.aload_n 0, 1) := dw_42 (kcX6_givers_0 16 42 rfl)
theorem dX6_givers_17 : decode cX6_givers 17 = .ok (.getfield 15, 3) := dw_180 (kcX6_givers_0 17 180 rfl) (kcX6_givers_0 18 0 rfl) (kcX6_givers_0 19 15 rfl) rfl
theorem dX6_givers_20 : decode cX6_givers 20 = .ok (.iload_n 1, 1) := dw_27 (kcX6_givers_0 20 27 rfl)
theorem dX6_givers_21 : decode cX6_givers 21 = .ok (.aaload, 1) := dw_50 (kcX6_givers_0 21 50 rfl)
theorem dX6_givers_22 : decode cX6_givers 22 = .ok (.iload_n 2, 1) := dw_28 (kcX6_givers_0 22 28 rfl)
theorem dX6_givers_23 : decode cX6_givers 23 = .ok (.iload_n 3, 1) := dw_29 (kcX6_givers_0 23 29 rfl)
theorem dX6_givers_24 : decode cX6_givers 24 = .ok (.invokestatic 92, 3) := dw_184 (kcX6_givers_0 24 184 rfl) (kcX6_givers_0 25 0 rfl) (kcX6_givers_0 26 92 rfl) rfl
theorem dX6_givers_27 : decode cX6_givers 27 = .ok (.invokevirtual 140, 3) := dw_182 (kcX6_givers_0 27 182 rfl) (kcX6_givers_0 28 0 rfl) (kcX6_givers_0 29 140 rfl) rfl
theorem dX6_givers_30 : decode cX6_givers 30 = .ok (.ireturn, 1) := dw_172 (kcX6_givers_0 30 172 rfl)
theorem dX6_givers_14 : decode cX6_givers 14 = .ok (.iconst (-1), 1) := dw_2 (kcX6_givers_0 14 2 rfl)
theorem dX6_givers_15 : decode cX6_givers 15 = .ok (.ireturn, 1) := dw_172 (kcX6_givers_0 15 172 rfl)
theorem kcX6_part_0 : CHb cX6_part 0 [42, 42, 27, 28, 29, 182, 0, 100, 182, 0, 65, 154, 0, 5, 2, 172, 28, 29, 184, 0, 92, 54, 5, 21, 4, 155, 0, 19, 21, 4, 42, 180, 0, 15, 27, 50, 21, 5, 182, 0, 140, 161, 0, 10, 42, 16, 7, 182, 0, 122, 172, 42, 180, 0, 15, 27, 50, 180, 0, 143, 21, 5, 16, 6] := CHb_of (by decide +kernel)
theorem dX6_part_0 : decode cX6_part 0 = .ok (.aload_n 0, 1) := dw_42 (kcX6_part_0 0 42 rfl)
theorem dX6_part_1 : decode cX6_part 1 = .ok (.aload_n 0, 1) := dw_42 (kcX6_part_0 1 42 rfl)
theorem dX6_part_2 : decode cX6_part 2 = .ok (.iload_n 1, 1) := dw_27 (kcX6_part_0 2 27 rfl)
theorem dX6_part_3 : decode cX6_part 3 = .ok (.iload_n 2, 1) := dw_28 (kcX6_part_0 3 28 rfl)
theorem dX6_part_4 : decode cX6_part 4 = .ok (.iload_n 3, 1) := dw_29 (kcX6_part_0 4 29 rfl)
theorem dX6_part_5 : decode cX6_part 5 = .ok (.invokevirtual 100, 3) := dw_182 (kcX6_part_0 5 182 rfl) (kcX6_part_0 6 0 rfl) (kcX6_part_0 7 100 rfl) rfl
theorem dX6_part_8 : decode cX6_part 8 = .ok (.invokevirtual 65, 3) := dw_182 (kcX6_part_0 8 182 rfl) (kcX6_part_0 9 0 rfl) (kcX6_part_0 10 65 rfl) rfl
theorem dX6_part_11 : decode cX6_part 11 = .ok (.ifCond .ne 5, 3) := dw_154 (kcX6_part_0 11 154 rfl) (kcX6_part_0 12 0 rfl) (kcX6_part_0 13 5 rfl) rfl
theorem dX6_part_16 : decode cX6_part 16 = .ok (.iload_n 2, 1) := dw_28 (kcX6_part_0 16 28 rfl)
theorem dX6_part_17 : decode cX6_part 17 = .ok (.iload_n 3, 1) := dw_29 (kcX6_part_0 17 29 rfl)
theorem dX6_part_18 : decode cX6_part 18 = .ok (.invokestatic 92, 3) := dw_184 (kcX6_part_0 18 184 rfl) (kcX6_part_0 19 0 rfl) (kcX6_part_0 20 92 rfl) rfl
theorem dX6_part_21 : decode cX6_part 21 = .ok (.istore 5, 2) := dw_54 (kcX6_part_0 21 54 rfl) (kcX6_part_0 22 5 rfl)
theorem dX6_part_23 : decode cX6_part 23 = .ok (.iload 4, 2) := dw_21 (kcX6_part_0 23 21 rfl) (kcX6_part_0 24 4 rfl)
theorem dX6_part_25 : decode cX6_part 25 = .ok (.ifCond .lt 19, 3) := dw_155 (kcX6_part_0 25 155 rfl) (kcX6_part_0 26 0 rfl) (kcX6_part_0 27 19 rfl) rfl
theorem dX6_part_44 : decode cX6_part 44 = .ok (.aload_n 0, 1) := dw_42 (kcX6_part_0 44 42 rfl)
theorem dX6_part_45 : decode cX6_part 45 = .ok (.bipush 7, 2) := dw_16 (kcX6_part_0 45 16 rfl) (kcX6_part_0 46 7 rfl) rfl
theorem dX6_part_47 : decode cX6_part 47 = .ok (.invokevirtual 122, 3) := dw_182 (kcX6_part_0 47 182 rfl) (kcX6_part_0 48 0 rfl) (kcX6_part_0 49 122 rfl) rfl
theorem dX6_part_50 : decode cX6_part 50 = .ok (.ireturn, 1) := dw_172 (kcX6_part_0 50 172 rfl)
theorem dX6_part_28 : decode cX6_part 28 = .ok (.iload 4, 2) := dw_21 (kcX6_part_0 28 21 rfl) (kcX6_part_0 29 4 rfl)
theorem dX6_part_30 : decode cX6_part 30 = .ok (.aload_n 0, 1) := dw_42 (kcX6_part_0 30 42 rfl)
theorem dX6_part_31 : decode cX6_part 31 = .ok (.getfield 15, 3) := dw_180 (kcX6_part_0 31 180 rfl) (kcX6_part_0 32 0 rfl) (kcX6_part_0 33 15 rfl) rfl
theorem dX6_part_34 : decode cX6_part 34 = .ok (.iload_n 1, 1) := dw_27 (kcX6_part_0 34 27 rfl)
theorem dX6_part_35 : decode cX6_part 35 = .ok (.aaload, 1) := dw_50 (kcX6_part_0 35 50 rfl)
theorem dX6_part_36 : decode cX6_part 36 = .ok (.iload 5, 2) := dw_21 (kcX6_part_0 36 21 rfl) (kcX6_part_0 37 5 rfl)
theorem dX6_part_38 : decode cX6_part 38 = .ok (.invokevirtual 140, 3) := dw_182 (kcX6_part_0 38 182 rfl) (kcX6_part_0 39 0 rfl) (kcX6_part_0 40 140 rfl) rfl
theorem dX6_part_41 : decode cX6_part 41 = .ok (.if_icmp .lt 10, 3) := dw_161 (kcX6_part_0 41 161 rfl) (kcX6_part_0 42 0 rfl) (kcX6_part_0 43 10 rfl) rfl
theorem dX6_part_51 : decode cX6_part 51 = .ok (.aload_n 0, 1) := dw_42 (kcX6_part_0 51 42 rfl)
theorem dX6_part_52 : decode cX6_part 52 = .ok (.getfield 15, 3) := dw_180 (kcX6_part_0 52 180 rfl) (kcX6_part_0 53 0 rfl) (kcX6_part_0 54 15 rfl) rfl
theorem dX6_part_55 : decode cX6_part 55 = .ok (.iload_n 1, 1) := dw_27 (kcX6_part_0 55 27 rfl)
theorem dX6_part_56 : decode cX6_part 56 = .ok (.aaload, 1) := dw_50 (kcX6_part_0 56 50 rfl)
theorem dX6_part_57 : decode cX6_part 57 = .ok (.getfield 143, 3) := dw_180 (kcX6_part_0 57 180 rfl) (kcX6_part_0 58 0 rfl) (kcX6_part_0 59 143 rfl) rfl
theorem dX6_part_60 : decode cX6_part 60 = .ok (.iload 5, 2) := dw_21 (kcX6_part_0 60 21 rfl) (kcX6_part_0 61 5 rfl)
theorem dX6_part_62 : decode cX6_part 62 = .ok (.bipush 6, 2) := dw_16 (kcX6_part_0 62 16 rfl) (kcX6_part_0 63 6 rfl) rfl
theorem kcX6_part_1 : CHb cX6_part 64 [104, 21, 4, 96, 46, 172] := CHb_of (by decide +kernel)
theorem dX6_part_64 : decode cX6_part 64 = .ok (.imul, 1) := dw_104 (kcX6_part_1 0 104 rfl)
theorem dX6_part_65 : decode cX6_part 65 = .ok (.iload 4, 2) := dw_21 (kcX6_part_1 1 21 rfl) (kcX6_part_1 2 4 rfl)
theorem dX6_part_67 : decode cX6_part 67 = .ok (.iadd, 1) := dw_96 (kcX6_part_1 3 96 rfl)
theorem dX6_part_68 : decode cX6_part 68 = .ok (.iaload, 1) := dw_46 (kcX6_part_1 4 46 rfl)
theorem dX6_part_69 : decode cX6_part 69 = .ok (.ireturn, 1) := dw_172 (kcX6_part_1 5 172 rfl)
theorem dX6_part_14 : decode cX6_part 14 = .ok (.iconst (-1), 1) := dw_2 (kcX6_part_0 14 2 rfl)
theorem dX6_part_15 : decode cX6_part 15 = .ok (.ireturn, 1) := dw_172 (kcX6_part_0 15 172 rfl)
theorem kcX6_hand_0 : CHb cX6_hand 0 [42, 42, 27, 28, 29, 182, 0, 146, 182, 0, 65, 154, 0, 5, 3, 172, 42, 180, 0, 15, 27, 50, 28, 29, 184, 0, 92, 4, 21, 4, 182, 0, 149, 4, 172] := CHb_of (by decide +kernel)
theorem dX6_hand_0 : decode cX6_hand 0 = .ok (.aload_n 0, 1) := dw_42 (kcX6_hand_0 0 42 rfl)
theorem dX6_hand_1 : decode cX6_hand 1 = .ok (.aload_n 0, 1) := dw_42 (kcX6_hand_0 1 42 rfl)
theorem dX6_hand_2 : decode cX6_hand 2 = .ok (.iload_n 1, 1) := dw_27 (kcX6_hand_0 2 27 rfl)
theorem dX6_hand_3 : decode cX6_hand 3 = .ok (.iload_n 2, 1) := dw_28 (kcX6_hand_0 3 28 rfl)
theorem dX6_hand_4 : decode cX6_hand 4 = .ok (.iload_n 3, 1) := dw_29 (kcX6_hand_0 4 29 rfl)
theorem dX6_hand_5 : decode cX6_hand 5 = .ok (.invokevirtual 146, 3) := dw_182 (kcX6_hand_0 5 182 rfl) (kcX6_hand_0 6 0 rfl) (kcX6_hand_0 7 146 rfl) rfl
theorem dX6_hand_8 : decode cX6_hand 8 = .ok (.invokevirtual 65, 3) := dw_182 (kcX6_hand_0 8 182 rfl) (kcX6_hand_0 9 0 rfl) (kcX6_hand_0 10 65 rfl) rfl
theorem dX6_hand_11 : decode cX6_hand 11 = .ok (.ifCond .ne 5, 3) := dw_154 (kcX6_hand_0 11 154 rfl) (kcX6_hand_0 12 0 rfl) (kcX6_hand_0 13 5 rfl) rfl
theorem dX6_hand_16 : decode cX6_hand 16 = .ok (.aload_n 0, 1) := dw_42 (kcX6_hand_0 16 42 rfl)
theorem dX6_hand_17 : decode cX6_hand 17 = .ok (.getfield 15, 3) := dw_180 (kcX6_hand_0 17 180 rfl) (kcX6_hand_0 18 0 rfl) (kcX6_hand_0 19 15 rfl) rfl
theorem dX6_hand_20 : decode cX6_hand 20 = .ok (.iload_n 1, 1) := dw_27 (kcX6_hand_0 20 27 rfl)
theorem dX6_hand_21 : decode cX6_hand 21 = .ok (.aaload, 1) := dw_50 (kcX6_hand_0 21 50 rfl)
theorem dX6_hand_22 : decode cX6_hand 22 = .ok (.iload_n 2, 1) := dw_28 (kcX6_hand_0 22 28 rfl)
theorem dX6_hand_23 : decode cX6_hand 23 = .ok (.iload_n 3, 1) := dw_29 (kcX6_hand_0 23 29 rfl)
theorem dX6_hand_24 : decode cX6_hand 24 = .ok (.invokestatic 92, 3) := dw_184 (kcX6_hand_0 24 184 rfl) (kcX6_hand_0 25 0 rfl) (kcX6_hand_0 26 92 rfl) rfl
theorem dX6_hand_27 : decode cX6_hand 27 = .ok (.iconst 1, 1) := dw_4 (kcX6_hand_0 27 4 rfl)
theorem dX6_hand_28 : decode cX6_hand 28 = .ok (.iload 4, 2) := dw_21 (kcX6_hand_0 28 21 rfl) (kcX6_hand_0 29 4 rfl)
theorem dX6_hand_30 : decode cX6_hand 30 = .ok (.invokevirtual 149, 3) := dw_182 (kcX6_hand_0 30 182 rfl) (kcX6_hand_0 31 0 rfl) (kcX6_hand_0 32 149 rfl) rfl
theorem dX6_hand_33 : decode cX6_hand 33 = .ok (.iconst 1, 1) := dw_4 (kcX6_hand_0 33 4 rfl)
theorem dX6_hand_34 : decode cX6_hand 34 = .ok (.ireturn, 1) := dw_172 (kcX6_hand_0 34 172 rfl)
theorem dX6_hand_14 : decode cX6_hand 14 = .ok (.iconst 0, 1) := dw_3 (kcX6_hand_0 14 3 rfl)
theorem dX6_hand_15 : decode cX6_hand 15 = .ok (.ireturn, 1) := dw_172 (kcX6_hand_0 15 172 rfl)
theorem kcX6_keep_0 : CHb cX6_keep 0 [42, 42, 27, 28, 29, 182, 0, 146, 182, 0, 65, 154, 0, 5, 3, 172, 42, 180, 0, 15, 27, 50, 28, 29, 184, 0, 92, 5, 21, 4, 182, 0, 149, 4, 172] := CHb_of (by decide +kernel)
theorem dX6_keep_0 : decode cX6_keep 0 = .ok (.aload_n 0, 1) := dw_42 (kcX6_keep_0 0 42 rfl)
theorem dX6_keep_1 : decode cX6_keep 1 = .ok (.aload_n 0, 1) := dw_42 (kcX6_keep_0 1 42 rfl)
theorem dX6_keep_2 : decode cX6_keep 2 = .ok (.iload_n 1, 1) := dw_27 (kcX6_keep_0 2 27 rfl)
theorem dX6_keep_3 : decode cX6_keep 3 = .ok (.iload_n 2, 1) := dw_28 (kcX6_keep_0 3 28 rfl)
theorem dX6_keep_4 : decode cX6_keep 4 = .ok (.iload_n 3, 1) := dw_29 (kcX6_keep_0 4 29 rfl)
theorem dX6_keep_5 : decode cX6_keep 5 = .ok (.invokevirtual 146, 3) := dw_182 (kcX6_keep_0 5 182 rfl) (kcX6_keep_0 6 0 rfl) (kcX6_keep_0 7 146 rfl) rfl
theorem dX6_keep_8 : decode cX6_keep 8 = .ok (.invokevirtual 65, 3) := dw_182 (kcX6_keep_0 8 182 rfl) (kcX6_keep_0 9 0 rfl) (kcX6_keep_0 10 65 rfl) rfl
theorem dX6_keep_11 : decode cX6_keep 11 = .ok (.ifCond .ne 5, 3) := dw_154 (kcX6_keep_0 11 154 rfl) (kcX6_keep_0 12 0 rfl) (kcX6_keep_0 13 5 rfl) rfl
theorem dX6_keep_16 : decode cX6_keep 16 = .ok (.aload_n 0, 1) := dw_42 (kcX6_keep_0 16 42 rfl)
theorem dX6_keep_17 : decode cX6_keep 17 = .ok (.getfield 15, 3) := dw_180 (kcX6_keep_0 17 180 rfl) (kcX6_keep_0 18 0 rfl) (kcX6_keep_0 19 15 rfl) rfl
theorem dX6_keep_20 : decode cX6_keep 20 = .ok (.iload_n 1, 1) := dw_27 (kcX6_keep_0 20 27 rfl)
theorem dX6_keep_21 : decode cX6_keep 21 = .ok (.aaload, 1) := dw_50 (kcX6_keep_0 21 50 rfl)
theorem dX6_keep_22 : decode cX6_keep 22 = .ok (.iload_n 2, 1) := dw_28 (kcX6_keep_0 22 28 rfl)
theorem dX6_keep_23 : decode cX6_keep 23 = .ok (.iload_n 3, 1) := dw_29 (kcX6_keep_0 23 29 rfl)
theorem dX6_keep_24 : decode cX6_keep 24 = .ok (.invokestatic 92, 3) := dw_184 (kcX6_keep_0 24 184 rfl) (kcX6_keep_0 25 0 rfl) (kcX6_keep_0 26 92 rfl) rfl
theorem dX6_keep_27 : decode cX6_keep 27 = .ok (.iconst 2, 1) := dw_5 (kcX6_keep_0 27 5 rfl)
theorem dX6_keep_28 : decode cX6_keep 28 = .ok (.iload 4, 2) := dw_21 (kcX6_keep_0 28 21 rfl) (kcX6_keep_0 29 4 rfl)
theorem dX6_keep_30 : decode cX6_keep 30 = .ok (.invokevirtual 149, 3) := dw_182 (kcX6_keep_0 30 182 rfl) (kcX6_keep_0 31 0 rfl) (kcX6_keep_0 32 149 rfl) rfl
theorem dX6_keep_33 : decode cX6_keep 33 = .ok (.iconst 1, 1) := dw_4 (kcX6_keep_0 33 4 rfl)
theorem dX6_keep_34 : decode cX6_keep 34 = .ok (.ireturn, 1) := dw_172 (kcX6_keep_0 34 172 rfl)
theorem dX6_keep_14 : decode cX6_keep 14 = .ok (.iconst 0, 1) := dw_3 (kcX6_keep_0 14 3 rfl)
theorem dX6_keep_15 : decode cX6_keep 15 = .ok (.ireturn, 1) := dw_172 (kcX6_keep_0 15 172 rfl)
theorem kcX6_sound_0 : CHb cX6_sound 0 [42, 42, 27, 28, 182, 0, 110, 182, 0, 65, 154, 0, 5, 2, 172, 42, 180, 0, 15, 27, 50, 28, 182, 0, 153, 153, 0, 7, 4, 167, 0, 4, 3, 172] := CHb_of (by decide +kernel)
theorem dX6_sound_0 : decode cX6_sound 0 = .ok (.aload_n 0, 1) := dw_42 (kcX6_sound_0 0 42 rfl)
theorem dX6_sound_1 : decode cX6_sound 1 = .ok (.aload_n 0, 1) := dw_42 (kcX6_sound_0 1 42 rfl)
theorem dX6_sound_2 : decode cX6_sound 2 = .ok (.iload_n 1, 1) := dw_27 (kcX6_sound_0 2 27 rfl)
theorem dX6_sound_3 : decode cX6_sound 3 = .ok (.iload_n 2, 1) := dw_28 (kcX6_sound_0 3 28 rfl)
theorem dX6_sound_4 : decode cX6_sound 4 = .ok (.invokevirtual 110, 3) := dw_182 (kcX6_sound_0 4 182 rfl) (kcX6_sound_0 5 0 rfl) (kcX6_sound_0 6 110 rfl) rfl
theorem dX6_sound_7 : decode cX6_sound 7 = .ok (.invokevirtual 65, 3) := dw_182 (kcX6_sound_0 7 182 rfl) (kcX6_sound_0 8 0 rfl) (kcX6_sound_0 9 65 rfl) rfl
theorem dX6_sound_10 : decode cX6_sound 10 = .ok (.ifCond .ne 5, 3) := dw_154 (kcX6_sound_0 10 154 rfl) (kcX6_sound_0 11 0 rfl) (kcX6_sound_0 12 5 rfl) rfl
theorem dX6_sound_15 : decode cX6_sound 15 = .ok (.aload_n 0, 1) := dw_42 (kcX6_sound_0 15 42 rfl)
theorem dX6_sound_16 : decode cX6_sound 16 = .ok (.getfield 15, 3) := dw_180 (kcX6_sound_0 16 180 rfl) (kcX6_sound_0 17 0 rfl) (kcX6_sound_0 18 15 rfl) rfl
theorem dX6_sound_19 : decode cX6_sound 19 = .ok (.iload_n 1, 1) := dw_27 (kcX6_sound_0 19 27 rfl)
theorem dX6_sound_20 : decode cX6_sound 20 = .ok (.aaload, 1) := dw_50 (kcX6_sound_0 20 50 rfl)
theorem dX6_sound_21 : decode cX6_sound 21 = .ok (.iload_n 2, 1) := dw_28 (kcX6_sound_0 21 28 rfl)
theorem dX6_sound_22 : decode cX6_sound 22 = .ok (.invokevirtual 153, 3) := dw_182 (kcX6_sound_0 22 182 rfl) (kcX6_sound_0 23 0 rfl) (kcX6_sound_0 24 153 rfl) rfl
theorem dX6_sound_25 : decode cX6_sound 25 = .ok (.ifCond .eq 7, 3) := dw_153 (kcX6_sound_0 25 153 rfl) (kcX6_sound_0 26 0 rfl) (kcX6_sound_0 27 7 rfl) rfl
theorem dX6_sound_32 : decode cX6_sound 32 = .ok (.iconst 0, 1) := dw_3 (kcX6_sound_0 32 3 rfl)
theorem dX6_sound_33 : decode cX6_sound 33 = .ok (.ireturn, 1) := dw_172 (kcX6_sound_0 33 172 rfl)
theorem dX6_sound_28 : decode cX6_sound 28 = .ok (.iconst 1, 1) := dw_4 (kcX6_sound_0 28 4 rfl)
theorem dX6_sound_29 : decode cX6_sound 29 = .ok (.goto 4, 3) := dw_167 (kcX6_sound_0 29 167 rfl) (kcX6_sound_0 30 0 rfl) (kcX6_sound_0 31 4 rfl) rfl
theorem dX6_sound_13 : decode cX6_sound 13 = .ok (.iconst (-1), 1) := dw_2 (kcX6_sound_0 13 2 rfl)
theorem dX6_sound_14 : decode cX6_sound 14 = .ok (.ireturn, 1) := dw_172 (kcX6_sound_0 14 172 rfl)
theorem kcX6_sum_0 : CHb cX6_sum 0 [42, 42, 27, 28, 182, 0, 110, 182, 0, 65, 154, 0, 5, 2, 172, 42, 180, 0, 15, 27, 50, 28, 182, 0, 153, 154, 0, 10, 42, 16, 11, 182, 0, 122, 172, 42, 180, 0, 15, 27, 50, 28, 182, 0, 156, 172] := CHb_of (by decide +kernel)
theorem dX6_sum_0 : decode cX6_sum 0 = .ok (.aload_n 0, 1) := dw_42 (kcX6_sum_0 0 42 rfl)
theorem dX6_sum_1 : decode cX6_sum 1 = .ok (.aload_n 0, 1) := dw_42 (kcX6_sum_0 1 42 rfl)
theorem dX6_sum_2 : decode cX6_sum 2 = .ok (.iload_n 1, 1) := dw_27 (kcX6_sum_0 2 27 rfl)
theorem dX6_sum_3 : decode cX6_sum 3 = .ok (.iload_n 2, 1) := dw_28 (kcX6_sum_0 3 28 rfl)
theorem dX6_sum_4 : decode cX6_sum 4 = .ok (.invokevirtual 110, 3) := dw_182 (kcX6_sum_0 4 182 rfl) (kcX6_sum_0 5 0 rfl) (kcX6_sum_0 6 110 rfl) rfl
theorem dX6_sum_7 : decode cX6_sum 7 = .ok (.invokevirtual 65, 3) := dw_182 (kcX6_sum_0 7 182 rfl) (kcX6_sum_0 8 0 rfl) (kcX6_sum_0 9 65 rfl) rfl
theorem dX6_sum_10 : decode cX6_sum 10 = .ok (.ifCond .ne 5, 3) := dw_154 (kcX6_sum_0 10 154 rfl) (kcX6_sum_0 11 0 rfl) (kcX6_sum_0 12 5 rfl) rfl
theorem dX6_sum_15 : decode cX6_sum 15 = .ok (.aload_n 0, 1) := dw_42 (kcX6_sum_0 15 42 rfl)
theorem dX6_sum_16 : decode cX6_sum 16 = .ok (.getfield 15, 3) := dw_180 (kcX6_sum_0 16 180 rfl) (kcX6_sum_0 17 0 rfl) (kcX6_sum_0 18 15 rfl) rfl
theorem dX6_sum_19 : decode cX6_sum 19 = .ok (.iload_n 1, 1) := dw_27 (kcX6_sum_0 19 27 rfl)
theorem dX6_sum_20 : decode cX6_sum 20 = .ok (.aaload, 1) := dw_50 (kcX6_sum_0 20 50 rfl)
theorem dX6_sum_21 : decode cX6_sum 21 = .ok (.iload_n 2, 1) := dw_28 (kcX6_sum_0 21 28 rfl)
theorem dX6_sum_22 : decode cX6_sum 22 = .ok (.invokevirtual 153, 3) := dw_182 (kcX6_sum_0 22 182 rfl) (kcX6_sum_0 23 0 rfl) (kcX6_sum_0 24 153 rfl) rfl
theorem dX6_sum_25 : decode cX6_sum 25 = .ok (.ifCond .ne 10, 3) := dw_154 (kcX6_sum_0 25 154 rfl) (kcX6_sum_0 26 0 rfl) (kcX6_sum_0 27 10 rfl) rfl
theorem dX6_sum_35 : decode cX6_sum 35 = .ok (.aload_n 0, 1) := dw_42 (kcX6_sum_0 35 42 rfl)
theorem dX6_sum_36 : decode cX6_sum 36 = .ok (.getfield 15, 3) := dw_180 (kcX6_sum_0 36 180 rfl) (kcX6_sum_0 37 0 rfl) (kcX6_sum_0 38 15 rfl) rfl
theorem dX6_sum_39 : decode cX6_sum 39 = .ok (.iload_n 1, 1) := dw_27 (kcX6_sum_0 39 27 rfl)
theorem dX6_sum_40 : decode cX6_sum 40 = .ok (.aaload, 1) := dw_50 (kcX6_sum_0 40 50 rfl)
theorem dX6_sum_41 : decode cX6_sum 41 = .ok (.iload_n 2, 1) := dw_28 (kcX6_sum_0 41 28 rfl)
theorem dX6_sum_42 : decode cX6_sum 42 = .ok (.invokevirtual 156, 3) := dw_182 (kcX6_sum_0 42 182 rfl) (kcX6_sum_0 43 0 rfl) (kcX6_sum_0 44 156 rfl) rfl
theorem dX6_sum_45 : decode cX6_sum 45 = .ok (.ireturn, 1) := dw_172 (kcX6_sum_0 45 172 rfl)
theorem dX6_sum_28 : decode cX6_sum 28 = .ok (.aload_n 0, 1) := dw_42 (kcX6_sum_0 28 42 rfl)
theorem dX6_sum_29 : decode cX6_sum 29 = .ok (.bipush 11, 2) := dw_16 (kcX6_sum_0 29 16 rfl) (kcX6_sum_0 30 11 rfl) rfl
theorem dX6_sum_31 : decode cX6_sum 31 = .ok (.invokevirtual 122, 3) := dw_182 (kcX6_sum_0 31 182 rfl) (kcX6_sum_0 32 0 rfl) (kcX6_sum_0 33 122 rfl) rfl
theorem dX6_sum_34 : decode cX6_sum 34 = .ok (.ireturn, 1) := dw_172 (kcX6_sum_0 34 172 rfl)
theorem dX6_sum_13 : decode cX6_sum 13 = .ok (.iconst (-1), 1) := dw_2 (kcX6_sum_0 13 2 rfl)
theorem dX6_sum_14 : decode cX6_sum 14 = .ok (.ireturn, 1) := dw_172 (kcX6_sum_0 14 172 rfl)
theorem kcX6_total_0 : CHb cX6_total 0 [42, 42, 27, 28, 182, 0, 110, 182, 0, 65, 154, 0, 5, 2, 172, 29, 155, 0, 16, 29, 42, 180, 0, 15, 27, 50, 180, 0, 159, 161, 0, 9, 42, 5, 182, 0, 122, 172, 42, 180, 0, 15, 27, 50, 28, 182, 0, 153, 154, 0, 10, 42, 16, 11, 182, 0, 122, 172, 42, 180, 0, 15, 27, 50] := CHb_of (by decide +kernel)
theorem dX6_total_0 : decode cX6_total 0 = .ok (.aload_n 0, 1) := dw_42 (kcX6_total_0 0 42 rfl)
theorem dX6_total_1 : decode cX6_total 1 = .ok (.aload_n 0, 1) := dw_42 (kcX6_total_0 1 42 rfl)
theorem dX6_total_2 : decode cX6_total 2 = .ok (.iload_n 1, 1) := dw_27 (kcX6_total_0 2 27 rfl)
theorem dX6_total_3 : decode cX6_total 3 = .ok (.iload_n 2, 1) := dw_28 (kcX6_total_0 3 28 rfl)
theorem dX6_total_4 : decode cX6_total 4 = .ok (.invokevirtual 110, 3) := dw_182 (kcX6_total_0 4 182 rfl) (kcX6_total_0 5 0 rfl) (kcX6_total_0 6 110 rfl) rfl
theorem dX6_total_7 : decode cX6_total 7 = .ok (.invokevirtual 65, 3) := dw_182 (kcX6_total_0 7 182 rfl) (kcX6_total_0 8 0 rfl) (kcX6_total_0 9 65 rfl) rfl
theorem dX6_total_10 : decode cX6_total 10 = .ok (.ifCond .ne 5, 3) := dw_154 (kcX6_total_0 10 154 rfl) (kcX6_total_0 11 0 rfl) (kcX6_total_0 12 5 rfl) rfl
theorem dX6_total_15 : decode cX6_total 15 = .ok (.iload_n 3, 1) := dw_29 (kcX6_total_0 15 29 rfl)
theorem dX6_total_16 : decode cX6_total 16 = .ok (.ifCond .lt 16, 3) := dw_155 (kcX6_total_0 16 155 rfl) (kcX6_total_0 17 0 rfl) (kcX6_total_0 18 16 rfl) rfl
theorem dX6_total_32 : decode cX6_total 32 = .ok (.aload_n 0, 1) := dw_42 (kcX6_total_0 32 42 rfl)
theorem dX6_total_33 : decode cX6_total 33 = .ok (.iconst 2, 1) := dw_5 (kcX6_total_0 33 5 rfl)
theorem dX6_total_34 : decode cX6_total 34 = .ok (.invokevirtual 122, 3) := dw_182 (kcX6_total_0 34 182 rfl) (kcX6_total_0 35 0 rfl) (kcX6_total_0 36 122 rfl) rfl
theorem dX6_total_37 : decode cX6_total 37 = .ok (.ireturn, 1) := dw_172 (kcX6_total_0 37 172 rfl)
theorem dX6_total_19 : decode cX6_total 19 = .ok (.iload_n 3, 1) := dw_29 (kcX6_total_0 19 29 rfl)
theorem dX6_total_20 : decode cX6_total 20 = .ok (.aload_n 0, 1) := dw_42 (kcX6_total_0 20 42 rfl)
theorem dX6_total_21 : decode cX6_total 21 = .ok (.getfield 15, 3) := dw_180 (kcX6_total_0 21 180 rfl) (kcX6_total_0 22 0 rfl) (kcX6_total_0 23 15 rfl) rfl
theorem dX6_total_24 : decode cX6_total 24 = .ok (.iload_n 1, 1) := dw_27 (kcX6_total_0 24 27 rfl)
theorem dX6_total_25 : decode cX6_total 25 = .ok (.aaload, 1) := dw_50 (kcX6_total_0 25 50 rfl)
theorem dX6_total_26 : decode cX6_total 26 = .ok (.getfield 159, 3) := dw_180 (kcX6_total_0 26 180 rfl) (kcX6_total_0 27 0 rfl) (kcX6_total_0 28 159 rfl) rfl
theorem dX6_total_29 : decode cX6_total 29 = .ok (.if_icmp .lt 9, 3) := dw_161 (kcX6_total_0 29 161 rfl) (kcX6_total_0 30 0 rfl) (kcX6_total_0 31 9 rfl) rfl
theorem dX6_total_38 : decode cX6_total 38 = .ok (.aload_n 0, 1) := dw_42 (kcX6_total_0 38 42 rfl)
theorem dX6_total_39 : decode cX6_total 39 = .ok (.getfield 15, 3) := dw_180 (kcX6_total_0 39 180 rfl) (kcX6_total_0 40 0 rfl) (kcX6_total_0 41 15 rfl) rfl
theorem dX6_total_42 : decode cX6_total 42 = .ok (.iload_n 1, 1) := dw_27 (kcX6_total_0 42 27 rfl)
theorem dX6_total_43 : decode cX6_total 43 = .ok (.aaload, 1) := dw_50 (kcX6_total_0 43 50 rfl)
theorem dX6_total_44 : decode cX6_total 44 = .ok (.iload_n 2, 1) := dw_28 (kcX6_total_0 44 28 rfl)
theorem dX6_total_45 : decode cX6_total 45 = .ok (.invokevirtual 153, 3) := dw_182 (kcX6_total_0 45 182 rfl) (kcX6_total_0 46 0 rfl) (kcX6_total_0 47 153 rfl) rfl
theorem dX6_total_48 : decode cX6_total 48 = .ok (.ifCond .ne 10, 3) := dw_154 (kcX6_total_0 48 154 rfl) (kcX6_total_0 49 0 rfl) (kcX6_total_0 50 10 rfl) rfl
theorem dX6_total_58 : decode cX6_total 58 = .ok (.aload_n 0, 1) := dw_42 (kcX6_total_0 58 42 rfl)
theorem dX6_total_59 : decode cX6_total 59 = .ok (.getfield 15, 3) := dw_180 (kcX6_total_0 59 180 rfl) (kcX6_total_0 60 0 rfl) (kcX6_total_0 61 15 rfl) rfl
theorem dX6_total_62 : decode cX6_total 62 = .ok (.iload_n 1, 1) := dw_27 (kcX6_total_0 62 27 rfl)
theorem dX6_total_63 : decode cX6_total 63 = .ok (.aaload, 1) := dw_50 (kcX6_total_0 63 50 rfl)
theorem kcX6_total_1 : CHb cX6_total 64 [28, 29, 182, 0, 162, 172] := CHb_of (by decide +kernel)
theorem dX6_total_64 : decode cX6_total 64 = .ok (.iload_n 2, 1) := dw_28 (kcX6_total_1 0 28 rfl)
theorem dX6_total_65 : decode cX6_total 65 = .ok (.iload_n 3, 1) := dw_29 (kcX6_total_1 1 29 rfl)
theorem dX6_total_66 : decode cX6_total 66 = .ok (.invokevirtual 162, 3) := dw_182 (kcX6_total_1 2 182 rfl) (kcX6_total_1 3 0 rfl) (kcX6_total_1 4 162 rfl) rfl
theorem dX6_total_69 : decode cX6_total 69 = .ok (.ireturn, 1) := dw_172 (kcX6_total_1 5 172 rfl)
theorem dX6_total_51 : decode cX6_total 51 = .ok (.aload_n 0, 1) := dw_42 (kcX6_total_0 51 42 rfl)
theorem dX6_total_52 : decode cX6_total 52 = .ok (.bipush 11, 2) := dw_16 (kcX6_total_0 52 16 rfl) (kcX6_total_0 53 11 rfl) rfl
theorem dX6_total_54 : decode cX6_total 54 = .ok (.invokevirtual 122, 3) := dw_182 (kcX6_total_0 54 182 rfl) (kcX6_total_0 55 0 rfl) (kcX6_total_0 56 122 rfl) rfl
theorem dX6_total_57 : decode cX6_total 57 = .ok (.ireturn, 1) := dw_172 (kcX6_total_0 57 172 rfl)
theorem dX6_total_13 : decode cX6_total 13 = .ok (.iconst (-1), 1) := dw_2 (kcX6_total_0 13 2 rfl)
theorem dX6_total_14 : decode cX6_total 14 = .ok (.ireturn, 1) := dw_172 (kcX6_total_0 14 172 rfl)
theorem kcX6_secret_0 : CHb cX6_secret 0 [42, 42, 27, 28, 29, 182, 0, 165, 182, 0, 65, 154, 0, 5, 2, 172, 42, 180, 0, 15, 27, 50, 28, 29, 184, 0, 92, 182, 0, 168, 172] := CHb_of (by decide +kernel)
theorem dX6_secret_0 : decode cX6_secret 0 = .ok (.aload_n 0, 1) := dw_42 (kcX6_secret_0 0 42 rfl)
theorem dX6_secret_1 : decode cX6_secret 1 = .ok (.aload_n 0, 1) := dw_42 (kcX6_secret_0 1 42 rfl)
theorem dX6_secret_2 : decode cX6_secret 2 = .ok (.iload_n 1, 1) := dw_27 (kcX6_secret_0 2 27 rfl)
theorem dX6_secret_3 : decode cX6_secret 3 = .ok (.iload_n 2, 1) := dw_28 (kcX6_secret_0 3 28 rfl)
theorem dX6_secret_4 : decode cX6_secret 4 = .ok (.iload_n 3, 1) := dw_29 (kcX6_secret_0 4 29 rfl)
theorem dX6_secret_5 : decode cX6_secret 5 = .ok (.invokevirtual 165, 3) := dw_182 (kcX6_secret_0 5 182 rfl) (kcX6_secret_0 6 0 rfl) (kcX6_secret_0 7 165 rfl) rfl
theorem dX6_secret_8 : decode cX6_secret 8 = .ok (.invokevirtual 65, 3) := dw_182 (kcX6_secret_0 8 182 rfl) (kcX6_secret_0 9 0 rfl) (kcX6_secret_0 10 65 rfl) rfl
theorem dX6_secret_11 : decode cX6_secret 11 = .ok (.ifCond .ne 5, 3) := dw_154 (kcX6_secret_0 11 154 rfl) (kcX6_secret_0 12 0 rfl) (kcX6_secret_0 13 5 rfl) rfl
theorem dX6_secret_16 : decode cX6_secret 16 = .ok (.aload_n 0, 1) := dw_42 (kcX6_secret_0 16 42 rfl)
theorem dX6_secret_17 : decode cX6_secret 17 = .ok (.getfield 15, 3) := dw_180 (kcX6_secret_0 17 180 rfl) (kcX6_secret_0 18 0 rfl) (kcX6_secret_0 19 15 rfl) rfl
theorem dX6_secret_20 : decode cX6_secret 20 = .ok (.iload_n 1, 1) := dw_27 (kcX6_secret_0 20 27 rfl)
theorem dX6_secret_21 : decode cX6_secret 21 = .ok (.aaload, 1) := dw_50 (kcX6_secret_0 21 50 rfl)
theorem dX6_secret_22 : decode cX6_secret 22 = .ok (.iload_n 2, 1) := dw_28 (kcX6_secret_0 22 28 rfl)
theorem dX6_secret_23 : decode cX6_secret 23 = .ok (.iload_n 3, 1) := dw_29 (kcX6_secret_0 23 29 rfl)
theorem dX6_secret_24 : decode cX6_secret 24 = .ok (.invokestatic 92, 3) := dw_184 (kcX6_secret_0 24 184 rfl) (kcX6_secret_0 25 0 rfl) (kcX6_secret_0 26 92 rfl) rfl
theorem dX6_secret_27 : decode cX6_secret 27 = .ok (.invokevirtual 168, 3) := dw_182 (kcX6_secret_0 27 182 rfl) (kcX6_secret_0 28 0 rfl) (kcX6_secret_0 29 168 rfl) rfl
theorem dX6_secret_30 : decode cX6_secret 30 = .ok (.ireturn, 1) := dw_172 (kcX6_secret_0 30 172 rfl)
theorem dX6_secret_14 : decode cX6_secret 14 = .ok (.iconst (-1), 1) := dw_2 (kcX6_secret_0 14 2 rfl)
theorem dX6_secret_15 : decode cX6_secret 15 = .ok (.ireturn, 1) := dw_172 (kcX6_secret_0 15 172 rfl)
theorem kcX6_kept_0 : CHb cX6_kept 0 [42, 42, 27, 28, 29, 182, 0, 165, 182, 0, 65, 154, 0, 5, 2, 172, 42, 180, 0, 15, 27, 50, 28, 29, 184, 0, 92, 182, 0, 171, 153, 0, 7, 4, 167, 0, 4, 3, 172] := CHb_of (by decide +kernel)
theorem dX6_kept_0 : decode cX6_kept 0 = .ok (.aload_n 0, 1) := dw_42 (kcX6_kept_0 0 42 rfl)
theorem dX6_kept_1 : decode cX6_kept 1 = .ok (.aload_n 0, 1) := dw_42 (kcX6_kept_0 1 42 rfl)
theorem dX6_kept_2 : decode cX6_kept 2 = .ok (.iload_n 1, 1) := dw_27 (kcX6_kept_0 2 27 rfl)
theorem dX6_kept_3 : decode cX6_kept 3 = .ok (.iload_n 2, 1) := dw_28 (kcX6_kept_0 3 28 rfl)
theorem dX6_kept_4 : decode cX6_kept 4 = .ok (.iload_n 3, 1) := dw_29 (kcX6_kept_0 4 29 rfl)
theorem dX6_kept_5 : decode cX6_kept 5 = .ok (.invokevirtual 165, 3) := dw_182 (kcX6_kept_0 5 182 rfl) (kcX6_kept_0 6 0 rfl) (kcX6_kept_0 7 165 rfl) rfl
theorem dX6_kept_8 : decode cX6_kept 8 = .ok (.invokevirtual 65, 3) := dw_182 (kcX6_kept_0 8 182 rfl) (kcX6_kept_0 9 0 rfl) (kcX6_kept_0 10 65 rfl) rfl
theorem dX6_kept_11 : decode cX6_kept 11 = .ok (.ifCond .ne 5, 3) := dw_154 (kcX6_kept_0 11 154 rfl) (kcX6_kept_0 12 0 rfl) (kcX6_kept_0 13 5 rfl) rfl
theorem dX6_kept_16 : decode cX6_kept 16 = .ok (.aload_n 0, 1) := dw_42 (kcX6_kept_0 16 42 rfl)
theorem dX6_kept_17 : decode cX6_kept 17 = .ok (.getfield 15, 3) := dw_180 (kcX6_kept_0 17 180 rfl) (kcX6_kept_0 18 0 rfl) (kcX6_kept_0 19 15 rfl) rfl
theorem dX6_kept_20 : decode cX6_kept 20 = .ok (.iload_n 1, 1) := dw_27 (kcX6_kept_0 20 27 rfl)
theorem dX6_kept_21 : decode cX6_kept 21 = .ok (.aaload, 1) := dw_50 (kcX6_kept_0 21 50 rfl)
theorem dX6_kept_22 : decode cX6_kept 22 = .ok (.iload_n 2, 1) := dw_28 (kcX6_kept_0 22 28 rfl)
theorem dX6_kept_23 : decode cX6_kept 23 = .ok (.iload_n 3, 1) := dw_29 (kcX6_kept_0 23 29 rfl)
theorem dX6_kept_24 : decode cX6_kept 24 = .ok (.invokestatic 92, 3) := dw_184 (kcX6_kept_0 24 184 rfl) (kcX6_kept_0 25 0 rfl) (kcX6_kept_0 26 92 rfl) rfl
theorem dX6_kept_27 : decode cX6_kept 27 = .ok (.invokevirtual 171, 3) := dw_182 (kcX6_kept_0 27 182 rfl) (kcX6_kept_0 28 0 rfl) (kcX6_kept_0 29 171 rfl) rfl
theorem dX6_kept_30 : decode cX6_kept 30 = .ok (.ifCond .eq 7, 3) := dw_153 (kcX6_kept_0 30 153 rfl) (kcX6_kept_0 31 0 rfl) (kcX6_kept_0 32 7 rfl) rfl
theorem dX6_kept_37 : decode cX6_kept 37 = .ok (.iconst 0, 1) := dw_3 (kcX6_kept_0 37 3 rfl)
theorem dX6_kept_38 : decode cX6_kept 38 = .ok (.ireturn, 1) := dw_172 (kcX6_kept_0 38 172 rfl)
theorem dX6_kept_33 : decode cX6_kept 33 = .ok (.iconst 1, 1) := dw_4 (kcX6_kept_0 33 4 rfl)
theorem dX6_kept_34 : decode cX6_kept 34 = .ok (.goto 4, 3) := dw_167 (kcX6_kept_0 34 167 rfl) (kcX6_kept_0 35 0 rfl) (kcX6_kept_0 36 4 rfl) rfl
theorem dX6_kept_14 : decode cX6_kept 14 = .ok (.iconst (-1), 1) := dw_2 (kcX6_kept_0 14 2 rfl)
theorem dX6_kept_15 : decode cX6_kept 15 = .ok (.ireturn, 1) := dw_172 (kcX6_kept_0 15 172 rfl)
theorem kcX6_thousandths_0 : CHb cX6_thousandths 0 [42, 42, 27, 28, 29, 182, 0, 174, 182, 0, 65, 154, 0, 5, 2, 172, 42, 180, 0, 15, 27, 50, 180, 0, 134, 28, 29, 184, 0, 92, 46, 6, 159, 0, 10, 42, 16, 6, 182, 0, 122, 172, 42, 180, 0, 15, 27, 50, 28, 182, 0, 153, 154, 0, 10, 42, 16, 11, 182, 0, 122, 172, 42, 180] := CHb_of (by decide +kernel)
theorem dX6_thousandths_0 : decode cX6_thousandths 0 = .ok (.aload_n 0, 1) := dw_42 (kcX6_thousandths_0 0 42 rfl)
theorem dX6_thousandths_1 : decode cX6_thousandths 1 = .ok (.aload_n 0, 1) := dw_42 (kcX6_thousandths_0 1 42 rfl)
theorem dX6_thousandths_2 : decode cX6_thousandths 2 = .ok (.iload_n 1, 1) := dw_27 (kcX6_thousandths_0 2 27 rfl)
theorem dX6_thousandths_3 : decode cX6_thousandths 3 = .ok (.iload_n 2, 1) := dw_28 (kcX6_thousandths_0 3 28 rfl)
theorem dX6_thousandths_4 : decode cX6_thousandths 4 = .ok (.iload_n 3, 1) := dw_29 (kcX6_thousandths_0 4 29 rfl)
theorem dX6_thousandths_5 : decode cX6_thousandths 5 = .ok (.invokevirtual 174, 3) := dw_182 (kcX6_thousandths_0 5 182 rfl) (kcX6_thousandths_0 6 0 rfl) (kcX6_thousandths_0 7 174 rfl) rfl
theorem dX6_thousandths_8 : decode cX6_thousandths 8 = .ok (.invokevirtual 65, 3) := dw_182 (kcX6_thousandths_0 8 182 rfl) (kcX6_thousandths_0 9 0 rfl) (kcX6_thousandths_0 10 65 rfl) rfl
theorem dX6_thousandths_11 : decode cX6_thousandths 11 = .ok (.ifCond .ne 5, 3) := dw_154 (kcX6_thousandths_0 11 154 rfl) (kcX6_thousandths_0 12 0 rfl) (kcX6_thousandths_0 13 5 rfl) rfl
theorem dX6_thousandths_16 : decode cX6_thousandths 16 = .ok (.aload_n 0, 1) := dw_42 (kcX6_thousandths_0 16 42 rfl)
theorem dX6_thousandths_17 : decode cX6_thousandths 17 = .ok (.getfield 15, 3) := dw_180 (kcX6_thousandths_0 17 180 rfl) (kcX6_thousandths_0 18 0 rfl) (kcX6_thousandths_0 19 15 rfl) rfl
theorem dX6_thousandths_20 : decode cX6_thousandths 20 = .ok (.iload_n 1, 1) := dw_27 (kcX6_thousandths_0 20 27 rfl)
theorem dX6_thousandths_21 : decode cX6_thousandths 21 = .ok (.aaload, 1) := dw_50 (kcX6_thousandths_0 21 50 rfl)
theorem dX6_thousandths_22 : decode cX6_thousandths 22 = .ok (.getfield 134, 3) := dw_180 (kcX6_thousandths_0 22 180 rfl) (kcX6_thousandths_0 23 0 rfl) (kcX6_thousandths_0 24 134 rfl) rfl
theorem dX6_thousandths_25 : decode cX6_thousandths 25 = .ok (.iload_n 2, 1) := dw_28 (kcX6_thousandths_0 25 28 rfl)
theorem dX6_thousandths_26 : decode cX6_thousandths 26 = .ok (.iload_n 3, 1) := dw_29 (kcX6_thousandths_0 26 29 rfl)
theorem dX6_thousandths_27 : decode cX6_thousandths 27 = .ok (.invokestatic 92, 3) := dw_184 (kcX6_thousandths_0 27 184 rfl) (kcX6_thousandths_0 28 0 rfl) (kcX6_thousandths_0 29 92 rfl) rfl
theorem dX6_thousandths_30 : decode cX6_thousandths 30 = .ok (.iaload, 1) := dw_46 (kcX6_thousandths_0 30 46 rfl)
theorem dX6_thousandths_31 : decode cX6_thousandths 31 = .ok (.iconst 3, 1) := dw_6 (kcX6_thousandths_0 31 6 rfl)
theorem dX6_thousandths_32 : decode cX6_thousandths 32 = .ok (.if_icmp .eq 10, 3) := dw_159 (kcX6_thousandths_0 32 159 rfl) (kcX6_thousandths_0 33 0 rfl) (kcX6_thousandths_0 34 10 rfl) rfl
theorem dX6_thousandths_42 : decode cX6_thousandths 42 = .ok (.aload_n 0, 1) := dw_42 (kcX6_thousandths_0 42 42 rfl)
theorem dX6_thousandths_43 : decode cX6_thousandths 43 = .ok (.getfield 15, 3) := dw_180 (kcX6_thousandths_0 43 180 rfl) (kcX6_thousandths_0 44 0 rfl) (kcX6_thousandths_0 45 15 rfl) rfl
theorem dX6_thousandths_46 : decode cX6_thousandths 46 = .ok (.iload_n 1, 1) := dw_27 (kcX6_thousandths_0 46 27 rfl)
theorem dX6_thousandths_47 : decode cX6_thousandths 47 = .ok (.aaload, 1) := dw_50 (kcX6_thousandths_0 47 50 rfl)
theorem dX6_thousandths_48 : decode cX6_thousandths 48 = .ok (.iload_n 2, 1) := dw_28 (kcX6_thousandths_0 48 28 rfl)
theorem dX6_thousandths_49 : decode cX6_thousandths 49 = .ok (.invokevirtual 153, 3) := dw_182 (kcX6_thousandths_0 49 182 rfl) (kcX6_thousandths_0 50 0 rfl) (kcX6_thousandths_0 51 153 rfl) rfl
theorem dX6_thousandths_52 : decode cX6_thousandths 52 = .ok (.ifCond .ne 10, 3) := dw_154 (kcX6_thousandths_0 52 154 rfl) (kcX6_thousandths_0 53 0 rfl) (kcX6_thousandths_0 54 10 rfl) rfl
theorem dX6_thousandths_62 : decode cX6_thousandths 62 = .ok (.aload_n 0, 1) := dw_42 (kcX6_thousandths_0 62 42 rfl)
theorem kcX6_thousandths_1 : CHb cX6_thousandths 64 [0, 15, 27, 50, 180, 0, 137, 28, 29, 184, 0, 92, 46, 42, 180, 0, 15, 27, 50, 28, 182, 0, 156, 184, 0, 177, 172] := CHb_of (by decide +kernel)
theorem dX6_thousandths_63 : decode cX6_thousandths 63 = .ok (.getfield 15, 3) := dw_180 (kcX6_thousandths_0 63 180 rfl) (kcX6_thousandths_1 0 0 rfl) (kcX6_thousandths_1 1 15 rfl) rfl
theorem dX6_thousandths_66 : decode cX6_thousandths 66 = .ok (.iload_n 1, 1) := dw_27 (kcX6_thousandths_1 2 27 rfl)
theorem dX6_thousandths_67 : decode cX6_thousandths 67 = .ok (.aaload, 1) := dw_50 (kcX6_thousandths_1 3 50 rfl)
theorem dX6_thousandths_68 : decode cX6_thousandths 68 = .ok (.getfield 137, 3) := dw_180 (kcX6_thousandths_1 4 180 rfl) (kcX6_thousandths_1 5 0 rfl) (kcX6_thousandths_1 6 137 rfl) rfl
theorem dX6_thousandths_71 : decode cX6_thousandths 71 = .ok (.iload_n 2, 1) := dw_28 (kcX6_thousandths_1 7 28 rfl)
theorem dX6_thousandths_72 : decode cX6_thousandths 72 = .ok (.iload_n 3, 1) := dw_29 (kcX6_thousandths_1 8 29 rfl)
theorem dX6_thousandths_73 : decode cX6_thousandths 73 = .ok (.invokestatic 92, 3) := dw_184 (kcX6_thousandths_1 9 184 rfl) (kcX6_thousandths_1 10 0 rfl) (kcX6_thousandths_1 11 92 rfl) rfl
theorem dX6_thousandths_76 : decode cX6_thousandths 76 = .ok (.iaload, 1) := dw_46 (kcX6_thousandths_1 12 46 rfl)
theorem dX6_thousandths_77 : decode cX6_thousandths 77 = .ok (.aload_n 0, 1) := dw_42 (kcX6_thousandths_1 13 42 rfl)
theorem dX6_thousandths_78 : decode cX6_thousandths 78 = .ok (.getfield 15, 3) := dw_180 (kcX6_thousandths_1 14 180 rfl) (kcX6_thousandths_1 15 0 rfl) (kcX6_thousandths_1 16 15 rfl) rfl
theorem dX6_thousandths_81 : decode cX6_thousandths 81 = .ok (.iload_n 1, 1) := dw_27 (kcX6_thousandths_1 17 27 rfl)
theorem dX6_thousandths_82 : decode cX6_thousandths 82 = .ok (.aaload, 1) := dw_50 (kcX6_thousandths_1 18 50 rfl)
theorem dX6_thousandths_83 : decode cX6_thousandths 83 = .ok (.iload_n 2, 1) := dw_28 (kcX6_thousandths_1 19 28 rfl)
theorem dX6_thousandths_84 : decode cX6_thousandths 84 = .ok (.invokevirtual 156, 3) := dw_182 (kcX6_thousandths_1 20 182 rfl) (kcX6_thousandths_1 21 0 rfl) (kcX6_thousandths_1 22 156 rfl) rfl
theorem dX6_thousandths_87 : decode cX6_thousandths 87 = .ok (.invokestatic 177, 3) := dw_184 (kcX6_thousandths_1 23 184 rfl) (kcX6_thousandths_1 24 0 rfl) (kcX6_thousandths_1 25 177 rfl) rfl
theorem dX6_thousandths_90 : decode cX6_thousandths 90 = .ok (.ireturn, 1) := dw_172 (kcX6_thousandths_1 26 172 rfl)
theorem dX6_thousandths_55 : decode cX6_thousandths 55 = .ok (.aload_n 0, 1) := dw_42 (kcX6_thousandths_0 55 42 rfl)
theorem dX6_thousandths_56 : decode cX6_thousandths 56 = .ok (.bipush 11, 2) := dw_16 (kcX6_thousandths_0 56 16 rfl) (kcX6_thousandths_0 57 11 rfl) rfl
theorem dX6_thousandths_58 : decode cX6_thousandths 58 = .ok (.invokevirtual 122, 3) := dw_182 (kcX6_thousandths_0 58 182 rfl) (kcX6_thousandths_0 59 0 rfl) (kcX6_thousandths_0 60 122 rfl) rfl
theorem dX6_thousandths_61 : decode cX6_thousandths 61 = .ok (.ireturn, 1) := dw_172 (kcX6_thousandths_0 61 172 rfl)
theorem dX6_thousandths_35 : decode cX6_thousandths 35 = .ok (.aload_n 0, 1) := dw_42 (kcX6_thousandths_0 35 42 rfl)
theorem dX6_thousandths_36 : decode cX6_thousandths 36 = .ok (.bipush 6, 2) := dw_16 (kcX6_thousandths_0 36 16 rfl) (kcX6_thousandths_0 37 6 rfl) rfl
theorem dX6_thousandths_38 : decode cX6_thousandths 38 = .ok (.invokevirtual 122, 3) := dw_182 (kcX6_thousandths_0 38 182 rfl) (kcX6_thousandths_0 39 0 rfl) (kcX6_thousandths_0 40 122 rfl) rfl
theorem dX6_thousandths_41 : decode cX6_thousandths 41 = .ok (.ireturn, 1) := dw_172 (kcX6_thousandths_0 41 172 rfl)
theorem dX6_thousandths_14 : decode cX6_thousandths 14 = .ok (.iconst (-1), 1) := dw_2 (kcX6_thousandths_0 14 2 rfl)
theorem dX6_thousandths_15 : decode cX6_thousandths 15 = .ok (.ireturn, 1) := dw_172 (kcX6_thousandths_0 15 172 rfl)
theorem kcX6_spanEnd_0 : CHb cX6_spanEnd 0 [42, 42, 27, 28, 29, 182, 0, 165, 182, 0, 65, 154, 0, 5, 2, 172, 42, 180, 0, 22, 42, 180, 0, 15, 27, 50, 182, 0, 184, 42, 180, 0, 22, 28, 29, 21, 4, 182, 0, 249, 42, 180, 0, 22, 180, 0, 252, 28, 29, 184, 0, 92, 46, 172] := CHb_of (by decide +kernel)
theorem dX6_spanEnd_0 : decode cX6_spanEnd 0 = .ok (.aload_n 0, 1) := dw_42 (kcX6_spanEnd_0 0 42 rfl)
theorem dX6_spanEnd_1 : decode cX6_spanEnd 1 = .ok (.aload_n 0, 1) := dw_42 (kcX6_spanEnd_0 1 42 rfl)
theorem dX6_spanEnd_2 : decode cX6_spanEnd 2 = .ok (.iload_n 1, 1) := dw_27 (kcX6_spanEnd_0 2 27 rfl)
theorem dX6_spanEnd_3 : decode cX6_spanEnd 3 = .ok (.iload_n 2, 1) := dw_28 (kcX6_spanEnd_0 3 28 rfl)
theorem dX6_spanEnd_4 : decode cX6_spanEnd 4 = .ok (.iload_n 3, 1) := dw_29 (kcX6_spanEnd_0 4 29 rfl)
theorem dX6_spanEnd_5 : decode cX6_spanEnd 5 = .ok (.invokevirtual 165, 3) := dw_182 (kcX6_spanEnd_0 5 182 rfl) (kcX6_spanEnd_0 6 0 rfl) (kcX6_spanEnd_0 7 165 rfl) rfl
theorem dX6_spanEnd_8 : decode cX6_spanEnd 8 = .ok (.invokevirtual 65, 3) := dw_182 (kcX6_spanEnd_0 8 182 rfl) (kcX6_spanEnd_0 9 0 rfl) (kcX6_spanEnd_0 10 65 rfl) rfl
theorem dX6_spanEnd_11 : decode cX6_spanEnd 11 = .ok (.ifCond .ne 5, 3) := dw_154 (kcX6_spanEnd_0 11 154 rfl) (kcX6_spanEnd_0 12 0 rfl) (kcX6_spanEnd_0 13 5 rfl) rfl
theorem dX6_spanEnd_16 : decode cX6_spanEnd 16 = .ok (.aload_n 0, 1) := dw_42 (kcX6_spanEnd_0 16 42 rfl)
theorem dX6_spanEnd_17 : decode cX6_spanEnd 17 = .ok (.getfield 22, 3) := dw_180 (kcX6_spanEnd_0 17 180 rfl) (kcX6_spanEnd_0 18 0 rfl) (kcX6_spanEnd_0 19 22 rfl) rfl
theorem dX6_spanEnd_20 : decode cX6_spanEnd 20 = .ok (.aload_n 0, 1) := dw_42 (kcX6_spanEnd_0 20 42 rfl)
theorem dX6_spanEnd_21 : decode cX6_spanEnd 21 = .ok (.getfield 15, 3) := dw_180 (kcX6_spanEnd_0 21 180 rfl) (kcX6_spanEnd_0 22 0 rfl) (kcX6_spanEnd_0 23 15 rfl) rfl
theorem dX6_spanEnd_24 : decode cX6_spanEnd 24 = .ok (.iload_n 1, 1) := dw_27 (kcX6_spanEnd_0 24 27 rfl)
theorem dX6_spanEnd_25 : decode cX6_spanEnd 25 = .ok (.aaload, 1) := dw_50 (kcX6_spanEnd_0 25 50 rfl)
theorem dX6_spanEnd_26 : decode cX6_spanEnd 26 = .ok (.invokevirtual 184, 3) := dw_182 (kcX6_spanEnd_0 26 182 rfl) (kcX6_spanEnd_0 27 0 rfl) (kcX6_spanEnd_0 28 184 rfl) rfl
theorem dX6_spanEnd_29 : decode cX6_spanEnd 29 = .ok (.aload_n 0, 1) := dw_42 (kcX6_spanEnd_0 29 42 rfl)
theorem dX6_spanEnd_30 : decode cX6_spanEnd 30 = .ok (.getfield 22, 3) := dw_180 (kcX6_spanEnd_0 30 180 rfl) (kcX6_spanEnd_0 31 0 rfl) (kcX6_spanEnd_0 32 22 rfl) rfl
theorem dX6_spanEnd_33 : decode cX6_spanEnd 33 = .ok (.iload_n 2, 1) := dw_28 (kcX6_spanEnd_0 33 28 rfl)
theorem dX6_spanEnd_34 : decode cX6_spanEnd 34 = .ok (.iload_n 3, 1) := dw_29 (kcX6_spanEnd_0 34 29 rfl)
theorem dX6_spanEnd_35 : decode cX6_spanEnd 35 = .ok (.iload 4, 2) := dw_21 (kcX6_spanEnd_0 35 21 rfl) (kcX6_spanEnd_0 36 4 rfl)
theorem dX6_spanEnd_37 : decode cX6_spanEnd 37 = .ok (.invokevirtual 249, 3) := dw_182 (kcX6_spanEnd_0 37 182 rfl) (kcX6_spanEnd_0 38 0 rfl) (kcX6_spanEnd_0 39 249 rfl) rfl
theorem dX6_spanEnd_40 : decode cX6_spanEnd 40 = .ok (.aload_n 0, 1) := dw_42 (kcX6_spanEnd_0 40 42 rfl)
theorem dX6_spanEnd_41 : decode cX6_spanEnd 41 = .ok (.getfield 22, 3) := dw_180 (kcX6_spanEnd_0 41 180 rfl) (kcX6_spanEnd_0 42 0 rfl) (kcX6_spanEnd_0 43 22 rfl) rfl
theorem dX6_spanEnd_44 : decode cX6_spanEnd 44 = .ok (.getfield 252, 3) := dw_180 (kcX6_spanEnd_0 44 180 rfl) (kcX6_spanEnd_0 45 0 rfl) (kcX6_spanEnd_0 46 252 rfl) rfl
theorem dX6_spanEnd_47 : decode cX6_spanEnd 47 = .ok (.iload_n 2, 1) := dw_28 (kcX6_spanEnd_0 47 28 rfl)
theorem dX6_spanEnd_48 : decode cX6_spanEnd 48 = .ok (.iload_n 3, 1) := dw_29 (kcX6_spanEnd_0 48 29 rfl)
theorem dX6_spanEnd_49 : decode cX6_spanEnd 49 = .ok (.invokestatic 92, 3) := dw_184 (kcX6_spanEnd_0 49 184 rfl) (kcX6_spanEnd_0 50 0 rfl) (kcX6_spanEnd_0 51 92 rfl) rfl
theorem dX6_spanEnd_52 : decode cX6_spanEnd 52 = .ok (.iaload, 1) := dw_46 (kcX6_spanEnd_0 52 46 rfl)
theorem dX6_spanEnd_53 : decode cX6_spanEnd 53 = .ok (.ireturn, 1) := dw_172 (kcX6_spanEnd_0 53 172 rfl)
theorem dX6_spanEnd_14 : decode cX6_spanEnd 14 = .ok (.iconst (-1), 1) := dw_2 (kcX6_spanEnd_0 14 2 rfl)
theorem dX6_spanEnd_15 : decode cX6_spanEnd 15 = .ok (.ireturn, 1) := dw_172 (kcX6_spanEnd_0 15 172 rfl)
theorem kcX6_least_0 : CHb cX6_least 0 [42, 27, 28, 29, 3, 182, 0, 180, 172] := CHb_of (by decide +kernel)
theorem dX6_least_0 : decode cX6_least 0 = .ok (.aload_n 0, 1) := dw_42 (kcX6_least_0 0 42 rfl)
theorem dX6_least_1 : decode cX6_least 1 = .ok (.iload_n 1, 1) := dw_27 (kcX6_least_0 1 27 rfl)
theorem dX6_least_2 : decode cX6_least 2 = .ok (.iload_n 2, 1) := dw_28 (kcX6_least_0 2 28 rfl)
theorem dX6_least_3 : decode cX6_least 3 = .ok (.iload_n 3, 1) := dw_29 (kcX6_least_0 3 29 rfl)
theorem dX6_least_4 : decode cX6_least 4 = .ok (.iconst 0, 1) := dw_3 (kcX6_least_0 4 3 rfl)
theorem dX6_least_5 : decode cX6_least 5 = .ok (.invokevirtual 180, 3) := dw_182 (kcX6_least_0 5 182 rfl) (kcX6_least_0 6 0 rfl) (kcX6_least_0 7 180 rfl) rfl
theorem dX6_least_8 : decode cX6_least 8 = .ok (.ireturn, 1) := dw_172 (kcX6_least_0 8 172 rfl)
theorem kcX6_greatest_0 : CHb cX6_greatest 0 [42, 27, 28, 29, 4, 182, 0, 180, 172] := CHb_of (by decide +kernel)
theorem dX6_greatest_0 : decode cX6_greatest 0 = .ok (.aload_n 0, 1) := dw_42 (kcX6_greatest_0 0 42 rfl)
theorem dX6_greatest_1 : decode cX6_greatest 1 = .ok (.iload_n 1, 1) := dw_27 (kcX6_greatest_0 1 27 rfl)
theorem dX6_greatest_2 : decode cX6_greatest 2 = .ok (.iload_n 2, 1) := dw_28 (kcX6_greatest_0 2 28 rfl)
theorem dX6_greatest_3 : decode cX6_greatest 3 = .ok (.iload_n 3, 1) := dw_29 (kcX6_greatest_0 3 29 rfl)
theorem dX6_greatest_4 : decode cX6_greatest 4 = .ok (.iconst 1, 1) := dw_4 (kcX6_greatest_0 4 4 rfl)
theorem dX6_greatest_5 : decode cX6_greatest 5 = .ok (.invokevirtual 180, 3) := dw_182 (kcX6_greatest_0 5 182 rfl) (kcX6_greatest_0 6 0 rfl) (kcX6_greatest_0 7 180 rfl) rfl
theorem dX6_greatest_8 : decode cX6_greatest 8 = .ok (.ireturn, 1) := dw_172 (kcX6_greatest_0 8 172 rfl)
theorem kcX6_safe_0 : CHb cX6_safe 0 [42, 42, 27, 28, 29, 182, 0, 165, 182, 0, 65, 154, 0, 5, 2, 172, 42, 180, 0, 22, 42, 180, 0, 15, 27, 50, 182, 0, 184, 42, 180, 0, 22, 28, 29, 182, 0, 188, 153, 0, 7, 4, 167, 0, 4, 3, 172] := CHb_of (by decide +kernel)
theorem dX6_safe_0 : decode cX6_safe 0 = .ok (.aload_n 0, 1) := dw_42 (kcX6_safe_0 0 42 rfl)
theorem dX6_safe_1 : decode cX6_safe 1 = .ok (.aload_n 0, 1) := dw_42 (kcX6_safe_0 1 42 rfl)
theorem dX6_safe_2 : decode cX6_safe 2 = .ok (.iload_n 1, 1) := dw_27 (kcX6_safe_0 2 27 rfl)
theorem dX6_safe_3 : decode cX6_safe 3 = .ok (.iload_n 2, 1) := dw_28 (kcX6_safe_0 3 28 rfl)
theorem dX6_safe_4 : decode cX6_safe 4 = .ok (.iload_n 3, 1) := dw_29 (kcX6_safe_0 4 29 rfl)
theorem dX6_safe_5 : decode cX6_safe 5 = .ok (.invokevirtual 165, 3) := dw_182 (kcX6_safe_0 5 182 rfl) (kcX6_safe_0 6 0 rfl) (kcX6_safe_0 7 165 rfl) rfl
theorem dX6_safe_8 : decode cX6_safe 8 = .ok (.invokevirtual 65, 3) := dw_182 (kcX6_safe_0 8 182 rfl) (kcX6_safe_0 9 0 rfl) (kcX6_safe_0 10 65 rfl) rfl
theorem dX6_safe_11 : decode cX6_safe 11 = .ok (.ifCond .ne 5, 3) := dw_154 (kcX6_safe_0 11 154 rfl) (kcX6_safe_0 12 0 rfl) (kcX6_safe_0 13 5 rfl) rfl
theorem dX6_safe_16 : decode cX6_safe 16 = .ok (.aload_n 0, 1) := dw_42 (kcX6_safe_0 16 42 rfl)
theorem dX6_safe_17 : decode cX6_safe 17 = .ok (.getfield 22, 3) := dw_180 (kcX6_safe_0 17 180 rfl) (kcX6_safe_0 18 0 rfl) (kcX6_safe_0 19 22 rfl) rfl
theorem dX6_safe_20 : decode cX6_safe 20 = .ok (.aload_n 0, 1) := dw_42 (kcX6_safe_0 20 42 rfl)
theorem dX6_safe_21 : decode cX6_safe 21 = .ok (.getfield 15, 3) := dw_180 (kcX6_safe_0 21 180 rfl) (kcX6_safe_0 22 0 rfl) (kcX6_safe_0 23 15 rfl) rfl
theorem dX6_safe_24 : decode cX6_safe 24 = .ok (.iload_n 1, 1) := dw_27 (kcX6_safe_0 24 27 rfl)
theorem dX6_safe_25 : decode cX6_safe 25 = .ok (.aaload, 1) := dw_50 (kcX6_safe_0 25 50 rfl)
theorem dX6_safe_26 : decode cX6_safe 26 = .ok (.invokevirtual 184, 3) := dw_182 (kcX6_safe_0 26 182 rfl) (kcX6_safe_0 27 0 rfl) (kcX6_safe_0 28 184 rfl) rfl
theorem dX6_safe_29 : decode cX6_safe 29 = .ok (.aload_n 0, 1) := dw_42 (kcX6_safe_0 29 42 rfl)
theorem dX6_safe_30 : decode cX6_safe 30 = .ok (.getfield 22, 3) := dw_180 (kcX6_safe_0 30 180 rfl) (kcX6_safe_0 31 0 rfl) (kcX6_safe_0 32 22 rfl) rfl
theorem dX6_safe_33 : decode cX6_safe 33 = .ok (.iload_n 2, 1) := dw_28 (kcX6_safe_0 33 28 rfl)
theorem dX6_safe_34 : decode cX6_safe 34 = .ok (.iload_n 3, 1) := dw_29 (kcX6_safe_0 34 29 rfl)
theorem dX6_safe_35 : decode cX6_safe 35 = .ok (.invokevirtual 188, 3) := dw_182 (kcX6_safe_0 35 182 rfl) (kcX6_safe_0 36 0 rfl) (kcX6_safe_0 37 188 rfl) rfl
theorem dX6_safe_38 : decode cX6_safe 38 = .ok (.ifCond .eq 7, 3) := dw_153 (kcX6_safe_0 38 153 rfl) (kcX6_safe_0 39 0 rfl) (kcX6_safe_0 40 7 rfl) rfl
theorem dX6_safe_45 : decode cX6_safe 45 = .ok (.iconst 0, 1) := dw_3 (kcX6_safe_0 45 3 rfl)
theorem dX6_safe_46 : decode cX6_safe 46 = .ok (.ireturn, 1) := dw_172 (kcX6_safe_0 46 172 rfl)
theorem dX6_safe_41 : decode cX6_safe 41 = .ok (.iconst 1, 1) := dw_4 (kcX6_safe_0 41 4 rfl)
theorem dX6_safe_42 : decode cX6_safe 42 = .ok (.goto 4, 3) := dw_167 (kcX6_safe_0 42 167 rfl) (kcX6_safe_0 43 0 rfl) (kcX6_safe_0 44 4 rfl) rfl
theorem dX6_safe_14 : decode cX6_safe 14 = .ok (.iconst (-1), 1) := dw_2 (kcX6_safe_0 14 2 rfl)
theorem dX6_safe_15 : decode cX6_safe 15 = .ok (.ireturn, 1) := dw_172 (kcX6_safe_0 15 172 rfl)
theorem kcX6_unsafe_0 : CHb cX6_unsafe 0 [42, 42, 27, 182, 0, 73, 182, 0, 65, 154, 0, 5, 2, 172, 42, 180, 0, 22, 42, 180, 0, 15, 27, 50, 182, 0, 184, 42, 180, 0, 22, 182, 0, 191, 172] := CHb_of (by decide +kernel)
theorem dX6_unsafe_0 : decode cX6_unsafe 0 = .ok (.aload_n 0, 1) := dw_42 (kcX6_unsafe_0 0 42 rfl)
theorem dX6_unsafe_1 : decode cX6_unsafe 1 = .ok (.aload_n 0, 1) := dw_42 (kcX6_unsafe_0 1 42 rfl)
theorem dX6_unsafe_2 : decode cX6_unsafe 2 = .ok (.iload_n 1, 1) := dw_27 (kcX6_unsafe_0 2 27 rfl)
theorem dX6_unsafe_3 : decode cX6_unsafe 3 = .ok (.invokevirtual 73, 3) := dw_182 (kcX6_unsafe_0 3 182 rfl) (kcX6_unsafe_0 4 0 rfl) (kcX6_unsafe_0 5 73 rfl) rfl
theorem dX6_unsafe_6 : decode cX6_unsafe 6 = .ok (.invokevirtual 65, 3) := dw_182 (kcX6_unsafe_0 6 182 rfl) (kcX6_unsafe_0 7 0 rfl) (kcX6_unsafe_0 8 65 rfl) rfl
theorem dX6_unsafe_9 : decode cX6_unsafe 9 = .ok (.ifCond .ne 5, 3) := dw_154 (kcX6_unsafe_0 9 154 rfl) (kcX6_unsafe_0 10 0 rfl) (kcX6_unsafe_0 11 5 rfl) rfl
theorem dX6_unsafe_14 : decode cX6_unsafe 14 = .ok (.aload_n 0, 1) := dw_42 (kcX6_unsafe_0 14 42 rfl)
theorem dX6_unsafe_15 : decode cX6_unsafe 15 = .ok (.getfield 22, 3) := dw_180 (kcX6_unsafe_0 15 180 rfl) (kcX6_unsafe_0 16 0 rfl) (kcX6_unsafe_0 17 22 rfl) rfl
theorem dX6_unsafe_18 : decode cX6_unsafe 18 = .ok (.aload_n 0, 1) := dw_42 (kcX6_unsafe_0 18 42 rfl)
theorem dX6_unsafe_19 : decode cX6_unsafe 19 = .ok (.getfield 15, 3) := dw_180 (kcX6_unsafe_0 19 180 rfl) (kcX6_unsafe_0 20 0 rfl) (kcX6_unsafe_0 21 15 rfl) rfl
theorem dX6_unsafe_22 : decode cX6_unsafe 22 = .ok (.iload_n 1, 1) := dw_27 (kcX6_unsafe_0 22 27 rfl)
theorem dX6_unsafe_23 : decode cX6_unsafe 23 = .ok (.aaload, 1) := dw_50 (kcX6_unsafe_0 23 50 rfl)
theorem dX6_unsafe_24 : decode cX6_unsafe 24 = .ok (.invokevirtual 184, 3) := dw_182 (kcX6_unsafe_0 24 182 rfl) (kcX6_unsafe_0 25 0 rfl) (kcX6_unsafe_0 26 184 rfl) rfl
theorem dX6_unsafe_27 : decode cX6_unsafe 27 = .ok (.aload_n 0, 1) := dw_42 (kcX6_unsafe_0 27 42 rfl)
theorem dX6_unsafe_28 : decode cX6_unsafe 28 = .ok (.getfield 22, 3) := dw_180 (kcX6_unsafe_0 28 180 rfl) (kcX6_unsafe_0 29 0 rfl) (kcX6_unsafe_0 30 22 rfl) rfl
theorem dX6_unsafe_31 : decode cX6_unsafe 31 = .ok (.invokevirtual 191, 3) := dw_182 (kcX6_unsafe_0 31 182 rfl) (kcX6_unsafe_0 32 0 rfl) (kcX6_unsafe_0 33 191 rfl) rfl
theorem dX6_unsafe_34 : decode cX6_unsafe 34 = .ok (.ireturn, 1) := dw_172 (kcX6_unsafe_0 34 172 rfl)
theorem dX6_unsafe_12 : decode cX6_unsafe 12 = .ok (.iconst (-1), 1) := dw_2 (kcX6_unsafe_0 12 2 rfl)
theorem dX6_unsafe_13 : decode cX6_unsafe 13 = .ok (.ireturn, 1) := dw_172 (kcX6_unsafe_0 13 172 rfl)
theorem kcX6_witness_0 : CHb cX6_witness 0 [42, 42, 27, 28, 29, 182, 0, 165, 182, 0, 65, 154, 0, 5, 2, 172, 42, 180, 0, 22, 42, 180, 0, 15, 27, 50, 182, 0, 184, 42, 180, 0, 22, 28, 29, 21, 4, 182, 0, 195, 42, 180, 0, 22, 42, 180, 0, 43, 182, 0, 198, 42, 42, 180, 0, 22, 28, 29, 21, 4, 182, 0, 202, 181] := CHb_of (by decide +kernel)
theorem dX6_witness_0 : decode cX6_witness 0 = .ok (.aload_n 0, 1) := dw_42 (kcX6_witness_0 0 42 rfl)
theorem dX6_witness_1 : decode cX6_witness 1 = .ok (.aload_n 0, 1) := dw_42 (kcX6_witness_0 1 42 rfl)
theorem dX6_witness_2 : decode cX6_witness 2 = .ok (.iload_n 1, 1) := dw_27 (kcX6_witness_0 2 27 rfl)
theorem dX6_witness_3 : decode cX6_witness 3 = .ok (.iload_n 2, 1) := dw_28 (kcX6_witness_0 3 28 rfl)
theorem dX6_witness_4 : decode cX6_witness 4 = .ok (.iload_n 3, 1) := dw_29 (kcX6_witness_0 4 29 rfl)
theorem dX6_witness_5 : decode cX6_witness 5 = .ok (.invokevirtual 165, 3) := dw_182 (kcX6_witness_0 5 182 rfl) (kcX6_witness_0 6 0 rfl) (kcX6_witness_0 7 165 rfl) rfl
theorem dX6_witness_8 : decode cX6_witness 8 = .ok (.invokevirtual 65, 3) := dw_182 (kcX6_witness_0 8 182 rfl) (kcX6_witness_0 9 0 rfl) (kcX6_witness_0 10 65 rfl) rfl
theorem dX6_witness_11 : decode cX6_witness 11 = .ok (.ifCond .ne 5, 3) := dw_154 (kcX6_witness_0 11 154 rfl) (kcX6_witness_0 12 0 rfl) (kcX6_witness_0 13 5 rfl) rfl
theorem dX6_witness_16 : decode cX6_witness 16 = .ok (.aload_n 0, 1) := dw_42 (kcX6_witness_0 16 42 rfl)
theorem dX6_witness_17 : decode cX6_witness 17 = .ok (.getfield 22, 3) := dw_180 (kcX6_witness_0 17 180 rfl) (kcX6_witness_0 18 0 rfl) (kcX6_witness_0 19 22 rfl) rfl
theorem dX6_witness_20 : decode cX6_witness 20 = .ok (.aload_n 0, 1) := dw_42 (kcX6_witness_0 20 42 rfl)
theorem dX6_witness_21 : decode cX6_witness 21 = .ok (.getfield 15, 3) := dw_180 (kcX6_witness_0 21 180 rfl) (kcX6_witness_0 22 0 rfl) (kcX6_witness_0 23 15 rfl) rfl
theorem dX6_witness_24 : decode cX6_witness 24 = .ok (.iload_n 1, 1) := dw_27 (kcX6_witness_0 24 27 rfl)
theorem dX6_witness_25 : decode cX6_witness 25 = .ok (.aaload, 1) := dw_50 (kcX6_witness_0 25 50 rfl)
theorem dX6_witness_26 : decode cX6_witness 26 = .ok (.invokevirtual 184, 3) := dw_182 (kcX6_witness_0 26 182 rfl) (kcX6_witness_0 27 0 rfl) (kcX6_witness_0 28 184 rfl) rfl
theorem dX6_witness_29 : decode cX6_witness 29 = .ok (.aload_n 0, 1) := dw_42 (kcX6_witness_0 29 42 rfl)
theorem dX6_witness_30 : decode cX6_witness 30 = .ok (.getfield 22, 3) := dw_180 (kcX6_witness_0 30 180 rfl) (kcX6_witness_0 31 0 rfl) (kcX6_witness_0 32 22 rfl) rfl
theorem dX6_witness_33 : decode cX6_witness 33 = .ok (.iload_n 2, 1) := dw_28 (kcX6_witness_0 33 28 rfl)
theorem dX6_witness_34 : decode cX6_witness 34 = .ok (.iload_n 3, 1) := dw_29 (kcX6_witness_0 34 29 rfl)
theorem dX6_witness_35 : decode cX6_witness 35 = .ok (.iload 4, 2) := dw_21 (kcX6_witness_0 35 21 rfl) (kcX6_witness_0 36 4 rfl)
theorem dX6_witness_37 : decode cX6_witness 37 = .ok (.invokevirtual 195, 3) := dw_182 (kcX6_witness_0 37 182 rfl) (kcX6_witness_0 38 0 rfl) (kcX6_witness_0 39 195 rfl) rfl
theorem dX6_witness_40 : decode cX6_witness 40 = .ok (.aload_n 0, 1) := dw_42 (kcX6_witness_0 40 42 rfl)
theorem dX6_witness_41 : decode cX6_witness 41 = .ok (.getfield 22, 3) := dw_180 (kcX6_witness_0 41 180 rfl) (kcX6_witness_0 42 0 rfl) (kcX6_witness_0 43 22 rfl) rfl
theorem dX6_witness_44 : decode cX6_witness 44 = .ok (.aload_n 0, 1) := dw_42 (kcX6_witness_0 44 42 rfl)
theorem dX6_witness_45 : decode cX6_witness 45 = .ok (.getfield 43, 3) := dw_180 (kcX6_witness_0 45 180 rfl) (kcX6_witness_0 46 0 rfl) (kcX6_witness_0 47 43 rfl) rfl
theorem dX6_witness_48 : decode cX6_witness 48 = .ok (.invokevirtual 198, 3) := dw_182 (kcX6_witness_0 48 182 rfl) (kcX6_witness_0 49 0 rfl) (kcX6_witness_0 50 198 rfl) rfl
theorem dX6_witness_51 : decode cX6_witness 51 = .ok (.aload_n 0, 1) := dw_42 (kcX6_witness_0 51 42 rfl)
theorem dX6_witness_52 : decode cX6_witness 52 = .ok (.aload_n 0, 1) := dw_42 (kcX6_witness_0 52 42 rfl)
theorem dX6_witness_53 : decode cX6_witness 53 = .ok (.getfield 22, 3) := dw_180 (kcX6_witness_0 53 180 rfl) (kcX6_witness_0 54 0 rfl) (kcX6_witness_0 55 22 rfl) rfl
theorem dX6_witness_56 : decode cX6_witness 56 = .ok (.iload_n 2, 1) := dw_28 (kcX6_witness_0 56 28 rfl)
theorem dX6_witness_57 : decode cX6_witness 57 = .ok (.iload_n 3, 1) := dw_29 (kcX6_witness_0 57 29 rfl)
theorem dX6_witness_58 : decode cX6_witness 58 = .ok (.iload 4, 2) := dw_21 (kcX6_witness_0 58 21 rfl) (kcX6_witness_0 59 4 rfl)
theorem dX6_witness_60 : decode cX6_witness 60 = .ok (.invokevirtual 202, 3) := dw_182 (kcX6_witness_0 60 182 rfl) (kcX6_witness_0 61 0 rfl) (kcX6_witness_0 62 202 rfl) rfl
theorem kcX6_witness_1 : CHb cX6_witness 64 [0, 50, 42, 180, 0, 43, 28, 29, 182, 0, 206, 172] := CHb_of (by decide +kernel)
theorem dX6_witness_63 : decode cX6_witness 63 = .ok (.putfield 50, 3) := dw_181 (kcX6_witness_0 63 181 rfl) (kcX6_witness_1 0 0 rfl) (kcX6_witness_1 1 50 rfl) rfl
theorem dX6_witness_66 : decode cX6_witness 66 = .ok (.aload_n 0, 1) := dw_42 (kcX6_witness_1 2 42 rfl)
theorem dX6_witness_67 : decode cX6_witness 67 = .ok (.getfield 43, 3) := dw_180 (kcX6_witness_1 3 180 rfl) (kcX6_witness_1 4 0 rfl) (kcX6_witness_1 5 43 rfl) rfl
theorem dX6_witness_70 : decode cX6_witness 70 = .ok (.iload_n 2, 1) := dw_28 (kcX6_witness_1 6 28 rfl)
theorem dX6_witness_71 : decode cX6_witness 71 = .ok (.iload_n 3, 1) := dw_29 (kcX6_witness_1 7 29 rfl)
theorem dX6_witness_72 : decode cX6_witness 72 = .ok (.invokevirtual 206, 3) := dw_182 (kcX6_witness_1 8 182 rfl) (kcX6_witness_1 9 0 rfl) (kcX6_witness_1 10 206 rfl) rfl
theorem dX6_witness_75 : decode cX6_witness 75 = .ok (.ireturn, 1) := dw_172 (kcX6_witness_1 11 172 rfl)
theorem dX6_witness_14 : decode cX6_witness 14 = .ok (.iconst (-1), 1) := dw_2 (kcX6_witness_0 14 2 rfl)
theorem dX6_witness_15 : decode cX6_witness 15 = .ok (.ireturn, 1) := dw_172 (kcX6_witness_0 15 172 rfl)
theorem kcX6_seen_0 : CHb cX6_seen 0 [42, 180, 0, 43, 27, 28, 182, 0, 206, 172] := CHb_of (by decide +kernel)
theorem dX6_seen_0 : decode cX6_seen 0 = .ok (.aload_n 0, 1) := dw_42 (kcX6_seen_0 0 42 rfl)
theorem dX6_seen_1 : decode cX6_seen 1 = .ok (.getfield 43, 3) := dw_180 (kcX6_seen_0 1 180 rfl) (kcX6_seen_0 2 0 rfl) (kcX6_seen_0 3 43 rfl) rfl
theorem dX6_seen_4 : decode cX6_seen 4 = .ok (.iload_n 1, 1) := dw_27 (kcX6_seen_0 4 27 rfl)
theorem dX6_seen_5 : decode cX6_seen 5 = .ok (.iload_n 2, 1) := dw_28 (kcX6_seen_0 5 28 rfl)
theorem dX6_seen_6 : decode cX6_seen 6 = .ok (.invokevirtual 206, 3) := dw_182 (kcX6_seen_0 6 182 rfl) (kcX6_seen_0 7 0 rfl) (kcX6_seen_0 8 206 rfl) rfl
theorem dX6_seen_9 : decode cX6_seen 9 = .ok (.ireturn, 1) := dw_172 (kcX6_seen_0 9 172 rfl)
theorem kcX6_rounded_0 : CHb cX6_rounded 0 [42, 180, 0, 47, 27, 28, 182, 0, 206, 172] := CHb_of (by decide +kernel)
theorem dX6_rounded_0 : decode cX6_rounded 0 = .ok (.aload_n 0, 1) := dw_42 (kcX6_rounded_0 0 42 rfl)
theorem dX6_rounded_1 : decode cX6_rounded 1 = .ok (.getfield 47, 3) := dw_180 (kcX6_rounded_0 1 180 rfl) (kcX6_rounded_0 2 0 rfl) (kcX6_rounded_0 3 47 rfl) rfl
theorem dX6_rounded_4 : decode cX6_rounded 4 = .ok (.iload_n 1, 1) := dw_27 (kcX6_rounded_0 4 27 rfl)
theorem dX6_rounded_5 : decode cX6_rounded 5 = .ok (.iload_n 2, 1) := dw_28 (kcX6_rounded_0 5 28 rfl)
theorem dX6_rounded_6 : decode cX6_rounded 6 = .ok (.invokevirtual 206, 3) := dw_182 (kcX6_rounded_0 6 182 rfl) (kcX6_rounded_0 7 0 rfl) (kcX6_rounded_0 8 206 rfl) rfl
theorem dX6_rounded_9 : decode cX6_rounded 9 = .ok (.ireturn, 1) := dw_172 (kcX6_rounded_0 9 172 rfl)
theorem kcX6_cut_0 : CHb cX6_cut 0 [27, 153, 0, 13, 42, 180, 0, 43, 180, 0, 209, 167, 0, 10, 42, 180, 0, 43, 180, 0, 210, 62, 28, 155, 0, 8, 28, 29, 161, 0, 5, 2, 172, 42, 180, 0, 50, 27, 153, 0, 7, 28, 167, 0, 7, 16, 12, 28, 96, 122, 4, 126, 172] := CHb_of (by decide +kernel)
theorem dX6_cut_0 : decode cX6_cut 0 = .ok (.iload_n 1, 1) := dw_27 (kcX6_cut_0 0 27 rfl)
theorem dX6_cut_1 : decode cX6_cut 1 = .ok (.ifCond .eq 13, 3) := dw_153 (kcX6_cut_0 1 153 rfl) (kcX6_cut_0 2 0 rfl) (kcX6_cut_0 3 13 rfl) rfl
theorem dX6_cut_14 : decode cX6_cut 14 = .ok (.aload_n 0, 1) := dw_42 (kcX6_cut_0 14 42 rfl)
theorem dX6_cut_15 : decode cX6_cut 15 = .ok (.getfield 43, 3) := dw_180 (kcX6_cut_0 15 180 rfl) (kcX6_cut_0 16 0 rfl) (kcX6_cut_0 17 43 rfl) rfl
theorem dX6_cut_18 : decode cX6_cut 18 = .ok (.getfield 210, 3) := dw_180 (kcX6_cut_0 18 180 rfl) (kcX6_cut_0 19 0 rfl) (kcX6_cut_0 20 210 rfl) rfl
theorem dX6_cut_4 : decode cX6_cut 4 = .ok (.aload_n 0, 1) := dw_42 (kcX6_cut_0 4 42 rfl)
theorem dX6_cut_5 : decode cX6_cut 5 = .ok (.getfield 43, 3) := dw_180 (kcX6_cut_0 5 180 rfl) (kcX6_cut_0 6 0 rfl) (kcX6_cut_0 7 43 rfl) rfl
theorem dX6_cut_8 : decode cX6_cut 8 = .ok (.getfield 209, 3) := dw_180 (kcX6_cut_0 8 180 rfl) (kcX6_cut_0 9 0 rfl) (kcX6_cut_0 10 209 rfl) rfl
theorem dX6_cut_11 : decode cX6_cut 11 = .ok (.goto 10, 3) := dw_167 (kcX6_cut_0 11 167 rfl) (kcX6_cut_0 12 0 rfl) (kcX6_cut_0 13 10 rfl) rfl
theorem dX6_cut_21 : decode cX6_cut 21 = .ok (.istore_n 3, 1) := dw_62 (kcX6_cut_0 21 62 rfl)
theorem dX6_cut_22 : decode cX6_cut 22 = .ok (.iload_n 2, 1) := dw_28 (kcX6_cut_0 22 28 rfl)
theorem dX6_cut_23 : decode cX6_cut 23 = .ok (.ifCond .lt 8, 3) := dw_155 (kcX6_cut_0 23 155 rfl) (kcX6_cut_0 24 0 rfl) (kcX6_cut_0 25 8 rfl) rfl
theorem dX6_cut_31 : decode cX6_cut 31 = .ok (.iconst (-1), 1) := dw_2 (kcX6_cut_0 31 2 rfl)
theorem dX6_cut_32 : decode cX6_cut 32 = .ok (.ireturn, 1) := dw_172 (kcX6_cut_0 32 172 rfl)
theorem dX6_cut_26 : decode cX6_cut 26 = .ok (.iload_n 2, 1) := dw_28 (kcX6_cut_0 26 28 rfl)
theorem dX6_cut_27 : decode cX6_cut 27 = .ok (.iload_n 3, 1) := dw_29 (kcX6_cut_0 27 29 rfl)
theorem dX6_cut_28 : decode cX6_cut 28 = .ok (.if_icmp .lt 5, 3) := dw_161 (kcX6_cut_0 28 161 rfl) (kcX6_cut_0 29 0 rfl) (kcX6_cut_0 30 5 rfl) rfl
theorem dX6_cut_33 : decode cX6_cut 33 = .ok (.aload_n 0, 1) := dw_42 (kcX6_cut_0 33 42 rfl)
theorem dX6_cut_34 : decode cX6_cut 34 = .ok (.getfield 50, 3) := dw_180 (kcX6_cut_0 34 180 rfl) (kcX6_cut_0 35 0 rfl) (kcX6_cut_0 36 50 rfl) rfl
theorem dX6_cut_37 : decode cX6_cut 37 = .ok (.iload_n 1, 1) := dw_27 (kcX6_cut_0 37 27 rfl)
theorem dX6_cut_38 : decode cX6_cut 38 = .ok (.ifCond .eq 7, 3) := dw_153 (kcX6_cut_0 38 153 rfl) (kcX6_cut_0 39 0 rfl) (kcX6_cut_0 40 7 rfl) rfl
theorem dX6_cut_45 : decode cX6_cut 45 = .ok (.bipush 12, 2) := dw_16 (kcX6_cut_0 45 16 rfl) (kcX6_cut_0 46 12 rfl) rfl
theorem dX6_cut_47 : decode cX6_cut 47 = .ok (.iload_n 2, 1) := dw_28 (kcX6_cut_0 47 28 rfl)
theorem dX6_cut_48 : decode cX6_cut 48 = .ok (.iadd, 1) := dw_96 (kcX6_cut_0 48 96 rfl)
theorem dX6_cut_41 : decode cX6_cut 41 = .ok (.iload_n 2, 1) := dw_28 (kcX6_cut_0 41 28 rfl)
theorem dX6_cut_42 : decode cX6_cut 42 = .ok (.goto 7, 3) := dw_167 (kcX6_cut_0 42 167 rfl) (kcX6_cut_0 43 0 rfl) (kcX6_cut_0 44 7 rfl) rfl
theorem dX6_cut_49 : decode cX6_cut 49 = .ok (.ishr, 1) := dw_122 (kcX6_cut_0 49 122 rfl)
theorem dX6_cut_50 : decode cX6_cut 50 = .ok (.iconst 1, 1) := dw_4 (kcX6_cut_0 50 4 rfl)
theorem dX6_cut_51 : decode cX6_cut 51 = .ok (.iand, 1) := dw_126 (kcX6_cut_0 51 126 rfl)
theorem dX6_cut_52 : decode cX6_cut 52 = .ok (.ireturn, 1) := dw_172 (kcX6_cut_0 52 172 rfl)
theorem kcX6_plan_0 : CHb cX6_plan 0 [42, 42, 27, 182, 0, 73, 182, 0, 65, 154, 0, 5, 2, 172, 42, 180, 0, 22, 42, 180, 0, 15, 27, 50, 182, 0, 184, 42, 180, 0, 29, 42, 180, 0, 15, 27, 50, 42, 180, 0, 22, 182, 0, 211, 61, 28, 2, 160, 0, 12, 42, 16, 10, 182, 0, 122, 167, 0, 4, 28, 172] := CHb_of (by decide +kernel)
theorem dX6_plan_0 : decode cX6_plan 0 = .ok (.aload_n 0, 1) := dw_42 (kcX6_plan_0 0 42 rfl)
theorem dX6_plan_1 : decode cX6_plan 1 = .ok (.aload_n 0, 1) := dw_42 (kcX6_plan_0 1 42 rfl)
theorem dX6_plan_2 : decode cX6_plan 2 = .ok (.iload_n 1, 1) := dw_27 (kcX6_plan_0 2 27 rfl)
theorem dX6_plan_3 : decode cX6_plan 3 = .ok (.invokevirtual 73, 3) := dw_182 (kcX6_plan_0 3 182 rfl) (kcX6_plan_0 4 0 rfl) (kcX6_plan_0 5 73 rfl) rfl
theorem dX6_plan_6 : decode cX6_plan 6 = .ok (.invokevirtual 65, 3) := dw_182 (kcX6_plan_0 6 182 rfl) (kcX6_plan_0 7 0 rfl) (kcX6_plan_0 8 65 rfl) rfl
theorem dX6_plan_9 : decode cX6_plan 9 = .ok (.ifCond .ne 5, 3) := dw_154 (kcX6_plan_0 9 154 rfl) (kcX6_plan_0 10 0 rfl) (kcX6_plan_0 11 5 rfl) rfl
theorem dX6_plan_14 : decode cX6_plan 14 = .ok (.aload_n 0, 1) := dw_42 (kcX6_plan_0 14 42 rfl)
theorem dX6_plan_15 : decode cX6_plan 15 = .ok (.getfield 22, 3) := dw_180 (kcX6_plan_0 15 180 rfl) (kcX6_plan_0 16 0 rfl) (kcX6_plan_0 17 22 rfl) rfl
theorem dX6_plan_18 : decode cX6_plan 18 = .ok (.aload_n 0, 1) := dw_42 (kcX6_plan_0 18 42 rfl)
theorem dX6_plan_19 : decode cX6_plan 19 = .ok (.getfield 15, 3) := dw_180 (kcX6_plan_0 19 180 rfl) (kcX6_plan_0 20 0 rfl) (kcX6_plan_0 21 15 rfl) rfl
theorem dX6_plan_22 : decode cX6_plan 22 = .ok (.iload_n 1, 1) := dw_27 (kcX6_plan_0 22 27 rfl)
theorem dX6_plan_23 : decode cX6_plan 23 = .ok (.aaload, 1) := dw_50 (kcX6_plan_0 23 50 rfl)
theorem dX6_plan_24 : decode cX6_plan 24 = .ok (.invokevirtual 184, 3) := dw_182 (kcX6_plan_0 24 182 rfl) (kcX6_plan_0 25 0 rfl) (kcX6_plan_0 26 184 rfl) rfl
theorem dX6_plan_27 : decode cX6_plan 27 = .ok (.aload_n 0, 1) := dw_42 (kcX6_plan_0 27 42 rfl)
theorem dX6_plan_28 : decode cX6_plan 28 = .ok (.getfield 29, 3) := dw_180 (kcX6_plan_0 28 180 rfl) (kcX6_plan_0 29 0 rfl) (kcX6_plan_0 30 29 rfl) rfl
theorem dX6_plan_31 : decode cX6_plan 31 = .ok (.aload_n 0, 1) := dw_42 (kcX6_plan_0 31 42 rfl)
theorem dX6_plan_32 : decode cX6_plan 32 = .ok (.getfield 15, 3) := dw_180 (kcX6_plan_0 32 180 rfl) (kcX6_plan_0 33 0 rfl) (kcX6_plan_0 34 15 rfl) rfl
theorem dX6_plan_35 : decode cX6_plan 35 = .ok (.iload_n 1, 1) := dw_27 (kcX6_plan_0 35 27 rfl)
theorem dX6_plan_36 : decode cX6_plan 36 = .ok (.aaload, 1) := dw_50 (kcX6_plan_0 36 50 rfl)
theorem dX6_plan_37 : decode cX6_plan 37 = .ok (.aload_n 0, 1) := dw_42 (kcX6_plan_0 37 42 rfl)
theorem dX6_plan_38 : decode cX6_plan 38 = .ok (.getfield 22, 3) := dw_180 (kcX6_plan_0 38 180 rfl) (kcX6_plan_0 39 0 rfl) (kcX6_plan_0 40 22 rfl) rfl
theorem dX6_plan_41 : decode cX6_plan 41 = .ok (.invokevirtual 211, 3) := dw_182 (kcX6_plan_0 41 182 rfl) (kcX6_plan_0 42 0 rfl) (kcX6_plan_0 43 211 rfl) rfl
theorem dX6_plan_44 : decode cX6_plan 44 = .ok (.istore_n 2, 1) := dw_61 (kcX6_plan_0 44 61 rfl)
theorem dX6_plan_45 : decode cX6_plan 45 = .ok (.iload_n 2, 1) := dw_28 (kcX6_plan_0 45 28 rfl)
theorem dX6_plan_46 : decode cX6_plan 46 = .ok (.iconst (-1), 1) := dw_2 (kcX6_plan_0 46 2 rfl)
theorem dX6_plan_47 : decode cX6_plan 47 = .ok (.if_icmp .ne 12, 3) := dw_160 (kcX6_plan_0 47 160 rfl) (kcX6_plan_0 48 0 rfl) (kcX6_plan_0 49 12 rfl) rfl
theorem dX6_plan_59 : decode cX6_plan 59 = .ok (.iload_n 2, 1) := dw_28 (kcX6_plan_0 59 28 rfl)
theorem dX6_plan_60 : decode cX6_plan 60 = .ok (.ireturn, 1) := dw_172 (kcX6_plan_0 60 172 rfl)
theorem dX6_plan_50 : decode cX6_plan 50 = .ok (.aload_n 0, 1) := dw_42 (kcX6_plan_0 50 42 rfl)
theorem dX6_plan_51 : decode cX6_plan 51 = .ok (.bipush 10, 2) := dw_16 (kcX6_plan_0 51 16 rfl) (kcX6_plan_0 52 10 rfl) rfl
theorem dX6_plan_53 : decode cX6_plan 53 = .ok (.invokevirtual 122, 3) := dw_182 (kcX6_plan_0 53 182 rfl) (kcX6_plan_0 54 0 rfl) (kcX6_plan_0 55 122 rfl) rfl
theorem dX6_plan_56 : decode cX6_plan 56 = .ok (.goto 4, 3) := dw_167 (kcX6_plan_0 56 167 rfl) (kcX6_plan_0 57 0 rfl) (kcX6_plan_0 58 4 rfl) rfl
theorem dX6_plan_12 : decode cX6_plan 12 = .ok (.iconst (-1), 1) := dw_2 (kcX6_plan_0 12 2 rfl)
theorem dX6_plan_13 : decode cX6_plan 13 = .ok (.ireturn, 1) := dw_172 (kcX6_plan_0 13 172 rfl)
theorem kcX6_fewest_0 : CHb cX6_fewest 0 [42, 42, 27, 182, 0, 73, 182, 0, 65, 154, 0, 5, 2, 172, 42, 180, 0, 22, 42, 180, 0, 15, 27, 50, 182, 0, 184, 42, 180, 0, 29, 42, 180, 0, 15, 27, 50, 42, 180, 0, 22, 182, 0, 215, 42, 180, 0, 29, 180, 0, 219, 16, 8, 164, 0, 10, 42, 16, 8, 182, 0, 122, 172, 42] := CHb_of (by decide +kernel)
theorem dX6_fewest_0 : decode cX6_fewest 0 = .ok (.aload_n 0, 1) := dw_42 (kcX6_fewest_0 0 42 rfl)
theorem dX6_fewest_1 : decode cX6_fewest 1 = .ok (.aload_n 0, 1) := dw_42 (kcX6_fewest_0 1 42 rfl)
theorem dX6_fewest_2 : decode cX6_fewest 2 = .ok (.iload_n 1, 1) := dw_27 (kcX6_fewest_0 2 27 rfl)
theorem dX6_fewest_3 : decode cX6_fewest 3 = .ok (.invokevirtual 73, 3) := dw_182 (kcX6_fewest_0 3 182 rfl) (kcX6_fewest_0 4 0 rfl) (kcX6_fewest_0 5 73 rfl) rfl
theorem dX6_fewest_6 : decode cX6_fewest 6 = .ok (.invokevirtual 65, 3) := dw_182 (kcX6_fewest_0 6 182 rfl) (kcX6_fewest_0 7 0 rfl) (kcX6_fewest_0 8 65 rfl) rfl
theorem dX6_fewest_9 : decode cX6_fewest 9 = .ok (.ifCond .ne 5, 3) := dw_154 (kcX6_fewest_0 9 154 rfl) (kcX6_fewest_0 10 0 rfl) (kcX6_fewest_0 11 5 rfl) rfl
theorem dX6_fewest_14 : decode cX6_fewest 14 = .ok (.aload_n 0, 1) := dw_42 (kcX6_fewest_0 14 42 rfl)
theorem dX6_fewest_15 : decode cX6_fewest 15 = .ok (.getfield 22, 3) := dw_180 (kcX6_fewest_0 15 180 rfl) (kcX6_fewest_0 16 0 rfl) (kcX6_fewest_0 17 22 rfl) rfl
theorem dX6_fewest_18 : decode cX6_fewest 18 = .ok (.aload_n 0, 1) := dw_42 (kcX6_fewest_0 18 42 rfl)
theorem dX6_fewest_19 : decode cX6_fewest 19 = .ok (.getfield 15, 3) := dw_180 (kcX6_fewest_0 19 180 rfl) (kcX6_fewest_0 20 0 rfl) (kcX6_fewest_0 21 15 rfl) rfl
theorem dX6_fewest_22 : decode cX6_fewest 22 = .ok (.iload_n 1, 1) := dw_27 (kcX6_fewest_0 22 27 rfl)
theorem dX6_fewest_23 : decode cX6_fewest 23 = .ok (.aaload, 1) := dw_50 (kcX6_fewest_0 23 50 rfl)
theorem dX6_fewest_24 : decode cX6_fewest 24 = .ok (.invokevirtual 184, 3) := dw_182 (kcX6_fewest_0 24 182 rfl) (kcX6_fewest_0 25 0 rfl) (kcX6_fewest_0 26 184 rfl) rfl
theorem dX6_fewest_27 : decode cX6_fewest 27 = .ok (.aload_n 0, 1) := dw_42 (kcX6_fewest_0 27 42 rfl)
theorem dX6_fewest_28 : decode cX6_fewest 28 = .ok (.getfield 29, 3) := dw_180 (kcX6_fewest_0 28 180 rfl) (kcX6_fewest_0 29 0 rfl) (kcX6_fewest_0 30 29 rfl) rfl
theorem dX6_fewest_31 : decode cX6_fewest 31 = .ok (.aload_n 0, 1) := dw_42 (kcX6_fewest_0 31 42 rfl)
theorem dX6_fewest_32 : decode cX6_fewest 32 = .ok (.getfield 15, 3) := dw_180 (kcX6_fewest_0 32 180 rfl) (kcX6_fewest_0 33 0 rfl) (kcX6_fewest_0 34 15 rfl) rfl
theorem dX6_fewest_35 : decode cX6_fewest 35 = .ok (.iload_n 1, 1) := dw_27 (kcX6_fewest_0 35 27 rfl)
theorem dX6_fewest_36 : decode cX6_fewest 36 = .ok (.aaload, 1) := dw_50 (kcX6_fewest_0 36 50 rfl)
theorem dX6_fewest_37 : decode cX6_fewest 37 = .ok (.aload_n 0, 1) := dw_42 (kcX6_fewest_0 37 42 rfl)
theorem dX6_fewest_38 : decode cX6_fewest 38 = .ok (.getfield 22, 3) := dw_180 (kcX6_fewest_0 38 180 rfl) (kcX6_fewest_0 39 0 rfl) (kcX6_fewest_0 40 22 rfl) rfl
theorem dX6_fewest_41 : decode cX6_fewest 41 = .ok (.invokevirtual 215, 3) := dw_182 (kcX6_fewest_0 41 182 rfl) (kcX6_fewest_0 42 0 rfl) (kcX6_fewest_0 43 215 rfl) rfl
theorem dX6_fewest_44 : decode cX6_fewest 44 = .ok (.aload_n 0, 1) := dw_42 (kcX6_fewest_0 44 42 rfl)
theorem dX6_fewest_45 : decode cX6_fewest 45 = .ok (.getfield 29, 3) := dw_180 (kcX6_fewest_0 45 180 rfl) (kcX6_fewest_0 46 0 rfl) (kcX6_fewest_0 47 29 rfl) rfl
theorem dX6_fewest_48 : decode cX6_fewest 48 = .ok (.getfield 219, 3) := dw_180 (kcX6_fewest_0 48 180 rfl) (kcX6_fewest_0 49 0 rfl) (kcX6_fewest_0 50 219 rfl) rfl
theorem dX6_fewest_51 : decode cX6_fewest 51 = .ok (.bipush 8, 2) := dw_16 (kcX6_fewest_0 51 16 rfl) (kcX6_fewest_0 52 8 rfl) rfl
theorem dX6_fewest_53 : decode cX6_fewest 53 = .ok (.if_icmp .le 10, 3) := dw_164 (kcX6_fewest_0 53 164 rfl) (kcX6_fewest_0 54 0 rfl) (kcX6_fewest_0 55 10 rfl) rfl
theorem dX6_fewest_63 : decode cX6_fewest 63 = .ok (.aload_n 0, 1) := dw_42 (kcX6_fewest_0 63 42 rfl)
theorem kcX6_fewest_1 : CHb cX6_fewest 64 [180, 0, 29, 42, 180, 0, 22, 182, 0, 222, 61, 28, 2, 160, 0, 10, 42, 16, 10, 182, 0, 122, 172, 42, 180, 0, 29, 42, 180, 0, 15, 27, 50, 28, 182, 0, 226, 42, 180, 0, 29, 180, 0, 229, 28, 46, 172] := CHb_of (by decide +kernel)
theorem dX6_fewest_64 : decode cX6_fewest 64 = .ok (.getfield 29, 3) := dw_180 (kcX6_fewest_1 0 180 rfl) (kcX6_fewest_1 1 0 rfl) (kcX6_fewest_1 2 29 rfl) rfl
theorem dX6_fewest_67 : decode cX6_fewest 67 = .ok (.aload_n 0, 1) := dw_42 (kcX6_fewest_1 3 42 rfl)
theorem dX6_fewest_68 : decode cX6_fewest 68 = .ok (.getfield 22, 3) := dw_180 (kcX6_fewest_1 4 180 rfl) (kcX6_fewest_1 5 0 rfl) (kcX6_fewest_1 6 22 rfl) rfl
theorem dX6_fewest_71 : decode cX6_fewest 71 = .ok (.invokevirtual 222, 3) := dw_182 (kcX6_fewest_1 7 182 rfl) (kcX6_fewest_1 8 0 rfl) (kcX6_fewest_1 9 222 rfl) rfl
theorem dX6_fewest_74 : decode cX6_fewest 74 = .ok (.istore_n 2, 1) := dw_61 (kcX6_fewest_1 10 61 rfl)
theorem dX6_fewest_75 : decode cX6_fewest 75 = .ok (.iload_n 2, 1) := dw_28 (kcX6_fewest_1 11 28 rfl)
theorem dX6_fewest_76 : decode cX6_fewest 76 = .ok (.iconst (-1), 1) := dw_2 (kcX6_fewest_1 12 2 rfl)
theorem dX6_fewest_77 : decode cX6_fewest 77 = .ok (.if_icmp .ne 10, 3) := dw_160 (kcX6_fewest_1 13 160 rfl) (kcX6_fewest_1 14 0 rfl) (kcX6_fewest_1 15 10 rfl) rfl
theorem dX6_fewest_87 : decode cX6_fewest 87 = .ok (.aload_n 0, 1) := dw_42 (kcX6_fewest_1 23 42 rfl)
theorem dX6_fewest_88 : decode cX6_fewest 88 = .ok (.getfield 29, 3) := dw_180 (kcX6_fewest_1 24 180 rfl) (kcX6_fewest_1 25 0 rfl) (kcX6_fewest_1 26 29 rfl) rfl
theorem dX6_fewest_91 : decode cX6_fewest 91 = .ok (.aload_n 0, 1) := dw_42 (kcX6_fewest_1 27 42 rfl)
theorem dX6_fewest_92 : decode cX6_fewest 92 = .ok (.getfield 15, 3) := dw_180 (kcX6_fewest_1 28 180 rfl) (kcX6_fewest_1 29 0 rfl) (kcX6_fewest_1 30 15 rfl) rfl
theorem dX6_fewest_95 : decode cX6_fewest 95 = .ok (.iload_n 1, 1) := dw_27 (kcX6_fewest_1 31 27 rfl)
theorem dX6_fewest_96 : decode cX6_fewest 96 = .ok (.aaload, 1) := dw_50 (kcX6_fewest_1 32 50 rfl)
theorem dX6_fewest_97 : decode cX6_fewest 97 = .ok (.iload_n 2, 1) := dw_28 (kcX6_fewest_1 33 28 rfl)
theorem dX6_fewest_98 : decode cX6_fewest 98 = .ok (.invokevirtual 226, 3) := dw_182 (kcX6_fewest_1 34 182 rfl) (kcX6_fewest_1 35 0 rfl) (kcX6_fewest_1 36 226 rfl) rfl
theorem dX6_fewest_101 : decode cX6_fewest 101 = .ok (.aload_n 0, 1) := dw_42 (kcX6_fewest_1 37 42 rfl)
theorem dX6_fewest_102 : decode cX6_fewest 102 = .ok (.getfield 29, 3) := dw_180 (kcX6_fewest_1 38 180 rfl) (kcX6_fewest_1 39 0 rfl) (kcX6_fewest_1 40 29 rfl) rfl
theorem dX6_fewest_105 : decode cX6_fewest 105 = .ok (.getfield 229, 3) := dw_180 (kcX6_fewest_1 41 180 rfl) (kcX6_fewest_1 42 0 rfl) (kcX6_fewest_1 43 229 rfl) rfl
theorem dX6_fewest_108 : decode cX6_fewest 108 = .ok (.iload_n 2, 1) := dw_28 (kcX6_fewest_1 44 28 rfl)
theorem dX6_fewest_109 : decode cX6_fewest 109 = .ok (.iaload, 1) := dw_46 (kcX6_fewest_1 45 46 rfl)
theorem dX6_fewest_110 : decode cX6_fewest 110 = .ok (.ireturn, 1) := dw_172 (kcX6_fewest_1 46 172 rfl)
theorem dX6_fewest_80 : decode cX6_fewest 80 = .ok (.aload_n 0, 1) := dw_42 (kcX6_fewest_1 16 42 rfl)
theorem dX6_fewest_81 : decode cX6_fewest 81 = .ok (.bipush 10, 2) := dw_16 (kcX6_fewest_1 17 16 rfl) (kcX6_fewest_1 18 10 rfl) rfl
theorem dX6_fewest_83 : decode cX6_fewest 83 = .ok (.invokevirtual 122, 3) := dw_182 (kcX6_fewest_1 19 182 rfl) (kcX6_fewest_1 20 0 rfl) (kcX6_fewest_1 21 122 rfl) rfl
theorem dX6_fewest_86 : decode cX6_fewest 86 = .ok (.ireturn, 1) := dw_172 (kcX6_fewest_1 22 172 rfl)
theorem dX6_fewest_56 : decode cX6_fewest 56 = .ok (.aload_n 0, 1) := dw_42 (kcX6_fewest_0 56 42 rfl)
theorem dX6_fewest_57 : decode cX6_fewest 57 = .ok (.bipush 8, 2) := dw_16 (kcX6_fewest_0 57 16 rfl) (kcX6_fewest_0 58 8 rfl) rfl
theorem dX6_fewest_59 : decode cX6_fewest 59 = .ok (.invokevirtual 122, 3) := dw_182 (kcX6_fewest_0 59 182 rfl) (kcX6_fewest_0 60 0 rfl) (kcX6_fewest_0 61 122 rfl) rfl
theorem dX6_fewest_62 : decode cX6_fewest 62 = .ok (.ireturn, 1) := dw_172 (kcX6_fewest_0 62 172 rfl)
theorem dX6_fewest_12 : decode cX6_fewest 12 = .ok (.iconst (-1), 1) := dw_2 (kcX6_fewest_0 12 2 rfl)
theorem dX6_fewest_13 : decode cX6_fewest 13 = .ok (.ireturn, 1) := dw_172 (kcX6_fewest_0 13 172 rfl)
theorem kcX6_cost_0 : CHb cX6_cost 0 [42, 42, 27, 182, 0, 73, 182, 0, 65, 154, 0, 5, 2, 172, 42, 180, 0, 15, 27, 50, 182, 0, 232, 172] := CHb_of (by decide +kernel)
theorem dX6_cost_0 : decode cX6_cost 0 = .ok (.aload_n 0, 1) := dw_42 (kcX6_cost_0 0 42 rfl)
theorem dX6_cost_1 : decode cX6_cost 1 = .ok (.aload_n 0, 1) := dw_42 (kcX6_cost_0 1 42 rfl)
theorem dX6_cost_2 : decode cX6_cost 2 = .ok (.iload_n 1, 1) := dw_27 (kcX6_cost_0 2 27 rfl)
theorem dX6_cost_3 : decode cX6_cost 3 = .ok (.invokevirtual 73, 3) := dw_182 (kcX6_cost_0 3 182 rfl) (kcX6_cost_0 4 0 rfl) (kcX6_cost_0 5 73 rfl) rfl
theorem dX6_cost_6 : decode cX6_cost 6 = .ok (.invokevirtual 65, 3) := dw_182 (kcX6_cost_0 6 182 rfl) (kcX6_cost_0 7 0 rfl) (kcX6_cost_0 8 65 rfl) rfl
theorem dX6_cost_9 : decode cX6_cost 9 = .ok (.ifCond .ne 5, 3) := dw_154 (kcX6_cost_0 9 154 rfl) (kcX6_cost_0 10 0 rfl) (kcX6_cost_0 11 5 rfl) rfl
theorem dX6_cost_14 : decode cX6_cost 14 = .ok (.aload_n 0, 1) := dw_42 (kcX6_cost_0 14 42 rfl)
theorem dX6_cost_15 : decode cX6_cost 15 = .ok (.getfield 15, 3) := dw_180 (kcX6_cost_0 15 180 rfl) (kcX6_cost_0 16 0 rfl) (kcX6_cost_0 17 15 rfl) rfl
theorem dX6_cost_18 : decode cX6_cost 18 = .ok (.iload_n 1, 1) := dw_27 (kcX6_cost_0 18 27 rfl)
theorem dX6_cost_19 : decode cX6_cost 19 = .ok (.aaload, 1) := dw_50 (kcX6_cost_0 19 50 rfl)
theorem dX6_cost_20 : decode cX6_cost 20 = .ok (.invokevirtual 232, 3) := dw_182 (kcX6_cost_0 20 182 rfl) (kcX6_cost_0 21 0 rfl) (kcX6_cost_0 22 232 rfl) rfl
theorem dX6_cost_23 : decode cX6_cost 23 = .ok (.ireturn, 1) := dw_172 (kcX6_cost_0 23 172 rfl)
theorem dX6_cost_12 : decode cX6_cost 12 = .ok (.iconst (-1), 1) := dw_2 (kcX6_cost_0 12 2 rfl)
theorem dX6_cost_13 : decode cX6_cost 13 = .ok (.ireturn, 1) := dw_172 (kcX6_cost_0 13 172 rfl)
theorem kcX6_round_0 : CHb cX6_round 0 [42, 42, 27, 182, 0, 73, 182, 0, 65, 154, 0, 5, 2, 172, 28, 5, 161, 0, 10, 28, 17, 3, 232, 164, 0, 10, 42, 16, 7, 182, 0, 122, 172, 42, 180, 0, 22, 42, 180, 0, 15, 27, 50, 182, 0, 184, 42, 180, 0, 36, 42, 180, 0, 22, 28, 42, 180, 0, 47, 182, 0, 235, 172] := CHb_of (by decide +kernel)
theorem dX6_round_0 : decode cX6_round 0 = .ok (.aload_n 0, 1) := dw_42 (kcX6_round_0 0 42 rfl)
theorem dX6_round_1 : decode cX6_round 1 = .ok (.aload_n 0, 1) := dw_42 (kcX6_round_0 1 42 rfl)
theorem dX6_round_2 : decode cX6_round 2 = .ok (.iload_n 1, 1) := dw_27 (kcX6_round_0 2 27 rfl)
theorem dX6_round_3 : decode cX6_round 3 = .ok (.invokevirtual 73, 3) := dw_182 (kcX6_round_0 3 182 rfl) (kcX6_round_0 4 0 rfl) (kcX6_round_0 5 73 rfl) rfl
theorem dX6_round_6 : decode cX6_round 6 = .ok (.invokevirtual 65, 3) := dw_182 (kcX6_round_0 6 182 rfl) (kcX6_round_0 7 0 rfl) (kcX6_round_0 8 65 rfl) rfl
theorem dX6_round_9 : decode cX6_round 9 = .ok (.ifCond .ne 5, 3) := dw_154 (kcX6_round_0 9 154 rfl) (kcX6_round_0 10 0 rfl) (kcX6_round_0 11 5 rfl) rfl
theorem dX6_round_14 : decode cX6_round 14 = .ok (.iload_n 2, 1) := dw_28 (kcX6_round_0 14 28 rfl)
theorem dX6_round_15 : decode cX6_round 15 = .ok (.iconst 2, 1) := dw_5 (kcX6_round_0 15 5 rfl)
theorem dX6_round_16 : decode cX6_round 16 = .ok (.if_icmp .lt 10, 3) := dw_161 (kcX6_round_0 16 161 rfl) (kcX6_round_0 17 0 rfl) (kcX6_round_0 18 10 rfl) rfl
theorem dX6_round_26 : decode cX6_round 26 = .ok (.aload_n 0, 1) := dw_42 (kcX6_round_0 26 42 rfl)
theorem dX6_round_27 : decode cX6_round 27 = .ok (.bipush 7, 2) := dw_16 (kcX6_round_0 27 16 rfl) (kcX6_round_0 28 7 rfl) rfl
theorem dX6_round_29 : decode cX6_round 29 = .ok (.invokevirtual 122, 3) := dw_182 (kcX6_round_0 29 182 rfl) (kcX6_round_0 30 0 rfl) (kcX6_round_0 31 122 rfl) rfl
theorem dX6_round_32 : decode cX6_round 32 = .ok (.ireturn, 1) := dw_172 (kcX6_round_0 32 172 rfl)
theorem dX6_round_19 : decode cX6_round 19 = .ok (.iload_n 2, 1) := dw_28 (kcX6_round_0 19 28 rfl)
theorem dX6_round_20 : decode cX6_round 20 = .ok (.sipush 1000, 3) := dw_17 (kcX6_round_0 20 17 rfl) (kcX6_round_0 21 3 rfl) (kcX6_round_0 22 232 rfl) rfl
theorem dX6_round_23 : decode cX6_round 23 = .ok (.if_icmp .le 10, 3) := dw_164 (kcX6_round_0 23 164 rfl) (kcX6_round_0 24 0 rfl) (kcX6_round_0 25 10 rfl) rfl
theorem dX6_round_33 : decode cX6_round 33 = .ok (.aload_n 0, 1) := dw_42 (kcX6_round_0 33 42 rfl)
theorem dX6_round_34 : decode cX6_round 34 = .ok (.getfield 22, 3) := dw_180 (kcX6_round_0 34 180 rfl) (kcX6_round_0 35 0 rfl) (kcX6_round_0 36 22 rfl) rfl
theorem dX6_round_37 : decode cX6_round 37 = .ok (.aload_n 0, 1) := dw_42 (kcX6_round_0 37 42 rfl)
theorem dX6_round_38 : decode cX6_round 38 = .ok (.getfield 15, 3) := dw_180 (kcX6_round_0 38 180 rfl) (kcX6_round_0 39 0 rfl) (kcX6_round_0 40 15 rfl) rfl
theorem dX6_round_41 : decode cX6_round 41 = .ok (.iload_n 1, 1) := dw_27 (kcX6_round_0 41 27 rfl)
theorem dX6_round_42 : decode cX6_round 42 = .ok (.aaload, 1) := dw_50 (kcX6_round_0 42 50 rfl)
theorem dX6_round_43 : decode cX6_round 43 = .ok (.invokevirtual 184, 3) := dw_182 (kcX6_round_0 43 182 rfl) (kcX6_round_0 44 0 rfl) (kcX6_round_0 45 184 rfl) rfl
theorem dX6_round_46 : decode cX6_round 46 = .ok (.aload_n 0, 1) := dw_42 (kcX6_round_0 46 42 rfl)
theorem dX6_round_47 : decode cX6_round 47 = .ok (.getfield 36, 3) := dw_180 (kcX6_round_0 47 180 rfl) (kcX6_round_0 48 0 rfl) (kcX6_round_0 49 36 rfl) rfl
theorem dX6_round_50 : decode cX6_round 50 = .ok (.aload_n 0, 1) := dw_42 (kcX6_round_0 50 42 rfl)
theorem dX6_round_51 : decode cX6_round 51 = .ok (.getfield 22, 3) := dw_180 (kcX6_round_0 51 180 rfl) (kcX6_round_0 52 0 rfl) (kcX6_round_0 53 22 rfl) rfl
theorem dX6_round_54 : decode cX6_round 54 = .ok (.iload_n 2, 1) := dw_28 (kcX6_round_0 54 28 rfl)
theorem dX6_round_55 : decode cX6_round 55 = .ok (.aload_n 0, 1) := dw_42 (kcX6_round_0 55 42 rfl)
theorem dX6_round_56 : decode cX6_round 56 = .ok (.getfield 47, 3) := dw_180 (kcX6_round_0 56 180 rfl) (kcX6_round_0 57 0 rfl) (kcX6_round_0 58 47 rfl) rfl
theorem dX6_round_59 : decode cX6_round 59 = .ok (.invokevirtual 235, 3) := dw_182 (kcX6_round_0 59 182 rfl) (kcX6_round_0 60 0 rfl) (kcX6_round_0 61 235 rfl) rfl
theorem dX6_round_62 : decode cX6_round 62 = .ok (.ireturn, 1) := dw_172 (kcX6_round_0 62 172 rfl)
theorem dX6_round_12 : decode cX6_round 12 = .ok (.iconst (-1), 1) := dw_2 (kcX6_round_0 12 2 rfl)
theorem dX6_round_13 : decode cX6_round 13 = .ok (.ireturn, 1) := dw_172 (kcX6_round_0 13 172 rfl)
theorem kcX6_give_0 : CHb cX6_give 0 [42, 42, 27, 182, 0, 73, 182, 0, 65, 154, 0, 5, 2, 172, 42, 180, 0, 57, 16, 16, 161, 0, 10, 42, 16, 8, 182, 0, 122, 172, 42, 180, 0, 22, 42, 180, 0, 15, 27, 50, 182, 0, 184, 42, 180, 0, 22, 182, 0, 191, 158, 0, 10, 42, 16, 10, 182, 0, 122, 172, 42, 180, 0, 22] := CHb_of (by decide +kernel)
theorem dX6_give_0 : decode cX6_give 0 = .ok (.aload_n 0, 1) := dw_42 (kcX6_give_0 0 42 rfl)
theorem dX6_give_1 : decode cX6_give 1 = .ok (.aload_n 0, 1) := dw_42 (kcX6_give_0 1 42 rfl)
theorem dX6_give_2 : decode cX6_give 2 = .ok (.iload_n 1, 1) := dw_27 (kcX6_give_0 2 27 rfl)
theorem dX6_give_3 : decode cX6_give 3 = .ok (.invokevirtual 73, 3) := dw_182 (kcX6_give_0 3 182 rfl) (kcX6_give_0 4 0 rfl) (kcX6_give_0 5 73 rfl) rfl
theorem dX6_give_6 : decode cX6_give 6 = .ok (.invokevirtual 65, 3) := dw_182 (kcX6_give_0 6 182 rfl) (kcX6_give_0 7 0 rfl) (kcX6_give_0 8 65 rfl) rfl
theorem dX6_give_9 : decode cX6_give 9 = .ok (.ifCond .ne 5, 3) := dw_154 (kcX6_give_0 9 154 rfl) (kcX6_give_0 10 0 rfl) (kcX6_give_0 11 5 rfl) rfl
theorem dX6_give_14 : decode cX6_give 14 = .ok (.aload_n 0, 1) := dw_42 (kcX6_give_0 14 42 rfl)
theorem dX6_give_15 : decode cX6_give 15 = .ok (.getfield 57, 3) := dw_180 (kcX6_give_0 15 180 rfl) (kcX6_give_0 16 0 rfl) (kcX6_give_0 17 57 rfl) rfl
theorem dX6_give_18 : decode cX6_give 18 = .ok (.bipush 16, 2) := dw_16 (kcX6_give_0 18 16 rfl) (kcX6_give_0 19 16 rfl) rfl
theorem dX6_give_20 : decode cX6_give 20 = .ok (.if_icmp .lt 10, 3) := dw_161 (kcX6_give_0 20 161 rfl) (kcX6_give_0 21 0 rfl) (kcX6_give_0 22 10 rfl) rfl
theorem dX6_give_30 : decode cX6_give 30 = .ok (.aload_n 0, 1) := dw_42 (kcX6_give_0 30 42 rfl)
theorem dX6_give_31 : decode cX6_give 31 = .ok (.getfield 22, 3) := dw_180 (kcX6_give_0 31 180 rfl) (kcX6_give_0 32 0 rfl) (kcX6_give_0 33 22 rfl) rfl
theorem dX6_give_34 : decode cX6_give 34 = .ok (.aload_n 0, 1) := dw_42 (kcX6_give_0 34 42 rfl)
theorem dX6_give_35 : decode cX6_give 35 = .ok (.getfield 15, 3) := dw_180 (kcX6_give_0 35 180 rfl) (kcX6_give_0 36 0 rfl) (kcX6_give_0 37 15 rfl) rfl
theorem dX6_give_38 : decode cX6_give 38 = .ok (.iload_n 1, 1) := dw_27 (kcX6_give_0 38 27 rfl)
theorem dX6_give_39 : decode cX6_give 39 = .ok (.aaload, 1) := dw_50 (kcX6_give_0 39 50 rfl)
theorem dX6_give_40 : decode cX6_give 40 = .ok (.invokevirtual 184, 3) := dw_182 (kcX6_give_0 40 182 rfl) (kcX6_give_0 41 0 rfl) (kcX6_give_0 42 184 rfl) rfl
theorem dX6_give_43 : decode cX6_give 43 = .ok (.aload_n 0, 1) := dw_42 (kcX6_give_0 43 42 rfl)
theorem dX6_give_44 : decode cX6_give 44 = .ok (.getfield 22, 3) := dw_180 (kcX6_give_0 44 180 rfl) (kcX6_give_0 45 0 rfl) (kcX6_give_0 46 22 rfl) rfl
theorem dX6_give_47 : decode cX6_give 47 = .ok (.invokevirtual 191, 3) := dw_182 (kcX6_give_0 47 182 rfl) (kcX6_give_0 48 0 rfl) (kcX6_give_0 49 191 rfl) rfl
theorem dX6_give_50 : decode cX6_give 50 = .ok (.ifCond .le 10, 3) := dw_158 (kcX6_give_0 50 158 rfl) (kcX6_give_0 51 0 rfl) (kcX6_give_0 52 10 rfl) rfl
theorem dX6_give_60 : decode cX6_give 60 = .ok (.aload_n 0, 1) := dw_42 (kcX6_give_0 60 42 rfl)
theorem dX6_give_61 : decode cX6_give 61 = .ok (.getfield 22, 3) := dw_180 (kcX6_give_0 61 180 rfl) (kcX6_give_0 62 0 rfl) (kcX6_give_0 63 22 rfl) rfl
theorem kcX6_give_1 : CHb cX6_give 64 [42, 180, 0, 53, 42, 180, 0, 57, 50, 182, 0, 239, 42, 89, 180, 0, 57, 4, 96, 181, 0, 57, 42, 180, 0, 57, 4, 100, 172] := CHb_of (by decide +kernel)
theorem dX6_give_64 : decode cX6_give 64 = .ok (.aload_n 0, 1) := dw_42 (kcX6_give_1 0 42 rfl)
theorem dX6_give_65 : decode cX6_give 65 = .ok (.getfield 53, 3) := dw_180 (kcX6_give_1 1 180 rfl) (kcX6_give_1 2 0 rfl) (kcX6_give_1 3 53 rfl) rfl
theorem dX6_give_68 : decode cX6_give 68 = .ok (.aload_n 0, 1) := dw_42 (kcX6_give_1 4 42 rfl)
theorem dX6_give_69 : decode cX6_give 69 = .ok (.getfield 57, 3) := dw_180 (kcX6_give_1 5 180 rfl) (kcX6_give_1 6 0 rfl) (kcX6_give_1 7 57 rfl) rfl
theorem dX6_give_72 : decode cX6_give 72 = .ok (.aaload, 1) := dw_50 (kcX6_give_1 8 50 rfl)
theorem dX6_give_73 : decode cX6_give 73 = .ok (.invokevirtual 239, 3) := dw_182 (kcX6_give_1 9 182 rfl) (kcX6_give_1 10 0 rfl) (kcX6_give_1 11 239 rfl) rfl
theorem dX6_give_76 : decode cX6_give 76 = .ok (.aload_n 0, 1) := dw_42 (kcX6_give_1 12 42 rfl)
theorem dX6_give_77 : decode cX6_give 77 = .ok (.dup, 1) := dw_89 (kcX6_give_1 13 89 rfl)
theorem dX6_give_78 : decode cX6_give 78 = .ok (.getfield 57, 3) := dw_180 (kcX6_give_1 14 180 rfl) (kcX6_give_1 15 0 rfl) (kcX6_give_1 16 57 rfl) rfl
theorem dX6_give_81 : decode cX6_give 81 = .ok (.iconst 1, 1) := dw_4 (kcX6_give_1 17 4 rfl)
theorem dX6_give_82 : decode cX6_give 82 = .ok (.iadd, 1) := dw_96 (kcX6_give_1 18 96 rfl)
theorem dX6_give_83 : decode cX6_give 83 = .ok (.putfield 57, 3) := dw_181 (kcX6_give_1 19 181 rfl) (kcX6_give_1 20 0 rfl) (kcX6_give_1 21 57 rfl) rfl
theorem dX6_give_86 : decode cX6_give 86 = .ok (.aload_n 0, 1) := dw_42 (kcX6_give_1 22 42 rfl)
theorem dX6_give_87 : decode cX6_give 87 = .ok (.getfield 57, 3) := dw_180 (kcX6_give_1 23 180 rfl) (kcX6_give_1 24 0 rfl) (kcX6_give_1 25 57 rfl) rfl
theorem dX6_give_90 : decode cX6_give 90 = .ok (.iconst 1, 1) := dw_4 (kcX6_give_1 26 4 rfl)
theorem dX6_give_91 : decode cX6_give 91 = .ok (.isub, 1) := dw_100 (kcX6_give_1 27 100 rfl)
theorem dX6_give_92 : decode cX6_give 92 = .ok (.ireturn, 1) := dw_172 (kcX6_give_1 28 172 rfl)
theorem dX6_give_53 : decode cX6_give 53 = .ok (.aload_n 0, 1) := dw_42 (kcX6_give_0 53 42 rfl)
theorem dX6_give_54 : decode cX6_give 54 = .ok (.bipush 10, 2) := dw_16 (kcX6_give_0 54 16 rfl) (kcX6_give_0 55 10 rfl) rfl
theorem dX6_give_56 : decode cX6_give 56 = .ok (.invokevirtual 122, 3) := dw_182 (kcX6_give_0 56 182 rfl) (kcX6_give_0 57 0 rfl) (kcX6_give_0 58 122 rfl) rfl
theorem dX6_give_59 : decode cX6_give 59 = .ok (.ireturn, 1) := dw_172 (kcX6_give_0 59 172 rfl)
theorem dX6_give_23 : decode cX6_give 23 = .ok (.aload_n 0, 1) := dw_42 (kcX6_give_0 23 42 rfl)
theorem dX6_give_24 : decode cX6_give 24 = .ok (.bipush 8, 2) := dw_16 (kcX6_give_0 24 16 rfl) (kcX6_give_0 25 8 rfl) rfl
theorem dX6_give_26 : decode cX6_give 26 = .ok (.invokevirtual 122, 3) := dw_182 (kcX6_give_0 26 182 rfl) (kcX6_give_0 27 0 rfl) (kcX6_give_0 28 122 rfl) rfl
theorem dX6_give_29 : decode cX6_give 29 = .ok (.ireturn, 1) := dw_172 (kcX6_give_0 29 172 rfl)
theorem dX6_give_12 : decode cX6_give 12 = .ok (.iconst (-1), 1) := dw_2 (kcX6_give_0 12 2 rfl)
theorem dX6_give_13 : decode cX6_give 13 = .ok (.ireturn, 1) := dw_172 (kcX6_give_0 13 172 rfl)
theorem kcX6_isGift_0 : CHb cX6_isGift 0 [27, 155, 0, 15, 27, 42, 180, 0, 57, 162, 0, 7, 4, 167, 0, 4, 3, 172] := CHb_of (by decide +kernel)
theorem dX6_isGift_0 : decode cX6_isGift 0 = .ok (.iload_n 1, 1) := dw_27 (kcX6_isGift_0 0 27 rfl)
theorem dX6_isGift_1 : decode cX6_isGift 1 = .ok (.ifCond .lt 15, 3) := dw_155 (kcX6_isGift_0 1 155 rfl) (kcX6_isGift_0 2 0 rfl) (kcX6_isGift_0 3 15 rfl) rfl
theorem dX6_isGift_16 : decode cX6_isGift 16 = .ok (.iconst 0, 1) := dw_3 (kcX6_isGift_0 16 3 rfl)
theorem dX6_isGift_17 : decode cX6_isGift 17 = .ok (.ireturn, 1) := dw_172 (kcX6_isGift_0 17 172 rfl)
theorem dX6_isGift_4 : decode cX6_isGift 4 = .ok (.iload_n 1, 1) := dw_27 (kcX6_isGift_0 4 27 rfl)
theorem dX6_isGift_5 : decode cX6_isGift 5 = .ok (.aload_n 0, 1) := dw_42 (kcX6_isGift_0 5 42 rfl)
theorem dX6_isGift_6 : decode cX6_isGift 6 = .ok (.getfield 57, 3) := dw_180 (kcX6_isGift_0 6 180 rfl) (kcX6_isGift_0 7 0 rfl) (kcX6_isGift_0 8 57 rfl) rfl
theorem dX6_isGift_9 : decode cX6_isGift 9 = .ok (.if_icmp .ge 7, 3) := dw_162 (kcX6_isGift_0 9 162 rfl) (kcX6_isGift_0 10 0 rfl) (kcX6_isGift_0 11 7 rfl) rfl
theorem dX6_isGift_12 : decode cX6_isGift 12 = .ok (.iconst 1, 1) := dw_4 (kcX6_isGift_0 12 4 rfl)
theorem dX6_isGift_13 : decode cX6_isGift 13 = .ok (.goto 4, 3) := dw_167 (kcX6_isGift_0 13 167 rfl) (kcX6_isGift_0 14 0 rfl) (kcX6_isGift_0 15 4 rfl) rfl
theorem kcX6_gift_0 : CHb cX6_gift 0 [42, 27, 182, 0, 242, 153, 0, 17, 42, 180, 0, 53, 27, 50, 28, 29, 182, 0, 206, 167, 0, 4, 2, 172] := CHb_of (by decide +kernel)
theorem dX6_gift_0 : decode cX6_gift 0 = .ok (.aload_n 0, 1) := dw_42 (kcX6_gift_0 0 42 rfl)
theorem dX6_gift_1 : decode cX6_gift 1 = .ok (.iload_n 1, 1) := dw_27 (kcX6_gift_0 1 27 rfl)
theorem dX6_gift_2 : decode cX6_gift 2 = .ok (.invokevirtual 242, 3) := dw_182 (kcX6_gift_0 2 182 rfl) (kcX6_gift_0 3 0 rfl) (kcX6_gift_0 4 242 rfl) rfl
theorem dX6_gift_5 : decode cX6_gift 5 = .ok (.ifCond .eq 17, 3) := dw_153 (kcX6_gift_0 5 153 rfl) (kcX6_gift_0 6 0 rfl) (kcX6_gift_0 7 17 rfl) rfl
theorem dX6_gift_22 : decode cX6_gift 22 = .ok (.iconst (-1), 1) := dw_2 (kcX6_gift_0 22 2 rfl)
theorem dX6_gift_23 : decode cX6_gift 23 = .ok (.ireturn, 1) := dw_172 (kcX6_gift_0 23 172 rfl)
theorem dX6_gift_8 : decode cX6_gift 8 = .ok (.aload_n 0, 1) := dw_42 (kcX6_gift_0 8 42 rfl)
theorem dX6_gift_9 : decode cX6_gift 9 = .ok (.getfield 53, 3) := dw_180 (kcX6_gift_0 9 180 rfl) (kcX6_gift_0 10 0 rfl) (kcX6_gift_0 11 53 rfl) rfl
theorem dX6_gift_12 : decode cX6_gift 12 = .ok (.iload_n 1, 1) := dw_27 (kcX6_gift_0 12 27 rfl)
theorem dX6_gift_13 : decode cX6_gift 13 = .ok (.aaload, 1) := dw_50 (kcX6_gift_0 13 50 rfl)
theorem dX6_gift_14 : decode cX6_gift 14 = .ok (.iload_n 2, 1) := dw_28 (kcX6_gift_0 14 28 rfl)
theorem dX6_gift_15 : decode cX6_gift 15 = .ok (.iload_n 3, 1) := dw_29 (kcX6_gift_0 15 29 rfl)
theorem dX6_gift_16 : decode cX6_gift 16 = .ok (.invokevirtual 206, 3) := dw_182 (kcX6_gift_0 16 182 rfl) (kcX6_gift_0 17 0 rfl) (kcX6_gift_0 18 206 rfl) rfl
theorem dX6_gift_19 : decode cX6_gift 19 = .ok (.goto 4, 3) := dw_167 (kcX6_gift_0 19 167 rfl) (kcX6_gift_0 20 0 rfl) (kcX6_gift_0 21 4 rfl) rfl
theorem kcX6_agree_0 : CHb cX6_agree 0 [42, 27, 182, 0, 242, 153, 0, 29, 42, 28, 182, 0, 242, 153, 0, 21, 42, 180, 0, 53, 27, 50, 42, 180, 0, 53, 28, 50, 182, 0, 245, 167, 0, 4, 2, 172] := CHb_of (by decide +kernel)
theorem dX6_agree_0 : decode cX6_agree 0 = .ok (.aload_n 0, 1) := dw_42 (kcX6_agree_0 0 42 rfl)
theorem dX6_agree_1 : decode cX6_agree 1 = .ok (.iload_n 1, 1) := dw_27 (kcX6_agree_0 1 27 rfl)
theorem dX6_agree_2 : decode cX6_agree 2 = .ok (.invokevirtual 242, 3) := dw_182 (kcX6_agree_0 2 182 rfl) (kcX6_agree_0 3 0 rfl) (kcX6_agree_0 4 242 rfl) rfl
theorem dX6_agree_5 : decode cX6_agree 5 = .ok (.ifCond .eq 29, 3) := dw_153 (kcX6_agree_0 5 153 rfl) (kcX6_agree_0 6 0 rfl) (kcX6_agree_0 7 29 rfl) rfl
theorem dX6_agree_34 : decode cX6_agree 34 = .ok (.iconst (-1), 1) := dw_2 (kcX6_agree_0 34 2 rfl)
theorem dX6_agree_35 : decode cX6_agree 35 = .ok (.ireturn, 1) := dw_172 (kcX6_agree_0 35 172 rfl)
theorem dX6_agree_8 : decode cX6_agree 8 = .ok (.aload_n 0, 1) := dw_42 (kcX6_agree_0 8 42 rfl)
theorem dX6_agree_9 : decode cX6_agree 9 = .ok (.iload_n 2, 1) := dw_28 (kcX6_agree_0 9 28 rfl)
theorem dX6_agree_10 : decode cX6_agree 10 = .ok (.invokevirtual 242, 3) := dw_182 (kcX6_agree_0 10 182 rfl) (kcX6_agree_0 11 0 rfl) (kcX6_agree_0 12 242 rfl) rfl
theorem dX6_agree_13 : decode cX6_agree 13 = .ok (.ifCond .eq 21, 3) := dw_153 (kcX6_agree_0 13 153 rfl) (kcX6_agree_0 14 0 rfl) (kcX6_agree_0 15 21 rfl) rfl
theorem dX6_agree_16 : decode cX6_agree 16 = .ok (.aload_n 0, 1) := dw_42 (kcX6_agree_0 16 42 rfl)
theorem dX6_agree_17 : decode cX6_agree 17 = .ok (.getfield 53, 3) := dw_180 (kcX6_agree_0 17 180 rfl) (kcX6_agree_0 18 0 rfl) (kcX6_agree_0 19 53 rfl) rfl
theorem dX6_agree_20 : decode cX6_agree 20 = .ok (.iload_n 1, 1) := dw_27 (kcX6_agree_0 20 27 rfl)
theorem dX6_agree_21 : decode cX6_agree 21 = .ok (.aaload, 1) := dw_50 (kcX6_agree_0 21 50 rfl)
theorem dX6_agree_22 : decode cX6_agree 22 = .ok (.aload_n 0, 1) := dw_42 (kcX6_agree_0 22 42 rfl)
theorem dX6_agree_23 : decode cX6_agree 23 = .ok (.getfield 53, 3) := dw_180 (kcX6_agree_0 23 180 rfl) (kcX6_agree_0 24 0 rfl) (kcX6_agree_0 25 53 rfl) rfl
theorem dX6_agree_26 : decode cX6_agree 26 = .ok (.iload_n 2, 1) := dw_28 (kcX6_agree_0 26 28 rfl)
theorem dX6_agree_27 : decode cX6_agree 27 = .ok (.aaload, 1) := dw_50 (kcX6_agree_0 27 50 rfl)
theorem dX6_agree_28 : decode cX6_agree 28 = .ok (.invokevirtual 245, 3) := dw_182 (kcX6_agree_0 28 182 rfl) (kcX6_agree_0 29 0 rfl) (kcX6_agree_0 30 245 rfl) rfl
theorem dX6_agree_31 : decode cX6_agree 31 = .ok (.goto 4, 3) := dw_167 (kcX6_agree_0 31 167 rfl) (kcX6_agree_0 32 0 rfl) (kcX6_agree_0 33 4 rfl) rfl
def xBlk (G : GG) (x : Nat) (xa ta a b ga ua la lb lc : Nat → Nat) (tg gg : Nat → Option Nat) (xf tf f qf gf uf lf mf nf : Nat → Int32) (tr r q gr ur lr mr nr : Nat → Nat → Int32) : Nat → va_W
  | 0 => [(x, .inr (6, [.int (xf 0), .ref (xa 1), .ref (a 15), .ref (ga 9), .ref (ua 0), .ref (la 0), .ref (lb 0), .int (xf 7), .ref (xa 8), .int (xf 9)])), ((xa 1), .inl (G.2.2.2.1, 6, .inr (.inr (.inr (.inr tg)))))]
  | 1 => [((ta 0), .inr (4, [.int (tf 0), .int (tf 1), .int (tf 2), .int (tf 3), .ref (ta 4), .ref (ta 5), .ref (ta 6), .ref (ta 7), .ref (ta 8), .ref (ta 9), .ref (ta 10), .ref (ta 11)])), ((ta 4), .inl (G.2.1, 12, .inl (tr 4))), ((ta 5), .inl (G.2.1, 144, .inl (tr 5))), ((ta 6), .inl (G.2.1, 144, .inl (tr 6))), ((ta 7), .inl (G.2.1, 144, .inl (tr 7))), ((ta 8), .inl (G.2.1, 864, .inl (tr 8))), ((ta 9), .inl (G.2.1, 6, .inl (tr 9))), ((ta 10), .inl (G.2.1, 12, .inl (tr 10))), ((ta 11), .inl (G.2.1, 12, .inl (tr 11)))]
  | 2 => [((a 15), .inr (2, [.int (f 0), .int (f 1), .int (f 2), .int (f 3), .int (f 4), .ref (b 3), .ref (a 6), .ref (a 7), .ref (a 8), .ref (a 9), .ref (a 10), .ref (a 11), .ref (a 12), .ref (a 13), .ref (a 14)])), ((a 6), .inl (G.2.2.1, 12, .inl (r 6))), ((a 7), .inl (G.2.1, 12, .inl (r 7))), ((a 8), .inl (G.2.1, 144, .inl (r 8))), ((a 9), .inl (G.2.1, 144, .inl (r 9))), ((a 10), .inl (G.2.1, 144, .inl (r 10))), ((a 11), .inl (G.2.2.1, 144, .inl (r 11))), ((a 12), .inl (G.2.1, 144, .inl (r 12))), ((a 13), .inl (G.2.1, 144, .inl (r 13))), ((a 14), .inl (G.2.1, 144, .inl (r 14)))]
  | 3 => [((b 3), .inr (5, [.ref (b 0), .ref (b 1), .ref (b 2), .int (qf 3)])), ((b 0), .inl (G.2.1, 25, .inl (q 0))), ((b 1), .inl (G.2.1, 25, .inl (q 1))), ((b 2), .inl (G.2.1, 25, .inl (q 2)))]
  | 4 => [((ga 9), .inr (0, [.ref (ga 0), .ref (ga 1), .ref (ga 2), .ref (ga 3), .int (gf 4), .int (gf 5), .int (gf 6), .int (gf 7), .int (gf 8)])), ((ga 0), .inl (G.2.2.1, 144, .inl (gr 0))), ((ga 1), .inl (G.2.1, 8, .inl (gr 1))), ((ga 2), .inl (G.2.1, 8, .inl (gr 2))), ((ga 3), .inl (G.2.1, 256, .inl (gr 3)))]
  | 5 => [((ua 0), .inr (3, [.ref (ua 23), .ref (ua 1), .ref (ua 2), .ref (ua 3), .ref (ua 4), .ref (ua 5), .ref (ua 6), .ref (ua 7)])), ((ua 1), .inl (G.2.1, 144, .inl (ur 1))), ((ua 2), .inl (G.2.2.1, 144, .inl (ur 2))), ((ua 3), .inl (G.2.1, 25, .inl (ur 3))), ((ua 4), .inl (G.2.1, 25, .inl (ur 4))), ((ua 5), .inl (G.2.1, 25, .inl (ur 5))), ((ua 6), .inl (G.2.1, 25, .inl (ur 6))), ((ua 7), .inl (G.2.2.1, 12, .inl (ur 7))), ((ua 23), .inr (5, [.ref (ua 20), .ref (ua 21), .ref (ua 22), .int (uf 3)])), ((ua 20), .inl (G.2.1, 25, .inl (ur 20))), ((ua 21), .inl (G.2.1, 25, .inl (ur 21))), ((ua 22), .inl (G.2.1, 25, .inl (ur 22)))]
  | 6 => [((la 0), .inr (1, [.int (lf 0), .int (lf 1), .ref (la 1)])), ((la 1), .inl (G.2.1, 144, .inl (lr 2)))]
  | 7 => [((lb 0), .inr (1, [.int (mf 0), .int (mf 1), .ref (lb 1)])), ((lb 1), .inl (G.2.1, 144, .inl (mr 2)))]
  | 8 => [((xa 8), .inl (G.2.2.2.2, 16, .inr (.inr (.inr (.inr gg)))))]
  | _ => [((lc 0), .inr (1, [.int (nf 0), .int (nf 1), .ref (lc 1)])), ((lc 1), .inl (G.2.1, 144, .inl (nr 2)))]
abbrev xM (G : GG) (x : Nat) (xa ta a b ga ua la lb lc : Nat → Nat) (tg gg : Nat → Option Nat) (xf tf f qf gf uf lf mf nf : Nat → Int32) (tr r q gr ur lr mr nr : Nat → Nat → Int32) : va_W := [0, 1, 2, 3, 4, 5, 6, 7, 8, 9].flatMap (xBlk G x xa ta a b ga ua la lb lc tg gg xf tf f qf gf uf lf mf nf tr r q gr ur lr mr nr)
theorem pl_perm (f : Nat → va_W) {idx sel oth : List Nat} (h : idx.Perm (sel ++ oth)) : (idx.flatMap f).Perm (sel.flatMap f ++ oth.flatMap f) := by
  rw [← List.flatMap_append]; exact List.Perm.flatMap_right f h
theorem blk_sub {G : GG} {ws' : va_W} {H : Heap} (f : Nat → va_W) {idx : List Nat} {i : Nat} (h : PP G (idx.flatMap f) H) (e : f i = ws') (hi : i ∈ idx) : PP G ws' H := P_sub h (fun q hq => List.mem_flatMap.mpr ⟨i, hi, by rw [e]; exact hq⟩)
abbrev lW (G : GG) (la : Nat → Nat) (p0 p1 : Int32) (s : Nat → Int32) : va_W := [((la 0), .inr (1, [.int p0, .int p1, .ref (la 1)])), ((la 1), .inl (G.2.1, 144, .inl s))]
theorem leaf_w {G : GG} {la : Nat → Nat} {p0 p1 : Int32} {s : Nat → Int32} {H : Heap} {n0 n1 : Nat} (h : PP G (lW G la p0 p1 s) H) (e0 : p0 = nI n0) (e1 : p1 = nI n1) : PP G (lW G la (nI n0) (nI n1) s) H := by subst e0 e1; exact h
theorem tb_j {tb : Int32} {j : Nat} (h : tbJ tb j) (h1 : ¬ tb < 0) (h2 : ¬ 6 ≤ tb) : tb = nI j := by
  obtain ⟨n, hn, e⟩ := lt_ix (x := tb) (n := 6) (by decide) h1 h2
  rw [e, h n hn e]
theorem st0 {q : Int32} {P : Prop} (h : (q = 0 ∧ P) ∨ (q = 1 ∧ ¬ P)) (h0 : q = 0) : P := h.elim (fun z => z.2) (fun z => absurd (h0.symm.trans z.1) (by decide))
theorem st1 {q : Int32} {P : Prop} (h : (q = 0 ∧ P) ∨ (q = 1 ∧ ¬ P)) (h0 : ¬ q = 0) : ¬ P := h.elim (fun z => absurd z.1 h0) (fun z => z.2)
theorem nOK_fl {x : Nat → Int32} {n m k : Nat} (hk : k ≤ m) : nOK n m (flF x (nI k) n) := fun j hj => ⟨k, hk, by unfold flF; rw [if_pos hj]⟩
theorem sw5 (x : Int32) : (x.toInt < 0 ∨ 4 < x.toInt) ∨ x = 0 ∨ x = 1 ∨ x = 2 ∨ x = 3 ∨ x = 4 := by
  by_cases h0 : x < 0
  · exact Or.inl (Or.inl (by have := Int32.lt_iff_toInt_lt.mp h0; rw [show (0 : Int32).toInt = 0 by decide] at this; exact this))
  · obtain ⟨n, hn, rfl⟩ := nI_of h0
    rw [nI_toInt hn]
    rcases (show 4 < n ∨ n = 0 ∨ n = 1 ∨ n = 2 ∨ n = 3 ∨ n = 4 by omega) with h | rfl | rfl | rfl | rfl | rfl
    · exact Or.inl (Or.inr (by omega))
    · exact Or.inr (Or.inl rfl)
    · exact Or.inr (Or.inr (Or.inl rfl))
    · exact Or.inr (Or.inr (Or.inr (Or.inl rfl)))
    · exact Or.inr (Or.inr (Or.inr (Or.inr (Or.inl rfl))))
    · exact Or.inr (Or.inr (Or.inr (Or.inr (Or.inr rfl))))
theorem hb1_r {a : Nat → Int32} : hb1 a a := fun _ => rfl
set_option maxHeartbeats 4000000 in
set_option maxRecDepth 100000 in
theorem x_settled (l : Launch) (G : GG) (x : Nat) (xa ta a b ga ua la lb lc : Nat → Nat) (tg gg : Nat → Option Nat) (xf tf f qf gf uf lf mf nf : Nat → Int32) (tr r q gr ur lr mr nr : Nat → Nat → Int32) (v : Int32) : WrI l yX6_settled cX6_settled 2 (some .boolean) ({ frames := 0, cells := 0, slots := 0, locals := 0 }) G (xM G x xa ta a b ga ua la lb lc tg gg xf tf f qf gf uf lf mf nf tr r q gr ur lr mr nr) [.ref x, .int v] (fun qz w => ∃ (n_xf_0 : Int32), w = xM G x xa ta a b ga ua la lb lc tg gg (upd xf 0 n_xf_0) tf f qf gf uf lf mf nf tr r q gr ur lr mr nr ∧ ((qz = 1 ∧ ((v : Int32) = 0)) ∨ (qz = 0 ∧ ¬ ((v : Int32) = 0)))) := by
  refine wr_entryI (by decide +kernel) (Nat.le_of_ble_eq_true rfl) ?_
  intro p e s m below meth c A C0 hP hK hD hA ls hl
  have hS : va_S A s.heap s.heap [] := va_S.rf
  obtain ⟨hx, hb, hml, hown, hts, hr, hlocks, hin⟩ := C0
  have hown : s.vm.findClass RX6 = some m.cls := hown
  have hDD : ∀ xf' tf' f' qf' gf' uf' lf' mf' nf' tr' r' q' gr' ur' lr' mr' nr', va_D A (xM G x xa ta a b ga ua la lb lc tg gg xf' tf' f' qf' gf' uf' lf' mf' nf' tr' r' q' gr' ur' lr' mr' nr') := fun xf' tf' f' qf' gf' uf' lf' mf' nf' tr' r' q' gr' ur' lr' mr' nr' => D_same hD rfl
  have hl : lv_has ls 2 [(0, .ref x), (1, .int v)] := hl
  refine lv_aload_n hx hb dX6_settled_0 rfl (lv_at hl 0 rfl) ?_
  refine lv_iload_n hx hb dX6_settled_1 rfl (lv_at hl 1 rfl) ?_
  refine va_put (D := G.1) (ci := 6) (v := .int v) (C := RX6) (T := TX6) (N := 10) hx hb hts inX6 tyX6 tyX6_ok nmX6 hown hK.1 hP (hDD _ _ _ _ _ _ _ _ _ _ _ _ _ _ _ _ _) hS 0 rfl rfl 0 (by decide) (hts _ mf_X6_9) (fun _ h9 => h9) rfl (tyX6_ok 0 (by decide)) (rfl) (rfl) (Nat.le_of_ble_eq_true rfl) dX6_settled_2 (fun H locs hP _ hS => ?_)
  have hP : PP G (xM G x xa ta a b ga ua la lb lc tg gg (upd xf 0 v) tf f qf gf uf lf mf nf tr r q gr ur lr mr nr) H := hP
  refine lv_iload_n hx hb dX6_settled_5 rfl (lv_at hl 1 rfl) ?_
  refine lv_if_ne (tgt := 13) hx hb dX6_settled_6 (by decide) (fun c1 => ?_) (fun c1 => ?_)
  · refine lv_iconst (v := 0) hx hb dX6_settled_13 (by decide) ?_
    exact wr_zret hx hb hr hlocks (Or.inl rfl) hS hP ⟨v, rfl, Or.inr ⟨rfl, c1⟩⟩ dX6_settled_14
  · refine lv_iconst (v := 1) hx hb dX6_settled_9 (by decide) ?_
    refine lv_goto (tgt := 14) hx hb dX6_settled_10 (by decide) ?_
    exact wr_zret hx hb hr hlocks (Or.inr rfl) hS hP ⟨v, rfl, Or.inl ⟨rfl, c1⟩⟩ dX6_settled_14
set_option maxHeartbeats 4000000 in
set_option maxRecDepth 100000 in
theorem x_refused (l : Launch) (G : GG) (x : Nat) (xa ta a b ga ua la lb lc : Nat → Nat) (tg gg : Nat → Option Nat) (xf tf f qf gf uf lf mf nf : Nat → Int32) (tr r q gr ur lr mr nr : Nat → Nat → Int32) (v : Int32) : WrI l yX6_refused cX6_refused 2 (some .int) ({ frames := 0, cells := 0, slots := 0, locals := 0 }) G (xM G x xa ta a b ga ua la lb lc tg gg xf tf f qf gf uf lf mf nf tr r q gr ur lr mr nr) [.ref x, .int v] (fun qz w => ∃ (n_xf_0 : Int32), w = xM G x xa ta a b ga ua la lb lc tg gg (upd xf 0 n_xf_0) tf f qf gf uf lf mf nf tr r q gr ur lr mr nr ∧ qz = -1) := by
  refine wr_entryI (by decide +kernel) (Nat.le_of_ble_eq_true rfl) ?_
  intro p e s m below meth c A C0 hP hK hD hA ls hl
  have hS : va_S A s.heap s.heap [] := va_S.rf
  obtain ⟨hx, hb, hml, hown, hts, hr, hlocks, hin⟩ := C0
  have hown : s.vm.findClass RX6 = some m.cls := hown
  have hDD : ∀ xf' tf' f' qf' gf' uf' lf' mf' nf' tr' r' q' gr' ur' lr' mr' nr', va_D A (xM G x xa ta a b ga ua la lb lc tg gg xf' tf' f' qf' gf' uf' lf' mf' nf' tr' r' q' gr' ur' lr' mr' nr') := fun xf' tf' f' qf' gf' uf' lf' mf' nf' tr' r' q' gr' ur' lr' mr' nr' => D_same hD rfl
  have hl : lv_has ls 2 [(0, .ref x), (1, .int v)] := hl
  refine lv_aload_n hx hb dX6_refused_0 rfl (lv_at hl 0 rfl) ?_
  refine lv_iload_n hx hb dX6_refused_1 rfl (lv_at hl 1 rfl) ?_
  refine va_put (D := G.1) (ci := 6) (v := .int v) (C := RX6) (T := TX6) (N := 10) hx hb hts inX6 tyX6 tyX6_ok nmX6 hown hK.1 hP (hDD _ _ _ _ _ _ _ _ _ _ _ _ _ _ _ _ _) hS 0 rfl rfl 0 (by decide) (hts _ mf_X6_9) (fun _ h9 => h9) rfl (tyX6_ok 0 (by decide)) (rfl) (rfl) (Nat.le_of_ble_eq_true rfl) dX6_refused_2 (fun H locs hP _ hS => ?_)
  have hP : PP G (xM G x xa ta a b ga ua la lb lc tg gg (upd xf 0 v) tf f qf gf uf lf mf nf tr r q gr ur lr mr nr) H := hP
  refine lv_iconst (v := -1) hx hb dX6_refused_5 (by decide) ?_
  exact wr_iret hx hb hr hlocks hS hP ⟨v, rfl, rfl⟩ dX6_refused_6
set_option maxHeartbeats 4000000 in
set_option maxRecDepth 100000 in
theorem x_status (l : Launch) (G : GG) (x : Nat) (xa ta a b ga ua la lb lc : Nat → Nat) (tg gg : Nat → Option Nat) (xf tf f qf gf uf lf mf nf : Nat → Int32) (tr r q gr ur lr mr nr : Nat → Nat → Int32) : RdI l yX6_status cX6_status 1 (some .int) ({ frames := 0, cells := 0, slots := 0, locals := 0 }) G (xM G x xa ta a b ga ua la lb lc tg gg xf tf f qf gf uf lf mf nf tr r q gr ur lr mr nr) [.ref x] (fun qz => True) := by
  refine rd_entry (by decide +kernel) (Nat.le_of_ble_eq_true rfl) ?_
  intro p e s m below meth c C0 hP hK ls hl
  have hS : va_S (fun q => s.heap.size ≤ q) s.heap s.heap [] := va_S.rf
  have hA : ∀ q, s.heap.size ≤ q → (fun q => s.heap.size ≤ q) q := fun _ h => h
  obtain ⟨hx, hb, hml, hown, hts, hr, hlocks, hin⟩ := C0
  have hown : s.vm.findClass RX6 = some m.cls := hown
  have hl : lv_has ls 1 [(0, .ref x)] := hl
  refine lv_aload_n hx hb dX6_status_0 rfl (lv_at hl 0 rfl) ?_
  refine va_get (D := G.1) (ci := 6) (v := .int (xf 0)) (C := RX6) (T := TX6) (N := 10) hx hb hts inX6 hown hK.1 hP 0 rfl rfl 0 (by decide) (hts _ mf_X6_9) (fun _ h9 => h9) rfl dX6_status_1 ?_
  exact rd_iret hx hb hr hlocks hS (trivial) dX6_status_4
set_option maxHeartbeats 4000000 in
set_option maxRecDepth 100000 in
theorem x_tableStatus (l : Launch) (G : GG) (x : Nat) (xa ta a b ga ua la lb lc : Nat → Nat) (tg gg : Nat → Option Nat) (xf tf f qf gf uf lf mf nf : Nat → Int32) (tr r q gr ur lr mr nr : Nat → Nat → Int32) (tb : Int32) (j : Nat) (hj : j < 6) (hjt : tbJ tb j) (htg : tg j = some (ta 0)) : RdI l yX6_tableStatus cX6_tableStatus 2 (some .int) ({ frames := 0, cells := 0, slots := 0, locals := 0 }) G (xM G x xa ta a b ga ua la lb lc tg gg xf tf f qf gf uf lf mf nf tr r q gr ur lr mr nr) [.ref x, .int tb] (fun qz => ((qz = 0 ∧ tbO tb j (tf 0)) ∨ (qz = 1 ∧ ¬ tbO tb j (tf 0)))) := by
  refine rd_entry (by decide +kernel) (Nat.le_of_ble_eq_true rfl) ?_
  intro p e s m below meth c C0 hP hK ls hl
  have hS : va_S (fun q => s.heap.size ≤ q) s.heap s.heap [] := va_S.rf
  have hA : ∀ q, s.heap.size ≤ q → (fun q => s.heap.size ≤ q) q := fun _ h => h
  obtain ⟨hx, hb, hml, hown, hts, hr, hlocks, hin⟩ := C0
  have hown : s.vm.findClass RX6 = some m.cls := hown
  have hl : lv_has ls 2 [(0, .ref x), (1, .int tb)] := hl
  refine lv_iload_n hx hb dX6_tableStatus_0 rfl (lv_at hl 1 rfl) ?_
  refine lv_if_lt (tgt := 26) hx hb dX6_tableStatus_1 (by decide) (fun c1 => ?_) (fun c1 => ?_)
  · refine lv_iconst (v := 1) hx hb dX6_tableStatus_26 (by decide) ?_
    exact rd_iret hx hb hr hlocks hS (Or.inr ⟨rfl, fun h => absurd (h.1 ▸ c1) (nI_pos (by omega))⟩) dX6_tableStatus_27
  · refine lv_iload_n hx hb dX6_tableStatus_4 rfl (lv_at hl 1 rfl) ?_
    refine lv_bipush (v := 6) hx hb dX6_tableStatus_5 (by decide) ?_
    refine lv_icmp_ge (tgt := 26) hx hb dX6_tableStatus_7 (by decide) (fun c2 => ?_) (fun c2 => ?_)
    · refine lv_iconst (v := 1) hx hb dX6_tableStatus_26 (by decide) ?_
      exact rd_iret hx hb hr hlocks hS (Or.inr ⟨rfl, fun h => absurd (h.1 ▸ c2) (nI_ge hj (by decide))⟩) dX6_tableStatus_27
    · refine lv_aload_n hx hb dX6_tableStatus_10 rfl (lv_at hl 0 rfl) ?_
      refine va_get (D := G.1) (ci := 6) (v := .ref (xa 1)) (C := RX6) (T := TX6) (N := 10) hx hb hts inX6 hown hK.1 hP 0 rfl rfl 1 (by decide) (hts _ mf_X6_15) (fun _ h9 => h9) rfl dX6_tableStatus_11 ?_
      refine lv_iload_n hx hb dX6_tableStatus_14 rfl (lv_at hl 1 rfl) ?_
      have ej := tb_j hjt c1 c2
      subst ej
      refine xaldT hx hb hK hP 1 (j) (b := (ta 0)) rfl (by omega) (by decide) rfl (htg) dX6_tableStatus_15 ?_
      refine va_get (D := G.1) (ci := 4) (v := .int (tf 0)) (C := RX4) (T := TX4) (N := 12) hx hb hts inX4 hown hK.1 hP 2 rfl rfl 0 (by decide) (hts _ mf_X6_61) (fun _ h9 => h9) rfl dX6_tableStatus_16 ?_
      refine lv_if_eq (tgt := 26) hx hb dX6_tableStatus_19 (by decide) (fun c3 => ?_) (fun c3 => ?_)
      · refine lv_iconst (v := 1) hx hb dX6_tableStatus_26 (by decide) ?_
        exact rd_iret hx hb hr hlocks hS (Or.inr ⟨rfl, fun h => h.2 c3⟩) dX6_tableStatus_27
      · refine lv_iconst (v := 0) hx hb dX6_tableStatus_22 (by decide) ?_
        refine lv_goto (tgt := 27) hx hb dX6_tableStatus_23 (by decide) ?_
        exact rd_iret hx hb hr hlocks hS (Or.inl ⟨rfl, rfl, c3⟩) dX6_tableStatus_27
set_option maxHeartbeats 4000000 in
set_option maxRecDepth 100000 in
theorem x_rowStatus (l : Launch) (G : GG) (x : Nat) (xa ta a b ga ua la lb lc : Nat → Nat) (tg gg : Nat → Option Nat) (xf tf f qf gf uf lf mf nf : Nat → Int32) (tr r q gr ur lr mr nr : Nat → Nat → Int32) (tb : Int32) (row : Int32) (j : Nat) (hj : j < 6) (hjt : tbJ tb j) (htg : tg j = some (ta 0)) : RdI l yX6_rowStatus cX6_rowStatus 4 (some .int) ({ frames := 1, cells := 0, slots := 0, locals := 21 }) G (xM G x xa ta a b ga ua la lb lc tg gg xf tf f qf gf uf lf mf nf tr r q gr ur lr mr nr) [.ref x, .int tb, .int row] (fun qz => rwQ (tbO tb j (tf 0)) (tf 1) row qz) := by
  refine rd_entry (by decide +kernel) (Nat.le_of_ble_eq_true rfl) ?_
  intro p e s m below meth c C0 hP hK ls hl
  have hS : va_S (fun q => s.heap.size ≤ q) s.heap s.heap [] := va_S.rf
  have hA : ∀ q, s.heap.size ≤ q → (fun q => s.heap.size ≤ q) q := fun _ h => h
  obtain ⟨hx, hb, hml, hown, hts, hr, hlocks, hin⟩ := C0
  have hown : s.vm.findClass RX6 = some m.cls := hown
  have hl : lv_has ls 4 [(0, .ref x), (1, .int tb), (2, .int row)] := hl
  refine lv_aload_n hx hb dX6_rowStatus_0 rfl (lv_at hl 0 rfl) ?_
  refine lv_iload_n hx hb dX6_rowStatus_1 rfl (lv_at hl 1 rfl) ?_
  refine rdV (rest := []) (q0 := 0) ⟨hx, hb, hml, hown, hts⟩ (x_tableStatus l G x xa ta a b ga ua la lb lc tg gg xf tf f qf gf uf lf mf nf tr r q gr ur lr mr nr tb j (by omega) hjt htg) mi_yX6_tableStatus mv_yX6_tableStatus ml_X6_73 ⟨rfl, rfl, Nat.le_of_ble_eq_true rfl, Nat.le_of_ble_eq_true rfl⟩ hK (hP) rfl rfl rfl hl.1 rfl (Nat.le_of_ble_eq_true rfl) dX6_rowStatus_2 ⟨Nat.zero_le _, Nat.zero_le _⟩ hS hA hP (fun r1 H locs hr1 hP hS => ?_)
  have hr1 : ((r1 = 0 ∧ tbO tb j (tf 0)) ∨ (r1 = 1 ∧ ¬ tbO tb j (tf 0))) := hr1
  refine lv_istore_n (lv' := [(3, .int r1), (0, .ref x), (1, .int tb), (2, .int row)]) hx hb dX6_rowStatus_5 rfl hl (by decide) rfl (fun ls hl => ?_)
  refine lv_iload_n hx hb dX6_rowStatus_6 rfl (lv_at hl 0 rfl) ?_
  refine lv_if_eq (tgt := 12) hx hb dX6_rowStatus_7 (by decide) (fun c2 => ?_) (fun c2 => ?_)
  · obtain ⟨ej, ho⟩ := st0 hr1 c2
    subst ej
    refine lv_iload_n hx hb dX6_rowStatus_12 rfl (lv_at hl 3 rfl) ?_
    refine lv_if_lt (tgt := 33) hx hb dX6_rowStatus_13 (by decide) (fun c3 => ?_) (fun c3 => ?_)
    · refine lv_iconst (v := 2) hx hb dX6_rowStatus_33 (by decide) ?_
      exact rd_iret hx hb hr hlocks hS (Or.inr (Or.inl ⟨rfl, ⟨rfl, ho⟩, fun h => h.1 c3⟩)) dX6_rowStatus_34
    · refine lv_iload_n hx hb dX6_rowStatus_16 rfl (lv_at hl 3 rfl) ?_
      refine lv_aload_n hx hb dX6_rowStatus_17 rfl (lv_at hl 1 rfl) ?_
      refine va_get (D := G.1) (ci := 6) (v := .ref (xa 1)) (C := RX6) (T := TX6) (N := 10) hx hb hts inX6 hown hK.1 hP 0 rfl rfl 1 (by decide) (hts _ mf_X6_15) (fun _ h9 => h9) rfl dX6_rowStatus_18 ?_
      refine lv_iload_n hx hb dX6_rowStatus_21 rfl (lv_at hl 2 rfl) ?_
      refine xaldT hx hb hK hP 1 (j) (b := (ta 0)) rfl (by omega) (by decide) rfl (htg) dX6_rowStatus_22 ?_
      refine va_get (D := G.1) (ci := 4) (v := .int (tf 1)) (C := RX4) (T := TX4) (N := 12) hx hb hts inX4 hown hK.1 hP 2 rfl rfl 1 (by decide) (hts _ mf_X6_119) (fun _ h9 => h9) rfl dX6_rowStatus_23 ?_
      refine lv_icmp_ge (tgt := 33) hx hb dX6_rowStatus_26 (by decide) (fun c4 => ?_) (fun c4 => ?_)
      · refine lv_iconst (v := 2) hx hb dX6_rowStatus_33 (by decide) ?_
        exact rd_iret hx hb hr hlocks hS (Or.inr (Or.inl ⟨rfl, ⟨rfl, ho⟩, fun h => h.2 c4⟩)) dX6_rowStatus_34
      · refine lv_iconst (v := 0) hx hb dX6_rowStatus_29 (by decide) ?_
        refine lv_goto (tgt := 34) hx hb dX6_rowStatus_30 (by decide) ?_
        exact rd_iret hx hb hr hlocks hS (Or.inr (Or.inr ⟨rfl, ⟨rfl, ho⟩, c3, c4⟩)) dX6_rowStatus_34
  · refine lv_iload_n hx hb dX6_rowStatus_10 rfl (lv_at hl 0 rfl) ?_
    exact rd_iret hx hb hr hlocks hS (Or.inl (hr1.elim (fun z => absurd z.1 c2) id)) dX6_rowStatus_11
set_option maxHeartbeats 4000000 in
set_option maxRecDepth 100000 in
theorem x_placeStatus (l : Launch) (G : GG) (x : Nat) (xa ta a b ga ua la lb lc : Nat → Nat) (tg gg : Nat → Option Nat) (xf tf f qf gf uf lf mf nf : Nat → Int32) (tr r q gr ur lr mr nr : Nat → Nat → Int32) (tb : Int32) (row : Int32) (col : Int32) (j : Nat) (hj : j < 6) (hjt : tbJ tb j) (htg : tg j = some (ta 0)) (hT1 : nL 12 (tf 1)) : RdI l yX6_placeStatus cX6_placeStatus 6 (some .int) ({ frames := 2, cells := 0, slots := 0, locals := 44 }) G (xM G x xa ta a b ga ua la lb lc tg gg xf tf f qf gf uf lf mf nf tr r q gr ur lr mr nr) [.ref x, .int tb, .int row, .int col] (fun qz => stX (tbO tb j (tf 0)) (tf 1) (tf 2) (tr 4) row col qz) := by
  refine rd_entry (by decide +kernel) (Nat.le_of_ble_eq_true rfl) ?_
  intro p e s m below meth c C0 hP hK ls hl
  have hS : va_S (fun q => s.heap.size ≤ q) s.heap s.heap [] := va_S.rf
  have hA : ∀ q, s.heap.size ≤ q → (fun q => s.heap.size ≤ q) q := fun _ h => h
  obtain ⟨hx, hb, hml, hown, hts, hr, hlocks, hin⟩ := C0
  have hown : s.vm.findClass RX6 = some m.cls := hown
  have hl : lv_has ls 6 [(0, .ref x), (1, .int tb), (2, .int row), (3, .int col)] := hl
  refine lv_aload_n hx hb dX6_placeStatus_0 rfl (lv_at hl 0 rfl) ?_
  refine lv_iload_n hx hb dX6_placeStatus_1 rfl (lv_at hl 1 rfl) ?_
  refine lv_iload_n hx hb dX6_placeStatus_2 rfl (lv_at hl 2 rfl) ?_
  refine rdV (rest := []) (q0 := 0) ⟨hx, hb, hml, hown, hts⟩ (x_rowStatus l G x xa ta a b ga ua la lb lc tg gg xf tf f qf gf uf lf mf nf tr r q gr ur lr mr nr tb row j (by omega) hjt htg) mi_yX6_rowStatus mv_yX6_rowStatus ml_X6_110 ⟨rfl, rfl, Nat.le_of_ble_eq_true rfl, Nat.le_of_ble_eq_true rfl⟩ hK (hP) rfl rfl rfl hl.1 rfl (Nat.le_of_ble_eq_true rfl) dX6_placeStatus_3 ⟨Nat.zero_le _, Nat.zero_le _⟩ hS hA hP (fun r1 H locs hr1 hP hS => ?_)
  have hr1 : rwQ (tbO tb j (tf 0)) (tf 1) row r1 := hr1
  refine lv_istore (lv' := [(4, .int r1), (0, .ref x), (1, .int tb), (2, .int row), (3, .int col)]) hx hb dX6_placeStatus_6 hl (by decide) rfl (fun ls hl => ?_)
  refine lv_iload hx hb dX6_placeStatus_8 (lv_at hl 0 rfl) ?_
  refine lv_if_eq (tgt := 16) hx hb dX6_placeStatus_10 (by decide) (fun c2 => ?_) (fun c2 => ?_)
  · obtain ⟨⟨ej, ho⟩, q1⟩ := rwQ_0 hr1 c2
    subst ej
    refine lv_iload_n hx hb dX6_placeStatus_16 rfl (lv_at hl 4 rfl) ?_
    refine lv_if_lt (tgt := 33) hx hb dX6_placeStatus_17 (by decide) (fun c3 => ?_) (fun c3 => ?_)
    · refine lv_iconst (v := 2) hx hb dX6_placeStatus_33 (by decide) ?_
      exact rd_iret hx hb hr hlocks hS (Or.inr ⟨⟨rfl, ho⟩, Or.inl ⟨rfl, fun h => h.2.1 c3⟩⟩) dX6_placeStatus_34
    · refine lv_iload_n hx hb dX6_placeStatus_20 rfl (lv_at hl 4 rfl) ?_
      refine lv_aload_n hx hb dX6_placeStatus_21 rfl (lv_at hl 1 rfl) ?_
      refine va_get (D := G.1) (ci := 6) (v := .ref (xa 1)) (C := RX6) (T := TX6) (N := 10) hx hb hts inX6 hown hK.1 hP 0 rfl rfl 1 (by decide) (hts _ mf_X6_15) (fun _ h9 => h9) rfl dX6_placeStatus_22 ?_
      refine lv_iload_n hx hb dX6_placeStatus_25 rfl (lv_at hl 2 rfl) ?_
      refine xaldT hx hb hK hP 1 (j) (b := (ta 0)) rfl (by omega) (by decide) rfl (htg) dX6_placeStatus_26 ?_
      refine va_get (D := G.1) (ci := 4) (v := .int (tf 2)) (C := RX4) (T := TX4) (N := 12) hx hb hts inX4 hown hK.1 hP 2 rfl rfl 2 (by decide) (hts _ mf_X6_159) (fun _ h9 => h9) rfl dX6_placeStatus_27 ?_
      refine lv_icmp_lt (tgt := 35) hx hb dX6_placeStatus_30 (by decide) (fun c4 => ?_) (fun c4 => ?_)
      · obtain ⟨rw, hrw, t1⟩ := hT1
        have q1b := q1
        rw [t1] at q1b
        obtain ⟨i, hi, ei⟩ := inR_n (by omega) q1b
        subst ei
        refine lv_aload_n hx hb dX6_placeStatus_35 rfl (lv_at hl 1 rfl) ?_
        refine va_get (D := G.1) (ci := 6) (v := .ref (xa 1)) (C := RX6) (T := TX6) (N := 10) hx hb hts inX6 hown hK.1 hP 0 rfl rfl 1 (by decide) (hts _ mf_X6_15) (fun _ h9 => h9) rfl dX6_placeStatus_36 ?_
        refine lv_iload_n hx hb dX6_placeStatus_39 rfl (lv_at hl 2 rfl) ?_
        refine xaldT hx hb hK hP 1 (j) (b := (ta 0)) rfl (by omega) (by decide) rfl (htg) dX6_placeStatus_40 ?_
        refine va_get (D := G.1) (ci := 4) (v := .ref (ta 4)) (C := RX4) (T := TX4) (N := 12) hx hb hts inX4 hown hK.1 hP 2 rfl rfl 4 (by decide) (hts _ mf_X6_113) (fun _ h9 => h9) rfl dX6_placeStatus_41 ?_
        refine lv_iload_n hx hb dX6_placeStatus_44 rfl (lv_at hl 3 rfl) ?_
        refine xiald (f := (tr 4)) hx hb hK hP 3 (i) (rfl) (by omega) (by decide) rfl dX6_placeStatus_45 ?_
        refine lv_topi (fun v5 ev5 => ?_)
        refine lv_istore (lv' := [(5, .int v5), (4, .int r1), (0, .ref x), (1, .int (nI j)), (2, .int (nI i)), (3, .int col)]) hx hb dX6_placeStatus_46 hl (by decide) rfl (fun ls hl => ?_)
        refine lv_iload hx hb dX6_placeStatus_48 (lv_at hl 0 rfl) ?_
        refine lv_if_ne (tgt := 55) hx hb dX6_placeStatus_50 (by decide) (fun c6 => ?_) (fun c6 => ?_)
        · refine lv_iload_n hx hb dX6_placeStatus_55 rfl (lv_at hl 5 rfl) ?_
          refine lv_iload hx hb dX6_placeStatus_56 (lv_at hl 0 rfl) ?_
          refine lv_icmp_ge (tgt := 65) hx hb dX6_placeStatus_58 (by decide) (fun c7 => ?_) (fun c7 => ?_)
          · refine lv_iconst (v := 4) hx hb dX6_placeStatus_65 (by decide) ?_
            exact rd_iret hx hb hr hlocks hS (Or.inr ⟨⟨rfl, ho⟩, Or.inr ⟨q1, ⟨c3, Int32.not_le.mpr c4⟩, Or.inr (Or.inl ⟨rfl, by rw [nI_clamp (by omega)]; exact fun h9 => c6 (ev5.trans h9), by rw [nI_clamp (by omega)]; exact fun h9 => Int32.not_lt.mpr c7 (by rw [ev5]; exact h9)⟩)⟩⟩) dX6_placeStatus_66
          · refine lv_iconst (v := 0) hx hb dX6_placeStatus_61 (by decide) ?_
            refine lv_goto (tgt := 66) hx hb dX6_placeStatus_62 (by decide) ?_
            exact rd_iret hx hb hr hlocks hS (Or.inr ⟨⟨rfl, ho⟩, Or.inr ⟨q1, ⟨c3, Int32.not_le.mpr c4⟩, Or.inr (Or.inr ⟨rfl, by rw [nI_clamp (by omega)]; exact fun h9 => c6 (ev5.trans h9), by rw [nI_clamp (by omega)]; have h9 := n_le c7; rw [ev5] at h9; exact h9⟩)⟩⟩) dX6_placeStatus_66
        · refine lv_iconst (v := 3) hx hb dX6_placeStatus_53 (by decide) ?_
          exact rd_iret hx hb hr hlocks hS (Or.inr ⟨⟨rfl, ho⟩, Or.inr ⟨q1, ⟨c3, Int32.not_le.mpr c4⟩, Or.inl ⟨rfl, by rw [nI_clamp (by omega)]; exact ev5.symm.trans c6⟩⟩⟩) dX6_placeStatus_54
      · refine lv_iconst (v := 2) hx hb dX6_placeStatus_33 (by decide) ?_
        exact rd_iret hx hb hr hlocks hS (Or.inr ⟨⟨rfl, ho⟩, Or.inl ⟨rfl, fun h => h.2.2 (Int32.not_lt.mp c4)⟩⟩) dX6_placeStatus_34
  · refine lv_iload hx hb dX6_placeStatus_13 (lv_at hl 0 rfl) ?_
    exact rd_iret hx hb hr hlocks hS (stX_of hr1 c2) dX6_placeStatus_15
set_option maxHeartbeats 4000000 in
set_option maxRecDepth 100000 in
theorem x_filledStatus (l : Launch) (G : GG) (x : Nat) (xa ta a b ga ua la lb lc : Nat → Nat) (tg gg : Nat → Option Nat) (xf tf f qf gf uf lf mf nf : Nat → Int32) (tr r q gr ur lr mr nr : Nat → Nat → Int32) (tb : Int32) (row : Int32) (col : Int32) (j : Nat) (hj : j < 6) (hjt : tbJ tb j) (htg : tg j = some (ta 0)) (hT1 : nL 12 (tf 1)) (hT2 : nL 12 (tf 2)) (hT3 : nL 12 (tf 3)) : RdI l yX6_filledStatus cX6_filledStatus 5 (some .int) ({ frames := 3, cells := 0, slots := 0, locals := 69 }) G (xM G x xa ta a b ga ua la lb lc tg gg xf tf f qf gf uf lf mf nf tr r q gr ur lr mr nr) [.ref x, .int tb, .int row, .int col] (fun qz => stK (stX (tbO tb j (tf 0)) (tf 1) (tf 2) (tr 4) row col) row col (fun i k => kf1 ((tr 5) (i * 12 + k))) qz) := by
  refine rd_entry (by decide +kernel) (Nat.le_of_ble_eq_true rfl) ?_
  intro p e s m below meth c C0 hP hK ls hl
  have hS : va_S (fun q => s.heap.size ≤ q) s.heap s.heap [] := va_S.rf
  have hA : ∀ q, s.heap.size ≤ q → (fun q => s.heap.size ≤ q) q := fun _ h => h
  obtain ⟨hx, hb, hml, hown, hts, hr, hlocks, hin⟩ := C0
  have hown : s.vm.findClass RX6 = some m.cls := hown
  have hl : lv_has ls 5 [(0, .ref x), (1, .int tb), (2, .int row), (3, .int col)] := hl
  refine lv_aload_n hx hb dX6_filledStatus_0 rfl (lv_at hl 0 rfl) ?_
  refine lv_iload_n hx hb dX6_filledStatus_1 rfl (lv_at hl 1 rfl) ?_
  refine lv_iload_n hx hb dX6_filledStatus_2 rfl (lv_at hl 2 rfl) ?_
  refine lv_iload_n hx hb dX6_filledStatus_3 rfl (lv_at hl 3 rfl) ?_
  refine rdV (rest := []) (q0 := 0) ⟨hx, hb, hml, hown, hts⟩ (x_placeStatus l G x xa ta a b ga ua la lb lc tg gg xf tf f qf gf uf lf mf nf tr r q gr ur lr mr nr tb row col j (by omega) hjt htg hT1) mi_yX6_placeStatus mv_yX6_placeStatus ml_X6_84 ⟨rfl, rfl, Nat.le_of_ble_eq_true rfl, Nat.le_of_ble_eq_true rfl⟩ hK (hP) rfl rfl rfl hl.1 rfl (Nat.le_of_ble_eq_true rfl) dX6_filledStatus_4 ⟨Nat.zero_le _, Nat.zero_le _⟩ hS hA hP (fun r1 H locs hr1 hP hS => ?_)
  have hr1 : stX (tbO tb j (tf 0)) (tf 1) (tf 2) (tr 4) row col r1 := hr1
  refine lv_istore (lv' := [(4, .int r1), (0, .ref x), (1, .int tb), (2, .int row), (3, .int col)]) hx hb dX6_filledStatus_7 hl (by decide) rfl (fun ls hl => ?_)
  refine lv_iload hx hb dX6_filledStatus_9 (lv_at hl 0 rfl) ?_
  refine lv_if_eq (tgt := 17) hx hb dX6_filledStatus_11 (by decide) (fun c2 => ?_) (fun c2 => ?_)
  · have hs0 := stX_z hr1 c2
    obtain ⟨⟨ej, ho⟩, q1, q2⟩ := stX_0 hr1 c2
    subst ej
    have q1c := q1
    have q2c := q2
    obtain ⟨rw, hrw, t1⟩ := hT1
    obtain ⟨cl, hcl, t2⟩ := hT2
    obtain ⟨bk, hbk, t3⟩ := hT3
    have hT1 : nL 12 (tf 1) := ⟨rw, hrw, t1⟩
    have hT2 : nL 12 (tf 2) := ⟨cl, hcl, t2⟩
    have hT3 : nL 12 (tf 3) := ⟨bk, hbk, t3⟩
    rw [t1] at q1c
    rw [t2] at q2c
    obtain ⟨i, hi, ei⟩ := inR_n (by omega) q1c
    subst ei
    obtain ⟨k, hk, ek⟩ := inR_n (by omega) q2c
    subst ek
    refine lv_aload_n hx hb dX6_filledStatus_17 rfl (lv_at hl 1 rfl) ?_
    refine va_get (D := G.1) (ci := 6) (v := .ref (xa 1)) (C := RX6) (T := TX6) (N := 10) hx hb hts inX6 hown hK.1 hP 0 rfl rfl 1 (by decide) (hts _ mf_X6_15) (fun _ h9 => h9) rfl dX6_filledStatus_18 ?_
    refine lv_iload_n hx hb dX6_filledStatus_21 rfl (lv_at hl 2 rfl) ?_
    refine xaldT hx hb hK hP 1 (j) (b := (ta 0)) rfl (by omega) (by decide) rfl (htg) dX6_filledStatus_22 ?_
    refine va_get (D := G.1) (ci := 4) (v := .ref (ta 5)) (C := RX4) (T := TX4) (N := 12) hx hb hts inX4 hown hK.1 hP 2 rfl rfl 5 (by decide) (hts _ mf_X6_134) (fun _ h9 => h9) rfl dX6_filledStatus_23 ?_
    refine lv_iload_n hx hb dX6_filledStatus_26 rfl (lv_at hl 3 rfl) ?_
    refine lv_iload_n hx hb dX6_filledStatus_27 rfl (lv_at hl 4 rfl) ?_
    refine rdS (rest := [.ref (ta 5)]) ⟨hx, hb, hml, hown, hts⟩ (c_X6_spotOf l G ((nI i)) ((nI k))) mi_yX6_spotOf mst_yX6_spotOf ml_X6_92 ⟨rfl, rfl, Nat.le_of_ble_eq_true rfl, Nat.le_of_ble_eq_true rfl⟩ hK (fun k q h => by simp at h) rfl hl.1 rfl (Nat.le_of_ble_eq_true rfl) dX6_filledStatus_28 ⟨Nat.zero_le _, Nat.zero_le _⟩ hS hA hP (fun r3 H locs hr3 hP hS => ?_)
    obtain rfl : r3 = nI (i * 12 + k) := spot_eq hr3
    refine xiald (f := (tr 5)) hx hb hK hP 4 ((i * 12 + k)) (rfl) (by omega) (by decide) rfl dX6_filledStatus_31 ?_
    refine lv_topi (fun v4 ev4 => ?_)
    refine lv_if_ne (tgt := 39) hx hb dX6_filledStatus_32 (by decide) (fun c5 => ?_) (fun c5 => ?_)
    · refine lv_iconst (v := 0) hx hb dX6_filledStatus_39 (by decide) ?_
      exact rd_iret hx hb hr hlocks hS (Or.inr ⟨hs0, i, k, by omega, by omega, rfl, rfl, (kf1_g (fun h9 => c5 (ev4.trans h9))).symm⟩) dX6_filledStatus_40
    · refine lv_iconst (v := 5) hx hb dX6_filledStatus_35 (by decide) ?_
      refine lv_goto (tgt := 40) hx hb dX6_filledStatus_36 (by decide) ?_
      exact rd_iret hx hb hr hlocks hS (Or.inr ⟨hs0, i, k, by omega, by omega, rfl, rfl, (kf1_0 (ev4.symm.trans c5)).symm⟩) dX6_filledStatus_40
  · refine lv_iload hx hb dX6_filledStatus_14 (lv_at hl 0 rfl) ?_
    exact rd_iret hx hb hr hlocks hS (Or.inl ⟨c2, hr1⟩) dX6_filledStatus_16
set_option maxHeartbeats 4000000 in
set_option maxRecDepth 100000 in
theorem x_cellStatus (l : Launch) (G : GG) (x : Nat) (xa ta a b ga ua la lb lc : Nat → Nat) (tg gg : Nat → Option Nat) (xf tf f qf gf uf lf mf nf : Nat → Int32) (tr r q gr ur lr mr nr : Nat → Nat → Int32) (tb : Int32) (row : Int32) (col : Int32) (j : Nat) (hj : j < 6) (hjt : tbJ tb j) (htg : tg j = some (ta 0)) (hT1 : nL 12 (tf 1)) (hT2 : nL 12 (tf 2)) (hT3 : nL 12 (tf 3)) : RdI l yX6_cellStatus cX6_cellStatus 5 (some .int) ({ frames := 4, cells := 0, slots := 0, locals := 93 }) G (xM G x xa ta a b ga ua la lb lc tg gg xf tf f qf gf uf lf mf nf tr r q gr ur lr mr nr) [.ref x, .int tb, .int row, .int col] (fun qz => stK (stX (tbO tb j (tf 0)) (tf 1) (tf 2) (tr 4) row col) row col (fun i k => kf2 ((tr 5) (i * 12 + k))) qz) := by
  refine rd_entry (by decide +kernel) (Nat.le_of_ble_eq_true rfl) ?_
  intro p e s m below meth c C0 hP hK ls hl
  have hS : va_S (fun q => s.heap.size ≤ q) s.heap s.heap [] := va_S.rf
  have hA : ∀ q, s.heap.size ≤ q → (fun q => s.heap.size ≤ q) q := fun _ h => h
  obtain ⟨hx, hb, hml, hown, hts, hr, hlocks, hin⟩ := C0
  have hown : s.vm.findClass RX6 = some m.cls := hown
  have hl : lv_has ls 5 [(0, .ref x), (1, .int tb), (2, .int row), (3, .int col)] := hl
  refine lv_aload_n hx hb dX6_cellStatus_0 rfl (lv_at hl 0 rfl) ?_
  refine lv_iload_n hx hb dX6_cellStatus_1 rfl (lv_at hl 1 rfl) ?_
  refine lv_iload_n hx hb dX6_cellStatus_2 rfl (lv_at hl 2 rfl) ?_
  refine lv_iload_n hx hb dX6_cellStatus_3 rfl (lv_at hl 3 rfl) ?_
  refine rdV (rest := []) (q0 := 0) ⟨hx, hb, hml, hown, hts⟩ (x_filledStatus l G x xa ta a b ga ua la lb lc tg gg xf tf f qf gf uf lf mf nf tr r q gr ur lr mr nr tb row col j (by omega) hjt htg hT1 hT2 hT3) mi_yX6_filledStatus mv_yX6_filledStatus ml_X6_107 ⟨rfl, rfl, Nat.le_of_ble_eq_true rfl, Nat.le_of_ble_eq_true rfl⟩ hK (hP) rfl rfl rfl hl.1 rfl (Nat.le_of_ble_eq_true rfl) dX6_cellStatus_4 ⟨Nat.zero_le _, Nat.zero_le _⟩ hS hA hP (fun r1 H locs hr1 hP hS => ?_)
  have hr1 : stK (stX (tbO tb j (tf 0)) (tf 1) (tf 2) (tr 4) row col) row col (fun i k => kf1 ((tr 5) (i * 12 + k))) r1 := hr1
  refine lv_istore (lv' := [(4, .int r1), (0, .ref x), (1, .int tb), (2, .int row), (3, .int col)]) hx hb dX6_cellStatus_7 hl (by decide) rfl (fun ls hl => ?_)
  refine lv_iload hx hb dX6_cellStatus_9 (lv_at hl 0 rfl) ?_
  refine lv_if_eq (tgt := 17) hx hb dX6_cellStatus_11 (by decide) (fun c2 => ?_) (fun c2 => ?_)
  · have hs0 := stK_0 hr1 c2
    obtain ⟨⟨ej, ho⟩, q1, q2⟩ := stX_0 hs0 rfl
    subst ej
    have q1c := q1
    have q2c := q2
    obtain ⟨rw, hrw, t1⟩ := hT1
    obtain ⟨cl, hcl, t2⟩ := hT2
    obtain ⟨bk, hbk, t3⟩ := hT3
    have hT1 : nL 12 (tf 1) := ⟨rw, hrw, t1⟩
    have hT2 : nL 12 (tf 2) := ⟨cl, hcl, t2⟩
    have hT3 : nL 12 (tf 3) := ⟨bk, hbk, t3⟩
    rw [t1] at q1c
    rw [t2] at q2c
    obtain ⟨i, hi, ei⟩ := inR_n (by omega) q1c
    subst ei
    obtain ⟨k, hk, ek⟩ := inR_n (by omega) q2c
    subst ek
    have hkk := stK_k hr1 c2 (show i < 12 by omega) (show k < 12 by omega) rfl rfl
    refine lv_aload_n hx hb dX6_cellStatus_17 rfl (lv_at hl 1 rfl) ?_
    refine va_get (D := G.1) (ci := 6) (v := .ref (xa 1)) (C := RX6) (T := TX6) (N := 10) hx hb hts inX6 hown hK.1 hP 0 rfl rfl 1 (by decide) (hts _ mf_X6_15) (fun _ h9 => h9) rfl dX6_cellStatus_18 ?_
    refine lv_iload_n hx hb dX6_cellStatus_21 rfl (lv_at hl 2 rfl) ?_
    refine xaldT hx hb hK hP 1 (j) (b := (ta 0)) rfl (by omega) (by decide) rfl (htg) dX6_cellStatus_22 ?_
    refine va_get (D := G.1) (ci := 4) (v := .ref (ta 5)) (C := RX4) (T := TX4) (N := 12) hx hb hts inX4 hown hK.1 hP 2 rfl rfl 5 (by decide) (hts _ mf_X6_134) (fun _ h9 => h9) rfl dX6_cellStatus_23 ?_
    refine lv_iload_n hx hb dX6_cellStatus_26 rfl (lv_at hl 3 rfl) ?_
    refine lv_iload_n hx hb dX6_cellStatus_27 rfl (lv_at hl 4 rfl) ?_
    refine rdS (rest := [.ref (ta 5)]) ⟨hx, hb, hml, hown, hts⟩ (c_X6_spotOf l G ((nI i)) ((nI k))) mi_yX6_spotOf mst_yX6_spotOf ml_X6_92 ⟨rfl, rfl, Nat.le_of_ble_eq_true rfl, Nat.le_of_ble_eq_true rfl⟩ hK (fun k q h => by simp at h) rfl hl.1 rfl (Nat.le_of_ble_eq_true rfl) dX6_cellStatus_28 ⟨Nat.zero_le _, Nat.zero_le _⟩ hS hA hP (fun r3 H locs hr3 hP hS => ?_)
    obtain rfl : r3 = nI (i * 12 + k) := spot_eq hr3
    refine xiald (f := (tr 5)) hx hb hK hP 4 ((i * 12 + k)) (rfl) (by omega) (by decide) rfl dX6_cellStatus_31 ?_
    refine lv_topi (fun v4 ev4 => ?_)
    refine lv_iconst (v := 5) hx hb dX6_cellStatus_32 (by decide) ?_
    refine lv_icmp_ne (tgt := 41) hx hb dX6_cellStatus_33 (by decide) (fun c5 => ?_) (fun c5 => ?_)
    · refine lv_iconst (v := 0) hx hb dX6_cellStatus_41 (by decide) ?_
      exact rd_iret hx hb hr hlocks hS (Or.inr ⟨hs0, i, k, by omega, by omega, rfl, rfl, (kf2_g (kf1_i hkk) (fun h9 => c5 (ev4.trans h9))).symm⟩) dX6_cellStatus_42
    · refine lv_bipush (v := 6) hx hb dX6_cellStatus_36 (by decide) ?_
      refine lv_goto (tgt := 42) hx hb dX6_cellStatus_38 (by decide) ?_
      exact rd_iret hx hb hr hlocks hS (Or.inr ⟨hs0, i, k, by omega, by omega, rfl, rfl, (kf2_5 (kf1_i hkk) (ev4.symm.trans c5)).symm⟩) dX6_cellStatus_42
  · refine lv_iload hx hb dX6_cellStatus_14 (lv_at hl 0 rfl) ?_
    exact rd_iret hx hb hr hlocks hS (stK_up hr1 (fun _ _ h => kf21 c2 h)) dX6_cellStatus_16
set_option maxHeartbeats 4000000 in
set_option maxRecDepth 100000 in
theorem x_guardableStatus (l : Launch) (G : GG) (x : Nat) (xa ta a b ga ua la lb lc : Nat → Nat) (tg gg : Nat → Option Nat) (xf tf f qf gf uf lf mf nf : Nat → Int32) (tr r q gr ur lr mr nr : Nat → Nat → Int32) (tb : Int32) (row : Int32) (col : Int32) (j : Nat) (hj : j < 6) (hjt : tbJ tb j) (htg : tg j = some (ta 0)) (hT1 : nL 12 (tf 1)) (hT2 : nL 12 (tf 2)) (hT3 : nL 12 (tf 3)) : RdI l yX6_guardableStatus cX6_guardableStatus 5 (some .int) ({ frames := 5, cells := 0, slots := 0, locals := 117 }) G (xM G x xa ta a b ga ua la lb lc tg gg xf tf f qf gf uf lf mf nf tr r q gr ur lr mr nr) [.ref x, .int tb, .int row, .int col] (fun qz => stK (stX (tbO tb j (tf 0)) (tf 1) (tf 2) (tr 4) row col) row col (fun i k => kf3 ((tr 5) (i * 12 + k))) qz) := by
  refine rd_entry (by decide +kernel) (Nat.le_of_ble_eq_true rfl) ?_
  intro p e s m below meth c C0 hP hK ls hl
  have hS : va_S (fun q => s.heap.size ≤ q) s.heap s.heap [] := va_S.rf
  have hA : ∀ q, s.heap.size ≤ q → (fun q => s.heap.size ≤ q) q := fun _ h => h
  obtain ⟨hx, hb, hml, hown, hts, hr, hlocks, hin⟩ := C0
  have hown : s.vm.findClass RX6 = some m.cls := hown
  have hl : lv_has ls 5 [(0, .ref x), (1, .int tb), (2, .int row), (3, .int col)] := hl
  refine lv_aload_n hx hb dX6_guardableStatus_0 rfl (lv_at hl 0 rfl) ?_
  refine lv_iload_n hx hb dX6_guardableStatus_1 rfl (lv_at hl 1 rfl) ?_
  refine lv_iload_n hx hb dX6_guardableStatus_2 rfl (lv_at hl 2 rfl) ?_
  refine lv_iload_n hx hb dX6_guardableStatus_3 rfl (lv_at hl 3 rfl) ?_
  refine rdV (rest := []) (q0 := 0) ⟨hx, hb, hml, hown, hts⟩ (x_cellStatus l G x xa ta a b ga ua la lb lc tg gg xf tf f qf gf uf lf mf nf tr r q gr ur lr mr nr tb row col j (by omega) hjt htg hT1 hT2 hT3) mi_yX6_cellStatus mv_yX6_cellStatus ml_X6_174 ⟨rfl, rfl, Nat.le_of_ble_eq_true rfl, Nat.le_of_ble_eq_true rfl⟩ hK (hP) rfl rfl rfl hl.1 rfl (Nat.le_of_ble_eq_true rfl) dX6_guardableStatus_4 ⟨Nat.zero_le _, Nat.zero_le _⟩ hS hA hP (fun r1 H locs hr1 hP hS => ?_)
  have hr1 : stK (stX (tbO tb j (tf 0)) (tf 1) (tf 2) (tr 4) row col) row col (fun i k => kf2 ((tr 5) (i * 12 + k))) r1 := hr1
  refine lv_istore (lv' := [(4, .int r1), (0, .ref x), (1, .int tb), (2, .int row), (3, .int col)]) hx hb dX6_guardableStatus_7 hl (by decide) rfl (fun ls hl => ?_)
  refine lv_iload hx hb dX6_guardableStatus_9 (lv_at hl 0 rfl) ?_
  refine lv_if_eq (tgt := 17) hx hb dX6_guardableStatus_11 (by decide) (fun c2 => ?_) (fun c2 => ?_)
  · have hs0 := stK_0 hr1 c2
    obtain ⟨⟨ej, ho⟩, q1, q2⟩ := stX_0 hs0 rfl
    subst ej
    have q1c := q1
    have q2c := q2
    obtain ⟨rw, hrw, t1⟩ := hT1
    obtain ⟨cl, hcl, t2⟩ := hT2
    obtain ⟨bk, hbk, t3⟩ := hT3
    have hT1 : nL 12 (tf 1) := ⟨rw, hrw, t1⟩
    have hT2 : nL 12 (tf 2) := ⟨cl, hcl, t2⟩
    have hT3 : nL 12 (tf 3) := ⟨bk, hbk, t3⟩
    rw [t1] at q1c
    rw [t2] at q2c
    obtain ⟨i, hi, ei⟩ := inR_n (by omega) q1c
    subst ei
    obtain ⟨k, hk, ek⟩ := inR_n (by omega) q2c
    subst ek
    have hkk := stK_k hr1 c2 (show i < 12 by omega) (show k < 12 by omega) rfl rfl
    refine lv_aload_n hx hb dX6_guardableStatus_17 rfl (lv_at hl 1 rfl) ?_
    refine va_get (D := G.1) (ci := 6) (v := .ref (xa 1)) (C := RX6) (T := TX6) (N := 10) hx hb hts inX6 hown hK.1 hP 0 rfl rfl 1 (by decide) (hts _ mf_X6_15) (fun _ h9 => h9) rfl dX6_guardableStatus_18 ?_
    refine lv_iload_n hx hb dX6_guardableStatus_21 rfl (lv_at hl 2 rfl) ?_
    refine xaldT hx hb hK hP 1 (j) (b := (ta 0)) rfl (by omega) (by decide) rfl (htg) dX6_guardableStatus_22 ?_
    refine va_get (D := G.1) (ci := 4) (v := .ref (ta 5)) (C := RX4) (T := TX4) (N := 12) hx hb hts inX4 hown hK.1 hP 2 rfl rfl 5 (by decide) (hts _ mf_X6_134) (fun _ h9 => h9) rfl dX6_guardableStatus_23 ?_
    refine lv_iload_n hx hb dX6_guardableStatus_26 rfl (lv_at hl 3 rfl) ?_
    refine lv_iload_n hx hb dX6_guardableStatus_27 rfl (lv_at hl 4 rfl) ?_
    refine rdS (rest := [.ref (ta 5)]) ⟨hx, hb, hml, hown, hts⟩ (c_X6_spotOf l G ((nI i)) ((nI k))) mi_yX6_spotOf mst_yX6_spotOf ml_X6_92 ⟨rfl, rfl, Nat.le_of_ble_eq_true rfl, Nat.le_of_ble_eq_true rfl⟩ hK (fun k q h => by simp at h) rfl hl.1 rfl (Nat.le_of_ble_eq_true rfl) dX6_guardableStatus_28 ⟨Nat.zero_le _, Nat.zero_le _⟩ hS hA hP (fun r3 H locs hr3 hP hS => ?_)
    obtain rfl : r3 = nI (i * 12 + k) := spot_eq hr3
    refine xiald (f := (tr 5)) hx hb hK hP 4 ((i * 12 + k)) (rfl) (by omega) (by decide) rfl dX6_guardableStatus_31 ?_
    refine lv_topi (fun v4 ev4 => ?_)
    refine lv_iconst (v := 4) hx hb dX6_guardableStatus_32 (by decide) ?_
    refine lv_icmp_ne (tgt := 41) hx hb dX6_guardableStatus_33 (by decide) (fun c5 => ?_) (fun c5 => ?_)
    · refine lv_iconst (v := 0) hx hb dX6_guardableStatus_41 (by decide) ?_
      exact rd_iret hx hb hr hlocks hS (Or.inr ⟨hs0, i, k, by omega, by omega, rfl, rfl, (kf3_g ⟨(kf2_i hkk).1, (kf2_i hkk).2, (fun h9 => c5 (ev4.trans h9))⟩).symm⟩) dX6_guardableStatus_42
    · refine lv_bipush (v := 6) hx hb dX6_guardableStatus_36 (by decide) ?_
      refine lv_goto (tgt := 42) hx hb dX6_guardableStatus_38 (by decide) ?_
      exact rd_iret hx hb hr hlocks hS (Or.inr ⟨hs0, i, k, by omega, by omega, rfl, rfl, (kf3_4 (kf2_i hkk).1 (kf2_i hkk).2 (ev4.symm.trans c5)).symm⟩) dX6_guardableStatus_42
  · refine lv_iload hx hb dX6_guardableStatus_14 (lv_at hl 0 rfl) ?_
    exact rd_iret hx hb hr hlocks hS (stK_up hr1 (fun _ _ h => kf32 c2 h)) dX6_guardableStatus_16
set_option maxHeartbeats 4000000 in
set_option maxRecDepth 100000 in
theorem x_amountStatus (l : Launch) (G : GG) (x : Nat) (xa ta a b ga ua la lb lc : Nat → Nat) (tg gg : Nat → Option Nat) (xf tf f qf gf uf lf mf nf : Nat → Int32) (tr r q gr ur lr mr nr : Nat → Nat → Int32) (tb : Int32) (row : Int32) (col : Int32) (j : Nat) (hj : j < 6) (hjt : tbJ tb j) (htg : tg j = some (ta 0)) (hT1 : nL 12 (tf 1)) (hT2 : nL 12 (tf 2)) (hT3 : nL 12 (tf 3)) : RdI l yX6_amountStatus cX6_amountStatus 5 (some .int) ({ frames := 4, cells := 0, slots := 0, locals := 93 }) G (xM G x xa ta a b ga ua la lb lc tg gg xf tf f qf gf uf lf mf nf tr r q gr ur lr mr nr) [.ref x, .int tb, .int row, .int col] (fun qz => stK (stX (tbO tb j (tf 0)) (tf 1) (tf 2) (tr 4) row col) row col (fun i k => kf4 ((tr 5) (i * 12 + k))) qz) := by
  refine rd_entry (by decide +kernel) (Nat.le_of_ble_eq_true rfl) ?_
  intro p e s m below meth c C0 hP hK ls hl
  have hS : va_S (fun q => s.heap.size ≤ q) s.heap s.heap [] := va_S.rf
  have hA : ∀ q, s.heap.size ≤ q → (fun q => s.heap.size ≤ q) q := fun _ h => h
  obtain ⟨hx, hb, hml, hown, hts, hr, hlocks, hin⟩ := C0
  have hown : s.vm.findClass RX6 = some m.cls := hown
  have hl : lv_has ls 5 [(0, .ref x), (1, .int tb), (2, .int row), (3, .int col)] := hl
  refine lv_aload_n hx hb dX6_amountStatus_0 rfl (lv_at hl 0 rfl) ?_
  refine lv_iload_n hx hb dX6_amountStatus_1 rfl (lv_at hl 1 rfl) ?_
  refine lv_iload_n hx hb dX6_amountStatus_2 rfl (lv_at hl 2 rfl) ?_
  refine lv_iload_n hx hb dX6_amountStatus_3 rfl (lv_at hl 3 rfl) ?_
  refine rdV (rest := []) (q0 := 0) ⟨hx, hb, hml, hown, hts⟩ (x_filledStatus l G x xa ta a b ga ua la lb lc tg gg xf tf f qf gf uf lf mf nf tr r q gr ur lr mr nr tb row col j (by omega) hjt htg hT1 hT2 hT3) mi_yX6_filledStatus mv_yX6_filledStatus ml_X6_107 ⟨rfl, rfl, Nat.le_of_ble_eq_true rfl, Nat.le_of_ble_eq_true rfl⟩ hK (hP) rfl rfl rfl hl.1 rfl (Nat.le_of_ble_eq_true rfl) dX6_amountStatus_4 ⟨Nat.zero_le _, Nat.zero_le _⟩ hS hA hP (fun r1 H locs hr1 hP hS => ?_)
  have hr1 : stK (stX (tbO tb j (tf 0)) (tf 1) (tf 2) (tr 4) row col) row col (fun i k => kf1 ((tr 5) (i * 12 + k))) r1 := hr1
  refine lv_istore (lv' := [(4, .int r1), (0, .ref x), (1, .int tb), (2, .int row), (3, .int col)]) hx hb dX6_amountStatus_7 hl (by decide) rfl (fun ls hl => ?_)
  refine lv_iload hx hb dX6_amountStatus_9 (lv_at hl 0 rfl) ?_
  refine lv_if_eq (tgt := 17) hx hb dX6_amountStatus_11 (by decide) (fun c2 => ?_) (fun c2 => ?_)
  · have hs0 := stK_0 hr1 c2
    obtain ⟨⟨ej, ho⟩, q1, q2⟩ := stX_0 hs0 rfl
    subst ej
    have q1c := q1
    have q2c := q2
    obtain ⟨rw, hrw, t1⟩ := hT1
    obtain ⟨cl, hcl, t2⟩ := hT2
    obtain ⟨bk, hbk, t3⟩ := hT3
    have hT1 : nL 12 (tf 1) := ⟨rw, hrw, t1⟩
    have hT2 : nL 12 (tf 2) := ⟨cl, hcl, t2⟩
    have hT3 : nL 12 (tf 3) := ⟨bk, hbk, t3⟩
    rw [t1] at q1c
    rw [t2] at q2c
    obtain ⟨i, hi, ei⟩ := inR_n (by omega) q1c
    subst ei
    obtain ⟨k, hk, ek⟩ := inR_n (by omega) q2c
    subst ek
    have hkk := stK_k hr1 c2 (show i < 12 by omega) (show k < 12 by omega) rfl rfl
    refine lv_aload_n hx hb dX6_amountStatus_17 rfl (lv_at hl 1 rfl) ?_
    refine va_get (D := G.1) (ci := 6) (v := .ref (xa 1)) (C := RX6) (T := TX6) (N := 10) hx hb hts inX6 hown hK.1 hP 0 rfl rfl 1 (by decide) (hts _ mf_X6_15) (fun _ h9 => h9) rfl dX6_amountStatus_18 ?_
    refine lv_iload_n hx hb dX6_amountStatus_21 rfl (lv_at hl 2 rfl) ?_
    refine xaldT hx hb hK hP 1 (j) (b := (ta 0)) rfl (by omega) (by decide) rfl (htg) dX6_amountStatus_22 ?_
    refine va_get (D := G.1) (ci := 4) (v := .ref (ta 5)) (C := RX4) (T := TX4) (N := 12) hx hb hts inX4 hown hK.1 hP 2 rfl rfl 5 (by decide) (hts _ mf_X6_134) (fun _ h9 => h9) rfl dX6_amountStatus_23 ?_
    refine lv_iload_n hx hb dX6_amountStatus_26 rfl (lv_at hl 3 rfl) ?_
    refine lv_iload_n hx hb dX6_amountStatus_27 rfl (lv_at hl 4 rfl) ?_
    refine rdS (rest := [.ref (ta 5)]) ⟨hx, hb, hml, hown, hts⟩ (c_X6_spotOf l G ((nI i)) ((nI k))) mi_yX6_spotOf mst_yX6_spotOf ml_X6_92 ⟨rfl, rfl, Nat.le_of_ble_eq_true rfl, Nat.le_of_ble_eq_true rfl⟩ hK (fun k q h => by simp at h) rfl hl.1 rfl (Nat.le_of_ble_eq_true rfl) dX6_amountStatus_28 ⟨Nat.zero_le _, Nat.zero_le _⟩ hS hA hP (fun r3 H locs hr3 hP hS => ?_)
    obtain rfl : r3 = nI (i * 12 + k) := spot_eq hr3
    refine xiald (f := (tr 5)) hx hb hK hP 4 ((i * 12 + k)) (rfl) (by omega) (by decide) rfl dX6_amountStatus_31 ?_
    refine lv_topi (fun v4 ev4 => ?_)
    refine lv_iconst (v := 2) hx hb dX6_amountStatus_32 (by decide) ?_
    refine lv_icmp_ne (tgt := 40) hx hb dX6_amountStatus_33 (by decide) (fun c5 => ?_) (fun c5 => ?_)
    · refine lv_bipush (v := 6) hx hb dX6_amountStatus_40 (by decide) ?_
      exact rd_iret hx hb hr hlocks hS (Or.inr ⟨hs0, i, k, by omega, by omega, rfl, rfl, (kf4_6 (kf1_i hkk) (fun h9 => c5 (ev4.trans h9))).symm⟩) dX6_amountStatus_42
    · refine lv_iconst (v := 0) hx hb dX6_amountStatus_36 (by decide) ?_
      refine lv_goto (tgt := 42) hx hb dX6_amountStatus_37 (by decide) ?_
      exact rd_iret hx hb hr hlocks hS (Or.inr ⟨hs0, i, k, by omega, by omega, rfl, rfl, (kf4_g (ev4.symm.trans c5)).symm⟩) dX6_amountStatus_42
  · refine lv_iload hx hb dX6_amountStatus_14 (lv_at hl 0 rfl) ?_
    exact rd_iret hx hb hr hlocks hS (stK_up hr1 (fun _ _ h => kf41 c2 h)) dX6_amountStatus_16
set_option maxHeartbeats 4000000 in
set_option maxRecDepth 100000 in
theorem x_soundCellStatus (l : Launch) (G : GG) (x : Nat) (xa ta a b ga ua la lb lc : Nat → Nat) (tg gg : Nat → Option Nat) (xf tf f qf gf uf lf mf nf : Nat → Int32) (tr r q gr ur lr mr nr : Nat → Nat → Int32) (tb : Int32) (row : Int32) (col : Int32) (j : Nat) (hj : j < 6) (hjt : tbJ tb j) (htg : tg j = some (ta 0)) (hT1 : nL 12 (tf 1)) (hT2 : nL 12 (tf 2)) (hT3 : nL 12 (tf 3)) : RdI l yX6_soundCellStatus cX6_soundCellStatus 5 (some .int) ({ frames := 5, cells := 0, slots := 0, locals := 117 }) G (xM G x xa ta a b ga ua la lb lc tg gg xf tf f qf gf uf lf mf nf tr r q gr ur lr mr nr) [.ref x, .int tb, .int row, .int col] (fun qz => stK (stX (tbO tb j (tf 0)) (tf 1) (tf 2) (tr 4) row col) row col (fun i k => kfS ((tr 5) (i * 12 + k)) (sndP ((tf 2)).toNatClampNeg (tr 4) (tr 5) i)) qz) := by
  refine rd_entry (by decide +kernel) (Nat.le_of_ble_eq_true rfl) ?_
  intro p e s m below meth c C0 hP hK ls hl
  have hS : va_S (fun q => s.heap.size ≤ q) s.heap s.heap [] := va_S.rf
  have hA : ∀ q, s.heap.size ≤ q → (fun q => s.heap.size ≤ q) q := fun _ h => h
  obtain ⟨hx, hb, hml, hown, hts, hr, hlocks, hin⟩ := C0
  have hown : s.vm.findClass RX6 = some m.cls := hown
  have hl : lv_has ls 5 [(0, .ref x), (1, .int tb), (2, .int row), (3, .int col)] := hl
  refine lv_aload_n hx hb dX6_soundCellStatus_0 rfl (lv_at hl 0 rfl) ?_
  refine lv_iload_n hx hb dX6_soundCellStatus_1 rfl (lv_at hl 1 rfl) ?_
  refine lv_iload_n hx hb dX6_soundCellStatus_2 rfl (lv_at hl 2 rfl) ?_
  refine lv_iload_n hx hb dX6_soundCellStatus_3 rfl (lv_at hl 3 rfl) ?_
  refine rdV (rest := []) (q0 := 0) ⟨hx, hb, hml, hown, hts⟩ (x_cellStatus l G x xa ta a b ga ua la lb lc tg gg xf tf f qf gf uf lf mf nf tr r q gr ur lr mr nr tb row col j (by omega) hjt htg hT1 hT2 hT3) mi_yX6_cellStatus mv_yX6_cellStatus ml_X6_174 ⟨rfl, rfl, Nat.le_of_ble_eq_true rfl, Nat.le_of_ble_eq_true rfl⟩ hK (hP) rfl rfl rfl hl.1 rfl (Nat.le_of_ble_eq_true rfl) dX6_soundCellStatus_4 ⟨Nat.zero_le _, Nat.zero_le _⟩ hS hA hP (fun r1 H locs hr1 hP hS => ?_)
  have hr1 : stK (stX (tbO tb j (tf 0)) (tf 1) (tf 2) (tr 4) row col) row col (fun i k => kf2 ((tr 5) (i * 12 + k))) r1 := hr1
  refine lv_istore (lv' := [(4, .int r1), (0, .ref x), (1, .int tb), (2, .int row), (3, .int col)]) hx hb dX6_soundCellStatus_7 hl (by decide) rfl (fun ls hl => ?_)
  refine lv_iload hx hb dX6_soundCellStatus_9 (lv_at hl 0 rfl) ?_
  refine lv_if_eq (tgt := 17) hx hb dX6_soundCellStatus_11 (by decide) (fun c2 => ?_) (fun c2 => ?_)
  · have hs0 := stK_0 hr1 c2
    obtain ⟨⟨ej, ho⟩, q1, q2⟩ := stX_0 hs0 rfl
    subst ej
    have q1c := q1
    have q2c := q2
    obtain ⟨rw, hrw, t1⟩ := hT1
    obtain ⟨cl, hcl, t2⟩ := hT2
    obtain ⟨bk, hbk, t3⟩ := hT3
    have hT1 : nL 12 (tf 1) := ⟨rw, hrw, t1⟩
    have hT2 : nL 12 (tf 2) := ⟨cl, hcl, t2⟩
    have hT3 : nL 12 (tf 3) := ⟨bk, hbk, t3⟩
    rw [t1] at q1c
    rw [t2] at q2c
    obtain ⟨i, hi, ei⟩ := inR_n (by omega) q1c
    subst ei
    obtain ⟨k, hk, ek⟩ := inR_n (by omega) q2c
    subst ek
    have hkk := stK_k hr1 c2 (show i < 12 by omega) (show k < 12 by omega) rfl rfl
    refine lv_aload_n hx hb dX6_soundCellStatus_17 rfl (lv_at hl 1 rfl) ?_
    refine va_get (D := G.1) (ci := 6) (v := .ref (xa 1)) (C := RX6) (T := TX6) (N := 10) hx hb hts inX6 hown hK.1 hP 0 rfl rfl 1 (by decide) (hts _ mf_X6_15) (fun _ h9 => h9) rfl dX6_soundCellStatus_18 ?_
    refine lv_iload_n hx hb dX6_soundCellStatus_21 rfl (lv_at hl 2 rfl) ?_
    refine xaldT hx hb hK hP 1 (j) (b := (ta 0)) rfl (by omega) (by decide) rfl (htg) dX6_soundCellStatus_22 ?_
    refine lv_iload_n hx hb dX6_soundCellStatus_23 rfl (lv_at hl 3 rfl) ?_
    refine rdV (rest := []) (q0 := 0) ⟨hx, hb, hml, hown, hts⟩ (c_X4_isSound l G ta tf tr i cl (by omega) hcl t2) mi_yX4_isSound mv_yX4_isSound ml_X6_153 ⟨rfl, rfl, Nat.le_of_ble_eq_true rfl, Nat.le_of_ble_eq_true rfl⟩ hK (blk_sub (ws' := tW G ta tf tr) (xBlk G x xa ta a b ga ua la lb lc tg gg xf tf f qf gf uf lf mf nf tr r q gr ur lr mr nr) (i := 1) hP rfl (by decide)) rfl rfl rfl hl.1 rfl (Nat.le_of_ble_eq_true rfl) dX6_soundCellStatus_24 ⟨Nat.zero_le _, Nat.zero_le _⟩ hS hA hP (fun r3 H locs hr3 hP hS => ?_)
    refine lv_if_eq (tgt := 34) hx hb dX6_soundCellStatus_27 (by decide) (fun c4 => ?_) (fun c4 => ?_)
    · have b27 := bF hr3 c4
      refine lv_bipush (v := 11) hx hb dX6_soundCellStatus_34 (by decide) ?_
      exact rd_iret hx hb hr hlocks hS (Or.inr ⟨hs0, i, k, by omega, by omega, rfl, rfl, (kfS_n (kf2_i hkk).1 (kf2_i hkk).2 (by rw [t2, nI_clamp (by omega)]; exact b27)).symm⟩) dX6_soundCellStatus_36
    · have b27 := bT hr3 c4
      refine lv_iconst (v := 0) hx hb dX6_soundCellStatus_30 (by decide) ?_
      refine lv_goto (tgt := 36) hx hb dX6_soundCellStatus_31 (by decide) ?_
      exact rd_iret hx hb hr hlocks hS (Or.inr ⟨hs0, i, k, by omega, by omega, rfl, rfl, (kfS_g (kf2_i hkk).1 (kf2_i hkk).2 (by rw [t2, nI_clamp (by omega)]; exact b27)).symm⟩) dX6_soundCellStatus_36
  · refine lv_iload hx hb dX6_soundCellStatus_14 (lv_at hl 0 rfl) ?_
    exact rd_iret hx hb hr hlocks hS (stK_up hr1 (fun _ _ h => kfS2 c2 h)) dX6_soundCellStatus_16
theorem tol_out {kd nm : Int32} (h : kd.toInt < 0 ∨ 4 < kd.toInt) : ¬ tol kd nm := fun g => by
  rcases g with ⟨e, _⟩ | ⟨e | e, _⟩ | ⟨e | e, _⟩ <;> rw [e] at h <;> exact absurd h (by decide)
set_option maxHeartbeats 4000000 in
set_option maxRecDepth 100000 in
theorem x_canBeTold (l : Launch) (G : GG) (x : Nat) (xa ta a b ga ua la lb lc : Nat → Nat) (tg gg : Nat → Option Nat) (xf tf f qf gf uf lf mf nf : Nat → Int32) (tr r q gr ur lr mr nr : Nat → Nat → Int32) (kd : Int32) (nm : Int32) : RdI l yX6_canBeTold cX6_canBeTold 2 (some .boolean) ({ frames := 0, cells := 0, slots := 0, locals := 0 }) G (xM G x xa ta a b ga ua la lb lc tg gg xf tf f qf gf uf lf mf nf tr r q gr ur lr mr nr) [.int kd, .int nm] (fun qz => ((qz = 1 ∧ (tol kd nm)) ∨ (qz = 0 ∧ ¬ (tol kd nm)))) := by
  refine rd_entry (by decide +kernel) (Nat.le_of_ble_eq_true rfl) ?_
  intro p e s m below meth c C0 hP hK ls hl
  have hS : va_S (fun q => s.heap.size ≤ q) s.heap s.heap [] := va_S.rf
  have hA : ∀ q, s.heap.size ≤ q → (fun q => s.heap.size ≤ q) q := fun _ h => h
  obtain ⟨hx, hb, hml, hown, hts, hr, hlocks, hin⟩ := C0
  have hown : s.vm.findClass RX6 = some m.cls := hown
  have hl : lv_has ls 2 [(0, .int kd), (1, .int nm)] := hl
  refine lv_iload_n hx hb dX6_canBeTold_0 rfl (lv_at hl 0 rfl) ?_
  rcases sw5 kd with h5 | e5 | e5 | e5 | e5 | e5
  · refine lv_tableOut (tgt := 79) hx hb dX6_canBeTold_1 h5 (by decide) ?_
    refine lv_iconst (v := 0) hx hb dX6_canBeTold_79 (by decide) ?_
    exact rd_zret hx hb hr hlocks (Or.inl rfl) hS (Or.inr ⟨rfl, tol_out h5⟩) dX6_canBeTold_80
  · subst e5
    refine lv_tableIn (tgt := 36) hx hb dX6_canBeTold_1 (by decide) (by decide) rfl (by decide) ?_
    refine lv_iload_n hx hb dX6_canBeTold_36 rfl (lv_at hl 1 rfl) ?_
    refine lv_iconst (v := 1) hx hb dX6_canBeTold_37 (by decide) ?_
    refine lv_icmp_lt (tgt := 51) hx hb dX6_canBeTold_38 (by decide) (fun c1 => ?_) (fun c1 => ?_)
    · refine lv_iconst (v := 0) hx hb dX6_canBeTold_51 (by decide) ?_
      exact rd_zret hx hb hr hlocks (Or.inl rfl) hS (Or.inr ⟨rfl, fun h => (tol_0 rfl h).1 c1⟩) dX6_canBeTold_52
    · refine lv_iload_n hx hb dX6_canBeTold_41 rfl (lv_at hl 1 rfl) ?_
      refine lv_bipush (v := 99) hx hb dX6_canBeTold_42 (by decide) ?_
      refine lv_icmp_gt (tgt := 51) hx hb dX6_canBeTold_44 (by decide) (fun c2 => ?_) (fun c2 => ?_)
      · refine lv_iconst (v := 0) hx hb dX6_canBeTold_51 (by decide) ?_
        exact rd_zret hx hb hr hlocks (Or.inl rfl) hS (Or.inr ⟨rfl, fun h => (tol_0 rfl h).2 c2⟩) dX6_canBeTold_52
      · refine lv_iconst (v := 1) hx hb dX6_canBeTold_47 (by decide) ?_
        refine lv_goto (tgt := 52) hx hb dX6_canBeTold_48 (by decide) ?_
        exact rd_zret hx hb hr hlocks (Or.inr rfl) hS (Or.inl ⟨rfl, Or.inl ⟨rfl, c1, c2⟩⟩) dX6_canBeTold_52
  · subst e5
    refine lv_tableIn (tgt := 53) hx hb dX6_canBeTold_1 (by decide) (by decide) rfl (by decide) ?_
    refine lv_iload_n hx hb dX6_canBeTold_53 rfl (lv_at hl 1 rfl) ?_
    refine lv_if_lt (tgt := 67) hx hb dX6_canBeTold_54 (by decide) (fun c3 => ?_) (fun c3 => ?_)
    · refine lv_iconst (v := 0) hx hb dX6_canBeTold_67 (by decide) ?_
      exact rd_zret hx hb hr hlocks (Or.inl rfl) hS (Or.inr ⟨rfl, fun h => (tol_13 (Or.inl rfl) h).1 c3⟩) dX6_canBeTold_68
    · refine lv_iload_n hx hb dX6_canBeTold_57 rfl (lv_at hl 1 rfl) ?_
      refine lv_ldc hx hb hown (hts _ mk_X6_255) dX6_canBeTold_58 ?_
      refine lv_icmp_gt (tgt := 67) hx hb dX6_canBeTold_60 (by decide) (fun c4 => ?_) (fun c4 => ?_)
      · refine lv_iconst (v := 0) hx hb dX6_canBeTold_67 (by decide) ?_
        exact rd_zret hx hb hr hlocks (Or.inl rfl) hS (Or.inr ⟨rfl, fun h => (tol_13 (Or.inl rfl) h).2 c4⟩) dX6_canBeTold_68
      · refine lv_iconst (v := 1) hx hb dX6_canBeTold_63 (by decide) ?_
        refine lv_goto (tgt := 68) hx hb dX6_canBeTold_64 (by decide) ?_
        exact rd_zret hx hb hr hlocks (Or.inr rfl) hS (Or.inl ⟨rfl, Or.inr (Or.inl ⟨Or.inl rfl, c3, c4⟩)⟩) dX6_canBeTold_68
  · subst e5
    refine lv_tableIn (tgt := 69) hx hb dX6_canBeTold_1 (by decide) (by decide) rfl (by decide) ?_
    refine lv_iload_n hx hb dX6_canBeTold_69 rfl (lv_at hl 1 rfl) ?_
    refine lv_if_ne (tgt := 77) hx hb dX6_canBeTold_70 (by decide) (fun c5 => ?_) (fun c5 => ?_)
    · refine lv_iconst (v := 0) hx hb dX6_canBeTold_77 (by decide) ?_
      exact rd_zret hx hb hr hlocks (Or.inl rfl) hS (Or.inr ⟨rfl, fun h => c5 (tol_e (by decide) (by decide) (by decide) h)⟩) dX6_canBeTold_78
    · refine lv_iconst (v := 1) hx hb dX6_canBeTold_73 (by decide) ?_
      refine lv_goto (tgt := 78) hx hb dX6_canBeTold_74 (by decide) ?_
      exact rd_zret hx hb hr hlocks (Or.inr rfl) hS (Or.inl ⟨rfl, Or.inr (Or.inr ⟨Or.inl rfl, c5⟩)⟩) dX6_canBeTold_78
  · subst e5
    refine lv_tableIn (tgt := 53) hx hb dX6_canBeTold_1 (by decide) (by decide) rfl (by decide) ?_
    refine lv_iload_n hx hb dX6_canBeTold_53 rfl (lv_at hl 1 rfl) ?_
    refine lv_if_lt (tgt := 67) hx hb dX6_canBeTold_54 (by decide) (fun c6 => ?_) (fun c6 => ?_)
    · refine lv_iconst (v := 0) hx hb dX6_canBeTold_67 (by decide) ?_
      exact rd_zret hx hb hr hlocks (Or.inl rfl) hS (Or.inr ⟨rfl, fun h => (tol_13 (Or.inr rfl) h).1 c6⟩) dX6_canBeTold_68
    · refine lv_iload_n hx hb dX6_canBeTold_57 rfl (lv_at hl 1 rfl) ?_
      refine lv_ldc hx hb hown (hts _ mk_X6_255) dX6_canBeTold_58 ?_
      refine lv_icmp_gt (tgt := 67) hx hb dX6_canBeTold_60 (by decide) (fun c7 => ?_) (fun c7 => ?_)
      · refine lv_iconst (v := 0) hx hb dX6_canBeTold_67 (by decide) ?_
        exact rd_zret hx hb hr hlocks (Or.inl rfl) hS (Or.inr ⟨rfl, fun h => (tol_13 (Or.inr rfl) h).2 c7⟩) dX6_canBeTold_68
      · refine lv_iconst (v := 1) hx hb dX6_canBeTold_63 (by decide) ?_
        refine lv_goto (tgt := 68) hx hb dX6_canBeTold_64 (by decide) ?_
        exact rd_zret hx hb hr hlocks (Or.inr rfl) hS (Or.inl ⟨rfl, Or.inr (Or.inl ⟨Or.inr rfl, c6, c7⟩)⟩) dX6_canBeTold_68
  · subst e5
    refine lv_tableIn (tgt := 69) hx hb dX6_canBeTold_1 (by decide) (by decide) rfl (by decide) ?_
    refine lv_iload_n hx hb dX6_canBeTold_69 rfl (lv_at hl 1 rfl) ?_
    refine lv_if_ne (tgt := 77) hx hb dX6_canBeTold_70 (by decide) (fun c8 => ?_) (fun c8 => ?_)
    · refine lv_iconst (v := 0) hx hb dX6_canBeTold_77 (by decide) ?_
      exact rd_zret hx hb hr hlocks (Or.inl rfl) hS (Or.inr ⟨rfl, fun h => c8 (tol_e (by decide) (by decide) (by decide) h)⟩) dX6_canBeTold_78
    · refine lv_iconst (v := 1) hx hb dX6_canBeTold_73 (by decide) ?_
      refine lv_goto (tgt := 78) hx hb dX6_canBeTold_74 (by decide) ?_
      exact rd_zret hx hb hr hlocks (Or.inr rfl) hS (Or.inl ⟨rfl, Or.inr (Or.inr ⟨Or.inr rfl, c8⟩)⟩) dX6_canBeTold_78
set_option maxHeartbeats 4000000 in
set_option maxRecDepth 100000 in
theorem x_open (l : Launch) (G : GG) (x : Nat) (xa ta a b ga ua la lb lc : Nat → Nat) (tg gg : Nat → Option Nat) (xf tf f qf gf uf lf mf nf : Nat → Int32) (tr r q gr ur lr mr nr : Nat → Nat → Int32) (tb : Int32) (ra : Int32) (ca : Int32) (j : Nat) (hj : j < 6) (hjt : tbJ tb j) (htg : tg j = some (ta 0)) (hT1 : nL 12 (tf 1)) (hT2 : nL 12 (tf 2)) (hT3 : nL 12 (tf 3)) (hT4 : nOK 12 12 (tr 4)) : WrIs l yX6_open cX6_open 4 (some .boolean) ({ frames := 2, cells := 0, slots := 0, locals := 84 }) G (xM G x xa ta a b ga ua la lb lc tg gg xf tf f qf gf uf lf mf nf tr r q gr ur lr mr nr) [.ref x, .int tb, .int ra, .int ca] (fun qz w => ∃ (n_tf_0 : Int32) (n_tf_1 : Int32) (n_tf_2 : Int32) (n_tf_3 : Int32) (n_tr_4 : Nat → Int32) (n_tr_5 : Nat → Int32) (n_tr_6 : Nat → Int32) (n_tr_7 : Nat → Int32) (n_tr_8 : Nat → Int32) (n_tr_9 : Nat → Int32) (n_xf_0 : Int32), w = xM G x xa ta a b ga ua la lb lc tg gg (upd xf 0 n_xf_0) (upd (upd (upd (upd tf 0 n_tf_0) 1 n_tf_1) 2 n_tf_2) 3 n_tf_3) f qf gf uf lf mf nf (up2 (up2 (up2 (up2 (up2 (up2 tr 4 n_tr_4) 5 n_tr_5) 6 n_tr_6) 7 n_tr_7) 8 n_tr_8) 9 n_tr_9) r q gr ur lr mr nr ∧ (opX (tf 0) n_tf_0 tb ra ca j qz ∧ opRX ra ca qz (tf 1) (tf 2) (tr 4) n_tf_1 n_tf_2 n_tr_4 ∧ opRX2 ra ca qz (tf 3) (tr 5) (tr 6) (tr 7) (tr 8) (tr 9) n_tf_3 n_tr_5 n_tr_6 n_tr_7 n_tr_8 n_tr_9) ∧ (nL 12 n_tf_1) ∧ (nL 12 n_tf_2) ∧ (nL 12 n_tf_3) ∧ (nOK 12 12 n_tr_4)) := by
  refine ws_entryI (by decide +kernel) (Nat.le_of_ble_eq_true rfl) ?_
  intro p e s m below meth c A C0 hP hK hD hA hT ls hl
  have hS : va_S A s.heap s.heap [] := va_S.rf
  obtain ⟨hx, hb, hml, hown, hts, hr, hlocks, hin⟩ := C0
  have hown : s.vm.findClass RX6 = some m.cls := hown
  have hDD : ∀ xf' tf' f' qf' gf' uf' lf' mf' nf' tr' r' q' gr' ur' lr' mr' nr', va_D A (xM G x xa ta a b ga ua la lb lc tg gg xf' tf' f' qf' gf' uf' lf' mf' nf' tr' r' q' gr' ur' lr' mr' nr') := fun xf' tf' f' qf' gf' uf' lf' mf' nf' tr' r' q' gr' ur' lr' mr' nr' => D_same hD rfl
  have hl : lv_has ls 4 [(0, .ref x), (1, .int tb), (2, .int ra), (3, .int ca)] := hl
  refine lv_iload_n hx hb dX6_open_0 rfl (lv_at hl 1 rfl) ?_
  refine lv_if_lt (tgt := 22) hx hb dX6_open_1 (by decide) (fun c1 => ?_) (fun c1 => ?_)
  · refine lv_aload_n hx hb dX6_open_22 rfl (lv_at hl 0 rfl) ?_
    refine lv_iconst (v := 1) hx hb dX6_open_23 (by decide) ?_
    refine wrVIa (rest := []) (q0 := 0) ⟨hx, hb, hml, hown, hts⟩ (x_settled l G x xa ta a b ga ua la lb lc tg gg xf tf f qf gf uf lf mf nf tr r q gr ur lr mr nr 1  ) mi_yX6_settled mv_yX6_settled ml_X6_65 ⟨rfl, rfl, Nat.le_of_ble_eq_true rfl, Nat.le_of_ble_eq_true rfl⟩ hK hP (hDD _ _ _ _ _ _ _ _ _ _ _ _ _ _ _ _ _) rfl rfl rfl hl.1 rfl (Nat.le_of_ble_eq_true rfl) dX6_open_24 ⟨Nat.zero_le _, Nat.zero_le _⟩ hS hA (fun r2 w3 H locs hw3 hP hS => ?_)
    obtain ⟨x4, rfl, hw3r⟩ := hw3
    have hP : PP G (xM G x xa ta a b ga ua la lb lc tg gg (upd xf 0 x4) tf f qf gf uf lf mf nf tr r q gr ur lr mr nr) H := hP
    have hw3r : ((r2 = 1 ∧ ((1 : Int32) = 0)) ∨ (r2 = 0 ∧ ¬ ((1 : Int32) = 0))) := hw3r
    exact wr_zret hx hb hr hlocks ((hw3r.elim (fun q9 => Or.inr q9.1) (fun q9 => Or.inl q9.1))) hS hP ⟨(tf 0), (tf 1), (tf 2), (tf 3), (tr 4), (tr 5), (tr 6), (tr 7), (tr 8), (tr 9), x4, rfl, ⟨(opX_0 hw3r (by decide) (fun ⟨h1, h2, h3, h4, h5, h6⟩ => absurd (h1 ▸ c1) (nI_pos (by omega))) rfl), Or.inl ⟨b0_ hw3r (by decide), rfl, rfl, rfl⟩, Or.inl ⟨b0_ hw3r (by decide), rfl, rfl, rfl, rfl, rfl, rfl⟩⟩, hT1, hT2, hT3, hT4⟩ dX6_open_27
  · refine lv_iload_n hx hb dX6_open_4 rfl (lv_at hl 1 rfl) ?_
    refine lv_bipush (v := 6) hx hb dX6_open_5 (by decide) ?_
    refine lv_icmp_ge (tgt := 22) hx hb dX6_open_7 (by decide) (fun c5 => ?_) (fun c5 => ?_)
    · refine lv_aload_n hx hb dX6_open_22 rfl (lv_at hl 0 rfl) ?_
      refine lv_iconst (v := 1) hx hb dX6_open_23 (by decide) ?_
      refine wrVIa (rest := []) (q0 := 0) ⟨hx, hb, hml, hown, hts⟩ (x_settled l G x xa ta a b ga ua la lb lc tg gg xf tf f qf gf uf lf mf nf tr r q gr ur lr mr nr 1  ) mi_yX6_settled mv_yX6_settled ml_X6_65 ⟨rfl, rfl, Nat.le_of_ble_eq_true rfl, Nat.le_of_ble_eq_true rfl⟩ hK hP (hDD _ _ _ _ _ _ _ _ _ _ _ _ _ _ _ _ _) rfl rfl rfl hl.1 rfl (Nat.le_of_ble_eq_true rfl) dX6_open_24 ⟨Nat.zero_le _, Nat.zero_le _⟩ hS hA (fun r6 w7 H locs hw7 hP hS => ?_)
      obtain ⟨x8, rfl, hw7r⟩ := hw7
      have hP : PP G (xM G x xa ta a b ga ua la lb lc tg gg (upd xf 0 x8) tf f qf gf uf lf mf nf tr r q gr ur lr mr nr) H := hP
      have hw7r : ((r6 = 1 ∧ ((1 : Int32) = 0)) ∨ (r6 = 0 ∧ ¬ ((1 : Int32) = 0))) := hw7r
      exact wr_zret hx hb hr hlocks ((hw7r.elim (fun q9 => Or.inr q9.1) (fun q9 => Or.inl q9.1))) hS hP ⟨(tf 0), (tf 1), (tf 2), (tf 3), (tr 4), (tr 5), (tr 6), (tr 7), (tr 8), (tr 9), x8, rfl, ⟨(opX_0 hw7r (by decide) (fun ⟨h1, h2, h3, h4, h5, h6⟩ => absurd (h1 ▸ c5) (nI_ge hj (by decide))) rfl), Or.inl ⟨b0_ hw7r (by decide), rfl, rfl, rfl⟩, Or.inl ⟨b0_ hw7r (by decide), rfl, rfl, rfl, rfl, rfl, rfl⟩⟩, hT1, hT2, hT3, hT4⟩ dX6_open_27
    · refine lv_aload_n hx hb dX6_open_10 rfl (lv_at hl 0 rfl) ?_
      refine va_get (D := G.1) (ci := 6) (v := .ref (xa 1)) (C := RX6) (T := TX6) (N := 10) hx hb hts inX6 hown hK.1 hP 0 rfl rfl 1 (by decide) (hts _ mf_X6_15) (fun _ h9 => h9) rfl dX6_open_11 ?_
      refine lv_iload_n hx hb dX6_open_14 rfl (lv_at hl 1 rfl) ?_
      have ej := tb_j hjt c1 c5
      subst ej
      refine xaldT hx hb hK hP 1 (j) (b := (ta 0)) rfl (by omega) (by decide) rfl (htg) dX6_open_15 ?_
      refine va_get (D := G.1) (ci := 4) (v := .int (tf 0)) (C := RX4) (T := TX4) (N := 12) hx hb hts inX4 hown hK.1 hP 2 rfl rfl 0 (by decide) (hts _ mf_X6_61) (fun _ h9 => h9) rfl dX6_open_16 ?_
      refine lv_if_eq (tgt := 28) hx hb dX6_open_19 (by decide) (fun c9 => ?_) (fun c9 => ?_)
      · refine lv_iload_n hx hb dX6_open_28 rfl (lv_at hl 2 rfl) ?_
        refine lv_iconst (v := 1) hx hb dX6_open_29 (by decide) ?_
        refine lv_icmp_lt (tgt := 50) hx hb dX6_open_30 (by decide) (fun c10 => ?_) (fun c10 => ?_)
        · refine lv_aload_n hx hb dX6_open_50 rfl (lv_at hl 0 rfl) ?_
          refine lv_iconst (v := 2) hx hb dX6_open_51 (by decide) ?_
          refine wrVIa (rest := []) (q0 := 0) ⟨hx, hb, hml, hown, hts⟩ (x_settled l G x xa ta a b ga ua la lb lc tg gg xf tf f qf gf uf lf mf nf tr r q gr ur lr mr nr 2  ) mi_yX6_settled mv_yX6_settled ml_X6_65 ⟨rfl, rfl, Nat.le_of_ble_eq_true rfl, Nat.le_of_ble_eq_true rfl⟩ hK hP (hDD _ _ _ _ _ _ _ _ _ _ _ _ _ _ _ _ _) rfl rfl rfl hl.1 rfl (Nat.le_of_ble_eq_true rfl) dX6_open_52 ⟨Nat.zero_le _, Nat.zero_le _⟩ hS hA (fun r11 w12 H locs hw12 hP hS => ?_)
          obtain ⟨x13, rfl, hw12r⟩ := hw12
          have hP : PP G (xM G x xa ta a b ga ua la lb lc tg gg (upd xf 0 x13) tf f qf gf uf lf mf nf tr r q gr ur lr mr nr) H := hP
          have hw12r : ((r11 = 1 ∧ ((2 : Int32) = 0)) ∨ (r11 = 0 ∧ ¬ ((2 : Int32) = 0))) := hw12r
          exact wr_zret hx hb hr hlocks ((hw12r.elim (fun q9 => Or.inr q9.1) (fun q9 => Or.inl q9.1))) hS hP ⟨(tf 0), (tf 1), (tf 2), (tf 3), (tr 4), (tr 5), (tr 6), (tr 7), (tr 8), (tr 9), x13, rfl, ⟨(opX_0 hw12r (by decide) (fun ⟨h1, h2, h3, h4, h5, h6⟩ => h3 c10) rfl), Or.inl ⟨b0_ hw12r (by decide), rfl, rfl, rfl⟩, Or.inl ⟨b0_ hw12r (by decide), rfl, rfl, rfl, rfl, rfl, rfl⟩⟩, hT1, hT2, hT3, hT4⟩ dX6_open_55
        · refine lv_iload_n hx hb dX6_open_33 rfl (lv_at hl 2 rfl) ?_
          refine lv_bipush (v := 12) hx hb dX6_open_34 (by decide) ?_
          refine lv_icmp_gt (tgt := 50) hx hb dX6_open_36 (by decide) (fun c14 => ?_) (fun c14 => ?_)
          · refine lv_aload_n hx hb dX6_open_50 rfl (lv_at hl 0 rfl) ?_
            refine lv_iconst (v := 2) hx hb dX6_open_51 (by decide) ?_
            refine wrVIa (rest := []) (q0 := 0) ⟨hx, hb, hml, hown, hts⟩ (x_settled l G x xa ta a b ga ua la lb lc tg gg xf tf f qf gf uf lf mf nf tr r q gr ur lr mr nr 2  ) mi_yX6_settled mv_yX6_settled ml_X6_65 ⟨rfl, rfl, Nat.le_of_ble_eq_true rfl, Nat.le_of_ble_eq_true rfl⟩ hK hP (hDD _ _ _ _ _ _ _ _ _ _ _ _ _ _ _ _ _) rfl rfl rfl hl.1 rfl (Nat.le_of_ble_eq_true rfl) dX6_open_52 ⟨Nat.zero_le _, Nat.zero_le _⟩ hS hA (fun r15 w16 H locs hw16 hP hS => ?_)
            obtain ⟨x17, rfl, hw16r⟩ := hw16
            have hP : PP G (xM G x xa ta a b ga ua la lb lc tg gg (upd xf 0 x17) tf f qf gf uf lf mf nf tr r q gr ur lr mr nr) H := hP
            have hw16r : ((r15 = 1 ∧ ((2 : Int32) = 0)) ∨ (r15 = 0 ∧ ¬ ((2 : Int32) = 0))) := hw16r
            exact wr_zret hx hb hr hlocks ((hw16r.elim (fun q9 => Or.inr q9.1) (fun q9 => Or.inl q9.1))) hS hP ⟨(tf 0), (tf 1), (tf 2), (tf 3), (tr 4), (tr 5), (tr 6), (tr 7), (tr 8), (tr 9), x17, rfl, ⟨(opX_0 hw16r (by decide) (fun ⟨h1, h2, h3, h4, h5, h6⟩ => h4 c14) rfl), Or.inl ⟨b0_ hw16r (by decide), rfl, rfl, rfl⟩, Or.inl ⟨b0_ hw16r (by decide), rfl, rfl, rfl, rfl, rfl, rfl⟩⟩, hT1, hT2, hT3, hT4⟩ dX6_open_55
          · refine lv_iload_n hx hb dX6_open_39 rfl (lv_at hl 3 rfl) ?_
            refine lv_iconst (v := 1) hx hb dX6_open_40 (by decide) ?_
            refine lv_icmp_lt (tgt := 50) hx hb dX6_open_41 (by decide) (fun c18 => ?_) (fun c18 => ?_)
            · refine lv_aload_n hx hb dX6_open_50 rfl (lv_at hl 0 rfl) ?_
              refine lv_iconst (v := 2) hx hb dX6_open_51 (by decide) ?_
              refine wrVIa (rest := []) (q0 := 0) ⟨hx, hb, hml, hown, hts⟩ (x_settled l G x xa ta a b ga ua la lb lc tg gg xf tf f qf gf uf lf mf nf tr r q gr ur lr mr nr 2  ) mi_yX6_settled mv_yX6_settled ml_X6_65 ⟨rfl, rfl, Nat.le_of_ble_eq_true rfl, Nat.le_of_ble_eq_true rfl⟩ hK hP (hDD _ _ _ _ _ _ _ _ _ _ _ _ _ _ _ _ _) rfl rfl rfl hl.1 rfl (Nat.le_of_ble_eq_true rfl) dX6_open_52 ⟨Nat.zero_le _, Nat.zero_le _⟩ hS hA (fun r19 w20 H locs hw20 hP hS => ?_)
              obtain ⟨x21, rfl, hw20r⟩ := hw20
              have hP : PP G (xM G x xa ta a b ga ua la lb lc tg gg (upd xf 0 x21) tf f qf gf uf lf mf nf tr r q gr ur lr mr nr) H := hP
              have hw20r : ((r19 = 1 ∧ ((2 : Int32) = 0)) ∨ (r19 = 0 ∧ ¬ ((2 : Int32) = 0))) := hw20r
              exact wr_zret hx hb hr hlocks ((hw20r.elim (fun q9 => Or.inr q9.1) (fun q9 => Or.inl q9.1))) hS hP ⟨(tf 0), (tf 1), (tf 2), (tf 3), (tr 4), (tr 5), (tr 6), (tr 7), (tr 8), (tr 9), x21, rfl, ⟨(opX_0 hw20r (by decide) (fun ⟨h1, h2, h3, h4, h5, h6⟩ => h5 c18) rfl), Or.inl ⟨b0_ hw20r (by decide), rfl, rfl, rfl⟩, Or.inl ⟨b0_ hw20r (by decide), rfl, rfl, rfl, rfl, rfl, rfl⟩⟩, hT1, hT2, hT3, hT4⟩ dX6_open_55
            · refine lv_iload_n hx hb dX6_open_44 rfl (lv_at hl 3 rfl) ?_
              refine lv_bipush (v := 12) hx hb dX6_open_45 (by decide) ?_
              refine lv_icmp_le (tgt := 56) hx hb dX6_open_47 (by decide) (fun c22 => ?_) (fun c22 => ?_)
              · have k1 := c10
                have k2 := c14
                have k3 := c18
                have k4 := le_n c22
                obtain ⟨rn, hrn, e2⟩ := le_12 k1 k2
                obtain ⟨cn, hcn, e3⟩ := le_12 k3 k4
                subst e2
                subst e3
                refine lv_aload_n hx hb dX6_open_56 rfl (lv_at hl 0 rfl) ?_
                refine va_get (D := G.1) (ci := 6) (v := .ref (xa 1)) (C := RX6) (T := TX6) (N := 10) hx hb hts inX6 hown hK.1 hP 0 rfl rfl 1 (by decide) (hts _ mf_X6_15) (fun _ h9 => h9) rfl dX6_open_57 ?_
                refine lv_iload_n hx hb dX6_open_60 rfl (lv_at hl 1 rfl) ?_
                refine xaldT hx hb hK hP 1 (j) (b := (ta 0)) rfl (by omega) (by decide) rfl (htg) dX6_open_61 ?_
                refine lv_iload_n hx hb dX6_open_62 rfl (lv_at hl 2 rfl) ?_
                refine lv_iload_n hx hb dX6_open_63 rfl (lv_at hl 3 rfl) ?_
                refine lawVs (rest := []) (q0 := 0) ⟨hx, hb, hml, hown, hts⟩ (c_X4_begin l G ta tf tr rn cn (by omega) (by omega)) mi_yX4_begin mv_yX4_begin ml_X6_69 ⟨rfl, rfl, Nat.le_of_ble_eq_true rfl, Nat.le_of_ble_eq_true rfl⟩ hK hT hP (hDD _ _ _ _ _ _ _ _ _ _ _ _ _ _ _ _ _) (pl_perm (xBlk G x xa ta a b ga ua la lb lc tg gg xf tf f qf gf uf lf mf nf tr r q gr ur lr mr nr) (sel := [1]) (oth := [0, 2, 3, 4, 5, 6, 7, 8, 9]) (by decide)) rfl rfl rfl hl.1 rfl (Nat.le_of_ble_eq_true rfl) dX6_open_64 ⟨Nat.zero_le _, Nat.zero_le _⟩ hS hA (fun w24 H locs hw24 hP hS => ?_)
                obtain rfl := hw24
                have hP : PP G (xM G x xa ta a b ga ua la lb lc tg gg xf (upd (upd (upd (upd tf 0 1) 1 (nI rn)) 2 (nI cn)) 3 0) f qf gf uf lf mf nf (up2 (up2 (up2 (up2 (up2 (up2 tr 4 (flF (tr 4) (nI cn) 12)) 5 (clF cn rn 0 (tr 5))) 6 (clF cn rn 0 (tr 6))) 7 (clF cn rn 0 (tr 7))) 8 (clP cn rn 0 (tr 8))) 9 (va_cpy ruI (tr 9) 0 0 6)) r q gr ur lr mr nr) H := (hP rfl (xM G x xa ta a b ga ua la lb lc tg gg xf (upd (upd (upd (upd tf 0 1) 1 (nI rn)) 2 (nI cn)) 3 0) f qf gf uf lf mf nf (up2 (up2 (up2 (up2 (up2 (up2 tr 4 (flF (tr 4) (nI cn) 12)) 5 (clF cn rn 0 (tr 5))) 6 (clF cn rn 0 (tr 6))) 7 (clF cn rn 0 (tr 7))) 8 (clP cn rn 0 (tr 8))) 9 (va_cpy ruI (tr 9) 0 0 6)) r q gr ur lr mr nr) (pl_perm (xBlk G x xa ta a b ga ua la lb lc tg gg xf (upd (upd (upd (upd tf 0 1) 1 (nI rn)) 2 (nI cn)) 3 0) f qf gf uf lf mf nf (up2 (up2 (up2 (up2 (up2 (up2 tr 4 (flF (tr 4) (nI cn) 12)) 5 (clF cn rn 0 (tr 5))) 6 (clF cn rn 0 (tr 6))) 7 (clF cn rn 0 (tr 7))) 8 (clP cn rn 0 (tr 8))) 9 (va_cpy ruI (tr 9) 0 0 6)) r q gr ur lr mr nr) (sel := [1]) (oth := [0, 2, 3, 4, 5, 6, 7, 8, 9]) (by decide))).1
                have hT1 : nL 12 (nI rn) := ⟨rn, by omega, rfl⟩
                have hT2 : nL 12 (nI cn) := ⟨cn, by omega, rfl⟩
                have hT3 : nL 12 0 := ⟨0, by omega, rfl⟩
                have hT4 : nOK 12 12 (flF (tr 4) (nI cn) 12) := nOK_fl (by omega)
                refine lv_aload_n hx hb dX6_open_67 rfl (lv_at hl 0 rfl) ?_
                refine lv_iconst (v := 0) hx hb dX6_open_68 (by decide) ?_
                refine wrVIa (rest := []) (q0 := 0) ⟨hx, hb, hml, hown, hts⟩ (x_settled l G x xa ta a b ga ua la lb lc tg gg xf (upd (upd (upd (upd tf 0 1) 1 (nI rn)) 2 (nI cn)) 3 0) f qf gf uf lf mf nf (up2 (up2 (up2 (up2 (up2 (up2 tr 4 (flF (tr 4) (nI cn) 12)) 5 (clF cn rn 0 (tr 5))) 6 (clF cn rn 0 (tr 6))) 7 (clF cn rn 0 (tr 7))) 8 (clP cn rn 0 (tr 8))) 9 (va_cpy ruI (tr 9) 0 0 6)) r q gr ur lr mr nr 0  ) mi_yX6_settled mv_yX6_settled ml_X6_65 ⟨rfl, rfl, Nat.le_of_ble_eq_true rfl, Nat.le_of_ble_eq_true rfl⟩ hK hP (hDD _ _ _ _ _ _ _ _ _ _ _ _ _ _ _ _ _) rfl rfl rfl hl.1 rfl (Nat.le_of_ble_eq_true rfl) dX6_open_69 ⟨Nat.zero_le _, Nat.zero_le _⟩ hS hA (fun r25 w26 H locs hw26 hP hS => ?_)
                obtain ⟨x27, rfl, hw26r⟩ := hw26
                have hP : PP G (xM G x xa ta a b ga ua la lb lc tg gg (upd xf 0 x27) (upd (upd (upd (upd tf 0 1) 1 (nI rn)) 2 (nI cn)) 3 0) f qf gf uf lf mf nf (up2 (up2 (up2 (up2 (up2 (up2 tr 4 (flF (tr 4) (nI cn) 12)) 5 (clF cn rn 0 (tr 5))) 6 (clF cn rn 0 (tr 6))) 7 (clF cn rn 0 (tr 7))) 8 (clP cn rn 0 (tr 8))) 9 (va_cpy ruI (tr 9) 0 0 6)) r q gr ur lr mr nr) H := hP
                have hw26r : ((r25 = 1 ∧ ((0 : Int32) = 0)) ∨ (r25 = 0 ∧ ¬ ((0 : Int32) = 0))) := hw26r
                exact wr_zret hx hb hr hlocks ((hw26r.elim (fun q9 => Or.inr q9.1) (fun q9 => Or.inl q9.1))) hS hP ⟨1, (nI rn), (nI cn), 0, (flF (tr 4) (nI cn) 12), (clF cn rn 0 (tr 5)), (clF cn rn 0 (tr 6)), (clF cn rn 0 (tr 7)), (clP cn rn 0 (tr 8)), (va_cpy ruI (tr 9) 0 0 6), x27, rfl, ⟨(opX_1 hw26r rfl ⟨rfl, c9, k1, k2, k3, k4⟩ rfl), Or.inr ⟨b1_ hw26r, rfl, rfl, fun _ h9 => flF_lt h9⟩, Or.inr ⟨b1_ hw26r, rfl, rn, cn, by omega, by omega, rfl, rfl, rfl, rfl, rfl, rfl, rfl⟩⟩, hT1, hT2, hT3, hT4⟩ dX6_open_72
              · refine lv_aload_n hx hb dX6_open_50 rfl (lv_at hl 0 rfl) ?_
                refine lv_iconst (v := 2) hx hb dX6_open_51 (by decide) ?_
                refine wrVIa (rest := []) (q0 := 0) ⟨hx, hb, hml, hown, hts⟩ (x_settled l G x xa ta a b ga ua la lb lc tg gg xf tf f qf gf uf lf mf nf tr r q gr ur lr mr nr 2  ) mi_yX6_settled mv_yX6_settled ml_X6_65 ⟨rfl, rfl, Nat.le_of_ble_eq_true rfl, Nat.le_of_ble_eq_true rfl⟩ hK hP (hDD _ _ _ _ _ _ _ _ _ _ _ _ _ _ _ _ _) rfl rfl rfl hl.1 rfl (Nat.le_of_ble_eq_true rfl) dX6_open_52 ⟨Nat.zero_le _, Nat.zero_le _⟩ hS hA (fun r28 w29 H locs hw29 hP hS => ?_)
                obtain ⟨x30, rfl, hw29r⟩ := hw29
                have hP : PP G (xM G x xa ta a b ga ua la lb lc tg gg (upd xf 0 x30) tf f qf gf uf lf mf nf tr r q gr ur lr mr nr) H := hP
                have hw29r : ((r28 = 1 ∧ ((2 : Int32) = 0)) ∨ (r28 = 0 ∧ ¬ ((2 : Int32) = 0))) := hw29r
                exact wr_zret hx hb hr hlocks ((hw29r.elim (fun q9 => Or.inr q9.1) (fun q9 => Or.inl q9.1))) hS hP ⟨(tf 0), (tf 1), (tf 2), (tf 3), (tr 4), (tr 5), (tr 6), (tr 7), (tr 8), (tr 9), x30, rfl, ⟨(opX_0 hw29r (by decide) (fun ⟨h1, h2, h3, h4, h5, h6⟩ => h6 (n_le c22)) rfl), Or.inl ⟨b0_ hw29r (by decide), rfl, rfl, rfl⟩, Or.inl ⟨b0_ hw29r (by decide), rfl, rfl, rfl, rfl, rfl, rfl⟩⟩, hT1, hT2, hT3, hT4⟩ dX6_open_55
      · refine lv_aload_n hx hb dX6_open_22 rfl (lv_at hl 0 rfl) ?_
        refine lv_iconst (v := 1) hx hb dX6_open_23 (by decide) ?_
        refine wrVIa (rest := []) (q0 := 0) ⟨hx, hb, hml, hown, hts⟩ (x_settled l G x xa ta a b ga ua la lb lc tg gg xf tf f qf gf uf lf mf nf tr r q gr ur lr mr nr 1  ) mi_yX6_settled mv_yX6_settled ml_X6_65 ⟨rfl, rfl, Nat.le_of_ble_eq_true rfl, Nat.le_of_ble_eq_true rfl⟩ hK hP (hDD _ _ _ _ _ _ _ _ _ _ _ _ _ _ _ _ _) rfl rfl rfl hl.1 rfl (Nat.le_of_ble_eq_true rfl) dX6_open_24 ⟨Nat.zero_le _, Nat.zero_le _⟩ hS hA (fun r31 w32 H locs hw32 hP hS => ?_)
        obtain ⟨x33, rfl, hw32r⟩ := hw32
        have hP : PP G (xM G x xa ta a b ga ua la lb lc tg gg (upd xf 0 x33) tf f qf gf uf lf mf nf tr r q gr ur lr mr nr) H := hP
        have hw32r : ((r31 = 1 ∧ ((1 : Int32) = 0)) ∨ (r31 = 0 ∧ ¬ ((1 : Int32) = 0))) := hw32r
        exact wr_zret hx hb hr hlocks ((hw32r.elim (fun q9 => Or.inr q9.1) (fun q9 => Or.inl q9.1))) hS hP ⟨(tf 0), (tf 1), (tf 2), (tf 3), (tr 4), (tr 5), (tr 6), (tr 7), (tr 8), (tr 9), x33, rfl, ⟨(opX_0 hw32r (by decide) (fun ⟨h1, h2, h3, h4, h5, h6⟩ => c9 h2) rfl), Or.inl ⟨b0_ hw32r (by decide), rfl, rfl, rfl⟩, Or.inl ⟨b0_ hw32r (by decide), rfl, rfl, rfl, rfl, rfl, rfl⟩⟩, hT1, hT2, hT3, hT4⟩ dX6_open_27
set_option maxHeartbeats 4000000 in
set_option maxRecDepth 100000 in
theorem x_close (l : Launch) (G : GG) (x : Nat) (xa ta a b ga ua la lb lc : Nat → Nat) (tg gg : Nat → Option Nat) (xf tf f qf gf uf lf mf nf : Nat → Int32) (tr r q gr ur lr mr nr : Nat → Nat → Int32) (tb : Int32) (j : Nat) (hj : j < 6) (hjt : tbJ tb j) (htg : tg j = some (ta 0)) (hT1 : nL 12 (tf 1)) (hT2 : nL 12 (tf 2)) (hT3 : nL 12 (tf 3)) (hT4 : nOK 12 12 (tr 4)) : WrI l yX6_close cX6_close 2 (some .boolean) ({ frames := 1, cells := 0, slots := 0, locals := 21 }) G (xM G x xa ta a b ga ua la lb lc tg gg xf tf f qf gf uf lf mf nf tr r q gr ur lr mr nr) [.ref x, .int tb] (fun qz w => ∃ (n_tf_0 : Int32) (n_xf_0 : Int32), w = xM G x xa ta a b ga ua la lb lc tg gg (upd xf 0 n_xf_0) (upd tf 0 n_tf_0) f qf gf uf lf mf nf tr r q gr ur lr mr nr ∧ clX (tf 0) n_tf_0 tb j qz) := by
  refine wr_entryI (by decide +kernel) (Nat.le_of_ble_eq_true rfl) ?_
  intro p e s m below meth c A C0 hP hK hD hA ls hl
  have hS : va_S A s.heap s.heap [] := va_S.rf
  obtain ⟨hx, hb, hml, hown, hts, hr, hlocks, hin⟩ := C0
  have hown : s.vm.findClass RX6 = some m.cls := hown
  have hDD : ∀ xf' tf' f' qf' gf' uf' lf' mf' nf' tr' r' q' gr' ur' lr' mr' nr', va_D A (xM G x xa ta a b ga ua la lb lc tg gg xf' tf' f' qf' gf' uf' lf' mf' nf' tr' r' q' gr' ur' lr' mr' nr') := fun xf' tf' f' qf' gf' uf' lf' mf' nf' tr' r' q' gr' ur' lr' mr' nr' => D_same hD rfl
  have hl : lv_has ls 2 [(0, .ref x), (1, .int tb)] := hl
  refine lv_aload_n hx hb dX6_close_0 rfl (lv_at hl 0 rfl) ?_
  refine lv_aload_n hx hb dX6_close_1 rfl (lv_at hl 0 rfl) ?_
  refine lv_iload_n hx hb dX6_close_2 rfl (lv_at hl 1 rfl) ?_
  refine rdV (rest := [.ref x]) (q0 := 0) ⟨hx, hb, hml, hown, hts⟩ (x_tableStatus l G x xa ta a b ga ua la lb lc tg gg xf tf f qf gf uf lf mf nf tr r q gr ur lr mr nr tb j (by omega) hjt htg) mi_yX6_tableStatus mv_yX6_tableStatus ml_X6_73 ⟨rfl, rfl, Nat.le_of_ble_eq_true rfl, Nat.le_of_ble_eq_true rfl⟩ hK (hP) rfl rfl rfl hl.1 rfl (Nat.le_of_ble_eq_true rfl) dX6_close_3 ⟨Nat.zero_le _, Nat.zero_le _⟩ hS hA hP (fun r1 H locs hr1 hP hS => ?_)
  have hr1 : ((r1 = 0 ∧ tbO tb j (tf 0)) ∨ (r1 = 1 ∧ ¬ tbO tb j (tf 0))) := hr1
  refine wrVIa (rest := []) (q0 := 0) ⟨hx, hb, hml, hown, hts⟩ (x_settled l G x xa ta a b ga ua la lb lc tg gg xf tf f qf gf uf lf mf nf tr r q gr ur lr mr nr r1  ) mi_yX6_settled mv_yX6_settled ml_X6_65 ⟨rfl, rfl, Nat.le_of_ble_eq_true rfl, Nat.le_of_ble_eq_true rfl⟩ hK hP (hDD _ _ _ _ _ _ _ _ _ _ _ _ _ _ _ _ _) rfl rfl rfl hl.1 rfl (Nat.le_of_ble_eq_true rfl) dX6_close_6 ⟨Nat.zero_le _, Nat.zero_le _⟩ hS hA (fun r2 w3 H locs hw3 hP hS => ?_)
  obtain ⟨x4, rfl, hw3r⟩ := hw3
  have hP : PP G (xM G x xa ta a b ga ua la lb lc tg gg (upd xf 0 x4) tf f qf gf uf lf mf nf tr r q gr ur lr mr nr) H := hP
  have hw3r : ((r2 = 1 ∧ ((r1 : Int32) = 0)) ∨ (r2 = 0 ∧ ¬ ((r1 : Int32) = 0))) := hw3r
  refine lv_if_ne (tgt := 14) hx hb dX6_close_9 (by decide) (fun c5 => ?_) (fun c5 => ?_)
  · have b9 := bT hw3r c5
    obtain ⟨ej, ho⟩ := st0 hr1 b9
    subst ej
    obtain ⟨rw, hrw, t1⟩ := hT1
    obtain ⟨cl, hcl, t2⟩ := hT2
    obtain ⟨bk, hbk, t3⟩ := hT3
    have hT1 : nL 12 (tf 1) := ⟨rw, hrw, t1⟩
    have hT2 : nL 12 (tf 2) := ⟨cl, hcl, t2⟩
    have hT3 : nL 12 (tf 3) := ⟨bk, hbk, t3⟩
    refine lv_aload_n hx hb dX6_close_14 rfl (lv_at hl 0 rfl) ?_
    refine va_get (D := G.1) (ci := 6) (v := .ref (xa 1)) (C := RX6) (T := TX6) (N := 10) hx hb hts inX6 hown hK.1 hP 0 rfl rfl 1 (by decide) (hts _ mf_X6_15) (fun _ h9 => h9) rfl dX6_close_15 ?_
    refine lv_iload_n hx hb dX6_close_18 rfl (lv_at hl 1 rfl) ?_
    refine xaldT hx hb hK hP 1 (j) (b := (ta 0)) rfl (by omega) (by decide) rfl (htg) dX6_close_19 ?_
    refine lv_iconst (v := 0) hx hb dX6_close_20 (by decide) ?_
    refine va_put (D := G.1) (ci := 4) (v := .int 0) (C := RX4) (T := TX4) (N := 12) hx hb hts inX4 tyX4 tyX4_ok nmX4 hown hK.1 hP (hDD _ _ _ _ _ _ _ _ _ _ _ _ _ _ _ _ _) hS 2 rfl rfl 0 (by decide) (hts _ mf_X6_61) (fun _ h9 => h9) rfl (tyX4_ok 0 (by decide)) (rfl) (rfl) (Nat.le_of_ble_eq_true rfl) dX6_close_21 (fun H locs hP _ hS => ?_)
    have hP : PP G (xM G x xa ta a b ga ua la lb lc tg gg (upd xf 0 x4) (upd tf 0 0) f qf gf uf lf mf nf tr r q gr ur lr mr nr) H := hP
    refine lv_iconst (v := 1) hx hb dX6_close_24 (by decide) ?_
    exact wr_zret hx hb hr hlocks (Or.inr rfl) hS hP ⟨0, x4, rfl, Or.inl ⟨rfl, ⟨rfl, ho⟩, rfl⟩⟩ dX6_close_25
  · have b9 := bF hw3r c5
    refine lv_iconst (v := 0) hx hb dX6_close_12 (by decide) ?_
    exact wr_zret hx hb hr hlocks (Or.inl rfl) hS hP ⟨(tf 0), x4, rfl, Or.inr ⟨rfl, st1 hr1 b9, rfl⟩⟩ dX6_close_13

