theorem ml_X6_73 : Cond.methodLink RX6 73 yX6_tableStatus ∈ TB := TB_t2 86 (by decide +kernel) rfl
theorem mcode_yX6_tableStatus : Cond.code yX6_tableStatus cX6_tableStatus 2 (some .int) ∈ TB := TB_t2 89 (by decide +kernel) rfl
theorem mi_yX6_tableStatus : MI yX6_tableStatus cX6_tableStatus 2 (some .int) 1 := ⟨mz_RX6, mcode_yX6_tableStatus, by decide +kernel, by decide +kernel, by decide +kernel⟩
theorem mim_yX6_tableStatus : Cond.instanceMethod yX6_tableStatus ∈ TB := TB_t2 88 (by decide +kernel) rfl
theorem msel_yX6_tableStatus : Cond.selects yX6_tableStatus.cls yX6_tableStatus yX6_tableStatus ∈ TB := TB_s (n := 10) 1 (by decide +kernel)
theorem mv_yX6_tableStatus : Cond.instanceMethod yX6_tableStatus ∈ TB ∧ Cond.selects yX6_tableStatus.cls yX6_tableStatus yX6_tableStatus ∈ TB := ⟨mim_yX6_tableStatus, msel_yX6_tableStatus⟩
theorem mf_X6_119 : Cond.fieldLink RX6 119 "CellKeeper$Table" "rows" "I" ∈ TB := TB_t1 215 (by decide +kernel) rfl
theorem ml_X6_110 : Cond.methodLink RX6 110 yX6_rowStatus ∈ TB := TB_t2 104 (by decide +kernel) rfl
theorem mcode_yX6_rowStatus : Cond.code yX6_rowStatus cX6_rowStatus 4 (some .int) ∈ TB := TB_t2 107 (by decide +kernel) rfl
theorem mi_yX6_rowStatus : MI yX6_rowStatus cX6_rowStatus 4 (some .int) 2 := ⟨mz_RX6, mcode_yX6_rowStatus, by decide +kernel, by decide +kernel, by decide +kernel⟩
theorem mim_yX6_rowStatus : Cond.instanceMethod yX6_rowStatus ∈ TB := TB_t2 106 (by decide +kernel) rfl
theorem msel_yX6_rowStatus : Cond.selects yX6_rowStatus.cls yX6_rowStatus yX6_rowStatus ∈ TB := TB_s (n := 10) 3 (by decide +kernel)
theorem mv_yX6_rowStatus : Cond.instanceMethod yX6_rowStatus ∈ TB ∧ Cond.selects yX6_rowStatus.cls yX6_rowStatus yX6_rowStatus ∈ TB := ⟨mim_yX6_rowStatus, msel_yX6_rowStatus⟩
theorem mf_X6_159 : Cond.fieldLink RX6 159 "CellKeeper$Table" "columns" "I" ∈ TB := TB_t1 218 (by decide +kernel) rfl
theorem mf_X6_113 : Cond.fieldLink RX6 113 "CellKeeper$Table" "places" "[I" ∈ TB := TB_t1 222 (by decide +kernel) rfl
theorem ml_X6_84 : Cond.methodLink RX6 84 yX6_placeStatus ∈ TB := TB_t2 100 (by decide +kernel) rfl
theorem mcode_yX6_placeStatus : Cond.code yX6_placeStatus cX6_placeStatus 6 (some .int) ∈ TB := TB_t2 103 (by decide +kernel) rfl
theorem mi_yX6_placeStatus : MI yX6_placeStatus cX6_placeStatus 6 (some .int) 3 := ⟨mz_RX6, mcode_yX6_placeStatus, by decide +kernel, by decide +kernel, by decide +kernel⟩
theorem mim_yX6_placeStatus : Cond.instanceMethod yX6_placeStatus ∈ TB := TB_t2 102 (by decide +kernel) rfl
theorem msel_yX6_placeStatus : Cond.selects yX6_placeStatus.cls yX6_placeStatus yX6_placeStatus ∈ TB := TB_s (n := 10) 2 (by decide +kernel)
theorem mv_yX6_placeStatus : Cond.instanceMethod yX6_placeStatus ∈ TB ∧ Cond.selects yX6_placeStatus.cls yX6_placeStatus yX6_placeStatus ∈ TB := ⟨mim_yX6_placeStatus, msel_yX6_placeStatus⟩
theorem mf_X6_134 : Cond.fieldLink RX6 134 "CellKeeper$Table" "kind" "[I" ∈ TB := TB_t1 225 (by decide +kernel) rfl
theorem ml_X6_92 : Cond.methodLink RX6 92 yX6_spotOf ∈ TB := TB_t2 112 (by decide +kernel) rfl
theorem ml_X6_107 : Cond.methodLink RX6 107 yX6_filledStatus ∈ TB := TB_t2 122 (by decide +kernel) rfl
theorem mcode_yX6_filledStatus : Cond.code yX6_filledStatus cX6_filledStatus 5 (some .int) ∈ TB := TB_t2 125 (by decide +kernel) rfl
theorem mi_yX6_filledStatus : MI yX6_filledStatus cX6_filledStatus 5 (some .int) 3 := ⟨mz_RX6, mcode_yX6_filledStatus, by decide +kernel, by decide +kernel, by decide +kernel⟩
theorem mim_yX6_filledStatus : Cond.instanceMethod yX6_filledStatus ∈ TB := TB_t2 124 (by decide +kernel) rfl
theorem msel_yX6_filledStatus : Cond.selects yX6_filledStatus.cls yX6_filledStatus yX6_filledStatus ∈ TB := TB_s (n := 10) 5 (by decide +kernel)
theorem mv_yX6_filledStatus : Cond.instanceMethod yX6_filledStatus ∈ TB ∧ Cond.selects yX6_filledStatus.cls yX6_filledStatus yX6_filledStatus ∈ TB := ⟨mim_yX6_filledStatus, msel_yX6_filledStatus⟩
theorem ml_X6_174 : Cond.methodLink RX6 174 yX6_cellStatus ∈ TB := TB_t2 188 (by decide +kernel) rfl
theorem mcode_yX6_cellStatus : Cond.code yX6_cellStatus cX6_cellStatus 5 (some .int) ∈ TB := TB_t2 191 (by decide +kernel) rfl
theorem mi_yX6_cellStatus : MI yX6_cellStatus cX6_cellStatus 5 (some .int) 3 := ⟨mz_RX6, mcode_yX6_cellStatus, by decide +kernel, by decide +kernel, by decide +kernel⟩
theorem mim_yX6_cellStatus : Cond.instanceMethod yX6_cellStatus ∈ TB := TB_t2 190 (by decide +kernel) rfl
theorem msel_yX6_cellStatus : Cond.selects yX6_cellStatus.cls yX6_cellStatus yX6_cellStatus ∈ TB := TB_s (n := 10) 8 (by decide +kernel)
theorem mv_yX6_cellStatus : Cond.instanceMethod yX6_cellStatus ∈ TB ∧ Cond.selects yX6_cellStatus.cls yX6_cellStatus yX6_cellStatus ∈ TB := ⟨mim_yX6_cellStatus, msel_yX6_cellStatus⟩
theorem ml_X6_153 : Cond.methodLink RX6 153 yX4_isSound ∈ TB := TB_t2 204 (by decide +kernel) rfl
theorem mk_X6_255 : Cond.constant RX6 255 (1000000) ∈ TB := TB_t2 111 (by decide +kernel) rfl
theorem ml_X6_65 : Cond.methodLink RX6 65 yX6_settled ∈ TB := TB_t2 61 (by decide +kernel) rfl
theorem mcode_yX6_settled : Cond.code yX6_settled cX6_settled 2 (some .boolean) ∈ TB := TB_t2 64 (by decide +kernel) rfl
theorem mi_yX6_settled : MI yX6_settled cX6_settled 2 (some .boolean) 1 := ⟨mz_RX6, mcode_yX6_settled, by decide +kernel, by decide +kernel, by decide +kernel⟩
theorem mim_yX6_settled : Cond.instanceMethod yX6_settled ∈ TB := TB_t2 63 (by decide +kernel) rfl
theorem msel_yX6_settled : Cond.selects yX6_settled.cls yX6_settled yX6_settled ∈ TB := TB_s (n := 10) 0 (by decide +kernel)
theorem mv_yX6_settled : Cond.instanceMethod yX6_settled ∈ TB ∧ Cond.selects yX6_settled.cls yX6_settled yX6_settled ∈ TB := ⟨mim_yX6_settled, msel_yX6_settled⟩
theorem ml_X6_69 : Cond.methodLink RX6 69 yX4_begin ∈ TB := TB_t2 65 (by decide +kernel) rfl
theorem mcode_yX4_begin : Cond.code yX4_begin cX4_begin 5 none ∈ TB := TB_t2 68 (by decide +kernel) rfl
theorem mi_yX4_begin : MI yX4_begin cX4_begin 5 none 2 := ⟨mz_RX4, mcode_yX4_begin, by decide +kernel, by decide +kernel, by decide +kernel⟩
theorem mim_yX4_begin : Cond.instanceMethod yX4_begin ∈ TB := TB_t2 66 (by decide +kernel) rfl
theorem msel_yX4_begin : Cond.selects yX4_begin.cls yX4_begin yX4_begin ∈ TB := TB_t2 67 (by decide +kernel) rfl
theorem mv_yX4_begin : Cond.instanceMethod yX4_begin ∈ TB ∧ Cond.selects yX4_begin.cls yX4_begin yX4_begin ∈ TB := ⟨mim_yX4_begin, msel_yX4_begin⟩
theorem ml_X0_41 : Cond.methodLink RX0 41 yX0_forgetPlan ∈ TB := TB_t3 171 (by decide +kernel) rfl
theorem mcode_yX0_forgetPlan : Cond.code yX0_forgetPlan cX0_forgetPlan 2 none ∈ TB := TB_t3 174 (by decide +kernel) rfl
theorem mi_yX0_forgetPlan : MI yX0_forgetPlan cX0_forgetPlan 2 none 0 := ⟨mz_RX0, mcode_yX0_forgetPlan, by decide +kernel, by decide +kernel, by decide +kernel⟩
theorem mim_yX0_forgetPlan : Cond.instanceMethod yX0_forgetPlan ∈ TB := TB_t3 173 (by decide +kernel) rfl
theorem msel_yX0_forgetPlan : Cond.selects yX0_forgetPlan.cls yX0_forgetPlan yX0_forgetPlan ∈ TB := TB_s (n := 9) 20 (by decide +kernel)
theorem mv_yX0_forgetPlan : Cond.instanceMethod yX0_forgetPlan ∈ TB ∧ Cond.selects yX0_forgetPlan.cls yX0_forgetPlan yX0_forgetPlan ∈ TB := ⟨mim_yX0_forgetPlan, msel_yX0_forgetPlan⟩
theorem ml_X0_71 : Cond.methodLink RX0 71 yX0_tellPlanned ∈ TB := TB_t3 202 (by decide +kernel) rfl
theorem mcode_yX0_tellPlanned : Cond.code yX0_tellPlanned cX0_tellPlanned 3 none ∈ TB := TB_t3 205 (by decide +kernel) rfl
theorem mi_yX0_tellPlanned : MI yX0_tellPlanned cX0_tellPlanned 3 none 1 := ⟨mz_RX0, mcode_yX0_tellPlanned, by decide +kernel, by decide +kernel, by decide +kernel⟩
theorem mim_yX0_tellPlanned : Cond.instanceMethod yX0_tellPlanned ∈ TB := TB_t3 204 (by decide +kernel) rfl
theorem msel_yX0_tellPlanned : Cond.selects yX0_tellPlanned.cls yX0_tellPlanned yX0_tellPlanned ∈ TB := TB_s (n := 9) 25 (by decide +kernel)
theorem mv_yX0_tellPlanned : Cond.instanceMethod yX0_tellPlanned ∈ TB ∧ Cond.selects yX0_tellPlanned.cls yX0_tellPlanned yX0_tellPlanned ∈ TB := ⟨mim_yX0_tellPlanned, msel_yX0_tellPlanned⟩
theorem ml_X0_63 : Cond.methodLink RX0 63 yX0_findThree ∈ TB := TB_t3 177 (by decide +kernel) rfl
theorem mcode_yX0_findThree : Cond.code yX0_findThree cX0_findThree 13 none ∈ TB := TB_t3 180 (by decide +kernel) rfl
theorem mi_yX0_findThree : MI yX0_findThree cX0_findThree 13 none 4 := ⟨mz_RX0, mcode_yX0_findThree, by decide +kernel, by decide +kernel, by decide +kernel⟩
theorem mim_yX0_findThree : Cond.instanceMethod yX0_findThree ∈ TB := TB_t3 179 (by decide +kernel) rfl
theorem msel_yX0_findThree : Cond.selects yX0_findThree.cls yX0_findThree yX0_findThree ∈ TB := TB_s (n := 9) 21 (by decide +kernel)
theorem mv_yX0_findThree : Cond.instanceMethod yX0_findThree ∈ TB ∧ Cond.selects yX0_findThree.cls yX0_findThree yX0_findThree ∈ TB := ⟨mim_yX0_findThree, msel_yX0_findThree⟩
theorem ml_X0_67 : Cond.methodLink RX0 67 yX0_keepThree ∈ TB := TB_t3 190 (by decide +kernel) rfl
theorem mcode_yX0_keepThree : Cond.code yX0_keepThree cX0_keepThree 4 (some .int) ∈ TB := TB_t3 193 (by decide +kernel) rfl
theorem mi_yX0_keepThree : MI yX0_keepThree cX0_keepThree 4 (some .int) 3 := ⟨mz_RX0, mcode_yX0_keepThree, by decide +kernel, by decide +kernel, by decide +kernel⟩
theorem mim_yX0_keepThree : Cond.instanceMethod yX0_keepThree ∈ TB := TB_t3 192 (by decide +kernel) rfl
theorem msel_yX0_keepThree : Cond.selects yX0_keepThree.cls yX0_keepThree yX0_keepThree ∈ TB := TB_s (n := 9) 23 (by decide +kernel)
theorem mv_yX0_keepThree : Cond.instanceMethod yX0_keepThree ∈ TB ∧ Cond.selects yX0_keepThree.cls yX0_keepThree yX0_keepThree ∈ TB := ⟨mim_yX0_keepThree, msel_yX0_keepThree⟩
theorem mf_X6_77 : Cond.fieldLink RX6 77 "CellKeeper" "RULES_AT_MOST" "[I" ∈ TB := TB_t2 94 (by decide +kernel) rfl
theorem mf_X6_81 : Cond.fieldLink RX6 81 "CellKeeper$Table" "rules" "[I" ∈ TB := TB_t1 234 (by decide +kernel) rfl
theorem ml_X6_88 : Cond.methodLink RX6 88 yX6_canBeTold ∈ TB := TB_t2 108 (by decide +kernel) rfl
theorem mcode_yX6_canBeTold : Cond.code yX6_canBeTold cX6_canBeTold 2 (some .boolean) ∈ TB := TB_t2 110 (by decide +kernel) rfl
theorem mi_yX6_canBeTold : MI yX6_canBeTold cX6_canBeTold 2 (some .boolean) 2 := ⟨mz_RX6, mcode_yX6_canBeTold, by decide +kernel, by decide +kernel, by decide +kernel⟩
theorem mst_yX6_canBeTold : Cond.static yX6_canBeTold ∈ TB := TB_t2 109 (by decide +kernel) rfl
theorem ml_X6_96 : Cond.methodLink RX6 96 yX4_put ∈ TB := TB_t2 113 (by decide +kernel) rfl
theorem ml_X6_100 : Cond.methodLink RX6 100 yX6_amountStatus ∈ TB := TB_t2 118 (by decide +kernel) rfl
theorem mcode_yX6_amountStatus : Cond.code yX6_amountStatus cX6_amountStatus 5 (some .int) ∈ TB := TB_t2 121 (by decide +kernel) rfl
theorem mi_yX6_amountStatus : MI yX6_amountStatus cX6_amountStatus 5 (some .int) 3 := ⟨mz_RX6, mcode_yX6_amountStatus, by decide +kernel, by decide +kernel, by decide +kernel⟩
theorem mim_yX6_amountStatus : Cond.instanceMethod yX6_amountStatus ∈ TB := TB_t2 120 (by decide +kernel) rfl
theorem msel_yX6_amountStatus : Cond.selects yX6_amountStatus.cls yX6_amountStatus yX6_amountStatus ∈ TB := TB_s (n := 10) 4 (by decide +kernel)
theorem mv_yX6_amountStatus : Cond.instanceMethod yX6_amountStatus ∈ TB ∧ Cond.selects yX6_amountStatus.cls yX6_amountStatus yX6_amountStatus ∈ TB := ⟨mim_yX6_amountStatus, msel_yX6_amountStatus⟩
theorem mk_X6_103 : Cond.constant RX6 103 (100000) ∈ TB := TB_t2 126 (by decide +kernel) rfl
theorem ml_X6_104 : Cond.methodLink RX6 104 yX4_addGiver ∈ TB := TB_t2 127 (by decide +kernel) rfl
theorem mcode_yX4_addGiver : Cond.code yX4_addGiver cX4_addGiver 4 (some .boolean) ∈ TB := TB_t2 130 (by decide +kernel) rfl
theorem mi_yX4_addGiver : MI yX4_addGiver cX4_addGiver 4 (some .boolean) 2 := ⟨mz_RX4, mcode_yX4_addGiver, by decide +kernel, by decide +kernel, by decide +kernel⟩
theorem mim_yX4_addGiver : Cond.instanceMethod yX4_addGiver ∈ TB := TB_t2 128 (by decide +kernel) rfl
theorem msel_yX4_addGiver : Cond.selects yX4_addGiver.cls yX4_addGiver yX4_addGiver ∈ TB := TB_t2 129 (by decide +kernel) rfl
theorem mv_yX4_addGiver : Cond.instanceMethod yX4_addGiver ∈ TB ∧ Cond.selects yX4_addGiver.cls yX4_addGiver yX4_addGiver ∈ TB := ⟨mim_yX4_addGiver, msel_yX4_addGiver⟩
theorem ml_X6_116 : Cond.methodLink RX6 116 yX4_shorten ∈ TB := TB_t2 143 (by decide +kernel) rfl
theorem mcode_yX4_shorten : Cond.code yX4_shorten cX4_shorten 4 none ∈ TB := TB_t2 146 (by decide +kernel) rfl
theorem mi_yX4_shorten : MI yX4_shorten cX4_shorten 4 none 2 := ⟨mz_RX4, mcode_yX4_shorten, by decide +kernel, by decide +kernel, by decide +kernel⟩
theorem mim_yX4_shorten : Cond.instanceMethod yX4_shorten ∈ TB := TB_t2 144 (by decide +kernel) rfl
theorem msel_yX4_shorten : Cond.selects yX4_shorten.cls yX4_shorten yX4_shorten ∈ TB := TB_t2 145 (by decide +kernel) rfl
theorem mv_yX4_shorten : Cond.instanceMethod yX4_shorten ∈ TB ∧ Cond.selects yX4_shorten.cls yX4_shorten yX4_shorten ∈ TB := ⟨mim_yX4_shorten, msel_yX4_shorten⟩
theorem ml_X6_122 : Cond.methodLink RX6 122 yX6_refused ∈ TB := TB_t2 151 (by decide +kernel) rfl
theorem mcode_yX6_refused : Cond.code yX6_refused cX6_refused 2 (some .int) ∈ TB := TB_t2 154 (by decide +kernel) rfl
theorem mi_yX6_refused : MI yX6_refused cX6_refused 2 (some .int) 1 := ⟨mz_RX6, mcode_yX6_refused, by decide +kernel, by decide +kernel, by decide +kernel⟩
theorem mim_yX6_refused : Cond.instanceMethod yX6_refused ∈ TB := TB_t2 153 (by decide +kernel) rfl
theorem msel_yX6_refused : Cond.selects yX6_refused.cls yX6_refused yX6_refused ∈ TB := TB_s (n := 10) 6 (by decide +kernel)
theorem mv_yX6_refused : Cond.instanceMethod yX6_refused ∈ TB ∧ Cond.selects yX6_refused.cls yX6_refused yX6_refused ∈ TB := ⟨mim_yX6_refused, msel_yX6_refused⟩
theorem mf_X6_125 : Cond.fieldLink RX6 125 "CellKeeper$Table" "blocks" "I" ∈ TB := TB_t1 220 (by decide +kernel) rfl
theorem ml_X6_128 : Cond.methodLink RX6 128 yX4_mayLie ∈ TB := TB_t2 155 (by decide +kernel) rfl
theorem mcode_yX4_mayLie : Cond.code yX4_mayLie cX4_mayLie 8 (some .boolean) ∈ TB := TB_t2 158 (by decide +kernel) rfl
theorem mi_yX4_mayLie : MI yX4_mayLie cX4_mayLie 8 (some .boolean) 2 := ⟨mz_RX4, mcode_yX4_mayLie, by decide +kernel, by decide +kernel, by decide +kernel⟩
theorem mim_yX4_mayLie : Cond.instanceMethod yX4_mayLie ∈ TB := TB_t2 156 (by decide +kernel) rfl
theorem msel_yX4_mayLie : Cond.selects yX4_mayLie.cls yX4_mayLie yX4_mayLie ∈ TB := TB_t2 157 (by decide +kernel) rfl
theorem mv_yX4_mayLie : Cond.instanceMethod yX4_mayLie ∈ TB ∧ Cond.selects yX4_mayLie.cls yX4_mayLie yX4_mayLie ∈ TB := ⟨mim_yX4_mayLie, msel_yX4_mayLie⟩
theorem ml_X6_131 : Cond.methodLink RX6 131 yX4_addBlock ∈ TB := TB_t2 159 (by decide +kernel) rfl
theorem mcode_yX4_addBlock : Cond.code yX4_addBlock cX4_addBlock 3 none ∈ TB := TB_t2 162 (by decide +kernel) rfl
theorem mi_yX4_addBlock : MI yX4_addBlock cX4_addBlock 3 none 2 := ⟨mz_RX4, mcode_yX4_addBlock, by decide +kernel, by decide +kernel, by decide +kernel⟩
theorem mim_yX4_addBlock : Cond.instanceMethod yX4_addBlock ∈ TB := TB_t2 160 (by decide +kernel) rfl
theorem msel_yX4_addBlock : Cond.selects yX4_addBlock.cls yX4_addBlock yX4_addBlock ∈ TB := TB_t2 161 (by decide +kernel) rfl
theorem mv_yX4_addBlock : Cond.instanceMethod yX4_addBlock ∈ TB ∧ Cond.selects yX4_addBlock.cls yX4_addBlock yX4_addBlock ∈ TB := ⟨mim_yX4_addBlock, msel_yX4_addBlock⟩
theorem mf_X6_137 : Cond.fieldLink RX6 137 "CellKeeper$Table" "number" "[I" ∈ TB := TB_t1 228 (by decide +kernel) rfl
theorem ml_X6_140 : Cond.methodLink RX6 140 yX4_giversAt ∈ TB := TB_t2 175 (by decide +kernel) rfl
theorem mf_X6_143 : Cond.fieldLink RX6 143 "CellKeeper$Table" "parts" "[I" ∈ TB := TB_t1 231 (by decide +kernel) rfl
theorem ml_X6_146 : Cond.methodLink RX6 146 yX6_guardableStatus ∈ TB := TB_t2 184 (by decide +kernel) rfl
theorem mcode_yX6_guardableStatus : Cond.code yX6_guardableStatus cX6_guardableStatus 5 (some .int) ∈ TB := TB_t2 187 (by decide +kernel) rfl
theorem mi_yX6_guardableStatus : MI yX6_guardableStatus cX6_guardableStatus 5 (some .int) 3 := ⟨mz_RX6, mcode_yX6_guardableStatus, by decide +kernel, by decide +kernel, by decide +kernel⟩
theorem mim_yX6_guardableStatus : Cond.instanceMethod yX6_guardableStatus ∈ TB := TB_t2 186 (by decide +kernel) rfl
theorem msel_yX6_guardableStatus : Cond.selects yX6_guardableStatus.cls yX6_guardableStatus yX6_guardableStatus ∈ TB := TB_s (n := 10) 7 (by decide +kernel)
theorem mv_yX6_guardableStatus : Cond.instanceMethod yX6_guardableStatus ∈ TB ∧ Cond.selects yX6_guardableStatus.cls yX6_guardableStatus yX6_guardableStatus ∈ TB := ⟨mim_yX6_guardableStatus, msel_yX6_guardableStatus⟩
theorem ml_X6_149 : Cond.methodLink RX6 149 yX4_tell ∈ TB := TB_t2 192 (by decide +kernel) rfl
theorem ml_X6_156 : Cond.methodLink RX6 156 yX4_rowSum ∈ TB := TB_t2 212 (by decide +kernel) rfl
theorem ml_X6_162 : Cond.methodLink RX6 162 yX4_classSum ∈ TB := TB_t2 220 (by decide +kernel) rfl
theorem mcode_yX4_classSum : Cond.code yX4_classSum cX4_classSum 6 (some .int) ∈ TB := TB_t2 223 (by decide +kernel) rfl
theorem mi_yX4_classSum : MI yX4_classSum cX4_classSum 6 (some .int) 2 := ⟨mz_RX4, mcode_yX4_classSum, by decide +kernel, by decide +kernel, by decide +kernel⟩
theorem mim_yX4_classSum : Cond.instanceMethod yX4_classSum ∈ TB := TB_t2 221 (by decide +kernel) rfl
theorem msel_yX4_classSum : Cond.selects yX4_classSum.cls yX4_classSum yX4_classSum ∈ TB := TB_t2 222 (by decide +kernel) rfl
theorem mv_yX4_classSum : Cond.instanceMethod yX4_classSum ∈ TB ∧ Cond.selects yX4_classSum.cls yX4_classSum yX4_classSum ∈ TB := ⟨mim_yX4_classSum, msel_yX4_classSum⟩
theorem ml_X6_165 : Cond.methodLink RX6 165 yX6_soundCellStatus ∈ TB := TB_t2 233 (by decide +kernel) rfl
theorem mcode_yX6_soundCellStatus : Cond.code yX6_soundCellStatus cX6_soundCellStatus 5 (some .int) ∈ TB := TB_t2 236 (by decide +kernel) rfl
theorem mi_yX6_soundCellStatus : MI yX6_soundCellStatus cX6_soundCellStatus 5 (some .int) 3 := ⟨mz_RX6, mcode_yX6_soundCellStatus, by decide +kernel, by decide +kernel, by decide +kernel⟩
theorem mim_yX6_soundCellStatus : Cond.instanceMethod yX6_soundCellStatus ∈ TB := TB_t2 235 (by decide +kernel) rfl
theorem msel_yX6_soundCellStatus : Cond.selects yX6_soundCellStatus.cls yX6_soundCellStatus yX6_soundCellStatus ∈ TB := TB_s (n := 10) 9 (by decide +kernel)
theorem mv_yX6_soundCellStatus : Cond.instanceMethod yX6_soundCellStatus ∈ TB ∧ Cond.selects yX6_soundCellStatus.cls yX6_soundCellStatus yX6_soundCellStatus ∈ TB := ⟨mim_yX6_soundCellStatus, msel_yX6_soundCellStatus⟩
theorem ml_X6_168 : Cond.methodLink RX6 168 yX4_reasons ∈ TB := TB_t2 237 (by decide +kernel) rfl
theorem ml_X6_171 : Cond.methodLink RX6 171 yX4_isKept ∈ TB := TB_t3 13 (by decide +kernel) rfl
theorem mcode_yX4_isKept : Cond.code yX4_isKept cX4_isKept 2 (some .boolean) ∈ TB := TB_t3 16 (by decide +kernel) rfl
theorem mi_yX4_isKept : MI yX4_isKept cX4_isKept 2 (some .boolean) 1 := ⟨mz_RX4, mcode_yX4_isKept, by decide +kernel, by decide +kernel, by decide +kernel⟩
theorem mim_yX4_isKept : Cond.instanceMethod yX4_isKept ∈ TB := TB_t3 14 (by decide +kernel) rfl
theorem msel_yX4_isKept : Cond.selects yX4_isKept.cls yX4_isKept yX4_isKept ∈ TB := TB_t3 15 (by decide +kernel) rfl
theorem mv_yX4_isKept : Cond.instanceMethod yX4_isKept ∈ TB ∧ Cond.selects yX4_isKept.cls yX4_isKept yX4_isKept ∈ TB := ⟨mim_yX4_isKept, msel_yX4_isKept⟩
theorem ml_X6_177 : Cond.methodLink RX6 177 yX6_thousandthsOf ∈ TB := TB_t3 22 (by decide +kernel) rfl
theorem ml_X6_184 : Cond.methodLink RX6 184 yX2_load ∈ TB := TB_t3 34 (by decide +kernel) rfl
theorem mcode_yX2_load : Cond.code yX2_load cX2_load 3 none ∈ TB := TB_t3 37 (by decide +kernel) rfl
theorem mi_yX2_load : MI yX2_load cX2_load 3 none 1 := ⟨mz_RX2, mcode_yX2_load, by decide +kernel, by decide +kernel, by decide +kernel⟩
theorem mim_yX2_load : Cond.instanceMethod yX2_load ∈ TB := TB_t3 35 (by decide +kernel) rfl
theorem msel_yX2_load : Cond.selects yX2_load.cls yX2_load yX2_load ∈ TB := TB_t3 36 (by decide +kernel) rfl
theorem mv_yX2_load : Cond.instanceMethod yX2_load ∈ TB ∧ Cond.selects yX2_load.cls yX2_load yX2_load ∈ TB := ⟨mim_yX2_load, msel_yX2_load⟩
theorem ml_X6_249 : Cond.methodLink RX6 249 yX2_moveToEnd ∈ TB := TB_t3 60 (by decide +kernel) rfl
theorem mf_X6_252 : Cond.fieldLink RX6 252 "CellKeeper$Reader" "value" "[I" ∈ TB := TB_t1 75 (by decide +kernel) rfl
theorem ml_X6_180 : Cond.methodLink RX6 180 yX6_spanEnd ∈ TB := TB_t3 30 (by decide +kernel) rfl
theorem mcode_yX6_spanEnd : Cond.code yX6_spanEnd cX6_spanEnd 5 (some .int) ∈ TB := TB_t3 33 (by decide +kernel) rfl
theorem mi_yX6_spanEnd : MI yX6_spanEnd cX6_spanEnd 5 (some .int) 4 := ⟨mz_RX6, mcode_yX6_spanEnd, by decide +kernel, by decide +kernel, by decide +kernel⟩
theorem mim_yX6_spanEnd : Cond.instanceMethod yX6_spanEnd ∈ TB := TB_t3 32 (by decide +kernel) rfl
theorem msel_yX6_spanEnd : Cond.selects yX6_spanEnd.cls yX6_spanEnd yX6_spanEnd ∈ TB := TB_s (n := 10) 11 (by decide +kernel)
theorem mv_yX6_spanEnd : Cond.instanceMethod yX6_spanEnd ∈ TB ∧ Cond.selects yX6_spanEnd.cls yX6_spanEnd yX6_spanEnd ∈ TB := ⟨mim_yX6_spanEnd, msel_yX6_spanEnd⟩
theorem ml_X6_188 : Cond.methodLink RX6 188 yX2_isSafe ∈ TB := TB_t3 112 (by decide +kernel) rfl
theorem ml_X6_191 : Cond.methodLink RX6 191 yX2_countUnsafe ∈ TB := TB_t3 123 (by decide +kernel) rfl
theorem mcode_yX2_countUnsafe : Cond.code yX2_countUnsafe cX2_countUnsafe 4 (some .int) ∈ TB := TB_t3 126 (by decide +kernel) rfl
theorem mi_yX2_countUnsafe : MI yX2_countUnsafe cX2_countUnsafe 4 (some .int) 0 := ⟨mz_RX2, mcode_yX2_countUnsafe, by decide +kernel, by decide +kernel, by decide +kernel⟩
theorem mim_yX2_countUnsafe : Cond.instanceMethod yX2_countUnsafe ∈ TB := TB_t3 124 (by decide +kernel) rfl
theorem msel_yX2_countUnsafe : Cond.selects yX2_countUnsafe.cls yX2_countUnsafe yX2_countUnsafe ∈ TB := TB_t3 125 (by decide +kernel) rfl
theorem mv_yX2_countUnsafe : Cond.instanceMethod yX2_countUnsafe ∈ TB ∧ Cond.selects yX2_countUnsafe.cls yX2_countUnsafe yX2_countUnsafe ∈ TB := ⟨mim_yX2_countUnsafe, msel_yX2_countUnsafe⟩
theorem ml_X6_195 : Cond.methodLink RX6 195 yX2_findFirst ∈ TB := TB_t3 132 (by decide +kernel) rfl
theorem mcode_yX2_findFirst : Cond.code yX2_findFirst cX2_findFirst 7 none ∈ TB := TB_t3 135 (by decide +kernel) rfl
theorem mi_yX2_findFirst : MI yX2_findFirst cX2_findFirst 7 none 3 := ⟨mz_RX2, mcode_yX2_findFirst, by decide +kernel, by decide +kernel, by decide +kernel⟩
theorem mim_yX2_findFirst : Cond.instanceMethod yX2_findFirst ∈ TB := TB_t3 133 (by decide +kernel) rfl
theorem msel_yX2_findFirst : Cond.selects yX2_findFirst.cls yX2_findFirst yX2_findFirst ∈ TB := TB_t3 134 (by decide +kernel) rfl
theorem mv_yX2_findFirst : Cond.instanceMethod yX2_findFirst ∈ TB ∧ Cond.selects yX2_findFirst.cls yX2_findFirst yX2_findFirst ∈ TB := ⟨mim_yX2_findFirst, msel_yX2_findFirst⟩
theorem ml_X6_198 : Cond.methodLink RX6 198 yX2_showValues ∈ TB := TB_t3 137 (by decide +kernel) rfl
theorem mcode_yX2_showValues : Cond.code yX2_showValues cX2_showValues 5 none ∈ TB := TB_t3 140 (by decide +kernel) rfl
theorem mi_yX2_showValues : MI yX2_showValues cX2_showValues 5 none 1 := ⟨mz_RX2, mcode_yX2_showValues, by decide +kernel, by decide +kernel, by decide +kernel⟩
theorem mim_yX2_showValues : Cond.instanceMethod yX2_showValues ∈ TB := TB_t3 138 (by decide +kernel) rfl
theorem msel_yX2_showValues : Cond.selects yX2_showValues.cls yX2_showValues yX2_showValues ∈ TB := TB_t3 139 (by decide +kernel) rfl
theorem mv_yX2_showValues : Cond.instanceMethod yX2_showValues ∈ TB ∧ Cond.selects yX2_showValues.cls yX2_showValues yX2_showValues ∈ TB := ⟨mim_yX2_showValues, msel_yX2_showValues⟩
theorem ml_X6_202 : Cond.methodLink RX6 202 yX2_cutOf ∈ TB := TB_t3 141 (by decide +kernel) rfl
theorem mcode_yX2_cutOf : Cond.code yX2_cutOf cX2_cutOf 5 (some .int) ∈ TB := TB_t3 144 (by decide +kernel) rfl
theorem mi_yX2_cutOf : MI yX2_cutOf cX2_cutOf 5 (some .int) 3 := ⟨mz_RX2, mcode_yX2_cutOf, by decide +kernel, by decide +kernel, by decide +kernel⟩
theorem mim_yX2_cutOf : Cond.instanceMethod yX2_cutOf ∈ TB := TB_t3 142 (by decide +kernel) rfl
theorem msel_yX2_cutOf : Cond.selects yX2_cutOf.cls yX2_cutOf yX2_cutOf ∈ TB := TB_t3 143 (by decide +kernel) rfl
theorem mv_yX2_cutOf : Cond.instanceMethod yX2_cutOf ∈ TB ∧ Cond.selects yX2_cutOf.cls yX2_cutOf yX2_cutOf ∈ TB := ⟨mim_yX2_cutOf, msel_yX2_cutOf⟩
theorem ml_X6_206 : Cond.methodLink RX6 206 yX1_at ∈ TB := TB_t3 150 (by decide +kernel) rfl
theorem mcode_yX1_at : Cond.code yX1_at cX1_at 4 (some .int) ∈ TB := TB_t3 153 (by decide +kernel) rfl
theorem mi_yX1_at : MI yX1_at cX1_at 4 (some .int) 2 := ⟨mz_RX1, mcode_yX1_at, by decide +kernel, by decide +kernel, by decide +kernel⟩
theorem mim_yX1_at : Cond.instanceMethod yX1_at ∈ TB := TB_t3 151 (by decide +kernel) rfl
theorem msel_yX1_at : Cond.selects yX1_at.cls yX1_at yX1_at ∈ TB := TB_t3 152 (by decide +kernel) rfl
theorem mv_yX1_at : Cond.instanceMethod yX1_at ∈ TB ∧ Cond.selects yX1_at.cls yX1_at yX1_at ∈ TB := ⟨mim_yX1_at, msel_yX1_at⟩
theorem mf_X6_210 : Cond.fieldLink RX6 210 "CellKeeper$Leaf" "columns" "I" ∈ TB := TB_t1 192 (by decide +kernel) rfl
theorem mf_X6_209 : Cond.fieldLink RX6 209 "CellKeeper$Leaf" "rows" "I" ∈ TB := TB_t1 188 (by decide +kernel) rfl
theorem ml_X6_211 : Cond.methodLink RX6 211 yX0_followPlan ∈ TB := TB_t3 167 (by decide +kernel) rfl
theorem mcode_yX0_followPlan : Cond.code yX0_followPlan cX0_followPlan 8 (some .int) ∈ TB := TB_t3 170 (by decide +kernel) rfl
theorem mi_yX0_followPlan : MI yX0_followPlan cX0_followPlan 8 (some .int) 2 := ⟨mz_RX0, mcode_yX0_followPlan, by decide +kernel, by decide +kernel, by decide +kernel⟩
theorem mim_yX0_followPlan : Cond.instanceMethod yX0_followPlan ∈ TB := TB_t3 168 (by decide +kernel) rfl
theorem msel_yX0_followPlan : Cond.selects yX0_followPlan.cls yX0_followPlan yX0_followPlan ∈ TB := TB_t3 169 (by decide +kernel) rfl
theorem mv_yX0_followPlan : Cond.instanceMethod yX0_followPlan ∈ TB ∧ Cond.selects yX0_followPlan.cls yX0_followPlan yX0_followPlan ∈ TB := ⟨mim_yX0_followPlan, msel_yX0_followPlan⟩
theorem ml_X6_215 : Cond.methodLink RX6 215 yX0_gather ∈ TB := TB_t3 211 (by decide +kernel) rfl
theorem mcode_yX0_gather : Cond.code yX0_gather cX0_gather 8 none ∈ TB := TB_t3 214 (by decide +kernel) rfl
theorem mi_yX0_gather : MI yX0_gather cX0_gather 8 none 2 := ⟨mz_RX0, mcode_yX0_gather, by decide +kernel, by decide +kernel, by decide +kernel⟩
theorem mim_yX0_gather : Cond.instanceMethod yX0_gather ∈ TB := TB_t3 212 (by decide +kernel) rfl
theorem msel_yX0_gather : Cond.selects yX0_gather.cls yX0_gather yX0_gather ∈ TB := TB_t3 213 (by decide +kernel) rfl
theorem mv_yX0_gather : Cond.instanceMethod yX0_gather ∈ TB ∧ Cond.selects yX0_gather.cls yX0_gather yX0_gather ∈ TB := ⟨mim_yX0_gather, msel_yX0_gather⟩
theorem mf_X6_219 : Cond.fieldLink RX6 219 "CellKeeper$Guard" "choices" "I" ∈ TB := TB_t1 122 (by decide +kernel) rfl
theorem ml_X6_222 : Cond.methodLink RX6 222 yX0_cheapest ∈ TB := TB_t3 215 (by decide +kernel) rfl
theorem mcode_yX0_cheapest : Cond.code yX0_cheapest cX0_cheapest 5 (some .int) ∈ TB := TB_t3 218 (by decide +kernel) rfl
theorem mi_yX0_cheapest : MI yX0_cheapest cX0_cheapest 5 (some .int) 1 := ⟨mz_RX0, mcode_yX0_cheapest, by decide +kernel, by decide +kernel, by decide +kernel⟩
theorem mim_yX0_cheapest : Cond.instanceMethod yX0_cheapest ∈ TB := TB_t3 216 (by decide +kernel) rfl
theorem msel_yX0_cheapest : Cond.selects yX0_cheapest.cls yX0_cheapest yX0_cheapest ∈ TB := TB_t3 217 (by decide +kernel) rfl
theorem mv_yX0_cheapest : Cond.instanceMethod yX0_cheapest ∈ TB ∧ Cond.selects yX0_cheapest.cls yX0_cheapest yX0_cheapest ∈ TB := ⟨mim_yX0_cheapest, msel_yX0_cheapest⟩
theorem ml_X6_226 : Cond.methodLink RX6 226 yX0_tell ∈ TB := TB_t4 3 (by decide +kernel) rfl
theorem mcode_yX0_tell : Cond.code yX0_tell cX0_tell 4 none ∈ TB := TB_t4 6 (by decide +kernel) rfl
theorem mi_yX0_tell : MI yX0_tell cX0_tell 4 none 2 := ⟨mz_RX0, mcode_yX0_tell, by decide +kernel, by decide +kernel, by decide +kernel⟩
theorem mim_yX0_tell : Cond.instanceMethod yX0_tell ∈ TB := TB_t4 4 (by decide +kernel) rfl
theorem msel_yX0_tell : Cond.selects yX0_tell.cls yX0_tell yX0_tell ∈ TB := TB_t4 5 (by decide +kernel) rfl
theorem mv_yX0_tell : Cond.instanceMethod yX0_tell ∈ TB ∧ Cond.selects yX0_tell.cls yX0_tell yX0_tell ∈ TB := ⟨mim_yX0_tell, msel_yX0_tell⟩
theorem mf_X6_229 : Cond.fieldLink RX6 229 "CellKeeper$Guard" "prices" "[I" ∈ TB := TB_t1 120 (by decide +kernel) rfl
theorem ml_X6_232 : Cond.methodLink RX6 232 yX4_priceOfKept ∈ TB := TB_t4 11 (by decide +kernel) rfl
theorem mcode_yX4_priceOfKept : Cond.code yX4_priceOfKept cX4_priceOfKept 6 (some .int) ∈ TB := TB_t4 14 (by decide +kernel) rfl
theorem mi_yX4_priceOfKept : MI yX4_priceOfKept cX4_priceOfKept 6 (some .int) 0 := ⟨mz_RX4, mcode_yX4_priceOfKept, by decide +kernel, by decide +kernel, by decide +kernel⟩
theorem mim_yX4_priceOfKept : Cond.instanceMethod yX4_priceOfKept ∈ TB := TB_t4 12 (by decide +kernel) rfl
theorem msel_yX4_priceOfKept : Cond.selects yX4_priceOfKept.cls yX4_priceOfKept yX4_priceOfKept ∈ TB := TB_t4 13 (by decide +kernel) rfl
theorem mv_yX4_priceOfKept : Cond.instanceMethod yX4_priceOfKept ∈ TB ∧ Cond.selects yX4_priceOfKept.cls yX4_priceOfKept yX4_priceOfKept ∈ TB := ⟨mim_yX4_priceOfKept, msel_yX4_priceOfKept⟩
theorem ml_X6_235 : Cond.methodLink RX6 235 yX3_fill ∈ TB := TB_t4 20 (by decide +kernel) rfl
theorem mcode_yX3_fill : Cond.code yX3_fill cX3_fill 5 (some .int) ∈ TB := TB_t4 23 (by decide +kernel) rfl
theorem mi_yX3_fill : MI yX3_fill cX3_fill 5 (some .int) 3 := ⟨mz_RX3, mcode_yX3_fill, by decide +kernel, by decide +kernel, by decide +kernel⟩
theorem mim_yX3_fill : Cond.instanceMethod yX3_fill ∈ TB := TB_t4 21 (by decide +kernel) rfl
theorem msel_yX3_fill : Cond.selects yX3_fill.cls yX3_fill yX3_fill ∈ TB := TB_t4 22 (by decide +kernel) rfl
theorem mv_yX3_fill : Cond.instanceMethod yX3_fill ∈ TB ∧ Cond.selects yX3_fill.cls yX3_fill yX3_fill ∈ TB := ⟨mim_yX3_fill, msel_yX3_fill⟩
theorem ml_X6_239 : Cond.methodLink RX6 239 yX2_showOpenly ∈ TB := TB_t4 73 (by decide +kernel) rfl
theorem mcode_yX2_showOpenly : Cond.code yX2_showOpenly cX2_showOpenly 6 none ∈ TB := TB_t4 76 (by decide +kernel) rfl
theorem mi_yX2_showOpenly : MI yX2_showOpenly cX2_showOpenly 6 none 1 := ⟨mz_RX2, mcode_yX2_showOpenly, by decide +kernel, by decide +kernel, by decide +kernel⟩
theorem mim_yX2_showOpenly : Cond.instanceMethod yX2_showOpenly ∈ TB := TB_t4 74 (by decide +kernel) rfl
theorem msel_yX2_showOpenly : Cond.selects yX2_showOpenly.cls yX2_showOpenly yX2_showOpenly ∈ TB := TB_t4 75 (by decide +kernel) rfl
theorem mv_yX2_showOpenly : Cond.instanceMethod yX2_showOpenly ∈ TB ∧ Cond.selects yX2_showOpenly.cls yX2_showOpenly yX2_showOpenly ∈ TB := ⟨mim_yX2_showOpenly, msel_yX2_showOpenly⟩
theorem ml_X6_242 : Cond.methodLink RX6 242 yX6_isGift ∈ TB := TB_t4 81 (by decide +kernel) rfl
theorem mcode_yX6_isGift : Cond.code yX6_isGift cX6_isGift 2 (some .boolean) ∈ TB := TB_t4 84 (by decide +kernel) rfl
theorem mi_yX6_isGift : MI yX6_isGift cX6_isGift 2 (some .boolean) 1 := ⟨mz_RX6, mcode_yX6_isGift, by decide +kernel, by decide +kernel, by decide +kernel⟩
theorem mim_yX6_isGift : Cond.instanceMethod yX6_isGift ∈ TB := TB_t4 83 (by decide +kernel) rfl
theorem msel_yX6_isGift : Cond.selects yX6_isGift.cls yX6_isGift yX6_isGift ∈ TB := TB_s (n := 10) 40 (by decide +kernel)
theorem mv_yX6_isGift : Cond.instanceMethod yX6_isGift ∈ TB ∧ Cond.selects yX6_isGift.cls yX6_isGift yX6_isGift ∈ TB := ⟨mim_yX6_isGift, msel_yX6_isGift⟩
theorem ml_X6_245 : Cond.methodLink RX6 245 yX1_firstUnlike ∈ TB := TB_t4 89 (by decide +kernel) rfl
theorem mcode_yX1_firstUnlike : Cond.code yX1_firstUnlike cX1_firstUnlike 8 (some .int) ∈ TB := TB_t4 92 (by decide +kernel) rfl
theorem mi_yX1_firstUnlike : MI yX1_firstUnlike cX1_firstUnlike 8 (some .int) 1 := ⟨mz_RX1, mcode_yX1_firstUnlike, by decide +kernel, by decide +kernel, by decide +kernel⟩
theorem mim_yX1_firstUnlike : Cond.instanceMethod yX1_firstUnlike ∈ TB := TB_t4 90 (by decide +kernel) rfl
theorem msel_yX1_firstUnlike : Cond.selects yX1_firstUnlike.cls yX1_firstUnlike yX1_firstUnlike ∈ TB := TB_t4 91 (by decide +kernel) rfl
theorem mv_yX1_firstUnlike : Cond.instanceMethod yX1_firstUnlike ∈ TB ∧ Cond.selects yX1_firstUnlike.cls yX1_firstUnlike yX1_firstUnlike ∈ TB := ⟨mim_yX1_firstUnlike, msel_yX1_firstUnlike⟩
theorem dX6_status_0 : decode cX6_status 0 = .ok (.aload_n 0, 1) := by decide +kernel
theorem dX6_status_1 : decode cX6_status 1 = .ok (.getfield 9, 3) := by decide +kernel
theorem dX6_status_4 : decode cX6_status 4 = .ok (.ireturn, 1) := by decide +kernel
theorem dX6_rowStatus_0 : decode cX6_rowStatus 0 = .ok (.aload_n 0, 1) := by decide +kernel
theorem dX6_rowStatus_1 : decode cX6_rowStatus 1 = .ok (.iload_n 1, 1) := by decide +kernel
theorem dX6_rowStatus_2 : decode cX6_rowStatus 2 = .ok (.invokevirtual 73, 3) := by decide +kernel
theorem dX6_rowStatus_5 : decode cX6_rowStatus 5 = .ok (.istore_n 3, 1) := by decide +kernel
theorem dX6_rowStatus_6 : decode cX6_rowStatus 6 = .ok (.iload_n 3, 1) := by decide +kernel
theorem dX6_rowStatus_7 : decode cX6_rowStatus 7 = .ok (.ifCond .eq 5, 3) := by decide +kernel
theorem dX6_rowStatus_12 : decode cX6_rowStatus 12 = .ok (.iload_n 2, 1) := by decide +kernel
theorem dX6_rowStatus_13 : decode cX6_rowStatus 13 = .ok (.ifCond .lt 20, 3) := by decide +kernel
theorem dX6_rowStatus_33 : decode cX6_rowStatus 33 = .ok (.iconst 2, 1) := by decide +kernel
theorem dX6_rowStatus_34 : decode cX6_rowStatus 34 = .ok (.ireturn, 1) := by decide +kernel
theorem dX6_rowStatus_16 : decode cX6_rowStatus 16 = .ok (.iload_n 2, 1) := by decide +kernel
theorem dX6_rowStatus_17 : decode cX6_rowStatus 17 = .ok (.aload_n 0, 1) := by decide +kernel
theorem dX6_rowStatus_18 : decode cX6_rowStatus 18 = .ok (.getfield 15, 3) := by decide +kernel
theorem dX6_rowStatus_21 : decode cX6_rowStatus 21 = .ok (.iload_n 1, 1) := by decide +kernel
theorem dX6_rowStatus_22 : decode cX6_rowStatus 22 = .ok (.aaload, 1) := by decide +kernel
theorem dX6_rowStatus_23 : decode cX6_rowStatus 23 = .ok (.getfield 119, 3) := by decide +kernel
theorem dX6_rowStatus_26 : decode cX6_rowStatus 26 = .ok (.if_icmp .ge 7, 3) := by decide +kernel
theorem dX6_rowStatus_29 : decode cX6_rowStatus 29 = .ok (.iconst 0, 1) := by decide +kernel
theorem dX6_rowStatus_30 : decode cX6_rowStatus 30 = .ok (.goto 4, 3) := by decide +kernel
theorem dX6_rowStatus_10 : decode cX6_rowStatus 10 = .ok (.iload_n 3, 1) := by decide +kernel
theorem dX6_rowStatus_11 : decode cX6_rowStatus 11 = .ok (.ireturn, 1) := by decide +kernel
theorem dX6_placeStatus_0 : decode cX6_placeStatus 0 = .ok (.aload_n 0, 1) := by decide +kernel
theorem dX6_placeStatus_1 : decode cX6_placeStatus 1 = .ok (.iload_n 1, 1) := by decide +kernel
theorem dX6_placeStatus_2 : decode cX6_placeStatus 2 = .ok (.iload_n 2, 1) := by decide +kernel
theorem dX6_placeStatus_3 : decode cX6_placeStatus 3 = .ok (.invokevirtual 110, 3) := by decide +kernel
theorem dX6_placeStatus_6 : decode cX6_placeStatus 6 = .ok (.istore 4, 2) := by decide +kernel
theorem dX6_placeStatus_8 : decode cX6_placeStatus 8 = .ok (.iload 4, 2) := by decide +kernel
theorem dX6_placeStatus_10 : decode cX6_placeStatus 10 = .ok (.ifCond .eq 6, 3) := by decide +kernel
theorem dX6_placeStatus_16 : decode cX6_placeStatus 16 = .ok (.iload_n 3, 1) := by decide +kernel
theorem dX6_placeStatus_17 : decode cX6_placeStatus 17 = .ok (.ifCond .lt 16, 3) := by decide +kernel
theorem dX6_placeStatus_33 : decode cX6_placeStatus 33 = .ok (.iconst 2, 1) := by decide +kernel
theorem dX6_placeStatus_34 : decode cX6_placeStatus 34 = .ok (.ireturn, 1) := by decide +kernel
theorem dX6_placeStatus_20 : decode cX6_placeStatus 20 = .ok (.iload_n 3, 1) := by decide +kernel
theorem dX6_placeStatus_21 : decode cX6_placeStatus 21 = .ok (.aload_n 0, 1) := by decide +kernel
theorem dX6_placeStatus_22 : decode cX6_placeStatus 22 = .ok (.getfield 15, 3) := by decide +kernel
theorem dX6_placeStatus_25 : decode cX6_placeStatus 25 = .ok (.iload_n 1, 1) := by decide +kernel
theorem dX6_placeStatus_26 : decode cX6_placeStatus 26 = .ok (.aaload, 1) := by decide +kernel
theorem dX6_placeStatus_27 : decode cX6_placeStatus 27 = .ok (.getfield 159, 3) := by decide +kernel
theorem dX6_placeStatus_30 : decode cX6_placeStatus 30 = .ok (.if_icmp .lt 5, 3) := by decide +kernel
theorem dX6_placeStatus_35 : decode cX6_placeStatus 35 = .ok (.aload_n 0, 1) := by decide +kernel
theorem dX6_placeStatus_36 : decode cX6_placeStatus 36 = .ok (.getfield 15, 3) := by decide +kernel
theorem dX6_placeStatus_39 : decode cX6_placeStatus 39 = .ok (.iload_n 1, 1) := by decide +kernel
theorem dX6_placeStatus_40 : decode cX6_placeStatus 40 = .ok (.aaload, 1) := by decide +kernel
theorem dX6_placeStatus_41 : decode cX6_placeStatus 41 = .ok (.getfield 113, 3) := by decide +kernel
theorem dX6_placeStatus_44 : decode cX6_placeStatus 44 = .ok (.iload_n 2, 1) := by decide +kernel
theorem dX6_placeStatus_45 : decode cX6_placeStatus 45 = .ok (.iaload, 1) := by decide +kernel
theorem dX6_placeStatus_46 : decode cX6_placeStatus 46 = .ok (.istore 5, 2) := by decide +kernel
theorem dX6_placeStatus_48 : decode cX6_placeStatus 48 = .ok (.iload 5, 2) := by decide +kernel
theorem dX6_placeStatus_50 : decode cX6_placeStatus 50 = .ok (.ifCond .ne 5, 3) := by decide +kernel
theorem dX6_placeStatus_55 : decode cX6_placeStatus 55 = .ok (.iload_n 3, 1) := by decide +kernel
theorem dX6_placeStatus_56 : decode cX6_placeStatus 56 = .ok (.iload 5, 2) := by decide +kernel
theorem dX6_placeStatus_58 : decode cX6_placeStatus 58 = .ok (.if_icmp .ge 7, 3) := by decide +kernel
theorem dX6_placeStatus_65 : decode cX6_placeStatus 65 = .ok (.iconst 4, 1) := by decide +kernel
theorem dX6_placeStatus_66 : decode cX6_placeStatus 66 = .ok (.ireturn, 1) := by decide +kernel
theorem dX6_placeStatus_61 : decode cX6_placeStatus 61 = .ok (.iconst 0, 1) := by decide +kernel
theorem dX6_placeStatus_62 : decode cX6_placeStatus 62 = .ok (.goto 4, 3) := by decide +kernel
theorem dX6_placeStatus_53 : decode cX6_placeStatus 53 = .ok (.iconst 3, 1) := by decide +kernel
theorem dX6_placeStatus_54 : decode cX6_placeStatus 54 = .ok (.ireturn, 1) := by decide +kernel
theorem dX6_placeStatus_13 : decode cX6_placeStatus 13 = .ok (.iload 4, 2) := by decide +kernel
theorem dX6_placeStatus_15 : decode cX6_placeStatus 15 = .ok (.ireturn, 1) := by decide +kernel
theorem dX6_filledStatus_0 : decode cX6_filledStatus 0 = .ok (.aload_n 0, 1) := by decide +kernel
theorem dX6_filledStatus_1 : decode cX6_filledStatus 1 = .ok (.iload_n 1, 1) := by decide +kernel
theorem dX6_filledStatus_2 : decode cX6_filledStatus 2 = .ok (.iload_n 2, 1) := by decide +kernel
theorem dX6_filledStatus_3 : decode cX6_filledStatus 3 = .ok (.iload_n 3, 1) := by decide +kernel
theorem dX6_filledStatus_4 : decode cX6_filledStatus 4 = .ok (.invokevirtual 84, 3) := by decide +kernel
theorem dX6_filledStatus_7 : decode cX6_filledStatus 7 = .ok (.istore 4, 2) := by decide +kernel
theorem dX6_filledStatus_9 : decode cX6_filledStatus 9 = .ok (.iload 4, 2) := by decide +kernel
theorem dX6_filledStatus_11 : decode cX6_filledStatus 11 = .ok (.ifCond .eq 6, 3) := by decide +kernel
theorem dX6_filledStatus_17 : decode cX6_filledStatus 17 = .ok (.aload_n 0, 1) := by decide +kernel
theorem dX6_filledStatus_18 : decode cX6_filledStatus 18 = .ok (.getfield 15, 3) := by decide +kernel
theorem dX6_filledStatus_21 : decode cX6_filledStatus 21 = .ok (.iload_n 1, 1) := by decide +kernel
theorem dX6_filledStatus_22 : decode cX6_filledStatus 22 = .ok (.aaload, 1) := by decide +kernel
theorem dX6_filledStatus_23 : decode cX6_filledStatus 23 = .ok (.getfield 134, 3) := by decide +kernel
theorem dX6_filledStatus_26 : decode cX6_filledStatus 26 = .ok (.iload_n 2, 1) := by decide +kernel
theorem dX6_filledStatus_27 : decode cX6_filledStatus 27 = .ok (.iload_n 3, 1) := by decide +kernel
theorem dX6_filledStatus_28 : decode cX6_filledStatus 28 = .ok (.invokestatic 92, 3) := by decide +kernel
theorem dX6_filledStatus_31 : decode cX6_filledStatus 31 = .ok (.iaload, 1) := by decide +kernel
theorem dX6_filledStatus_32 : decode cX6_filledStatus 32 = .ok (.ifCond .ne 7, 3) := by decide +kernel
theorem dX6_filledStatus_39 : decode cX6_filledStatus 39 = .ok (.iconst 0, 1) := by decide +kernel
theorem dX6_filledStatus_40 : decode cX6_filledStatus 40 = .ok (.ireturn, 1) := by decide +kernel
theorem dX6_filledStatus_35 : decode cX6_filledStatus 35 = .ok (.iconst 5, 1) := by decide +kernel
theorem dX6_filledStatus_36 : decode cX6_filledStatus 36 = .ok (.goto 4, 3) := by decide +kernel
theorem dX6_filledStatus_14 : decode cX6_filledStatus 14 = .ok (.iload 4, 2) := by decide +kernel
theorem dX6_filledStatus_16 : decode cX6_filledStatus 16 = .ok (.ireturn, 1) := by decide +kernel
theorem dX6_cellStatus_0 : decode cX6_cellStatus 0 = .ok (.aload_n 0, 1) := by decide +kernel
theorem dX6_cellStatus_1 : decode cX6_cellStatus 1 = .ok (.iload_n 1, 1) := by decide +kernel
theorem dX6_cellStatus_2 : decode cX6_cellStatus 2 = .ok (.iload_n 2, 1) := by decide +kernel
theorem dX6_cellStatus_3 : decode cX6_cellStatus 3 = .ok (.iload_n 3, 1) := by decide +kernel
theorem dX6_cellStatus_4 : decode cX6_cellStatus 4 = .ok (.invokevirtual 107, 3) := by decide +kernel
theorem dX6_cellStatus_7 : decode cX6_cellStatus 7 = .ok (.istore 4, 2) := by decide +kernel
theorem dX6_cellStatus_9 : decode cX6_cellStatus 9 = .ok (.iload 4, 2) := by decide +kernel
theorem dX6_cellStatus_11 : decode cX6_cellStatus 11 = .ok (.ifCond .eq 6, 3) := by decide +kernel
theorem dX6_cellStatus_17 : decode cX6_cellStatus 17 = .ok (.aload_n 0, 1) := by decide +kernel
theorem dX6_cellStatus_18 : decode cX6_cellStatus 18 = .ok (.getfield 15, 3) := by decide +kernel
theorem dX6_cellStatus_21 : decode cX6_cellStatus 21 = .ok (.iload_n 1, 1) := by decide +kernel
theorem dX6_cellStatus_22 : decode cX6_cellStatus 22 = .ok (.aaload, 1) := by decide +kernel
theorem dX6_cellStatus_23 : decode cX6_cellStatus 23 = .ok (.getfield 134, 3) := by decide +kernel
theorem dX6_cellStatus_26 : decode cX6_cellStatus 26 = .ok (.iload_n 2, 1) := by decide +kernel
theorem dX6_cellStatus_27 : decode cX6_cellStatus 27 = .ok (.iload_n 3, 1) := by decide +kernel
theorem dX6_cellStatus_28 : decode cX6_cellStatus 28 = .ok (.invokestatic 92, 3) := by decide +kernel
theorem dX6_cellStatus_31 : decode cX6_cellStatus 31 = .ok (.iaload, 1) := by decide +kernel
theorem dX6_cellStatus_32 : decode cX6_cellStatus 32 = .ok (.iconst 5, 1) := by decide +kernel
theorem dX6_cellStatus_33 : decode cX6_cellStatus 33 = .ok (.if_icmp .ne 8, 3) := by decide +kernel
theorem dX6_cellStatus_41 : decode cX6_cellStatus 41 = .ok (.iconst 0, 1) := by decide +kernel
theorem dX6_cellStatus_42 : decode cX6_cellStatus 42 = .ok (.ireturn, 1) := by decide +kernel
theorem dX6_cellStatus_36 : decode cX6_cellStatus 36 = .ok (.bipush 6, 2) := by decide +kernel
theorem dX6_cellStatus_38 : decode cX6_cellStatus 38 = .ok (.goto 4, 3) := by decide +kernel
theorem dX6_cellStatus_14 : decode cX6_cellStatus 14 = .ok (.iload 4, 2) := by decide +kernel
theorem dX6_cellStatus_16 : decode cX6_cellStatus 16 = .ok (.ireturn, 1) := by decide +kernel
theorem dX6_guardableStatus_0 : decode cX6_guardableStatus 0 = .ok (.aload_n 0, 1) := by decide +kernel
theorem dX6_guardableStatus_1 : decode cX6_guardableStatus 1 = .ok (.iload_n 1, 1) := by decide +kernel
theorem dX6_guardableStatus_2 : decode cX6_guardableStatus 2 = .ok (.iload_n 2, 1) := by decide +kernel
theorem dX6_guardableStatus_3 : decode cX6_guardableStatus 3 = .ok (.iload_n 3, 1) := by decide +kernel
theorem dX6_guardableStatus_4 : decode cX6_guardableStatus 4 = .ok (.invokevirtual 174, 3) := by decide +kernel
theorem dX6_guardableStatus_7 : decode cX6_guardableStatus 7 = .ok (.istore 4, 2) := by decide +kernel
theorem dX6_guardableStatus_9 : decode cX6_guardableStatus 9 = .ok (.iload 4, 2) := by decide +kernel
theorem dX6_guardableStatus_11 : decode cX6_guardableStatus 11 = .ok (.ifCond .eq 6, 3) := by decide +kernel
theorem dX6_guardableStatus_17 : decode cX6_guardableStatus 17 = .ok (.aload_n 0, 1) := by decide +kernel
theorem dX6_guardableStatus_18 : decode cX6_guardableStatus 18 = .ok (.getfield 15, 3) := by decide +kernel
theorem dX6_guardableStatus_21 : decode cX6_guardableStatus 21 = .ok (.iload_n 1, 1) := by decide +kernel
theorem dX6_guardableStatus_22 : decode cX6_guardableStatus 22 = .ok (.aaload, 1) := by decide +kernel
theorem dX6_guardableStatus_23 : decode cX6_guardableStatus 23 = .ok (.getfield 134, 3) := by decide +kernel
theorem dX6_guardableStatus_26 : decode cX6_guardableStatus 26 = .ok (.iload_n 2, 1) := by decide +kernel
theorem dX6_guardableStatus_27 : decode cX6_guardableStatus 27 = .ok (.iload_n 3, 1) := by decide +kernel
theorem dX6_guardableStatus_28 : decode cX6_guardableStatus 28 = .ok (.invokestatic 92, 3) := by decide +kernel
theorem dX6_guardableStatus_31 : decode cX6_guardableStatus 31 = .ok (.iaload, 1) := by decide +kernel
theorem dX6_guardableStatus_32 : decode cX6_guardableStatus 32 = .ok (.iconst 4, 1) := by decide +kernel
theorem dX6_guardableStatus_33 : decode cX6_guardableStatus 33 = .ok (.if_icmp .ne 8, 3) := by decide +kernel
theorem dX6_guardableStatus_41 : decode cX6_guardableStatus 41 = .ok (.iconst 0, 1) := by decide +kernel
theorem dX6_guardableStatus_42 : decode cX6_guardableStatus 42 = .ok (.ireturn, 1) := by decide +kernel
theorem dX6_guardableStatus_36 : decode cX6_guardableStatus 36 = .ok (.bipush 6, 2) := by decide +kernel
theorem dX6_guardableStatus_38 : decode cX6_guardableStatus 38 = .ok (.goto 4, 3) := by decide +kernel
theorem dX6_guardableStatus_14 : decode cX6_guardableStatus 14 = .ok (.iload 4, 2) := by decide +kernel
theorem dX6_guardableStatus_16 : decode cX6_guardableStatus 16 = .ok (.ireturn, 1) := by decide +kernel
theorem dX6_amountStatus_0 : decode cX6_amountStatus 0 = .ok (.aload_n 0, 1) := by decide +kernel
theorem dX6_amountStatus_1 : decode cX6_amountStatus 1 = .ok (.iload_n 1, 1) := by decide +kernel
theorem dX6_amountStatus_2 : decode cX6_amountStatus 2 = .ok (.iload_n 2, 1) := by decide +kernel
theorem dX6_amountStatus_3 : decode cX6_amountStatus 3 = .ok (.iload_n 3, 1) := by decide +kernel
theorem dX6_amountStatus_4 : decode cX6_amountStatus 4 = .ok (.invokevirtual 107, 3) := by decide +kernel
theorem dX6_amountStatus_7 : decode cX6_amountStatus 7 = .ok (.istore 4, 2) := by decide +kernel
theorem dX6_amountStatus_9 : decode cX6_amountStatus 9 = .ok (.iload 4, 2) := by decide +kernel
theorem dX6_amountStatus_11 : decode cX6_amountStatus 11 = .ok (.ifCond .eq 6, 3) := by decide +kernel
theorem dX6_amountStatus_17 : decode cX6_amountStatus 17 = .ok (.aload_n 0, 1) := by decide +kernel
theorem dX6_amountStatus_18 : decode cX6_amountStatus 18 = .ok (.getfield 15, 3) := by decide +kernel
theorem dX6_amountStatus_21 : decode cX6_amountStatus 21 = .ok (.iload_n 1, 1) := by decide +kernel
theorem dX6_amountStatus_22 : decode cX6_amountStatus 22 = .ok (.aaload, 1) := by decide +kernel
theorem dX6_amountStatus_23 : decode cX6_amountStatus 23 = .ok (.getfield 134, 3) := by decide +kernel
theorem dX6_amountStatus_26 : decode cX6_amountStatus 26 = .ok (.iload_n 2, 1) := by decide +kernel
theorem dX6_amountStatus_27 : decode cX6_amountStatus 27 = .ok (.iload_n 3, 1) := by decide +kernel
theorem dX6_amountStatus_28 : decode cX6_amountStatus 28 = .ok (.invokestatic 92, 3) := by decide +kernel
theorem dX6_amountStatus_31 : decode cX6_amountStatus 31 = .ok (.iaload, 1) := by decide +kernel
theorem dX6_amountStatus_32 : decode cX6_amountStatus 32 = .ok (.iconst 2, 1) := by decide +kernel
theorem dX6_amountStatus_33 : decode cX6_amountStatus 33 = .ok (.if_icmp .ne 7, 3) := by decide +kernel
theorem dX6_amountStatus_40 : decode cX6_amountStatus 40 = .ok (.bipush 6, 2) := by decide +kernel
theorem dX6_amountStatus_42 : decode cX6_amountStatus 42 = .ok (.ireturn, 1) := by decide +kernel
theorem dX6_amountStatus_36 : decode cX6_amountStatus 36 = .ok (.iconst 0, 1) := by decide +kernel
theorem dX6_amountStatus_37 : decode cX6_amountStatus 37 = .ok (.goto 5, 3) := by decide +kernel
theorem dX6_amountStatus_14 : decode cX6_amountStatus 14 = .ok (.iload 4, 2) := by decide +kernel
theorem dX6_amountStatus_16 : decode cX6_amountStatus 16 = .ok (.ireturn, 1) := by decide +kernel
theorem dX6_soundCellStatus_0 : decode cX6_soundCellStatus 0 = .ok (.aload_n 0, 1) := by decide +kernel
theorem dX6_soundCellStatus_1 : decode cX6_soundCellStatus 1 = .ok (.iload_n 1, 1) := by decide +kernel
theorem dX6_soundCellStatus_2 : decode cX6_soundCellStatus 2 = .ok (.iload_n 2, 1) := by decide +kernel
theorem dX6_soundCellStatus_3 : decode cX6_soundCellStatus 3 = .ok (.iload_n 3, 1) := by decide +kernel
theorem dX6_soundCellStatus_4 : decode cX6_soundCellStatus 4 = .ok (.invokevirtual 174, 3) := by decide +kernel
theorem dX6_soundCellStatus_7 : decode cX6_soundCellStatus 7 = .ok (.istore 4, 2) := by decide +kernel
theorem dX6_soundCellStatus_9 : decode cX6_soundCellStatus 9 = .ok (.iload 4, 2) := by decide +kernel
theorem dX6_soundCellStatus_11 : decode cX6_soundCellStatus 11 = .ok (.ifCond .eq 6, 3) := by decide +kernel
theorem dX6_soundCellStatus_17 : decode cX6_soundCellStatus 17 = .ok (.aload_n 0, 1) := by decide +kernel
theorem dX6_soundCellStatus_18 : decode cX6_soundCellStatus 18 = .ok (.getfield 15, 3) := by decide +kernel
theorem dX6_soundCellStatus_21 : decode cX6_soundCellStatus 21 = .ok (.iload_n 1, 1) := by decide +kernel
theorem dX6_soundCellStatus_22 : decode cX6_soundCellStatus 22 = .ok (.aaload, 1) := by decide +kernel
theorem dX6_soundCellStatus_23 : decode cX6_soundCellStatus 23 = .ok (.iload_n 2, 1) := by decide +kernel
theorem dX6_soundCellStatus_24 : decode cX6_soundCellStatus 24 = .ok (.invokevirtual 153, 3) := by decide +kernel
theorem dX6_soundCellStatus_27 : decode cX6_soundCellStatus 27 = .ok (.ifCond .eq 7, 3) := by decide +kernel
theorem dX6_soundCellStatus_34 : decode cX6_soundCellStatus 34 = .ok (.bipush 11, 2) := by decide +kernel
theorem dX6_soundCellStatus_36 : decode cX6_soundCellStatus 36 = .ok (.ireturn, 1) := by decide +kernel
theorem dX6_soundCellStatus_30 : decode cX6_soundCellStatus 30 = .ok (.iconst 0, 1) := by decide +kernel
theorem dX6_soundCellStatus_31 : decode cX6_soundCellStatus 31 = .ok (.goto 5, 3) := by decide +kernel
theorem dX6_soundCellStatus_14 : decode cX6_soundCellStatus 14 = .ok (.iload 4, 2) := by decide +kernel
theorem dX6_soundCellStatus_16 : decode cX6_soundCellStatus 16 = .ok (.ireturn, 1) := by decide +kernel
theorem dX6_canBeTold_0 : decode cX6_canBeTold 0 = .ok (.iload_n 0, 1) := by decide +kernel
theorem dX6_canBeTold_1 : decode cX6_canBeTold 1 = .ok (.tableswitch 78 0 4 #[35, 52, 68, 52, 68], 35) := by decide +kernel
theorem dX6_canBeTold_79 : decode cX6_canBeTold 79 = .ok (.iconst 0, 1) := by decide +kernel
theorem dX6_canBeTold_80 : decode cX6_canBeTold 80 = .ok (.ireturn, 1) := by decide +kernel
theorem dX6_canBeTold_36 : decode cX6_canBeTold 36 = .ok (.iload_n 1, 1) := by decide +kernel
theorem dX6_canBeTold_37 : decode cX6_canBeTold 37 = .ok (.iconst 1, 1) := by decide +kernel
theorem dX6_canBeTold_38 : decode cX6_canBeTold 38 = .ok (.if_icmp .lt 13, 3) := by decide +kernel
theorem dX6_canBeTold_51 : decode cX6_canBeTold 51 = .ok (.iconst 0, 1) := by decide +kernel
theorem dX6_canBeTold_52 : decode cX6_canBeTold 52 = .ok (.ireturn, 1) := by decide +kernel
theorem dX6_canBeTold_41 : decode cX6_canBeTold 41 = .ok (.iload_n 1, 1) := by decide +kernel
theorem dX6_canBeTold_42 : decode cX6_canBeTold 42 = .ok (.bipush 99, 2) := by decide +kernel
theorem dX6_canBeTold_44 : decode cX6_canBeTold 44 = .ok (.if_icmp .gt 7, 3) := by decide +kernel
theorem dX6_canBeTold_47 : decode cX6_canBeTold 47 = .ok (.iconst 1, 1) := by decide +kernel
theorem dX6_canBeTold_48 : decode cX6_canBeTold 48 = .ok (.goto 4, 3) := by decide +kernel
theorem dX6_canBeTold_53 : decode cX6_canBeTold 53 = .ok (.iload_n 1, 1) := by decide +kernel
theorem dX6_canBeTold_54 : decode cX6_canBeTold 54 = .ok (.ifCond .lt 13, 3) := by decide +kernel
theorem dX6_canBeTold_67 : decode cX6_canBeTold 67 = .ok (.iconst 0, 1) := by decide +kernel
theorem dX6_canBeTold_68 : decode cX6_canBeTold 68 = .ok (.ireturn, 1) := by decide +kernel
theorem dX6_canBeTold_57 : decode cX6_canBeTold 57 = .ok (.iload_n 1, 1) := by decide +kernel
theorem dX6_canBeTold_58 : decode cX6_canBeTold 58 = .ok (.ldc 255, 2) := by decide +kernel
theorem dX6_canBeTold_60 : decode cX6_canBeTold 60 = .ok (.if_icmp .gt 7, 3) := by decide +kernel
theorem dX6_canBeTold_63 : decode cX6_canBeTold 63 = .ok (.iconst 1, 1) := by decide +kernel
theorem dX6_canBeTold_64 : decode cX6_canBeTold 64 = .ok (.goto 4, 3) := by decide +kernel
theorem dX6_canBeTold_69 : decode cX6_canBeTold 69 = .ok (.iload_n 1, 1) := by decide +kernel
theorem dX6_canBeTold_70 : decode cX6_canBeTold 70 = .ok (.ifCond .ne 7, 3) := by decide +kernel
theorem dX6_canBeTold_77 : decode cX6_canBeTold 77 = .ok (.iconst 0, 1) := by decide +kernel
theorem dX6_canBeTold_78 : decode cX6_canBeTold 78 = .ok (.ireturn, 1) := by decide +kernel
theorem dX6_canBeTold_73 : decode cX6_canBeTold 73 = .ok (.iconst 1, 1) := by decide +kernel
theorem dX6_canBeTold_74 : decode cX6_canBeTold 74 = .ok (.goto 4, 3) := by decide +kernel
theorem dX6_open_0 : decode cX6_open 0 = .ok (.iload_n 1, 1) := by decide +kernel
theorem dX6_open_1 : decode cX6_open 1 = .ok (.ifCond .lt 21, 3) := by decide +kernel
theorem dX6_open_22 : decode cX6_open 22 = .ok (.aload_n 0, 1) := by decide +kernel
theorem dX6_open_23 : decode cX6_open 23 = .ok (.iconst 1, 1) := by decide +kernel
theorem dX6_open_24 : decode cX6_open 24 = .ok (.invokevirtual 65, 3) := by decide +kernel
theorem dX6_open_27 : decode cX6_open 27 = .ok (.ireturn, 1) := by decide +kernel
theorem dX6_open_4 : decode cX6_open 4 = .ok (.iload_n 1, 1) := by decide +kernel
theorem dX6_open_5 : decode cX6_open 5 = .ok (.bipush 6, 2) := by decide +kernel
theorem dX6_open_7 : decode cX6_open 7 = .ok (.if_icmp .ge 15, 3) := by decide +kernel
theorem dX6_open_10 : decode cX6_open 10 = .ok (.aload_n 0, 1) := by decide +kernel
theorem dX6_open_11 : decode cX6_open 11 = .ok (.getfield 15, 3) := by decide +kernel
theorem dX6_open_14 : decode cX6_open 14 = .ok (.iload_n 1, 1) := by decide +kernel
theorem dX6_open_15 : decode cX6_open 15 = .ok (.aaload, 1) := by decide +kernel
theorem dX6_open_16 : decode cX6_open 16 = .ok (.getfield 61, 3) := by decide +kernel
theorem dX6_open_19 : decode cX6_open 19 = .ok (.ifCond .eq 9, 3) := by decide +kernel
theorem dX6_open_28 : decode cX6_open 28 = .ok (.iload_n 2, 1) := by decide +kernel
theorem dX6_open_29 : decode cX6_open 29 = .ok (.iconst 1, 1) := by decide +kernel
theorem dX6_open_30 : decode cX6_open 30 = .ok (.if_icmp .lt 20, 3) := by decide +kernel
theorem dX6_open_50 : decode cX6_open 50 = .ok (.aload_n 0, 1) := by decide +kernel
theorem dX6_open_51 : decode cX6_open 51 = .ok (.iconst 2, 1) := by decide +kernel
theorem dX6_open_52 : decode cX6_open 52 = .ok (.invokevirtual 65, 3) := by decide +kernel
theorem dX6_open_55 : decode cX6_open 55 = .ok (.ireturn, 1) := by decide +kernel
theorem dX6_open_33 : decode cX6_open 33 = .ok (.iload_n 2, 1) := by decide +kernel
theorem dX6_open_34 : decode cX6_open 34 = .ok (.bipush 12, 2) := by decide +kernel
theorem dX6_open_36 : decode cX6_open 36 = .ok (.if_icmp .gt 14, 3) := by decide +kernel
theorem dX6_open_39 : decode cX6_open 39 = .ok (.iload_n 3, 1) := by decide +kernel
theorem dX6_open_40 : decode cX6_open 40 = .ok (.iconst 1, 1) := by decide +kernel
theorem dX6_open_41 : decode cX6_open 41 = .ok (.if_icmp .lt 9, 3) := by decide +kernel
theorem dX6_open_44 : decode cX6_open 44 = .ok (.iload_n 3, 1) := by decide +kernel
theorem dX6_open_45 : decode cX6_open 45 = .ok (.bipush 12, 2) := by decide +kernel
theorem dX6_open_47 : decode cX6_open 47 = .ok (.if_icmp .le 9, 3) := by decide +kernel
theorem dX6_open_56 : decode cX6_open 56 = .ok (.aload_n 0, 1) := by decide +kernel
theorem dX6_open_57 : decode cX6_open 57 = .ok (.getfield 15, 3) := by decide +kernel
theorem dX6_open_60 : decode cX6_open 60 = .ok (.iload_n 1, 1) := by decide +kernel
theorem dX6_open_61 : decode cX6_open 61 = .ok (.aaload, 1) := by decide +kernel
theorem dX6_open_62 : decode cX6_open 62 = .ok (.iload_n 2, 1) := by decide +kernel
theorem dX6_open_63 : decode cX6_open 63 = .ok (.iload_n 3, 1) := by decide +kernel
theorem dX6_open_64 : decode cX6_open 64 = .ok (.invokevirtual 69, 3) := by decide +kernel
theorem dX6_open_67 : decode cX6_open 67 = .ok (.aload_n 0, 1) := by decide +kernel
theorem dX6_open_68 : decode cX6_open 68 = .ok (.iconst 0, 1) := by decide +kernel
theorem dX6_open_69 : decode cX6_open 69 = .ok (.invokevirtual 65, 3) := by decide +kernel
theorem dX6_open_72 : decode cX6_open 72 = .ok (.ireturn, 1) := by decide +kernel
theorem dX6_close_0 : decode cX6_close 0 = .ok (.aload_n 0, 1) := by decide +kernel
theorem dX6_close_1 : decode cX6_close 1 = .ok (.aload_n 0, 1) := by decide +kernel
theorem dX6_close_2 : decode cX6_close 2 = .ok (.iload_n 1, 1) := by decide +kernel
theorem dX6_close_3 : decode cX6_close 3 = .ok (.invokevirtual 73, 3) := by decide +kernel
theorem dX6_close_6 : decode cX6_close 6 = .ok (.invokevirtual 65, 3) := by decide +kernel
theorem dX6_close_9 : decode cX6_close 9 = .ok (.ifCond .ne 5, 3) := by decide +kernel
theorem dX6_close_14 : decode cX6_close 14 = .ok (.aload_n 0, 1) := by decide +kernel
theorem dX6_close_15 : decode cX6_close 15 = .ok (.getfield 15, 3) := by decide +kernel
theorem dX6_close_18 : decode cX6_close 18 = .ok (.iload_n 1, 1) := by decide +kernel
theorem dX6_close_19 : decode cX6_close 19 = .ok (.aaload, 1) := by decide +kernel
theorem dX6_close_20 : decode cX6_close 20 = .ok (.iconst 0, 1) := by decide +kernel
theorem dX6_close_21 : decode cX6_close 21 = .ok (.putfield 61, 3) := by decide +kernel
theorem dX6_close_24 : decode cX6_close 24 = .ok (.iconst 1, 1) := by decide +kernel
theorem dX6_close_25 : decode cX6_close 25 = .ok (.ireturn, 1) := by decide +kernel
theorem dX6_close_12 : decode cX6_close 12 = .ok (.iconst 0, 1) := by decide +kernel
theorem dX6_close_13 : decode cX6_close 13 = .ok (.ireturn, 1) := by decide +kernel
theorem dX0_followPlan_0 : decode cX0_followPlan 0 = .ok (.aload_n 0, 1) := by decide +kernel
theorem dX0_followPlan_1 : decode cX0_followPlan 1 = .ok (.invokevirtual 41, 3) := by decide +kernel
theorem dX0_followPlan_4 : decode cX0_followPlan 4 = .ok (.iconst 0, 1) := by decide +kernel
theorem dX0_followPlan_5 : decode cX0_followPlan 5 = .ok (.istore_n 3, 1) := by decide +kernel
theorem dX0_followPlan_6 : decode cX0_followPlan 6 = .ok (.iconst 0, 1) := by decide +kernel
theorem dX0_followPlan_7 : decode cX0_followPlan 7 = .ok (.istore 4, 2) := by decide +kernel
theorem dX0_followPlan_9 : decode cX0_followPlan 9 = .ok (.iload 4, 2) := by decide +kernel
theorem dX0_followPlan_11 : decode cX0_followPlan 11 = .ok (.aload_n 2, 1) := by decide +kernel
theorem dX0_followPlan_12 : decode cX0_followPlan 12 = .ok (.getfield 44, 3) := by decide +kernel
theorem dX0_followPlan_15 : decode cX0_followPlan 15 = .ok (.if_icmp .ge 124, 3) := by decide +kernel
theorem dX0_followPlan_139 : decode cX0_followPlan 139 = .ok (.aload_n 0, 1) := by decide +kernel
theorem dX0_followPlan_140 : decode cX0_followPlan 140 = .ok (.aload_n 1, 1) := by decide +kernel
theorem dX0_followPlan_141 : decode cX0_followPlan 141 = .ok (.invokevirtual 71, 3) := by decide +kernel
theorem dX0_followPlan_144 : decode cX0_followPlan 144 = .ok (.iload_n 3, 1) := by decide +kernel
theorem dX0_followPlan_145 : decode cX0_followPlan 145 = .ok (.ireturn, 1) := by decide +kernel
theorem dX0_followPlan_18 : decode cX0_followPlan 18 = .ok (.iconst 0, 1) := by decide +kernel
theorem dX0_followPlan_19 : decode cX0_followPlan 19 = .ok (.istore 5, 2) := by decide +kernel
theorem dX0_followPlan_21 : decode cX0_followPlan 21 = .ok (.iload 5, 2) := by decide +kernel
theorem dX0_followPlan_23 : decode cX0_followPlan 23 = .ok (.aload_n 2, 1) := by decide +kernel
theorem dX0_followPlan_24 : decode cX0_followPlan 24 = .ok (.getfield 49, 3) := by decide +kernel
theorem dX0_followPlan_27 : decode cX0_followPlan 27 = .ok (.if_icmp .ge 106, 3) := by decide +kernel
theorem dX0_followPlan_133 : decode cX0_followPlan 133 = .ok (.iinc 4 1, 3) := by decide +kernel
theorem dX0_followPlan_136 : decode cX0_followPlan 136 = .ok (.goto (-127), 3) := by decide +kernel
theorem dX0_followPlan_30 : decode cX0_followPlan 30 = .ok (.aload_n 2, 1) := by decide +kernel
theorem dX0_followPlan_31 : decode cX0_followPlan 31 = .ok (.getfield 52, 3) := by decide +kernel
theorem dX0_followPlan_34 : decode cX0_followPlan 34 = .ok (.iload 4, 2) := by decide +kernel
theorem dX0_followPlan_36 : decode cX0_followPlan 36 = .ok (.iload 5, 2) := by decide +kernel
theorem dX0_followPlan_38 : decode cX0_followPlan 38 = .ok (.invokestatic 55, 3) := by decide +kernel
theorem dX0_followPlan_41 : decode cX0_followPlan 41 = .ok (.iaload, 1) := by decide +kernel
theorem dX0_followPlan_42 : decode cX0_followPlan 42 = .ok (.ifCond .eq 14, 3) := by decide +kernel
theorem dX0_followPlan_56 : decode cX0_followPlan 56 = .ok (.iconst 1, 1) := by decide +kernel
theorem dX0_followPlan_57 : decode cX0_followPlan 57 = .ok (.goto 4, 3) := by decide +kernel
theorem dX0_followPlan_45 : decode cX0_followPlan 45 = .ok (.aload_n 2, 1) := by decide +kernel
theorem dX0_followPlan_46 : decode cX0_followPlan 46 = .ok (.iload 4, 2) := by decide +kernel
theorem dX0_followPlan_48 : decode cX0_followPlan 48 = .ok (.iload 5, 2) := by decide +kernel
theorem dX0_followPlan_50 : decode cX0_followPlan 50 = .ok (.invokevirtual 59, 3) := by decide +kernel
theorem dX0_followPlan_53 : decode cX0_followPlan 53 = .ok (.ifCond .eq 7, 3) := by decide +kernel
theorem dX0_followPlan_60 : decode cX0_followPlan 60 = .ok (.iconst 0, 1) := by decide +kernel
theorem dX0_followPlan_61 : decode cX0_followPlan 61 = .ok (.istore 6, 2) := by decide +kernel
theorem dX0_followPlan_63 : decode cX0_followPlan 63 = .ok (.iconst 0, 1) := by decide +kernel
theorem dX0_followPlan_64 : decode cX0_followPlan 64 = .ok (.istore 7, 2) := by decide +kernel
theorem dX0_followPlan_66 : decode cX0_followPlan 66 = .ok (.iload 7, 2) := by decide +kernel
theorem dX0_followPlan_68 : decode cX0_followPlan 68 = .ok (.sipush 144, 3) := by decide +kernel
theorem dX0_followPlan_71 : decode cX0_followPlan 71 = .ok (.if_icmp .ge 56, 3) := by decide +kernel
theorem dX0_followPlan_127 : decode cX0_followPlan 127 = .ok (.iinc 5 1, 3) := by decide +kernel
theorem dX0_followPlan_130 : decode cX0_followPlan 130 = .ok (.goto (-109), 3) := by decide +kernel
theorem dX0_followPlan_74 : decode cX0_followPlan 74 = .ok (.iload 6, 2) := by decide +kernel
theorem dX0_followPlan_76 : decode cX0_followPlan 76 = .ok (.ifCond .ne 51, 3) := by decide +kernel
theorem dX0_followPlan_79 : decode cX0_followPlan 79 = .ok (.aload_n 0, 1) := by decide +kernel
theorem dX0_followPlan_80 : decode cX0_followPlan 80 = .ok (.aload_n 1, 1) := by decide +kernel
theorem dX0_followPlan_81 : decode cX0_followPlan 81 = .ok (.aload_n 2, 1) := by decide +kernel
theorem dX0_followPlan_82 : decode cX0_followPlan 82 = .ok (.iload 4, 2) := by decide +kernel
theorem dX0_followPlan_84 : decode cX0_followPlan 84 = .ok (.iload 5, 2) := by decide +kernel
theorem dX0_followPlan_86 : decode cX0_followPlan 86 = .ok (.invokevirtual 63, 3) := by decide +kernel
theorem dX0_followPlan_89 : decode cX0_followPlan 89 = .ok (.aload_n 0, 1) := by decide +kernel
theorem dX0_followPlan_90 : decode cX0_followPlan 90 = .ok (.getfield 35, 3) := by decide +kernel
theorem dX0_followPlan_93 : decode cX0_followPlan 93 = .ok (.iconst (-1), 1) := by decide +kernel
theorem dX0_followPlan_94 : decode cX0_followPlan 94 = .ok (.if_icmp .ne 5, 3) := by decide +kernel
theorem dX0_followPlan_99 : decode cX0_followPlan 99 = .ok (.iload_n 3, 1) := by decide +kernel
theorem dX0_followPlan_100 : decode cX0_followPlan 100 = .ok (.aload_n 0, 1) := by decide +kernel
theorem dX0_followPlan_101 : decode cX0_followPlan 101 = .ok (.aload_n 2, 1) := by decide +kernel
theorem dX0_followPlan_102 : decode cX0_followPlan 102 = .ok (.iload 4, 2) := by decide +kernel
theorem dX0_followPlan_104 : decode cX0_followPlan 104 = .ok (.iload 5, 2) := by decide +kernel
theorem dX0_followPlan_106 : decode cX0_followPlan 106 = .ok (.invokevirtual 67, 3) := by decide +kernel
theorem dX0_followPlan_109 : decode cX0_followPlan 109 = .ok (.iadd, 1) := by decide +kernel
theorem dX0_followPlan_110 : decode cX0_followPlan 110 = .ok (.istore_n 3, 1) := by decide +kernel
theorem dX0_followPlan_111 : decode cX0_followPlan 111 = .ok (.aload_n 2, 1) := by decide +kernel
theorem dX0_followPlan_112 : decode cX0_followPlan 112 = .ok (.iload 4, 2) := by decide +kernel
theorem dX0_followPlan_114 : decode cX0_followPlan 114 = .ok (.iload 5, 2) := by decide +kernel
theorem dX0_followPlan_116 : decode cX0_followPlan 116 = .ok (.invokevirtual 59, 3) := by decide +kernel
theorem dX0_followPlan_119 : decode cX0_followPlan 119 = .ok (.istore 6, 2) := by decide +kernel
theorem dX0_followPlan_121 : decode cX0_followPlan 121 = .ok (.iinc 7 1, 3) := by decide +kernel
theorem dX0_followPlan_124 : decode cX0_followPlan 124 = .ok (.goto (-58), 3) := by decide +kernel
theorem dX0_followPlan_97 : decode cX0_followPlan 97 = .ok (.iconst (-1), 1) := by decide +kernel
theorem dX0_followPlan_98 : decode cX0_followPlan 98 = .ok (.ireturn, 1) := by decide +kernel
theorem dX6_rule_0 : decode cX6_rule 0 = .ok (.aload_n 0, 1) := by decide +kernel
theorem dX6_rule_1 : decode cX6_rule 1 = .ok (.aload_n 0, 1) := by decide +kernel
theorem dX6_rule_2 : decode cX6_rule 2 = .ok (.iload_n 1, 1) := by decide +kernel
theorem dX6_rule_3 : decode cX6_rule 3 = .ok (.invokevirtual 73, 3) := by decide +kernel
theorem dX6_rule_6 : decode cX6_rule 6 = .ok (.invokevirtual 65, 3) := by decide +kernel
theorem dX6_rule_9 : decode cX6_rule 9 = .ok (.ifCond .ne 5, 3) := by decide +kernel
theorem dX6_rule_14 : decode cX6_rule 14 = .ok (.iload_n 2, 1) := by decide +kernel
theorem dX6_rule_15 : decode cX6_rule 15 = .ok (.ifCond .lt 24, 3) := by decide +kernel
theorem dX6_rule_39 : decode cX6_rule 39 = .ok (.aload_n 0, 1) := by decide +kernel
theorem dX6_rule_40 : decode cX6_rule 40 = .ok (.bipush 7, 2) := by decide +kernel
theorem dX6_rule_42 : decode cX6_rule 42 = .ok (.invokevirtual 65, 3) := by decide +kernel
theorem dX6_rule_45 : decode cX6_rule 45 = .ok (.ireturn, 1) := by decide +kernel
theorem dX6_rule_18 : decode cX6_rule 18 = .ok (.iload_n 2, 1) := by decide +kernel
theorem dX6_rule_19 : decode cX6_rule 19 = .ok (.getstatic 77, 3) := by decide +kernel
theorem dX6_rule_22 : decode cX6_rule 22 = .ok (.arraylength, 1) := by decide +kernel
theorem dX6_rule_23 : decode cX6_rule 23 = .ok (.if_icmp .ge 16, 3) := by decide +kernel
theorem dX6_rule_26 : decode cX6_rule 26 = .ok (.iload_n 3, 1) := by decide +kernel
theorem dX6_rule_27 : decode cX6_rule 27 = .ok (.ifCond .lt 12, 3) := by decide +kernel
theorem dX6_rule_30 : decode cX6_rule 30 = .ok (.iload_n 3, 1) := by decide +kernel
theorem dX6_rule_31 : decode cX6_rule 31 = .ok (.getstatic 77, 3) := by decide +kernel
theorem dX6_rule_34 : decode cX6_rule 34 = .ok (.iload_n 2, 1) := by decide +kernel
theorem dX6_rule_35 : decode cX6_rule 35 = .ok (.iaload, 1) := by decide +kernel
theorem dX6_rule_36 : decode cX6_rule 36 = .ok (.if_icmp .le 10, 3) := by decide +kernel
theorem dX6_rule_46 : decode cX6_rule 46 = .ok (.aload_n 0, 1) := by decide +kernel
theorem dX6_rule_47 : decode cX6_rule 47 = .ok (.getfield 15, 3) := by decide +kernel
theorem dX6_rule_50 : decode cX6_rule 50 = .ok (.iload_n 1, 1) := by decide +kernel
theorem dX6_rule_51 : decode cX6_rule 51 = .ok (.aaload, 1) := by decide +kernel
theorem dX6_rule_52 : decode cX6_rule 52 = .ok (.getfield 81, 3) := by decide +kernel
theorem dX6_rule_55 : decode cX6_rule 55 = .ok (.iload_n 2, 1) := by decide +kernel
theorem dX6_rule_56 : decode cX6_rule 56 = .ok (.iload_n 3, 1) := by decide +kernel
theorem dX6_rule_57 : decode cX6_rule 57 = .ok (.iastore, 1) := by decide +kernel
theorem dX6_rule_58 : decode cX6_rule 58 = .ok (.iconst 1, 1) := by decide +kernel
theorem dX6_rule_59 : decode cX6_rule 59 = .ok (.ireturn, 1) := by decide +kernel
theorem dX6_rule_12 : decode cX6_rule 12 = .ok (.iconst 0, 1) := by decide +kernel
theorem dX6_rule_13 : decode cX6_rule 13 = .ok (.ireturn, 1) := by decide +kernel
theorem dX6_cell_0 : decode cX6_cell 0 = .ok (.aload_n 0, 1) := by decide +kernel
theorem dX6_cell_1 : decode cX6_cell 1 = .ok (.aload_n 0, 1) := by decide +kernel
theorem dX6_cell_2 : decode cX6_cell 2 = .ok (.iload_n 1, 1) := by decide +kernel
theorem dX6_cell_3 : decode cX6_cell 3 = .ok (.iload_n 2, 1) := by decide +kernel
theorem dX6_cell_4 : decode cX6_cell 4 = .ok (.iload_n 3, 1) := by decide +kernel
theorem dX6_cell_5 : decode cX6_cell 5 = .ok (.invokevirtual 84, 3) := by decide +kernel
theorem dX6_cell_8 : decode cX6_cell 8 = .ok (.invokevirtual 65, 3) := by decide +kernel
theorem dX6_cell_11 : decode cX6_cell 11 = .ok (.ifCond .ne 5, 3) := by decide +kernel
theorem dX6_cell_16 : decode cX6_cell 16 = .ok (.iload 4, 2) := by decide +kernel
theorem dX6_cell_18 : decode cX6_cell 18 = .ok (.iload 5, 2) := by decide +kernel
theorem dX6_cell_20 : decode cX6_cell 20 = .ok (.invokestatic 88, 3) := by decide +kernel
theorem dX6_cell_23 : decode cX6_cell 23 = .ok (.ifCond .ne 10, 3) := by decide +kernel
theorem dX6_cell_33 : decode cX6_cell 33 = .ok (.aload_n 0, 1) := by decide +kernel
theorem dX6_cell_34 : decode cX6_cell 34 = .ok (.getfield 15, 3) := by decide +kernel
theorem dX6_cell_37 : decode cX6_cell 37 = .ok (.iload_n 1, 1) := by decide +kernel
theorem dX6_cell_38 : decode cX6_cell 38 = .ok (.aaload, 1) := by decide +kernel
theorem dX6_cell_39 : decode cX6_cell 39 = .ok (.iload_n 2, 1) := by decide +kernel
theorem dX6_cell_40 : decode cX6_cell 40 = .ok (.iload_n 3, 1) := by decide +kernel
theorem dX6_cell_41 : decode cX6_cell 41 = .ok (.invokestatic 92, 3) := by decide +kernel
theorem dX6_cell_44 : decode cX6_cell 44 = .ok (.iload 4, 2) := by decide +kernel
theorem dX6_cell_46 : decode cX6_cell 46 = .ok (.ifCond .ne 7, 3) := by decide +kernel
theorem dX6_cell_53 : decode cX6_cell 53 = .ok (.iload 4, 2) := by decide +kernel
theorem dX6_cell_49 : decode cX6_cell 49 = .ok (.iconst 5, 1) := by decide +kernel
theorem dX6_cell_50 : decode cX6_cell 50 = .ok (.goto 5, 3) := by decide +kernel
theorem dX6_cell_55 : decode cX6_cell 55 = .ok (.iload 5, 2) := by decide +kernel
theorem dX6_cell_57 : decode cX6_cell 57 = .ok (.invokevirtual 96, 3) := by decide +kernel
theorem dX6_cell_60 : decode cX6_cell 60 = .ok (.iconst 1, 1) := by decide +kernel
theorem dX6_cell_61 : decode cX6_cell 61 = .ok (.ireturn, 1) := by decide +kernel
theorem dX6_cell_26 : decode cX6_cell 26 = .ok (.aload_n 0, 1) := by decide +kernel
theorem dX6_cell_27 : decode cX6_cell 27 = .ok (.bipush 7, 2) := by decide +kernel
theorem dX6_cell_29 : decode cX6_cell 29 = .ok (.invokevirtual 65, 3) := by decide +kernel
theorem dX6_cell_32 : decode cX6_cell 32 = .ok (.ireturn, 1) := by decide +kernel
theorem dX6_cell_14 : decode cX6_cell 14 = .ok (.iconst 0, 1) := by decide +kernel
theorem dX6_cell_15 : decode cX6_cell 15 = .ok (.ireturn, 1) := by decide +kernel
theorem dX6_giver_0 : decode cX6_giver 0 = .ok (.aload_n 0, 1) := by decide +kernel
theorem dX6_giver_1 : decode cX6_giver 1 = .ok (.aload_n 0, 1) := by decide +kernel
theorem dX6_giver_2 : decode cX6_giver 2 = .ok (.iload_n 1, 1) := by decide +kernel
theorem dX6_giver_3 : decode cX6_giver 3 = .ok (.iload_n 2, 1) := by decide +kernel
theorem dX6_giver_4 : decode cX6_giver 4 = .ok (.iload_n 3, 1) := by decide +kernel
theorem dX6_giver_5 : decode cX6_giver 5 = .ok (.invokevirtual 100, 3) := by decide +kernel
theorem dX6_giver_8 : decode cX6_giver 8 = .ok (.invokevirtual 65, 3) := by decide +kernel
theorem dX6_giver_11 : decode cX6_giver 11 = .ok (.ifCond .ne 5, 3) := by decide +kernel
theorem dX6_giver_16 : decode cX6_giver 16 = .ok (.iload 4, 2) := by decide +kernel
theorem dX6_giver_18 : decode cX6_giver 18 = .ok (.iconst 1, 1) := by decide +kernel
theorem dX6_giver_19 : decode cX6_giver 19 = .ok (.if_icmp .lt 10, 3) := by decide +kernel
theorem dX6_giver_29 : decode cX6_giver 29 = .ok (.aload_n 0, 1) := by decide +kernel
theorem dX6_giver_30 : decode cX6_giver 30 = .ok (.bipush 7, 2) := by decide +kernel
theorem dX6_giver_32 : decode cX6_giver 32 = .ok (.invokevirtual 65, 3) := by decide +kernel
theorem dX6_giver_35 : decode cX6_giver 35 = .ok (.ireturn, 1) := by decide +kernel
theorem dX6_giver_22 : decode cX6_giver 22 = .ok (.iload 4, 2) := by decide +kernel
theorem dX6_giver_24 : decode cX6_giver 24 = .ok (.ldc 103, 2) := by decide +kernel
theorem dX6_giver_26 : decode cX6_giver 26 = .ok (.if_icmp .le 10, 3) := by decide +kernel
theorem dX6_giver_36 : decode cX6_giver 36 = .ok (.aload_n 0, 1) := by decide +kernel
theorem dX6_giver_37 : decode cX6_giver 37 = .ok (.aload_n 0, 1) := by decide +kernel
theorem dX6_giver_38 : decode cX6_giver 38 = .ok (.getfield 15, 3) := by decide +kernel
theorem dX6_giver_41 : decode cX6_giver 41 = .ok (.iload_n 1, 1) := by decide +kernel
theorem dX6_giver_42 : decode cX6_giver 42 = .ok (.aaload, 1) := by decide +kernel
theorem dX6_giver_43 : decode cX6_giver 43 = .ok (.iload_n 2, 1) := by decide +kernel
theorem dX6_giver_44 : decode cX6_giver 44 = .ok (.iload_n 3, 1) := by decide +kernel
theorem dX6_giver_45 : decode cX6_giver 45 = .ok (.invokestatic 92, 3) := by decide +kernel
theorem dX6_giver_48 : decode cX6_giver 48 = .ok (.iload 4, 2) := by decide +kernel
theorem dX6_giver_50 : decode cX6_giver 50 = .ok (.invokevirtual 104, 3) := by decide +kernel
theorem dX6_giver_53 : decode cX6_giver 53 = .ok (.ifCond .eq 7, 3) := by decide +kernel
theorem dX6_giver_60 : decode cX6_giver 60 = .ok (.bipush 8, 2) := by decide +kernel
theorem dX6_giver_56 : decode cX6_giver 56 = .ok (.iconst 0, 1) := by decide +kernel
theorem dX6_giver_57 : decode cX6_giver 57 = .ok (.goto 5, 3) := by decide +kernel
theorem dX6_giver_62 : decode cX6_giver 62 = .ok (.invokevirtual 65, 3) := by decide +kernel
theorem dX6_giver_65 : decode cX6_giver 65 = .ok (.ireturn, 1) := by decide +kernel
theorem dX6_giver_14 : decode cX6_giver 14 = .ok (.iconst 0, 1) := by decide +kernel
theorem dX6_giver_15 : decode cX6_giver 15 = .ok (.ireturn, 1) := by decide +kernel
theorem dX6_clear_0 : decode cX6_clear 0 = .ok (.aload_n 0, 1) := by decide +kernel
theorem dX6_clear_1 : decode cX6_clear 1 = .ok (.aload_n 0, 1) := by decide +kernel
theorem dX6_clear_2 : decode cX6_clear 2 = .ok (.iload_n 1, 1) := by decide +kernel
theorem dX6_clear_3 : decode cX6_clear 3 = .ok (.iload_n 2, 1) := by decide +kernel
theorem dX6_clear_4 : decode cX6_clear 4 = .ok (.iload_n 3, 1) := by decide +kernel
theorem dX6_clear_5 : decode cX6_clear 5 = .ok (.invokevirtual 107, 3) := by decide +kernel
theorem dX6_clear_8 : decode cX6_clear 8 = .ok (.invokevirtual 65, 3) := by decide +kernel
theorem dX6_clear_11 : decode cX6_clear 11 = .ok (.ifCond .ne 5, 3) := by decide +kernel
theorem dX6_clear_16 : decode cX6_clear 16 = .ok (.aload_n 0, 1) := by decide +kernel
theorem dX6_clear_17 : decode cX6_clear 17 = .ok (.getfield 15, 3) := by decide +kernel
theorem dX6_clear_20 : decode cX6_clear 20 = .ok (.iload_n 1, 1) := by decide +kernel
theorem dX6_clear_21 : decode cX6_clear 21 = .ok (.aaload, 1) := by decide +kernel
theorem dX6_clear_22 : decode cX6_clear 22 = .ok (.iload_n 2, 1) := by decide +kernel
theorem dX6_clear_23 : decode cX6_clear 23 = .ok (.iload_n 3, 1) := by decide +kernel
theorem dX6_clear_24 : decode cX6_clear 24 = .ok (.invokestatic 92, 3) := by decide +kernel
theorem dX6_clear_27 : decode cX6_clear 27 = .ok (.iconst 0, 1) := by decide +kernel
theorem dX6_clear_28 : decode cX6_clear 28 = .ok (.iconst 0, 1) := by decide +kernel
theorem dX6_clear_29 : decode cX6_clear 29 = .ok (.invokevirtual 96, 3) := by decide +kernel
theorem dX6_clear_32 : decode cX6_clear 32 = .ok (.iconst 1, 1) := by decide +kernel
theorem dX6_clear_33 : decode cX6_clear 33 = .ok (.ireturn, 1) := by decide +kernel
theorem dX6_clear_14 : decode cX6_clear 14 = .ok (.iconst 0, 1) := by decide +kernel
theorem dX6_clear_15 : decode cX6_clear 15 = .ok (.ireturn, 1) := by decide +kernel
theorem dX6_tear_0 : decode cX6_tear 0 = .ok (.aload_n 0, 1) := by decide +kernel
theorem dX6_tear_1 : decode cX6_tear 1 = .ok (.aload_n 0, 1) := by decide +kernel
theorem dX6_tear_2 : decode cX6_tear 2 = .ok (.iload_n 1, 1) := by decide +kernel
theorem dX6_tear_3 : decode cX6_tear 3 = .ok (.iload_n 2, 1) := by decide +kernel
theorem dX6_tear_4 : decode cX6_tear 4 = .ok (.invokevirtual 110, 3) := by decide +kernel
theorem dX6_tear_7 : decode cX6_tear 7 = .ok (.invokevirtual 65, 3) := by decide +kernel
theorem dX6_tear_10 : decode cX6_tear 10 = .ok (.ifCond .ne 5, 3) := by decide +kernel
theorem dX6_tear_15 : decode cX6_tear 15 = .ok (.aload_n 0, 1) := by decide +kernel
theorem dX6_tear_16 : decode cX6_tear 16 = .ok (.getfield 15, 3) := by decide +kernel
theorem dX6_tear_19 : decode cX6_tear 19 = .ok (.iload_n 1, 1) := by decide +kernel
theorem dX6_tear_20 : decode cX6_tear 20 = .ok (.aaload, 1) := by decide +kernel
theorem dX6_tear_21 : decode cX6_tear 21 = .ok (.getfield 113, 3) := by decide +kernel
theorem dX6_tear_24 : decode cX6_tear 24 = .ok (.iload_n 2, 1) := by decide +kernel
theorem dX6_tear_25 : decode cX6_tear 25 = .ok (.iaload, 1) := by decide +kernel
theorem dX6_tear_26 : decode cX6_tear 26 = .ok (.istore 4, 2) := by decide +kernel
theorem dX6_tear_28 : decode cX6_tear 28 = .ok (.iload 4, 2) := by decide +kernel
theorem dX6_tear_30 : decode cX6_tear 30 = .ok (.ifCond .ne 9, 3) := by decide +kernel
theorem dX6_tear_39 : decode cX6_tear 39 = .ok (.iload_n 3, 1) := by decide +kernel
theorem dX6_tear_40 : decode cX6_tear 40 = .ok (.iload 4, 2) := by decide +kernel
theorem dX6_tear_42 : decode cX6_tear 42 = .ok (.if_icmp .le 9, 3) := by decide +kernel
theorem dX6_tear_51 : decode cX6_tear 51 = .ok (.iload_n 3, 1) := by decide +kernel
theorem dX6_tear_52 : decode cX6_tear 52 = .ok (.ifCond .ge 10, 3) := by decide +kernel
theorem dX6_tear_62 : decode cX6_tear 62 = .ok (.aload_n 0, 1) := by decide +kernel
theorem dX6_tear_63 : decode cX6_tear 63 = .ok (.getfield 15, 3) := by decide +kernel
theorem dX6_tear_66 : decode cX6_tear 66 = .ok (.iload_n 1, 1) := by decide +kernel
theorem dX6_tear_67 : decode cX6_tear 67 = .ok (.aaload, 1) := by decide +kernel
theorem dX6_tear_68 : decode cX6_tear 68 = .ok (.iload_n 2, 1) := by decide +kernel
theorem dX6_tear_69 : decode cX6_tear 69 = .ok (.iload_n 3, 1) := by decide +kernel
theorem dX6_tear_70 : decode cX6_tear 70 = .ok (.invokevirtual 116, 3) := by decide +kernel
theorem dX6_tear_73 : decode cX6_tear 73 = .ok (.iconst 1, 1) := by decide +kernel
theorem dX6_tear_74 : decode cX6_tear 74 = .ok (.ireturn, 1) := by decide +kernel
theorem dX6_tear_55 : decode cX6_tear 55 = .ok (.aload_n 0, 1) := by decide +kernel
theorem dX6_tear_56 : decode cX6_tear 56 = .ok (.bipush 7, 2) := by decide +kernel
theorem dX6_tear_58 : decode cX6_tear 58 = .ok (.invokevirtual 65, 3) := by decide +kernel
theorem dX6_tear_61 : decode cX6_tear 61 = .ok (.ireturn, 1) := by decide +kernel
theorem dX6_tear_45 : decode cX6_tear 45 = .ok (.aload_n 0, 1) := by decide +kernel
theorem dX6_tear_46 : decode cX6_tear 46 = .ok (.iconst 4, 1) := by decide +kernel
theorem dX6_tear_47 : decode cX6_tear 47 = .ok (.invokevirtual 65, 3) := by decide +kernel
theorem dX6_tear_50 : decode cX6_tear 50 = .ok (.ireturn, 1) := by decide +kernel
theorem dX6_tear_33 : decode cX6_tear 33 = .ok (.aload_n 0, 1) := by decide +kernel
theorem dX6_tear_34 : decode cX6_tear 34 = .ok (.iconst 3, 1) := by decide +kernel
theorem dX6_tear_35 : decode cX6_tear 35 = .ok (.invokevirtual 65, 3) := by decide +kernel
theorem dX6_tear_38 : decode cX6_tear 38 = .ok (.ireturn, 1) := by decide +kernel
theorem dX6_tear_13 : decode cX6_tear 13 = .ok (.iconst 0, 1) := by decide +kernel
theorem dX6_tear_14 : decode cX6_tear 14 = .ok (.ireturn, 1) := by decide +kernel
theorem dX6_block_0 : decode cX6_block 0 = .ok (.aload_n 0, 1) := by decide +kernel
theorem dX6_block_1 : decode cX6_block 1 = .ok (.aload_n 0, 1) := by decide +kernel
theorem dX6_block_2 : decode cX6_block 2 = .ok (.iload_n 1, 1) := by decide +kernel
theorem dX6_block_3 : decode cX6_block 3 = .ok (.invokevirtual 73, 3) := by decide +kernel
theorem dX6_block_6 : decode cX6_block 6 = .ok (.invokevirtual 65, 3) := by decide +kernel
theorem dX6_block_9 : decode cX6_block 9 = .ok (.ifCond .ne 5, 3) := by decide +kernel
theorem dX6_block_14 : decode cX6_block 14 = .ok (.aload_n 0, 1) := by decide +kernel
theorem dX6_block_15 : decode cX6_block 15 = .ok (.getfield 15, 3) := by decide +kernel
theorem dX6_block_18 : decode cX6_block 18 = .ok (.iload_n 1, 1) := by decide +kernel
theorem dX6_block_19 : decode cX6_block 19 = .ok (.aaload, 1) := by decide +kernel
theorem dX6_block_20 : decode cX6_block 20 = .ok (.astore 4, 2) := by decide +kernel
theorem dX6_block_22 : decode cX6_block 22 = .ok (.iload_n 2, 1) := by decide +kernel
theorem dX6_block_23 : decode cX6_block 23 = .ok (.ifCond .lt 17, 3) := by decide +kernel
theorem dX6_block_40 : decode cX6_block 40 = .ok (.aload_n 0, 1) := by decide +kernel
theorem dX6_block_41 : decode cX6_block 41 = .ok (.iconst 2, 1) := by decide +kernel
theorem dX6_block_42 : decode cX6_block 42 = .ok (.invokevirtual 122, 3) := by decide +kernel
theorem dX6_block_45 : decode cX6_block 45 = .ok (.ireturn, 1) := by decide +kernel
theorem dX6_block_26 : decode cX6_block 26 = .ok (.iload_n 3, 1) := by decide +kernel
theorem dX6_block_27 : decode cX6_block 27 = .ok (.aload 4, 2) := by decide +kernel
theorem dX6_block_29 : decode cX6_block 29 = .ok (.getfield 119, 3) := by decide +kernel
theorem dX6_block_32 : decode cX6_block 32 = .ok (.if_icmp .ge 8, 3) := by decide +kernel
theorem dX6_block_35 : decode cX6_block 35 = .ok (.iload_n 3, 1) := by decide +kernel
theorem dX6_block_36 : decode cX6_block 36 = .ok (.iload_n 2, 1) := by decide +kernel
theorem dX6_block_37 : decode cX6_block 37 = .ok (.if_icmp .ge 9, 3) := by decide +kernel
theorem dX6_block_46 : decode cX6_block 46 = .ok (.aload 4, 2) := by decide +kernel
theorem dX6_block_48 : decode cX6_block 48 = .ok (.getfield 125, 3) := by decide +kernel
theorem dX6_block_51 : decode cX6_block 51 = .ok (.bipush 12, 2) := by decide +kernel
theorem dX6_block_53 : decode cX6_block 53 = .ok (.if_icmp .lt 10, 3) := by decide +kernel
theorem dX6_block_63 : decode cX6_block 63 = .ok (.aload 4, 2) := by decide +kernel
theorem dX6_block_65 : decode cX6_block 65 = .ok (.iload_n 2, 1) := by decide +kernel
theorem dX6_block_66 : decode cX6_block 66 = .ok (.iload_n 3, 1) := by decide +kernel
theorem dX6_block_67 : decode cX6_block 67 = .ok (.invokevirtual 128, 3) := by decide +kernel
theorem dX6_block_70 : decode cX6_block 70 = .ok (.ifCond .ne 10, 3) := by decide +kernel
theorem dX6_block_80 : decode cX6_block 80 = .ok (.aload 4, 2) := by decide +kernel
theorem dX6_block_82 : decode cX6_block 82 = .ok (.iload_n 2, 1) := by decide +kernel
theorem dX6_block_83 : decode cX6_block 83 = .ok (.iload_n 3, 1) := by decide +kernel
theorem dX6_block_84 : decode cX6_block 84 = .ok (.invokevirtual 131, 3) := by decide +kernel
theorem dX6_block_87 : decode cX6_block 87 = .ok (.aload 4, 2) := by decide +kernel
theorem dX6_block_89 : decode cX6_block 89 = .ok (.getfield 125, 3) := by decide +kernel
theorem dX6_block_92 : decode cX6_block 92 = .ok (.ireturn, 1) := by decide +kernel
theorem dX6_block_73 : decode cX6_block 73 = .ok (.aload_n 0, 1) := by decide +kernel
theorem dX6_block_74 : decode cX6_block 74 = .ok (.bipush 9, 2) := by decide +kernel
theorem dX6_block_76 : decode cX6_block 76 = .ok (.invokevirtual 122, 3) := by decide +kernel
theorem dX6_block_79 : decode cX6_block 79 = .ok (.ireturn, 1) := by decide +kernel
theorem dX6_block_56 : decode cX6_block 56 = .ok (.aload_n 0, 1) := by decide +kernel
theorem dX6_block_57 : decode cX6_block 57 = .ok (.bipush 8, 2) := by decide +kernel
theorem dX6_block_59 : decode cX6_block 59 = .ok (.invokevirtual 122, 3) := by decide +kernel
theorem dX6_block_62 : decode cX6_block 62 = .ok (.ireturn, 1) := by decide +kernel
theorem dX6_block_12 : decode cX6_block 12 = .ok (.iconst (-1), 1) := by decide +kernel
theorem dX6_block_13 : decode cX6_block 13 = .ok (.ireturn, 1) := by decide +kernel
theorem dX6_kind_0 : decode cX6_kind 0 = .ok (.aload_n 0, 1) := by decide +kernel
theorem dX6_kind_1 : decode cX6_kind 1 = .ok (.aload_n 0, 1) := by decide +kernel
theorem dX6_kind_2 : decode cX6_kind 2 = .ok (.iload_n 1, 1) := by decide +kernel
theorem dX6_kind_3 : decode cX6_kind 3 = .ok (.iload_n 2, 1) := by decide +kernel
theorem dX6_kind_4 : decode cX6_kind 4 = .ok (.iload_n 3, 1) := by decide +kernel
theorem dX6_kind_5 : decode cX6_kind 5 = .ok (.invokevirtual 84, 3) := by decide +kernel
theorem dX6_kind_8 : decode cX6_kind 8 = .ok (.invokevirtual 65, 3) := by decide +kernel
theorem dX6_kind_11 : decode cX6_kind 11 = .ok (.ifCond .ne 5, 3) := by decide +kernel
theorem dX6_kind_16 : decode cX6_kind 16 = .ok (.aload_n 0, 1) := by decide +kernel
theorem dX6_kind_17 : decode cX6_kind 17 = .ok (.getfield 15, 3) := by decide +kernel
theorem dX6_kind_20 : decode cX6_kind 20 = .ok (.iload_n 1, 1) := by decide +kernel
theorem dX6_kind_21 : decode cX6_kind 21 = .ok (.aaload, 1) := by decide +kernel
theorem dX6_kind_22 : decode cX6_kind 22 = .ok (.getfield 134, 3) := by decide +kernel
theorem dX6_kind_25 : decode cX6_kind 25 = .ok (.iload_n 2, 1) := by decide +kernel
theorem dX6_kind_26 : decode cX6_kind 26 = .ok (.iload_n 3, 1) := by decide +kernel
theorem dX6_kind_27 : decode cX6_kind 27 = .ok (.invokestatic 92, 3) := by decide +kernel
theorem dX6_kind_30 : decode cX6_kind 30 = .ok (.iaload, 1) := by decide +kernel
theorem dX6_kind_31 : decode cX6_kind 31 = .ok (.ireturn, 1) := by decide +kernel
theorem dX6_kind_14 : decode cX6_kind 14 = .ok (.iconst (-1), 1) := by decide +kernel
theorem dX6_kind_15 : decode cX6_kind 15 = .ok (.ireturn, 1) := by decide +kernel
theorem dX6_number_0 : decode cX6_number 0 = .ok (.aload_n 0, 1) := by decide +kernel
theorem dX6_number_1 : decode cX6_number 1 = .ok (.aload_n 0, 1) := by decide +kernel
theorem dX6_number_2 : decode cX6_number 2 = .ok (.iload_n 1, 1) := by decide +kernel
theorem dX6_number_3 : decode cX6_number 3 = .ok (.iload_n 2, 1) := by decide +kernel
theorem dX6_number_4 : decode cX6_number 4 = .ok (.iload_n 3, 1) := by decide +kernel
theorem dX6_number_5 : decode cX6_number 5 = .ok (.invokevirtual 107, 3) := by decide +kernel
theorem dX6_number_8 : decode cX6_number 8 = .ok (.invokevirtual 65, 3) := by decide +kernel
theorem dX6_number_11 : decode cX6_number 11 = .ok (.ifCond .ne 5, 3) := by decide +kernel
theorem dX6_number_16 : decode cX6_number 16 = .ok (.aload_n 0, 1) := by decide +kernel
theorem dX6_number_17 : decode cX6_number 17 = .ok (.getfield 15, 3) := by decide +kernel
theorem dX6_number_20 : decode cX6_number 20 = .ok (.iload_n 1, 1) := by decide +kernel
theorem dX6_number_21 : decode cX6_number 21 = .ok (.aaload, 1) := by decide +kernel
theorem dX6_number_22 : decode cX6_number 22 = .ok (.getfield 137, 3) := by decide +kernel
theorem dX6_number_25 : decode cX6_number 25 = .ok (.iload_n 2, 1) := by decide +kernel
theorem dX6_number_26 : decode cX6_number 26 = .ok (.iload_n 3, 1) := by decide +kernel
theorem dX6_number_27 : decode cX6_number 27 = .ok (.invokestatic 92, 3) := by decide +kernel
theorem dX6_number_30 : decode cX6_number 30 = .ok (.iaload, 1) := by decide +kernel
theorem dX6_number_31 : decode cX6_number 31 = .ok (.ireturn, 1) := by decide +kernel
theorem dX6_number_14 : decode cX6_number 14 = .ok (.iconst (-1), 1) := by decide +kernel
theorem dX6_number_15 : decode cX6_number 15 = .ok (.ireturn, 1) := by decide +kernel
theorem dX6_givers_0 : decode cX6_givers 0 = .ok (.aload_n 0, 1) := by decide +kernel
theorem dX6_givers_1 : decode cX6_givers 1 = .ok (.aload_n 0, 1) := by decide +kernel
theorem dX6_givers_2 : decode cX6_givers 2 = .ok (.iload_n 1, 1) := by decide +kernel
theorem dX6_givers_3 : decode cX6_givers 3 = .ok (.iload_n 2, 1) := by decide +kernel
theorem dX6_givers_4 : decode cX6_givers 4 = .ok (.iload_n 3, 1) := by decide +kernel
theorem dX6_givers_5 : decode cX6_givers 5 = .ok (.invokevirtual 100, 3) := by decide +kernel
theorem dX6_givers_8 : decode cX6_givers 8 = .ok (.invokevirtual 65, 3) := by decide +kernel
theorem dX6_givers_11 : decode cX6_givers 11 = .ok (.ifCond .ne 5, 3) := by decide +kernel
theorem dX6_givers_16 : decode cX6_givers 16 = .ok (.aload_n 0, 1) := by decide +kernel
theorem dX6_givers_17 : decode cX6_givers 17 = .ok (.getfield 15, 3) := by decide +kernel
theorem dX6_givers_20 : decode cX6_givers 20 = .ok (.iload_n 1, 1) := by decide +kernel
theorem dX6_givers_21 : decode cX6_givers 21 = .ok (.aaload, 1) := by decide +kernel
theorem dX6_givers_22 : decode cX6_givers 22 = .ok (.iload_n 2, 1) := by decide +kernel
theorem dX6_givers_23 : decode cX6_givers 23 = .ok (.iload_n 3, 1) := by decide +kernel
theorem dX6_givers_24 : decode cX6_givers 24 = .ok (.invokestatic 92, 3) := by decide +kernel
theorem dX6_givers_27 : decode cX6_givers 27 = .ok (.invokevirtual 140, 3) := by decide +kernel
theorem dX6_givers_30 : decode cX6_givers 30 = .ok (.ireturn, 1) := by decide +kernel
theorem dX6_givers_14 : decode cX6_givers 14 = .ok (.iconst (-1), 1) := by decide +kernel
theorem dX6_givers_15 : decode cX6_givers 15 = .ok (.ireturn, 1) := by decide +kernel
theorem dX6_part_0 : decode cX6_part 0 = .ok (.aload_n 0, 1) := by decide +kernel
theorem dX6_part_1 : decode cX6_part 1 = .ok (.aload_n 0, 1) := by decide +kernel
theorem dX6_part_2 : decode cX6_part 2 = .ok (.iload_n 1, 1) := by decide +kernel
theorem dX6_part_3 : decode cX6_part 3 = .ok (.iload_n 2, 1) := by decide +kernel
theorem dX6_part_4 : decode cX6_part 4 = .ok (.iload_n 3, 1) := by decide +kernel
theorem dX6_part_5 : decode cX6_part 5 = .ok (.invokevirtual 100, 3) := by decide +kernel
theorem dX6_part_8 : decode cX6_part 8 = .ok (.invokevirtual 65, 3) := by decide +kernel
theorem dX6_part_11 : decode cX6_part 11 = .ok (.ifCond .ne 5, 3) := by decide +kernel
theorem dX6_part_16 : decode cX6_part 16 = .ok (.iload_n 2, 1) := by decide +kernel
theorem dX6_part_17 : decode cX6_part 17 = .ok (.iload_n 3, 1) := by decide +kernel
theorem dX6_part_18 : decode cX6_part 18 = .ok (.invokestatic 92, 3) := by decide +kernel
theorem dX6_part_21 : decode cX6_part 21 = .ok (.istore 5, 2) := by decide +kernel
theorem dX6_part_23 : decode cX6_part 23 = .ok (.iload 4, 2) := by decide +kernel
theorem dX6_part_25 : decode cX6_part 25 = .ok (.ifCond .lt 19, 3) := by decide +kernel
theorem dX6_part_44 : decode cX6_part 44 = .ok (.aload_n 0, 1) := by decide +kernel
theorem dX6_part_45 : decode cX6_part 45 = .ok (.bipush 7, 2) := by decide +kernel
theorem dX6_part_47 : decode cX6_part 47 = .ok (.invokevirtual 122, 3) := by decide +kernel
theorem dX6_part_50 : decode cX6_part 50 = .ok (.ireturn, 1) := by decide +kernel
theorem dX6_part_28 : decode cX6_part 28 = .ok (.iload 4, 2) := by decide +kernel
theorem dX6_part_30 : decode cX6_part 30 = .ok (.aload_n 0, 1) := by decide +kernel
theorem dX6_part_31 : decode cX6_part 31 = .ok (.getfield 15, 3) := by decide +kernel
theorem dX6_part_34 : decode cX6_part 34 = .ok (.iload_n 1, 1) := by decide +kernel
theorem dX6_part_35 : decode cX6_part 35 = .ok (.aaload, 1) := by decide +kernel
theorem dX6_part_36 : decode cX6_part 36 = .ok (.iload 5, 2) := by decide +kernel
theorem dX6_part_38 : decode cX6_part 38 = .ok (.invokevirtual 140, 3) := by decide +kernel
theorem dX6_part_41 : decode cX6_part 41 = .ok (.if_icmp .lt 10, 3) := by decide +kernel
theorem dX6_part_51 : decode cX6_part 51 = .ok (.aload_n 0, 1) := by decide +kernel
theorem dX6_part_52 : decode cX6_part 52 = .ok (.getfield 15, 3) := by decide +kernel
theorem dX6_part_55 : decode cX6_part 55 = .ok (.iload_n 1, 1) := by decide +kernel
theorem dX6_part_56 : decode cX6_part 56 = .ok (.aaload, 1) := by decide +kernel
theorem dX6_part_57 : decode cX6_part 57 = .ok (.getfield 143, 3) := by decide +kernel
theorem dX6_part_60 : decode cX6_part 60 = .ok (.iload 5, 2) := by decide +kernel
theorem dX6_part_62 : decode cX6_part 62 = .ok (.bipush 6, 2) := by decide +kernel
theorem dX6_part_64 : decode cX6_part 64 = .ok (.imul, 1) := by decide +kernel
theorem dX6_part_65 : decode cX6_part 65 = .ok (.iload 4, 2) := by decide +kernel
theorem dX6_part_67 : decode cX6_part 67 = .ok (.iadd, 1) := by decide +kernel
theorem dX6_part_68 : decode cX6_part 68 = .ok (.iaload, 1) := by decide +kernel
theorem dX6_part_69 : decode cX6_part 69 = .ok (.ireturn, 1) := by decide +kernel
theorem dX6_part_14 : decode cX6_part 14 = .ok (.iconst (-1), 1) := by decide +kernel
theorem dX6_part_15 : decode cX6_part 15 = .ok (.ireturn, 1) := by decide +kernel
theorem dX6_hand_0 : decode cX6_hand 0 = .ok (.aload_n 0, 1) := by decide +kernel
theorem dX6_hand_1 : decode cX6_hand 1 = .ok (.aload_n 0, 1) := by decide +kernel
theorem dX6_hand_2 : decode cX6_hand 2 = .ok (.iload_n 1, 1) := by decide +kernel
theorem dX6_hand_3 : decode cX6_hand 3 = .ok (.iload_n 2, 1) := by decide +kernel
theorem dX6_hand_4 : decode cX6_hand 4 = .ok (.iload_n 3, 1) := by decide +kernel
theorem dX6_hand_5 : decode cX6_hand 5 = .ok (.invokevirtual 146, 3) := by decide +kernel
theorem dX6_hand_8 : decode cX6_hand 8 = .ok (.invokevirtual 65, 3) := by decide +kernel
theorem dX6_hand_11 : decode cX6_hand 11 = .ok (.ifCond .ne 5, 3) := by decide +kernel
theorem dX6_hand_16 : decode cX6_hand 16 = .ok (.aload_n 0, 1) := by decide +kernel
theorem dX6_hand_17 : decode cX6_hand 17 = .ok (.getfield 15, 3) := by decide +kernel
theorem dX6_hand_20 : decode cX6_hand 20 = .ok (.iload_n 1, 1) := by decide +kernel
theorem dX6_hand_21 : decode cX6_hand 21 = .ok (.aaload, 1) := by decide +kernel
theorem dX6_hand_22 : decode cX6_hand 22 = .ok (.iload_n 2, 1) := by decide +kernel
theorem dX6_hand_23 : decode cX6_hand 23 = .ok (.iload_n 3, 1) := by decide +kernel
theorem dX6_hand_24 : decode cX6_hand 24 = .ok (.invokestatic 92, 3) := by decide +kernel
theorem dX6_hand_27 : decode cX6_hand 27 = .ok (.iconst 1, 1) := by decide +kernel
theorem dX6_hand_28 : decode cX6_hand 28 = .ok (.iload 4, 2) := by decide +kernel
theorem dX6_hand_30 : decode cX6_hand 30 = .ok (.invokevirtual 149, 3) := by decide +kernel
theorem dX6_hand_33 : decode cX6_hand 33 = .ok (.iconst 1, 1) := by decide +kernel
theorem dX6_hand_34 : decode cX6_hand 34 = .ok (.ireturn, 1) := by decide +kernel
theorem dX6_hand_14 : decode cX6_hand 14 = .ok (.iconst 0, 1) := by decide +kernel
theorem dX6_hand_15 : decode cX6_hand 15 = .ok (.ireturn, 1) := by decide +kernel
theorem dX6_keep_0 : decode cX6_keep 0 = .ok (.aload_n 0, 1) := by decide +kernel
theorem dX6_keep_1 : decode cX6_keep 1 = .ok (.aload_n 0, 1) := by decide +kernel
theorem dX6_keep_2 : decode cX6_keep 2 = .ok (.iload_n 1, 1) := by decide +kernel
theorem dX6_keep_3 : decode cX6_keep 3 = .ok (.iload_n 2, 1) := by decide +kernel
theorem dX6_keep_4 : decode cX6_keep 4 = .ok (.iload_n 3, 1) := by decide +kernel
theorem dX6_keep_5 : decode cX6_keep 5 = .ok (.invokevirtual 146, 3) := by decide +kernel
theorem dX6_keep_8 : decode cX6_keep 8 = .ok (.invokevirtual 65, 3) := by decide +kernel
theorem dX6_keep_11 : decode cX6_keep 11 = .ok (.ifCond .ne 5, 3) := by decide +kernel
theorem dX6_keep_16 : decode cX6_keep 16 = .ok (.aload_n 0, 1) := by decide +kernel
theorem dX6_keep_17 : decode cX6_keep 17 = .ok (.getfield 15, 3) := by decide +kernel
theorem dX6_keep_20 : decode cX6_keep 20 = .ok (.iload_n 1, 1) := by decide +kernel
theorem dX6_keep_21 : decode cX6_keep 21 = .ok (.aaload, 1) := by decide +kernel
theorem dX6_keep_22 : decode cX6_keep 22 = .ok (.iload_n 2, 1) := by decide +kernel
theorem dX6_keep_23 : decode cX6_keep 23 = .ok (.iload_n 3, 1) := by decide +kernel
theorem dX6_keep_24 : decode cX6_keep 24 = .ok (.invokestatic 92, 3) := by decide +kernel
theorem dX6_keep_27 : decode cX6_keep 27 = .ok (.iconst 2, 1) := by decide +kernel
theorem dX6_keep_28 : decode cX6_keep 28 = .ok (.iload 4, 2) := by decide +kernel
theorem dX6_keep_30 : decode cX6_keep 30 = .ok (.invokevirtual 149, 3) := by decide +kernel
theorem dX6_keep_33 : decode cX6_keep 33 = .ok (.iconst 1, 1) := by decide +kernel
theorem dX6_keep_34 : decode cX6_keep 34 = .ok (.ireturn, 1) := by decide +kernel
theorem dX6_keep_14 : decode cX6_keep 14 = .ok (.iconst 0, 1) := by decide +kernel
theorem dX6_keep_15 : decode cX6_keep 15 = .ok (.ireturn, 1) := by decide +kernel
theorem dX6_sound_0 : decode cX6_sound 0 = .ok (.aload_n 0, 1) := by decide +kernel
theorem dX6_sound_1 : decode cX6_sound 1 = .ok (.aload_n 0, 1) := by decide +kernel
theorem dX6_sound_2 : decode cX6_sound 2 = .ok (.iload_n 1, 1) := by decide +kernel
theorem dX6_sound_3 : decode cX6_sound 3 = .ok (.iload_n 2, 1) := by decide +kernel
theorem dX6_sound_4 : decode cX6_sound 4 = .ok (.invokevirtual 110, 3) := by decide +kernel
theorem dX6_sound_7 : decode cX6_sound 7 = .ok (.invokevirtual 65, 3) := by decide +kernel
theorem dX6_sound_10 : decode cX6_sound 10 = .ok (.ifCond .ne 5, 3) := by decide +kernel
theorem dX6_sound_15 : decode cX6_sound 15 = .ok (.aload_n 0, 1) := by decide +kernel
theorem dX6_sound_16 : decode cX6_sound 16 = .ok (.getfield 15, 3) := by decide +kernel
theorem dX6_sound_19 : decode cX6_sound 19 = .ok (.iload_n 1, 1) := by decide +kernel
theorem dX6_sound_20 : decode cX6_sound 20 = .ok (.aaload, 1) := by decide +kernel
theorem dX6_sound_21 : decode cX6_sound 21 = .ok (.iload_n 2, 1) := by decide +kernel
theorem dX6_sound_22 : decode cX6_sound 22 = .ok (.invokevirtual 153, 3) := by decide +kernel
theorem dX6_sound_25 : decode cX6_sound 25 = .ok (.ifCond .eq 7, 3) := by decide +kernel
theorem dX6_sound_32 : decode cX6_sound 32 = .ok (.iconst 0, 1) := by decide +kernel
theorem dX6_sound_33 : decode cX6_sound 33 = .ok (.ireturn, 1) := by decide +kernel
theorem dX6_sound_28 : decode cX6_sound 28 = .ok (.iconst 1, 1) := by decide +kernel
theorem dX6_sound_29 : decode cX6_sound 29 = .ok (.goto 4, 3) := by decide +kernel
theorem dX6_sound_13 : decode cX6_sound 13 = .ok (.iconst (-1), 1) := by decide +kernel
theorem dX6_sound_14 : decode cX6_sound 14 = .ok (.ireturn, 1) := by decide +kernel
theorem dX6_sum_0 : decode cX6_sum 0 = .ok (.aload_n 0, 1) := by decide +kernel
theorem dX6_sum_1 : decode cX6_sum 1 = .ok (.aload_n 0, 1) := by decide +kernel
theorem dX6_sum_2 : decode cX6_sum 2 = .ok (.iload_n 1, 1) := by decide +kernel
theorem dX6_sum_3 : decode cX6_sum 3 = .ok (.iload_n 2, 1) := by decide +kernel
theorem dX6_sum_4 : decode cX6_sum 4 = .ok (.invokevirtual 110, 3) := by decide +kernel
theorem dX6_sum_7 : decode cX6_sum 7 = .ok (.invokevirtual 65, 3) := by decide +kernel
theorem dX6_sum_10 : decode cX6_sum 10 = .ok (.ifCond .ne 5, 3) := by decide +kernel
theorem dX6_sum_15 : decode cX6_sum 15 = .ok (.aload_n 0, 1) := by decide +kernel
theorem dX6_sum_16 : decode cX6_sum 16 = .ok (.getfield 15, 3) := by decide +kernel
theorem dX6_sum_19 : decode cX6_sum 19 = .ok (.iload_n 1, 1) := by decide +kernel
theorem dX6_sum_20 : decode cX6_sum 20 = .ok (.aaload, 1) := by decide +kernel
theorem dX6_sum_21 : decode cX6_sum 21 = .ok (.iload_n 2, 1) := by decide +kernel
theorem dX6_sum_22 : decode cX6_sum 22 = .ok (.invokevirtual 153, 3) := by decide +kernel
theorem dX6_sum_25 : decode cX6_sum 25 = .ok (.ifCond .ne 10, 3) := by decide +kernel
theorem dX6_sum_35 : decode cX6_sum 35 = .ok (.aload_n 0, 1) := by decide +kernel
theorem dX6_sum_36 : decode cX6_sum 36 = .ok (.getfield 15, 3) := by decide +kernel
theorem dX6_sum_39 : decode cX6_sum 39 = .ok (.iload_n 1, 1) := by decide +kernel
theorem dX6_sum_40 : decode cX6_sum 40 = .ok (.aaload, 1) := by decide +kernel
theorem dX6_sum_41 : decode cX6_sum 41 = .ok (.iload_n 2, 1) := by decide +kernel
theorem dX6_sum_42 : decode cX6_sum 42 = .ok (.invokevirtual 156, 3) := by decide +kernel
theorem dX6_sum_45 : decode cX6_sum 45 = .ok (.ireturn, 1) := by decide +kernel
theorem dX6_sum_28 : decode cX6_sum 28 = .ok (.aload_n 0, 1) := by decide +kernel
theorem dX6_sum_29 : decode cX6_sum 29 = .ok (.bipush 11, 2) := by decide +kernel
theorem dX6_sum_31 : decode cX6_sum 31 = .ok (.invokevirtual 122, 3) := by decide +kernel
theorem dX6_sum_34 : decode cX6_sum 34 = .ok (.ireturn, 1) := by decide +kernel
theorem dX6_sum_13 : decode cX6_sum 13 = .ok (.iconst (-1), 1) := by decide +kernel
theorem dX6_sum_14 : decode cX6_sum 14 = .ok (.ireturn, 1) := by decide +kernel
theorem dX6_total_0 : decode cX6_total 0 = .ok (.aload_n 0, 1) := by decide +kernel
theorem dX6_total_1 : decode cX6_total 1 = .ok (.aload_n 0, 1) := by decide +kernel
theorem dX6_total_2 : decode cX6_total 2 = .ok (.iload_n 1, 1) := by decide +kernel
theorem dX6_total_3 : decode cX6_total 3 = .ok (.iload_n 2, 1) := by decide +kernel
theorem dX6_total_4 : decode cX6_total 4 = .ok (.invokevirtual 110, 3) := by decide +kernel
theorem dX6_total_7 : decode cX6_total 7 = .ok (.invokevirtual 65, 3) := by decide +kernel
theorem dX6_total_10 : decode cX6_total 10 = .ok (.ifCond .ne 5, 3) := by decide +kernel
theorem dX6_total_15 : decode cX6_total 15 = .ok (.iload_n 3, 1) := by decide +kernel
theorem dX6_total_16 : decode cX6_total 16 = .ok (.ifCond .lt 16, 3) := by decide +kernel
theorem dX6_total_32 : decode cX6_total 32 = .ok (.aload_n 0, 1) := by decide +kernel
theorem dX6_total_33 : decode cX6_total 33 = .ok (.iconst 2, 1) := by decide +kernel
theorem dX6_total_34 : decode cX6_total 34 = .ok (.invokevirtual 122, 3) := by decide +kernel
theorem dX6_total_37 : decode cX6_total 37 = .ok (.ireturn, 1) := by decide +kernel
theorem dX6_total_19 : decode cX6_total 19 = .ok (.iload_n 3, 1) := by decide +kernel
theorem dX6_total_20 : decode cX6_total 20 = .ok (.aload_n 0, 1) := by decide +kernel
theorem dX6_total_21 : decode cX6_total 21 = .ok (.getfield 15, 3) := by decide +kernel
theorem dX6_total_24 : decode cX6_total 24 = .ok (.iload_n 1, 1) := by decide +kernel
theorem dX6_total_25 : decode cX6_total 25 = .ok (.aaload, 1) := by decide +kernel
theorem dX6_total_26 : decode cX6_total 26 = .ok (.getfield 159, 3) := by decide +kernel
theorem dX6_total_29 : decode cX6_total 29 = .ok (.if_icmp .lt 9, 3) := by decide +kernel
theorem dX6_total_38 : decode cX6_total 38 = .ok (.aload_n 0, 1) := by decide +kernel
theorem dX6_total_39 : decode cX6_total 39 = .ok (.getfield 15, 3) := by decide +kernel
theorem dX6_total_42 : decode cX6_total 42 = .ok (.iload_n 1, 1) := by decide +kernel
theorem dX6_total_43 : decode cX6_total 43 = .ok (.aaload, 1) := by decide +kernel
theorem dX6_total_44 : decode cX6_total 44 = .ok (.iload_n 2, 1) := by decide +kernel
theorem dX6_total_45 : decode cX6_total 45 = .ok (.invokevirtual 153, 3) := by decide +kernel
theorem dX6_total_48 : decode cX6_total 48 = .ok (.ifCond .ne 10, 3) := by decide +kernel
theorem dX6_total_58 : decode cX6_total 58 = .ok (.aload_n 0, 1) := by decide +kernel
theorem dX6_total_59 : decode cX6_total 59 = .ok (.getfield 15, 3) := by decide +kernel
theorem dX6_total_62 : decode cX6_total 62 = .ok (.iload_n 1, 1) := by decide +kernel
theorem dX6_total_63 : decode cX6_total 63 = .ok (.aaload, 1) := by decide +kernel
theorem dX6_total_64 : decode cX6_total 64 = .ok (.iload_n 2, 1) := by decide +kernel
theorem dX6_total_65 : decode cX6_total 65 = .ok (.iload_n 3, 1) := by decide +kernel
theorem dX6_total_66 : decode cX6_total 66 = .ok (.invokevirtual 162, 3) := by decide +kernel
theorem dX6_total_69 : decode cX6_total 69 = .ok (.ireturn, 1) := by decide +kernel
theorem dX6_total_51 : decode cX6_total 51 = .ok (.aload_n 0, 1) := by decide +kernel
theorem dX6_total_52 : decode cX6_total 52 = .ok (.bipush 11, 2) := by decide +kernel
theorem dX6_total_54 : decode cX6_total 54 = .ok (.invokevirtual 122, 3) := by decide +kernel
theorem dX6_total_57 : decode cX6_total 57 = .ok (.ireturn, 1) := by decide +kernel
theorem dX6_total_13 : decode cX6_total 13 = .ok (.iconst (-1), 1) := by decide +kernel
theorem dX6_total_14 : decode cX6_total 14 = .ok (.ireturn, 1) := by decide +kernel
theorem dX6_secret_0 : decode cX6_secret 0 = .ok (.aload_n 0, 1) := by decide +kernel
theorem dX6_secret_1 : decode cX6_secret 1 = .ok (.aload_n 0, 1) := by decide +kernel
theorem dX6_secret_2 : decode cX6_secret 2 = .ok (.iload_n 1, 1) := by decide +kernel
theorem dX6_secret_3 : decode cX6_secret 3 = .ok (.iload_n 2, 1) := by decide +kernel
theorem dX6_secret_4 : decode cX6_secret 4 = .ok (.iload_n 3, 1) := by decide +kernel
theorem dX6_secret_5 : decode cX6_secret 5 = .ok (.invokevirtual 165, 3) := by decide +kernel
theorem dX6_secret_8 : decode cX6_secret 8 = .ok (.invokevirtual 65, 3) := by decide +kernel
theorem dX6_secret_11 : decode cX6_secret 11 = .ok (.ifCond .ne 5, 3) := by decide +kernel
theorem dX6_secret_16 : decode cX6_secret 16 = .ok (.aload_n 0, 1) := by decide +kernel
theorem dX6_secret_17 : decode cX6_secret 17 = .ok (.getfield 15, 3) := by decide +kernel
theorem dX6_secret_20 : decode cX6_secret 20 = .ok (.iload_n 1, 1) := by decide +kernel
theorem dX6_secret_21 : decode cX6_secret 21 = .ok (.aaload, 1) := by decide +kernel
theorem dX6_secret_22 : decode cX6_secret 22 = .ok (.iload_n 2, 1) := by decide +kernel
theorem dX6_secret_23 : decode cX6_secret 23 = .ok (.iload_n 3, 1) := by decide +kernel
theorem dX6_secret_24 : decode cX6_secret 24 = .ok (.invokestatic 92, 3) := by decide +kernel
theorem dX6_secret_27 : decode cX6_secret 27 = .ok (.invokevirtual 168, 3) := by decide +kernel
theorem dX6_secret_30 : decode cX6_secret 30 = .ok (.ireturn, 1) := by decide +kernel
theorem dX6_secret_14 : decode cX6_secret 14 = .ok (.iconst (-1), 1) := by decide +kernel
theorem dX6_secret_15 : decode cX6_secret 15 = .ok (.ireturn, 1) := by decide +kernel
theorem dX6_kept_0 : decode cX6_kept 0 = .ok (.aload_n 0, 1) := by decide +kernel
theorem dX6_kept_1 : decode cX6_kept 1 = .ok (.aload_n 0, 1) := by decide +kernel
theorem dX6_kept_2 : decode cX6_kept 2 = .ok (.iload_n 1, 1) := by decide +kernel
theorem dX6_kept_3 : decode cX6_kept 3 = .ok (.iload_n 2, 1) := by decide +kernel
theorem dX6_kept_4 : decode cX6_kept 4 = .ok (.iload_n 3, 1) := by decide +kernel
theorem dX6_kept_5 : decode cX6_kept 5 = .ok (.invokevirtual 165, 3) := by decide +kernel
theorem dX6_kept_8 : decode cX6_kept 8 = .ok (.invokevirtual 65, 3) := by decide +kernel
theorem dX6_kept_11 : decode cX6_kept 11 = .ok (.ifCond .ne 5, 3) := by decide +kernel
theorem dX6_kept_16 : decode cX6_kept 16 = .ok (.aload_n 0, 1) := by decide +kernel
theorem dX6_kept_17 : decode cX6_kept 17 = .ok (.getfield 15, 3) := by decide +kernel
theorem dX6_kept_20 : decode cX6_kept 20 = .ok (.iload_n 1, 1) := by decide +kernel
theorem dX6_kept_21 : decode cX6_kept 21 = .ok (.aaload, 1) := by decide +kernel
theorem dX6_kept_22 : decode cX6_kept 22 = .ok (.iload_n 2, 1) := by decide +kernel
theorem dX6_kept_23 : decode cX6_kept 23 = .ok (.iload_n 3, 1) := by decide +kernel
theorem dX6_kept_24 : decode cX6_kept 24 = .ok (.invokestatic 92, 3) := by decide +kernel
theorem dX6_kept_27 : decode cX6_kept 27 = .ok (.invokevirtual 171, 3) := by decide +kernel
theorem dX6_kept_30 : decode cX6_kept 30 = .ok (.ifCond .eq 7, 3) := by decide +kernel
theorem dX6_kept_37 : decode cX6_kept 37 = .ok (.iconst 0, 1) := by decide +kernel
theorem dX6_kept_38 : decode cX6_kept 38 = .ok (.ireturn, 1) := by decide +kernel
theorem dX6_kept_33 : decode cX6_kept 33 = .ok (.iconst 1, 1) := by decide +kernel
theorem dX6_kept_34 : decode cX6_kept 34 = .ok (.goto 4, 3) := by decide +kernel
theorem dX6_kept_14 : decode cX6_kept 14 = .ok (.iconst (-1), 1) := by decide +kernel
theorem dX6_kept_15 : decode cX6_kept 15 = .ok (.ireturn, 1) := by decide +kernel
theorem dX6_thousandths_0 : decode cX6_thousandths 0 = .ok (.aload_n 0, 1) := by decide +kernel
theorem dX6_thousandths_1 : decode cX6_thousandths 1 = .ok (.aload_n 0, 1) := by decide +kernel
theorem dX6_thousandths_2 : decode cX6_thousandths 2 = .ok (.iload_n 1, 1) := by decide +kernel
theorem dX6_thousandths_3 : decode cX6_thousandths 3 = .ok (.iload_n 2, 1) := by decide +kernel
theorem dX6_thousandths_4 : decode cX6_thousandths 4 = .ok (.iload_n 3, 1) := by decide +kernel
theorem dX6_thousandths_5 : decode cX6_thousandths 5 = .ok (.invokevirtual 174, 3) := by decide +kernel
theorem dX6_thousandths_8 : decode cX6_thousandths 8 = .ok (.invokevirtual 65, 3) := by decide +kernel
theorem dX6_thousandths_11 : decode cX6_thousandths 11 = .ok (.ifCond .ne 5, 3) := by decide +kernel
theorem dX6_thousandths_16 : decode cX6_thousandths 16 = .ok (.aload_n 0, 1) := by decide +kernel
theorem dX6_thousandths_17 : decode cX6_thousandths 17 = .ok (.getfield 15, 3) := by decide +kernel
theorem dX6_thousandths_20 : decode cX6_thousandths 20 = .ok (.iload_n 1, 1) := by decide +kernel
theorem dX6_thousandths_21 : decode cX6_thousandths 21 = .ok (.aaload, 1) := by decide +kernel
theorem dX6_thousandths_22 : decode cX6_thousandths 22 = .ok (.getfield 134, 3) := by decide +kernel
theorem dX6_thousandths_25 : decode cX6_thousandths 25 = .ok (.iload_n 2, 1) := by decide +kernel
theorem dX6_thousandths_26 : decode cX6_thousandths 26 = .ok (.iload_n 3, 1) := by decide +kernel
theorem dX6_thousandths_27 : decode cX6_thousandths 27 = .ok (.invokestatic 92, 3) := by decide +kernel
theorem dX6_thousandths_30 : decode cX6_thousandths 30 = .ok (.iaload, 1) := by decide +kernel
theorem dX6_thousandths_31 : decode cX6_thousandths 31 = .ok (.iconst 3, 1) := by decide +kernel
theorem dX6_thousandths_32 : decode cX6_thousandths 32 = .ok (.if_icmp .eq 10, 3) := by decide +kernel
theorem dX6_thousandths_42 : decode cX6_thousandths 42 = .ok (.aload_n 0, 1) := by decide +kernel
theorem dX6_thousandths_43 : decode cX6_thousandths 43 = .ok (.getfield 15, 3) := by decide +kernel
theorem dX6_thousandths_46 : decode cX6_thousandths 46 = .ok (.iload_n 1, 1) := by decide +kernel
theorem dX6_thousandths_47 : decode cX6_thousandths 47 = .ok (.aaload, 1) := by decide +kernel
theorem dX6_thousandths_48 : decode cX6_thousandths 48 = .ok (.iload_n 2, 1) := by decide +kernel
theorem dX6_thousandths_49 : decode cX6_thousandths 49 = .ok (.invokevirtual 153, 3) := by decide +kernel
theorem dX6_thousandths_52 : decode cX6_thousandths 52 = .ok (.ifCond .ne 10, 3) := by decide +kernel
theorem dX6_thousandths_62 : decode cX6_thousandths 62 = .ok (.aload_n 0, 1) := by decide +kernel
theorem dX6_thousandths_63 : decode cX6_thousandths 63 = .ok (.getfield 15, 3) := by decide +kernel
theorem dX6_thousandths_66 : decode cX6_thousandths 66 = .ok (.iload_n 1, 1) := by decide +kernel
theorem dX6_thousandths_67 : decode cX6_thousandths 67 = .ok (.aaload, 1) := by decide +kernel
theorem dX6_thousandths_68 : decode cX6_thousandths 68 = .ok (.getfield 137, 3) := by decide +kernel
theorem dX6_thousandths_71 : decode cX6_thousandths 71 = .ok (.iload_n 2, 1) := by decide +kernel
theorem dX6_thousandths_72 : decode cX6_thousandths 72 = .ok (.iload_n 3, 1) := by decide +kernel
theorem dX6_thousandths_73 : decode cX6_thousandths 73 = .ok (.invokestatic 92, 3) := by decide +kernel
theorem dX6_thousandths_76 : decode cX6_thousandths 76 = .ok (.iaload, 1) := by decide +kernel
theorem dX6_thousandths_77 : decode cX6_thousandths 77 = .ok (.aload_n 0, 1) := by decide +kernel
theorem dX6_thousandths_78 : decode cX6_thousandths 78 = .ok (.getfield 15, 3) := by decide +kernel
theorem dX6_thousandths_81 : decode cX6_thousandths 81 = .ok (.iload_n 1, 1) := by decide +kernel
theorem dX6_thousandths_82 : decode cX6_thousandths 82 = .ok (.aaload, 1) := by decide +kernel
theorem dX6_thousandths_83 : decode cX6_thousandths 83 = .ok (.iload_n 2, 1) := by decide +kernel
theorem dX6_thousandths_84 : decode cX6_thousandths 84 = .ok (.invokevirtual 156, 3) := by decide +kernel
theorem dX6_thousandths_87 : decode cX6_thousandths 87 = .ok (.invokestatic 177, 3) := by decide +kernel
theorem dX6_thousandths_90 : decode cX6_thousandths 90 = .ok (.ireturn, 1) := by decide +kernel
theorem dX6_thousandths_55 : decode cX6_thousandths 55 = .ok (.aload_n 0, 1) := by decide +kernel
theorem dX6_thousandths_56 : decode cX6_thousandths 56 = .ok (.bipush 11, 2) := by decide +kernel
theorem dX6_thousandths_58 : decode cX6_thousandths 58 = .ok (.invokevirtual 122, 3) := by decide +kernel
theorem dX6_thousandths_61 : decode cX6_thousandths 61 = .ok (.ireturn, 1) := by decide +kernel
theorem dX6_thousandths_35 : decode cX6_thousandths 35 = .ok (.aload_n 0, 1) := by decide +kernel
theorem dX6_thousandths_36 : decode cX6_thousandths 36 = .ok (.bipush 6, 2) := by decide +kernel
theorem dX6_thousandths_38 : decode cX6_thousandths 38 = .ok (.invokevirtual 122, 3) := by decide +kernel
theorem dX6_thousandths_41 : decode cX6_thousandths 41 = .ok (.ireturn, 1) := by decide +kernel
theorem dX6_thousandths_14 : decode cX6_thousandths 14 = .ok (.iconst (-1), 1) := by decide +kernel
theorem dX6_thousandths_15 : decode cX6_thousandths 15 = .ok (.ireturn, 1) := by decide +kernel
theorem dX6_spanEnd_0 : decode cX6_spanEnd 0 = .ok (.aload_n 0, 1) := by decide +kernel
theorem dX6_spanEnd_1 : decode cX6_spanEnd 1 = .ok (.aload_n 0, 1) := by decide +kernel
theorem dX6_spanEnd_2 : decode cX6_spanEnd 2 = .ok (.iload_n 1, 1) := by decide +kernel
theorem dX6_spanEnd_3 : decode cX6_spanEnd 3 = .ok (.iload_n 2, 1) := by decide +kernel
theorem dX6_spanEnd_4 : decode cX6_spanEnd 4 = .ok (.iload_n 3, 1) := by decide +kernel
theorem dX6_spanEnd_5 : decode cX6_spanEnd 5 = .ok (.invokevirtual 165, 3) := by decide +kernel
theorem dX6_spanEnd_8 : decode cX6_spanEnd 8 = .ok (.invokevirtual 65, 3) := by decide +kernel
theorem dX6_spanEnd_11 : decode cX6_spanEnd 11 = .ok (.ifCond .ne 5, 3) := by decide +kernel
theorem dX6_spanEnd_16 : decode cX6_spanEnd 16 = .ok (.aload_n 0, 1) := by decide +kernel
theorem dX6_spanEnd_17 : decode cX6_spanEnd 17 = .ok (.getfield 22, 3) := by decide +kernel
theorem dX6_spanEnd_20 : decode cX6_spanEnd 20 = .ok (.aload_n 0, 1) := by decide +kernel
theorem dX6_spanEnd_21 : decode cX6_spanEnd 21 = .ok (.getfield 15, 3) := by decide +kernel
theorem dX6_spanEnd_24 : decode cX6_spanEnd 24 = .ok (.iload_n 1, 1) := by decide +kernel
theorem dX6_spanEnd_25 : decode cX6_spanEnd 25 = .ok (.aaload, 1) := by decide +kernel
theorem dX6_spanEnd_26 : decode cX6_spanEnd 26 = .ok (.invokevirtual 184, 3) := by decide +kernel
theorem dX6_spanEnd_29 : decode cX6_spanEnd 29 = .ok (.aload_n 0, 1) := by decide +kernel
theorem dX6_spanEnd_30 : decode cX6_spanEnd 30 = .ok (.getfield 22, 3) := by decide +kernel
theorem dX6_spanEnd_33 : decode cX6_spanEnd 33 = .ok (.iload_n 2, 1) := by decide +kernel
theorem dX6_spanEnd_34 : decode cX6_spanEnd 34 = .ok (.iload_n 3, 1) := by decide +kernel
theorem dX6_spanEnd_35 : decode cX6_spanEnd 35 = .ok (.iload 4, 2) := by decide +kernel
theorem dX6_spanEnd_37 : decode cX6_spanEnd 37 = .ok (.invokevirtual 249, 3) := by decide +kernel
theorem dX6_spanEnd_40 : decode cX6_spanEnd 40 = .ok (.aload_n 0, 1) := by decide +kernel
theorem dX6_spanEnd_41 : decode cX6_spanEnd 41 = .ok (.getfield 22, 3) := by decide +kernel
theorem dX6_spanEnd_44 : decode cX6_spanEnd 44 = .ok (.getfield 252, 3) := by decide +kernel
theorem dX6_spanEnd_47 : decode cX6_spanEnd 47 = .ok (.iload_n 2, 1) := by decide +kernel
theorem dX6_spanEnd_48 : decode cX6_spanEnd 48 = .ok (.iload_n 3, 1) := by decide +kernel
theorem dX6_spanEnd_49 : decode cX6_spanEnd 49 = .ok (.invokestatic 92, 3) := by decide +kernel
theorem dX6_spanEnd_52 : decode cX6_spanEnd 52 = .ok (.iaload, 1) := by decide +kernel
theorem dX6_spanEnd_53 : decode cX6_spanEnd 53 = .ok (.ireturn, 1) := by decide +kernel
theorem dX6_spanEnd_14 : decode cX6_spanEnd 14 = .ok (.iconst (-1), 1) := by decide +kernel
theorem dX6_spanEnd_15 : decode cX6_spanEnd 15 = .ok (.ireturn, 1) := by decide +kernel
theorem dX6_least_0 : decode cX6_least 0 = .ok (.aload_n 0, 1) := by decide +kernel
theorem dX6_least_1 : decode cX6_least 1 = .ok (.iload_n 1, 1) := by decide +kernel
theorem dX6_least_2 : decode cX6_least 2 = .ok (.iload_n 2, 1) := by decide +kernel
theorem dX6_least_3 : decode cX6_least 3 = .ok (.iload_n 3, 1) := by decide +kernel
theorem dX6_least_4 : decode cX6_least 4 = .ok (.iconst 0, 1) := by decide +kernel
theorem dX6_least_5 : decode cX6_least 5 = .ok (.invokevirtual 180, 3) := by decide +kernel
theorem dX6_least_8 : decode cX6_least 8 = .ok (.ireturn, 1) := by decide +kernel
theorem dX6_greatest_0 : decode cX6_greatest 0 = .ok (.aload_n 0, 1) := by decide +kernel
theorem dX6_greatest_1 : decode cX6_greatest 1 = .ok (.iload_n 1, 1) := by decide +kernel
theorem dX6_greatest_2 : decode cX6_greatest 2 = .ok (.iload_n 2, 1) := by decide +kernel
theorem dX6_greatest_3 : decode cX6_greatest 3 = .ok (.iload_n 3, 1) := by decide +kernel
theorem dX6_greatest_4 : decode cX6_greatest 4 = .ok (.iconst 1, 1) := by decide +kernel
theorem dX6_greatest_5 : decode cX6_greatest 5 = .ok (.invokevirtual 180, 3) := by decide +kernel
theorem dX6_greatest_8 : decode cX6_greatest 8 = .ok (.ireturn, 1) := by decide +kernel
theorem dX6_safe_0 : decode cX6_safe 0 = .ok (.aload_n 0, 1) := by decide +kernel
theorem dX6_safe_1 : decode cX6_safe 1 = .ok (.aload_n 0, 1) := by decide +kernel
theorem dX6_safe_2 : decode cX6_safe 2 = .ok (.iload_n 1, 1) := by decide +kernel
theorem dX6_safe_3 : decode cX6_safe 3 = .ok (.iload_n 2, 1) := by decide +kernel
theorem dX6_safe_4 : decode cX6_safe 4 = .ok (.iload_n 3, 1) := by decide +kernel
theorem dX6_safe_5 : decode cX6_safe 5 = .ok (.invokevirtual 165, 3) := by decide +kernel
theorem dX6_safe_8 : decode cX6_safe 8 = .ok (.invokevirtual 65, 3) := by decide +kernel
theorem dX6_safe_11 : decode cX6_safe 11 = .ok (.ifCond .ne 5, 3) := by decide +kernel
theorem dX6_safe_16 : decode cX6_safe 16 = .ok (.aload_n 0, 1) := by decide +kernel
theorem dX6_safe_17 : decode cX6_safe 17 = .ok (.getfield 22, 3) := by decide +kernel
theorem dX6_safe_20 : decode cX6_safe 20 = .ok (.aload_n 0, 1) := by decide +kernel
theorem dX6_safe_21 : decode cX6_safe 21 = .ok (.getfield 15, 3) := by decide +kernel
theorem dX6_safe_24 : decode cX6_safe 24 = .ok (.iload_n 1, 1) := by decide +kernel
theorem dX6_safe_25 : decode cX6_safe 25 = .ok (.aaload, 1) := by decide +kernel
theorem dX6_safe_26 : decode cX6_safe 26 = .ok (.invokevirtual 184, 3) := by decide +kernel
theorem dX6_safe_29 : decode cX6_safe 29 = .ok (.aload_n 0, 1) := by decide +kernel
theorem dX6_safe_30 : decode cX6_safe 30 = .ok (.getfield 22, 3) := by decide +kernel
theorem dX6_safe_33 : decode cX6_safe 33 = .ok (.iload_n 2, 1) := by decide +kernel
theorem dX6_safe_34 : decode cX6_safe 34 = .ok (.iload_n 3, 1) := by decide +kernel
theorem dX6_safe_35 : decode cX6_safe 35 = .ok (.invokevirtual 188, 3) := by decide +kernel
theorem dX6_safe_38 : decode cX6_safe 38 = .ok (.ifCond .eq 7, 3) := by decide +kernel
theorem dX6_safe_45 : decode cX6_safe 45 = .ok (.iconst 0, 1) := by decide +kernel
theorem dX6_safe_46 : decode cX6_safe 46 = .ok (.ireturn, 1) := by decide +kernel
theorem dX6_safe_41 : decode cX6_safe 41 = .ok (.iconst 1, 1) := by decide +kernel
theorem dX6_safe_42 : decode cX6_safe 42 = .ok (.goto 4, 3) := by decide +kernel
theorem dX6_safe_14 : decode cX6_safe 14 = .ok (.iconst (-1), 1) := by decide +kernel
theorem dX6_safe_15 : decode cX6_safe 15 = .ok (.ireturn, 1) := by decide +kernel
theorem dX6_unsafe_0 : decode cX6_unsafe 0 = .ok (.aload_n 0, 1) := by decide +kernel
theorem dX6_unsafe_1 : decode cX6_unsafe 1 = .ok (.aload_n 0, 1) := by decide +kernel
theorem dX6_unsafe_2 : decode cX6_unsafe 2 = .ok (.iload_n 1, 1) := by decide +kernel
theorem dX6_unsafe_3 : decode cX6_unsafe 3 = .ok (.invokevirtual 73, 3) := by decide +kernel
theorem dX6_unsafe_6 : decode cX6_unsafe 6 = .ok (.invokevirtual 65, 3) := by decide +kernel
theorem dX6_unsafe_9 : decode cX6_unsafe 9 = .ok (.ifCond .ne 5, 3) := by decide +kernel
theorem dX6_unsafe_14 : decode cX6_unsafe 14 = .ok (.aload_n 0, 1) := by decide +kernel
theorem dX6_unsafe_15 : decode cX6_unsafe 15 = .ok (.getfield 22, 3) := by decide +kernel
theorem dX6_unsafe_18 : decode cX6_unsafe 18 = .ok (.aload_n 0, 1) := by decide +kernel
theorem dX6_unsafe_19 : decode cX6_unsafe 19 = .ok (.getfield 15, 3) := by decide +kernel
theorem dX6_unsafe_22 : decode cX6_unsafe 22 = .ok (.iload_n 1, 1) := by decide +kernel
theorem dX6_unsafe_23 : decode cX6_unsafe 23 = .ok (.aaload, 1) := by decide +kernel
theorem dX6_unsafe_24 : decode cX6_unsafe 24 = .ok (.invokevirtual 184, 3) := by decide +kernel
theorem dX6_unsafe_27 : decode cX6_unsafe 27 = .ok (.aload_n 0, 1) := by decide +kernel
theorem dX6_unsafe_28 : decode cX6_unsafe 28 = .ok (.getfield 22, 3) := by decide +kernel
theorem dX6_unsafe_31 : decode cX6_unsafe 31 = .ok (.invokevirtual 191, 3) := by decide +kernel
theorem dX6_unsafe_34 : decode cX6_unsafe 34 = .ok (.ireturn, 1) := by decide +kernel
theorem dX6_unsafe_12 : decode cX6_unsafe 12 = .ok (.iconst (-1), 1) := by decide +kernel
theorem dX6_unsafe_13 : decode cX6_unsafe 13 = .ok (.ireturn, 1) := by decide +kernel
theorem dX6_witness_0 : decode cX6_witness 0 = .ok (.aload_n 0, 1) := by decide +kernel
theorem dX6_witness_1 : decode cX6_witness 1 = .ok (.aload_n 0, 1) := by decide +kernel
theorem dX6_witness_2 : decode cX6_witness 2 = .ok (.iload_n 1, 1) := by decide +kernel
theorem dX6_witness_3 : decode cX6_witness 3 = .ok (.iload_n 2, 1) := by decide +kernel
theorem dX6_witness_4 : decode cX6_witness 4 = .ok (.iload_n 3, 1) := by decide +kernel
theorem dX6_witness_5 : decode cX6_witness 5 = .ok (.invokevirtual 165, 3) := by decide +kernel
theorem dX6_witness_8 : decode cX6_witness 8 = .ok (.invokevirtual 65, 3) := by decide +kernel
theorem dX6_witness_11 : decode cX6_witness 11 = .ok (.ifCond .ne 5, 3) := by decide +kernel
theorem dX6_witness_16 : decode cX6_witness 16 = .ok (.aload_n 0, 1) := by decide +kernel
theorem dX6_witness_17 : decode cX6_witness 17 = .ok (.getfield 22, 3) := by decide +kernel
theorem dX6_witness_20 : decode cX6_witness 20 = .ok (.aload_n 0, 1) := by decide +kernel
theorem dX6_witness_21 : decode cX6_witness 21 = .ok (.getfield 15, 3) := by decide +kernel
theorem dX6_witness_24 : decode cX6_witness 24 = .ok (.iload_n 1, 1) := by decide +kernel
theorem dX6_witness_25 : decode cX6_witness 25 = .ok (.aaload, 1) := by decide +kernel
theorem dX6_witness_26 : decode cX6_witness 26 = .ok (.invokevirtual 184, 3) := by decide +kernel
theorem dX6_witness_29 : decode cX6_witness 29 = .ok (.aload_n 0, 1) := by decide +kernel
theorem dX6_witness_30 : decode cX6_witness 30 = .ok (.getfield 22, 3) := by decide +kernel
theorem dX6_witness_33 : decode cX6_witness 33 = .ok (.iload_n 2, 1) := by decide +kernel
theorem dX6_witness_34 : decode cX6_witness 34 = .ok (.iload_n 3, 1) := by decide +kernel
theorem dX6_witness_35 : decode cX6_witness 35 = .ok (.iload 4, 2) := by decide +kernel
theorem dX6_witness_37 : decode cX6_witness 37 = .ok (.invokevirtual 195, 3) := by decide +kernel
theorem dX6_witness_40 : decode cX6_witness 40 = .ok (.aload_n 0, 1) := by decide +kernel
theorem dX6_witness_41 : decode cX6_witness 41 = .ok (.getfield 22, 3) := by decide +kernel
theorem dX6_witness_44 : decode cX6_witness 44 = .ok (.aload_n 0, 1) := by decide +kernel
theorem dX6_witness_45 : decode cX6_witness 45 = .ok (.getfield 43, 3) := by decide +kernel
theorem dX6_witness_48 : decode cX6_witness 48 = .ok (.invokevirtual 198, 3) := by decide +kernel
theorem dX6_witness_51 : decode cX6_witness 51 = .ok (.aload_n 0, 1) := by decide +kernel
theorem dX6_witness_52 : decode cX6_witness 52 = .ok (.aload_n 0, 1) := by decide +kernel
theorem dX6_witness_53 : decode cX6_witness 53 = .ok (.getfield 22, 3) := by decide +kernel
theorem dX6_witness_56 : decode cX6_witness 56 = .ok (.iload_n 2, 1) := by decide +kernel
theorem dX6_witness_57 : decode cX6_witness 57 = .ok (.iload_n 3, 1) := by decide +kernel
theorem dX6_witness_58 : decode cX6_witness 58 = .ok (.iload 4, 2) := by decide +kernel
theorem dX6_witness_60 : decode cX6_witness 60 = .ok (.invokevirtual 202, 3) := by decide +kernel
theorem dX6_witness_63 : decode cX6_witness 63 = .ok (.putfield 50, 3) := by decide +kernel
theorem dX6_witness_66 : decode cX6_witness 66 = .ok (.aload_n 0, 1) := by decide +kernel
theorem dX6_witness_67 : decode cX6_witness 67 = .ok (.getfield 43, 3) := by decide +kernel
theorem dX6_witness_70 : decode cX6_witness 70 = .ok (.iload_n 2, 1) := by decide +kernel
theorem dX6_witness_71 : decode cX6_witness 71 = .ok (.iload_n 3, 1) := by decide +kernel
theorem dX6_witness_72 : decode cX6_witness 72 = .ok (.invokevirtual 206, 3) := by decide +kernel
theorem dX6_witness_75 : decode cX6_witness 75 = .ok (.ireturn, 1) := by decide +kernel
theorem dX6_witness_14 : decode cX6_witness 14 = .ok (.iconst (-1), 1) := by decide +kernel
theorem dX6_witness_15 : decode cX6_witness 15 = .ok (.ireturn, 1) := by decide +kernel
theorem dX6_seen_0 : decode cX6_seen 0 = .ok (.aload_n 0, 1) := by decide +kernel
theorem dX6_seen_1 : decode cX6_seen 1 = .ok (.getfield 43, 3) := by decide +kernel
theorem dX6_seen_4 : decode cX6_seen 4 = .ok (.iload_n 1, 1) := by decide +kernel
theorem dX6_seen_5 : decode cX6_seen 5 = .ok (.iload_n 2, 1) := by decide +kernel
theorem dX6_seen_6 : decode cX6_seen 6 = .ok (.invokevirtual 206, 3) := by decide +kernel
theorem dX6_seen_9 : decode cX6_seen 9 = .ok (.ireturn, 1) := by decide +kernel
theorem dX6_rounded_0 : decode cX6_rounded 0 = .ok (.aload_n 0, 1) := by decide +kernel
theorem dX6_rounded_1 : decode cX6_rounded 1 = .ok (.getfield 47, 3) := by decide +kernel
theorem dX6_rounded_4 : decode cX6_rounded 4 = .ok (.iload_n 1, 1) := by decide +kernel
theorem dX6_rounded_5 : decode cX6_rounded 5 = .ok (.iload_n 2, 1) := by decide +kernel
theorem dX6_rounded_6 : decode cX6_rounded 6 = .ok (.invokevirtual 206, 3) := by decide +kernel
theorem dX6_rounded_9 : decode cX6_rounded 9 = .ok (.ireturn, 1) := by decide +kernel
theorem dX6_cut_0 : decode cX6_cut 0 = .ok (.iload_n 1, 1) := by decide +kernel
theorem dX6_cut_1 : decode cX6_cut 1 = .ok (.ifCond .eq 13, 3) := by decide +kernel
theorem dX6_cut_14 : decode cX6_cut 14 = .ok (.aload_n 0, 1) := by decide +kernel
theorem dX6_cut_15 : decode cX6_cut 15 = .ok (.getfield 43, 3) := by decide +kernel
theorem dX6_cut_18 : decode cX6_cut 18 = .ok (.getfield 210, 3) := by decide +kernel
theorem dX6_cut_4 : decode cX6_cut 4 = .ok (.aload_n 0, 1) := by decide +kernel
theorem dX6_cut_5 : decode cX6_cut 5 = .ok (.getfield 43, 3) := by decide +kernel
theorem dX6_cut_8 : decode cX6_cut 8 = .ok (.getfield 209, 3) := by decide +kernel
theorem dX6_cut_11 : decode cX6_cut 11 = .ok (.goto 10, 3) := by decide +kernel
theorem dX6_cut_21 : decode cX6_cut 21 = .ok (.istore_n 3, 1) := by decide +kernel
theorem dX6_cut_22 : decode cX6_cut 22 = .ok (.iload_n 2, 1) := by decide +kernel
theorem dX6_cut_23 : decode cX6_cut 23 = .ok (.ifCond .lt 8, 3) := by decide +kernel
theorem dX6_cut_31 : decode cX6_cut 31 = .ok (.iconst (-1), 1) := by decide +kernel
theorem dX6_cut_32 : decode cX6_cut 32 = .ok (.ireturn, 1) := by decide +kernel
theorem dX6_cut_26 : decode cX6_cut 26 = .ok (.iload_n 2, 1) := by decide +kernel
theorem dX6_cut_27 : decode cX6_cut 27 = .ok (.iload_n 3, 1) := by decide +kernel
theorem dX6_cut_28 : decode cX6_cut 28 = .ok (.if_icmp .lt 5, 3) := by decide +kernel
theorem dX6_cut_33 : decode cX6_cut 33 = .ok (.aload_n 0, 1) := by decide +kernel
theorem dX6_cut_34 : decode cX6_cut 34 = .ok (.getfield 50, 3) := by decide +kernel
theorem dX6_cut_37 : decode cX6_cut 37 = .ok (.iload_n 1, 1) := by decide +kernel
theorem dX6_cut_38 : decode cX6_cut 38 = .ok (.ifCond .eq 7, 3) := by decide +kernel
theorem dX6_cut_45 : decode cX6_cut 45 = .ok (.bipush 12, 2) := by decide +kernel
theorem dX6_cut_47 : decode cX6_cut 47 = .ok (.iload_n 2, 1) := by decide +kernel
theorem dX6_cut_48 : decode cX6_cut 48 = .ok (.iadd, 1) := by decide +kernel
theorem dX6_cut_41 : decode cX6_cut 41 = .ok (.iload_n 2, 1) := by decide +kernel
theorem dX6_cut_42 : decode cX6_cut 42 = .ok (.goto 7, 3) := by decide +kernel
theorem dX6_cut_49 : decode cX6_cut 49 = .ok (.ishr, 1) := by decide +kernel
theorem dX6_cut_50 : decode cX6_cut 50 = .ok (.iconst 1, 1) := by decide +kernel
theorem dX6_cut_51 : decode cX6_cut 51 = .ok (.iand, 1) := by decide +kernel
theorem dX6_cut_52 : decode cX6_cut 52 = .ok (.ireturn, 1) := by decide +kernel
theorem dX6_plan_0 : decode cX6_plan 0 = .ok (.aload_n 0, 1) := by decide +kernel
theorem dX6_plan_1 : decode cX6_plan 1 = .ok (.aload_n 0, 1) := by decide +kernel
theorem dX6_plan_2 : decode cX6_plan 2 = .ok (.iload_n 1, 1) := by decide +kernel
theorem dX6_plan_3 : decode cX6_plan 3 = .ok (.invokevirtual 73, 3) := by decide +kernel
theorem dX6_plan_6 : decode cX6_plan 6 = .ok (.invokevirtual 65, 3) := by decide +kernel
theorem dX6_plan_9 : decode cX6_plan 9 = .ok (.ifCond .ne 5, 3) := by decide +kernel
theorem dX6_plan_14 : decode cX6_plan 14 = .ok (.aload_n 0, 1) := by decide +kernel
theorem dX6_plan_15 : decode cX6_plan 15 = .ok (.getfield 22, 3) := by decide +kernel
theorem dX6_plan_18 : decode cX6_plan 18 = .ok (.aload_n 0, 1) := by decide +kernel
theorem dX6_plan_19 : decode cX6_plan 19 = .ok (.getfield 15, 3) := by decide +kernel
theorem dX6_plan_22 : decode cX6_plan 22 = .ok (.iload_n 1, 1) := by decide +kernel
theorem dX6_plan_23 : decode cX6_plan 23 = .ok (.aaload, 1) := by decide +kernel
theorem dX6_plan_24 : decode cX6_plan 24 = .ok (.invokevirtual 184, 3) := by decide +kernel
theorem dX6_plan_27 : decode cX6_plan 27 = .ok (.aload_n 0, 1) := by decide +kernel
theorem dX6_plan_28 : decode cX6_plan 28 = .ok (.getfield 29, 3) := by decide +kernel
theorem dX6_plan_31 : decode cX6_plan 31 = .ok (.aload_n 0, 1) := by decide +kernel
theorem dX6_plan_32 : decode cX6_plan 32 = .ok (.getfield 15, 3) := by decide +kernel
theorem dX6_plan_35 : decode cX6_plan 35 = .ok (.iload_n 1, 1) := by decide +kernel
theorem dX6_plan_36 : decode cX6_plan 36 = .ok (.aaload, 1) := by decide +kernel
theorem dX6_plan_37 : decode cX6_plan 37 = .ok (.aload_n 0, 1) := by decide +kernel
theorem dX6_plan_38 : decode cX6_plan 38 = .ok (.getfield 22, 3) := by decide +kernel
theorem dX6_plan_41 : decode cX6_plan 41 = .ok (.invokevirtual 211, 3) := by decide +kernel
theorem dX6_plan_44 : decode cX6_plan 44 = .ok (.istore_n 2, 1) := by decide +kernel
theorem dX6_plan_45 : decode cX6_plan 45 = .ok (.iload_n 2, 1) := by decide +kernel
theorem dX6_plan_46 : decode cX6_plan 46 = .ok (.iconst (-1), 1) := by decide +kernel
theorem dX6_plan_47 : decode cX6_plan 47 = .ok (.if_icmp .ne 12, 3) := by decide +kernel
theorem dX6_plan_59 : decode cX6_plan 59 = .ok (.iload_n 2, 1) := by decide +kernel
theorem dX6_plan_60 : decode cX6_plan 60 = .ok (.ireturn, 1) := by decide +kernel
theorem dX6_plan_50 : decode cX6_plan 50 = .ok (.aload_n 0, 1) := by decide +kernel
theorem dX6_plan_51 : decode cX6_plan 51 = .ok (.bipush 10, 2) := by decide +kernel
theorem dX6_plan_53 : decode cX6_plan 53 = .ok (.invokevirtual 122, 3) := by decide +kernel
theorem dX6_plan_56 : decode cX6_plan 56 = .ok (.goto 4, 3) := by decide +kernel
theorem dX6_plan_12 : decode cX6_plan 12 = .ok (.iconst (-1), 1) := by decide +kernel
theorem dX6_plan_13 : decode cX6_plan 13 = .ok (.ireturn, 1) := by decide +kernel
theorem dX6_fewest_0 : decode cX6_fewest 0 = .ok (.aload_n 0, 1) := by decide +kernel
theorem dX6_fewest_1 : decode cX6_fewest 1 = .ok (.aload_n 0, 1) := by decide +kernel
theorem dX6_fewest_2 : decode cX6_fewest 2 = .ok (.iload_n 1, 1) := by decide +kernel
theorem dX6_fewest_3 : decode cX6_fewest 3 = .ok (.invokevirtual 73, 3) := by decide +kernel
theorem dX6_fewest_6 : decode cX6_fewest 6 = .ok (.invokevirtual 65, 3) := by decide +kernel
theorem dX6_fewest_9 : decode cX6_fewest 9 = .ok (.ifCond .ne 5, 3) := by decide +kernel
theorem dX6_fewest_14 : decode cX6_fewest 14 = .ok (.aload_n 0, 1) := by decide +kernel
theorem dX6_fewest_15 : decode cX6_fewest 15 = .ok (.getfield 22, 3) := by decide +kernel
theorem dX6_fewest_18 : decode cX6_fewest 18 = .ok (.aload_n 0, 1) := by decide +kernel
theorem dX6_fewest_19 : decode cX6_fewest 19 = .ok (.getfield 15, 3) := by decide +kernel
theorem dX6_fewest_22 : decode cX6_fewest 22 = .ok (.iload_n 1, 1) := by decide +kernel
theorem dX6_fewest_23 : decode cX6_fewest 23 = .ok (.aaload, 1) := by decide +kernel
theorem dX6_fewest_24 : decode cX6_fewest 24 = .ok (.invokevirtual 184, 3) := by decide +kernel
theorem dX6_fewest_27 : decode cX6_fewest 27 = .ok (.aload_n 0, 1) := by decide +kernel
theorem dX6_fewest_28 : decode cX6_fewest 28 = .ok (.getfield 29, 3) := by decide +kernel
theorem dX6_fewest_31 : decode cX6_fewest 31 = .ok (.aload_n 0, 1) := by decide +kernel
theorem dX6_fewest_32 : decode cX6_fewest 32 = .ok (.getfield 15, 3) := by decide +kernel
theorem dX6_fewest_35 : decode cX6_fewest 35 = .ok (.iload_n 1, 1) := by decide +kernel
theorem dX6_fewest_36 : decode cX6_fewest 36 = .ok (.aaload, 1) := by decide +kernel
theorem dX6_fewest_37 : decode cX6_fewest 37 = .ok (.aload_n 0, 1) := by decide +kernel
theorem dX6_fewest_38 : decode cX6_fewest 38 = .ok (.getfield 22, 3) := by decide +kernel
theorem dX6_fewest_41 : decode cX6_fewest 41 = .ok (.invokevirtual 215, 3) := by decide +kernel
theorem dX6_fewest_44 : decode cX6_fewest 44 = .ok (.aload_n 0, 1) := by decide +kernel
theorem dX6_fewest_45 : decode cX6_fewest 45 = .ok (.getfield 29, 3) := by decide +kernel
theorem dX6_fewest_48 : decode cX6_fewest 48 = .ok (.getfield 219, 3) := by decide +kernel
theorem dX6_fewest_51 : decode cX6_fewest 51 = .ok (.bipush 8, 2) := by decide +kernel
theorem dX6_fewest_53 : decode cX6_fewest 53 = .ok (.if_icmp .le 10, 3) := by decide +kernel
theorem dX6_fewest_63 : decode cX6_fewest 63 = .ok (.aload_n 0, 1) := by decide +kernel
theorem dX6_fewest_64 : decode cX6_fewest 64 = .ok (.getfield 29, 3) := by decide +kernel
theorem dX6_fewest_67 : decode cX6_fewest 67 = .ok (.aload_n 0, 1) := by decide +kernel
theorem dX6_fewest_68 : decode cX6_fewest 68 = .ok (.getfield 22, 3) := by decide +kernel
theorem dX6_fewest_71 : decode cX6_fewest 71 = .ok (.invokevirtual 222, 3) := by decide +kernel
theorem dX6_fewest_74 : decode cX6_fewest 74 = .ok (.istore_n 2, 1) := by decide +kernel
theorem dX6_fewest_75 : decode cX6_fewest 75 = .ok (.iload_n 2, 1) := by decide +kernel
theorem dX6_fewest_76 : decode cX6_fewest 76 = .ok (.iconst (-1), 1) := by decide +kernel
theorem dX6_fewest_77 : decode cX6_fewest 77 = .ok (.if_icmp .ne 10, 3) := by decide +kernel
theorem dX6_fewest_87 : decode cX6_fewest 87 = .ok (.aload_n 0, 1) := by decide +kernel
theorem dX6_fewest_88 : decode cX6_fewest 88 = .ok (.getfield 29, 3) := by decide +kernel
theorem dX6_fewest_91 : decode cX6_fewest 91 = .ok (.aload_n 0, 1) := by decide +kernel
theorem dX6_fewest_92 : decode cX6_fewest 92 = .ok (.getfield 15, 3) := by decide +kernel
theorem dX6_fewest_95 : decode cX6_fewest 95 = .ok (.iload_n 1, 1) := by decide +kernel
theorem dX6_fewest_96 : decode cX6_fewest 96 = .ok (.aaload, 1) := by decide +kernel
theorem dX6_fewest_97 : decode cX6_fewest 97 = .ok (.iload_n 2, 1) := by decide +kernel
theorem dX6_fewest_98 : decode cX6_fewest 98 = .ok (.invokevirtual 226, 3) := by decide +kernel
theorem dX6_fewest_101 : decode cX6_fewest 101 = .ok (.aload_n 0, 1) := by decide +kernel
theorem dX6_fewest_102 : decode cX6_fewest 102 = .ok (.getfield 29, 3) := by decide +kernel
theorem dX6_fewest_105 : decode cX6_fewest 105 = .ok (.getfield 229, 3) := by decide +kernel
theorem dX6_fewest_108 : decode cX6_fewest 108 = .ok (.iload_n 2, 1) := by decide +kernel
theorem dX6_fewest_109 : decode cX6_fewest 109 = .ok (.iaload, 1) := by decide +kernel
theorem dX6_fewest_110 : decode cX6_fewest 110 = .ok (.ireturn, 1) := by decide +kernel
theorem dX6_fewest_80 : decode cX6_fewest 80 = .ok (.aload_n 0, 1) := by decide +kernel
theorem dX6_fewest_81 : decode cX6_fewest 81 = .ok (.bipush 10, 2) := by decide +kernel
theorem dX6_fewest_83 : decode cX6_fewest 83 = .ok (.invokevirtual 122, 3) := by decide +kernel
theorem dX6_fewest_86 : decode cX6_fewest 86 = .ok (.ireturn, 1) := by decide +kernel
theorem dX6_fewest_56 : decode cX6_fewest 56 = .ok (.aload_n 0, 1) := by decide +kernel
theorem dX6_fewest_57 : decode cX6_fewest 57 = .ok (.bipush 8, 2) := by decide +kernel
theorem dX6_fewest_59 : decode cX6_fewest 59 = .ok (.invokevirtual 122, 3) := by decide +kernel
theorem dX6_fewest_62 : decode cX6_fewest 62 = .ok (.ireturn, 1) := by decide +kernel
theorem dX6_fewest_12 : decode cX6_fewest 12 = .ok (.iconst (-1), 1) := by decide +kernel
theorem dX6_fewest_13 : decode cX6_fewest 13 = .ok (.ireturn, 1) := by decide +kernel
theorem dX6_cost_0 : decode cX6_cost 0 = .ok (.aload_n 0, 1) := by decide +kernel
theorem dX6_cost_1 : decode cX6_cost 1 = .ok (.aload_n 0, 1) := by decide +kernel
theorem dX6_cost_2 : decode cX6_cost 2 = .ok (.iload_n 1, 1) := by decide +kernel
theorem dX6_cost_3 : decode cX6_cost 3 = .ok (.invokevirtual 73, 3) := by decide +kernel
theorem dX6_cost_6 : decode cX6_cost 6 = .ok (.invokevirtual 65, 3) := by decide +kernel
theorem dX6_cost_9 : decode cX6_cost 9 = .ok (.ifCond .ne 5, 3) := by decide +kernel
theorem dX6_cost_14 : decode cX6_cost 14 = .ok (.aload_n 0, 1) := by decide +kernel
theorem dX6_cost_15 : decode cX6_cost 15 = .ok (.getfield 15, 3) := by decide +kernel
theorem dX6_cost_18 : decode cX6_cost 18 = .ok (.iload_n 1, 1) := by decide +kernel
theorem dX6_cost_19 : decode cX6_cost 19 = .ok (.aaload, 1) := by decide +kernel
theorem dX6_cost_20 : decode cX6_cost 20 = .ok (.invokevirtual 232, 3) := by decide +kernel
theorem dX6_cost_23 : decode cX6_cost 23 = .ok (.ireturn, 1) := by decide +kernel
theorem dX6_cost_12 : decode cX6_cost 12 = .ok (.iconst (-1), 1) := by decide +kernel
theorem dX6_cost_13 : decode cX6_cost 13 = .ok (.ireturn, 1) := by decide +kernel
theorem dX6_round_0 : decode cX6_round 0 = .ok (.aload_n 0, 1) := by decide +kernel
theorem dX6_round_1 : decode cX6_round 1 = .ok (.aload_n 0, 1) := by decide +kernel
theorem dX6_round_2 : decode cX6_round 2 = .ok (.iload_n 1, 1) := by decide +kernel
theorem dX6_round_3 : decode cX6_round 3 = .ok (.invokevirtual 73, 3) := by decide +kernel
theorem dX6_round_6 : decode cX6_round 6 = .ok (.invokevirtual 65, 3) := by decide +kernel
theorem dX6_round_9 : decode cX6_round 9 = .ok (.ifCond .ne 5, 3) := by decide +kernel
theorem dX6_round_14 : decode cX6_round 14 = .ok (.iload_n 2, 1) := by decide +kernel
theorem dX6_round_15 : decode cX6_round 15 = .ok (.iconst 2, 1) := by decide +kernel
theorem dX6_round_16 : decode cX6_round 16 = .ok (.if_icmp .lt 10, 3) := by decide +kernel
theorem dX6_round_26 : decode cX6_round 26 = .ok (.aload_n 0, 1) := by decide +kernel
theorem dX6_round_27 : decode cX6_round 27 = .ok (.bipush 7, 2) := by decide +kernel
theorem dX6_round_29 : decode cX6_round 29 = .ok (.invokevirtual 122, 3) := by decide +kernel
theorem dX6_round_32 : decode cX6_round 32 = .ok (.ireturn, 1) := by decide +kernel
theorem dX6_round_19 : decode cX6_round 19 = .ok (.iload_n 2, 1) := by decide +kernel
theorem dX6_round_20 : decode cX6_round 20 = .ok (.sipush 1000, 3) := by decide +kernel
theorem dX6_round_23 : decode cX6_round 23 = .ok (.if_icmp .le 10, 3) := by decide +kernel
theorem dX6_round_33 : decode cX6_round 33 = .ok (.aload_n 0, 1) := by decide +kernel
theorem dX6_round_34 : decode cX6_round 34 = .ok (.getfield 22, 3) := by decide +kernel
theorem dX6_round_37 : decode cX6_round 37 = .ok (.aload_n 0, 1) := by decide +kernel
theorem dX6_round_38 : decode cX6_round 38 = .ok (.getfield 15, 3) := by decide +kernel
theorem dX6_round_41 : decode cX6_round 41 = .ok (.iload_n 1, 1) := by decide +kernel
theorem dX6_round_42 : decode cX6_round 42 = .ok (.aaload, 1) := by decide +kernel
theorem dX6_round_43 : decode cX6_round 43 = .ok (.invokevirtual 184, 3) := by decide +kernel
theorem dX6_round_46 : decode cX6_round 46 = .ok (.aload_n 0, 1) := by decide +kernel
theorem dX6_round_47 : decode cX6_round 47 = .ok (.getfield 36, 3) := by decide +kernel
theorem dX6_round_50 : decode cX6_round 50 = .ok (.aload_n 0, 1) := by decide +kernel
theorem dX6_round_51 : decode cX6_round 51 = .ok (.getfield 22, 3) := by decide +kernel
theorem dX6_round_54 : decode cX6_round 54 = .ok (.iload_n 2, 1) := by decide +kernel
theorem dX6_round_55 : decode cX6_round 55 = .ok (.aload_n 0, 1) := by decide +kernel
theorem dX6_round_56 : decode cX6_round 56 = .ok (.getfield 47, 3) := by decide +kernel
theorem dX6_round_59 : decode cX6_round 59 = .ok (.invokevirtual 235, 3) := by decide +kernel
theorem dX6_round_62 : decode cX6_round 62 = .ok (.ireturn, 1) := by decide +kernel
theorem dX6_round_12 : decode cX6_round 12 = .ok (.iconst (-1), 1) := by decide +kernel
theorem dX6_round_13 : decode cX6_round 13 = .ok (.ireturn, 1) := by decide +kernel
theorem dX6_give_0 : decode cX6_give 0 = .ok (.aload_n 0, 1) := by decide +kernel
theorem dX6_give_1 : decode cX6_give 1 = .ok (.aload_n 0, 1) := by decide +kernel
theorem dX6_give_2 : decode cX6_give 2 = .ok (.iload_n 1, 1) := by decide +kernel
theorem dX6_give_3 : decode cX6_give 3 = .ok (.invokevirtual 73, 3) := by decide +kernel
theorem dX6_give_6 : decode cX6_give 6 = .ok (.invokevirtual 65, 3) := by decide +kernel
theorem dX6_give_9 : decode cX6_give 9 = .ok (.ifCond .ne 5, 3) := by decide +kernel
theorem dX6_give_14 : decode cX6_give 14 = .ok (.aload_n 0, 1) := by decide +kernel
theorem dX6_give_15 : decode cX6_give 15 = .ok (.getfield 57, 3) := by decide +kernel
theorem dX6_give_18 : decode cX6_give 18 = .ok (.bipush 16, 2) := by decide +kernel
theorem dX6_give_20 : decode cX6_give 20 = .ok (.if_icmp .lt 10, 3) := by decide +kernel
theorem dX6_give_30 : decode cX6_give 30 = .ok (.aload_n 0, 1) := by decide +kernel
theorem dX6_give_31 : decode cX6_give 31 = .ok (.getfield 22, 3) := by decide +kernel
theorem dX6_give_34 : decode cX6_give 34 = .ok (.aload_n 0, 1) := by decide +kernel
theorem dX6_give_35 : decode cX6_give 35 = .ok (.getfield 15, 3) := by decide +kernel
theorem dX6_give_38 : decode cX6_give 38 = .ok (.iload_n 1, 1) := by decide +kernel
theorem dX6_give_39 : decode cX6_give 39 = .ok (.aaload, 1) := by decide +kernel
theorem dX6_give_40 : decode cX6_give 40 = .ok (.invokevirtual 184, 3) := by decide +kernel
theorem dX6_give_43 : decode cX6_give 43 = .ok (.aload_n 0, 1) := by decide +kernel
theorem dX6_give_44 : decode cX6_give 44 = .ok (.getfield 22, 3) := by decide +kernel
theorem dX6_give_47 : decode cX6_give 47 = .ok (.invokevirtual 191, 3) := by decide +kernel
theorem dX6_give_50 : decode cX6_give 50 = .ok (.ifCond .le 10, 3) := by decide +kernel
theorem dX6_give_60 : decode cX6_give 60 = .ok (.aload_n 0, 1) := by decide +kernel
theorem dX6_give_61 : decode cX6_give 61 = .ok (.getfield 22, 3) := by decide +kernel
theorem dX6_give_64 : decode cX6_give 64 = .ok (.aload_n 0, 1) := by decide +kernel
theorem dX6_give_65 : decode cX6_give 65 = .ok (.getfield 53, 3) := by decide +kernel
theorem dX6_give_68 : decode cX6_give 68 = .ok (.aload_n 0, 1) := by decide +kernel
theorem dX6_give_69 : decode cX6_give 69 = .ok (.getfield 57, 3) := by decide +kernel
theorem dX6_give_72 : decode cX6_give 72 = .ok (.aaload, 1) := by decide +kernel
theorem dX6_give_73 : decode cX6_give 73 = .ok (.invokevirtual 239, 3) := by decide +kernel
theorem dX6_give_76 : decode cX6_give 76 = .ok (.aload_n 0, 1) := by decide +kernel
theorem dX6_give_77 : decode cX6_give 77 = .ok (.dup, 1) := by decide +kernel
theorem dX6_give_78 : decode cX6_give 78 = .ok (.getfield 57, 3) := by decide +kernel
theorem dX6_give_81 : decode cX6_give 81 = .ok (.iconst 1, 1) := by decide +kernel
theorem dX6_give_82 : decode cX6_give 82 = .ok (.iadd, 1) := by decide +kernel
theorem dX6_give_83 : decode cX6_give 83 = .ok (.putfield 57, 3) := by decide +kernel
theorem dX6_give_86 : decode cX6_give 86 = .ok (.aload_n 0, 1) := by decide +kernel
theorem dX6_give_87 : decode cX6_give 87 = .ok (.getfield 57, 3) := by decide +kernel
theorem dX6_give_90 : decode cX6_give 90 = .ok (.iconst 1, 1) := by decide +kernel
theorem dX6_give_91 : decode cX6_give 91 = .ok (.isub, 1) := by decide +kernel
theorem dX6_give_92 : decode cX6_give 92 = .ok (.ireturn, 1) := by decide +kernel
theorem dX6_give_53 : decode cX6_give 53 = .ok (.aload_n 0, 1) := by decide +kernel
theorem dX6_give_54 : decode cX6_give 54 = .ok (.bipush 10, 2) := by decide +kernel
theorem dX6_give_56 : decode cX6_give 56 = .ok (.invokevirtual 122, 3) := by decide +kernel
theorem dX6_give_59 : decode cX6_give 59 = .ok (.ireturn, 1) := by decide +kernel
theorem dX6_give_23 : decode cX6_give 23 = .ok (.aload_n 0, 1) := by decide +kernel
theorem dX6_give_24 : decode cX6_give 24 = .ok (.bipush 8, 2) := by decide +kernel
theorem dX6_give_26 : decode cX6_give 26 = .ok (.invokevirtual 122, 3) := by decide +kernel
theorem dX6_give_29 : decode cX6_give 29 = .ok (.ireturn, 1) := by decide +kernel
theorem dX6_give_12 : decode cX6_give 12 = .ok (.iconst (-1), 1) := by decide +kernel
theorem dX6_give_13 : decode cX6_give 13 = .ok (.ireturn, 1) := by decide +kernel
theorem dX6_isGift_0 : decode cX6_isGift 0 = .ok (.iload_n 1, 1) := by decide +kernel
theorem dX6_isGift_1 : decode cX6_isGift 1 = .ok (.ifCond .lt 15, 3) := by decide +kernel
theorem dX6_isGift_16 : decode cX6_isGift 16 = .ok (.iconst 0, 1) := by decide +kernel
theorem dX6_isGift_17 : decode cX6_isGift 17 = .ok (.ireturn, 1) := by decide +kernel
theorem dX6_isGift_4 : decode cX6_isGift 4 = .ok (.iload_n 1, 1) := by decide +kernel
theorem dX6_isGift_5 : decode cX6_isGift 5 = .ok (.aload_n 0, 1) := by decide +kernel
theorem dX6_isGift_6 : decode cX6_isGift 6 = .ok (.getfield 57, 3) := by decide +kernel
theorem dX6_isGift_9 : decode cX6_isGift 9 = .ok (.if_icmp .ge 7, 3) := by decide +kernel
theorem dX6_isGift_12 : decode cX6_isGift 12 = .ok (.iconst 1, 1) := by decide +kernel
theorem dX6_isGift_13 : decode cX6_isGift 13 = .ok (.goto 4, 3) := by decide +kernel
theorem dX6_gift_0 : decode cX6_gift 0 = .ok (.aload_n 0, 1) := by decide +kernel
theorem dX6_gift_1 : decode cX6_gift 1 = .ok (.iload_n 1, 1) := by decide +kernel
theorem dX6_gift_2 : decode cX6_gift 2 = .ok (.invokevirtual 242, 3) := by decide +kernel
theorem dX6_gift_5 : decode cX6_gift 5 = .ok (.ifCond .eq 17, 3) := by decide +kernel
theorem dX6_gift_22 : decode cX6_gift 22 = .ok (.iconst (-1), 1) := by decide +kernel
theorem dX6_gift_23 : decode cX6_gift 23 = .ok (.ireturn, 1) := by decide +kernel
theorem dX6_gift_8 : decode cX6_gift 8 = .ok (.aload_n 0, 1) := by decide +kernel
theorem dX6_gift_9 : decode cX6_gift 9 = .ok (.getfield 53, 3) := by decide +kernel
theorem dX6_gift_12 : decode cX6_gift 12 = .ok (.iload_n 1, 1) := by decide +kernel
theorem dX6_gift_13 : decode cX6_gift 13 = .ok (.aaload, 1) := by decide +kernel
theorem dX6_gift_14 : decode cX6_gift 14 = .ok (.iload_n 2, 1) := by decide +kernel
theorem dX6_gift_15 : decode cX6_gift 15 = .ok (.iload_n 3, 1) := by decide +kernel
theorem dX6_gift_16 : decode cX6_gift 16 = .ok (.invokevirtual 206, 3) := by decide +kernel
theorem dX6_gift_19 : decode cX6_gift 19 = .ok (.goto 4, 3) := by decide +kernel
theorem dX6_agree_0 : decode cX6_agree 0 = .ok (.aload_n 0, 1) := by decide +kernel
theorem dX6_agree_1 : decode cX6_agree 1 = .ok (.iload_n 1, 1) := by decide +kernel
theorem dX6_agree_2 : decode cX6_agree 2 = .ok (.invokevirtual 242, 3) := by decide +kernel
theorem dX6_agree_5 : decode cX6_agree 5 = .ok (.ifCond .eq 29, 3) := by decide +kernel
theorem dX6_agree_34 : decode cX6_agree 34 = .ok (.iconst (-1), 1) := by decide +kernel
theorem dX6_agree_35 : decode cX6_agree 35 = .ok (.ireturn, 1) := by decide +kernel
theorem dX6_agree_8 : decode cX6_agree 8 = .ok (.aload_n 0, 1) := by decide +kernel
theorem dX6_agree_9 : decode cX6_agree 9 = .ok (.iload_n 2, 1) := by decide +kernel
theorem dX6_agree_10 : decode cX6_agree 10 = .ok (.invokevirtual 242, 3) := by decide +kernel
theorem dX6_agree_13 : decode cX6_agree 13 = .ok (.ifCond .eq 21, 3) := by decide +kernel
theorem dX6_agree_16 : decode cX6_agree 16 = .ok (.aload_n 0, 1) := by decide +kernel
theorem dX6_agree_17 : decode cX6_agree 17 = .ok (.getfield 53, 3) := by decide +kernel
theorem dX6_agree_20 : decode cX6_agree 20 = .ok (.iload_n 1, 1) := by decide +kernel
theorem dX6_agree_21 : decode cX6_agree 21 = .ok (.aaload, 1) := by decide +kernel
theorem dX6_agree_22 : decode cX6_agree 22 = .ok (.aload_n 0, 1) := by decide +kernel
theorem dX6_agree_23 : decode cX6_agree 23 = .ok (.getfield 53, 3) := by decide +kernel
theorem dX6_agree_26 : decode cX6_agree 26 = .ok (.iload_n 2, 1) := by decide +kernel
theorem dX6_agree_27 : decode cX6_agree 27 = .ok (.aaload, 1) := by decide +kernel
theorem dX6_agree_28 : decode cX6_agree 28 = .ok (.invokevirtual 245, 3) := by decide +kernel
theorem dX6_agree_31 : decode cX6_agree 31 = .ok (.goto 4, 3) := by decide +kernel
abbrev xM (G : GG) (x : Nat) (xa ta a b ga ua la lb lc : Nat → Nat) (tg gg : Nat → Option Nat) (xf tf f qf gf uf lf mf nf : Nat → Int32) (tr r q gr ur lr mr nr : Nat → Nat → Int32) : va_W := ((x, .inr (6, [.int (xf 0), .ref (xa 1), .ref (a 15), .ref (ga 9), .ref (ua 0), .ref (la 0), .ref (lb 0), .int (xf 7), .ref (xa 8), .int (xf 9)])) :: ((xa 1), .inl (G.2.2.2.1, 6, .inr (.inr (.inr (.inr tg))))) :: ((ta 0), .inr (4, [.int (tf 0), .int (tf 1), .int (tf 2), .int (tf 3), .ref (ta 4), .ref (ta 5), .ref (ta 6), .ref (ta 7), .ref (ta 8), .ref (ta 9), .ref (ta 10), .ref (ta 11)])) :: ((ta 4), .inl (G.2.1, 12, .inl (tr 4))) :: ((ta 5), .inl (G.2.1, 144, .inl (tr 5))) :: ((ta 6), .inl (G.2.1, 144, .inl (tr 6))) :: ((ta 7), .inl (G.2.1, 144, .inl (tr 7))) :: ((ta 8), .inl (G.2.1, 864, .inl (tr 8))) :: ((ta 9), .inl (G.2.1, 6, .inl (tr 9))) :: ((ta 10), .inl (G.2.1, 12, .inl (tr 10))) :: ((ta 11), .inl (G.2.1, 12, .inl (tr 11))) :: ((a 15), .inr (2, [.int (f 0), .int (f 1), .int (f 2), .int (f 3), .int (f 4), .ref (b 3), .ref (a 6), .ref (a 7), .ref (a 8), .ref (a 9), .ref (a 10), .ref (a 11), .ref (a 12), .ref (a 13), .ref (a 14)])) :: ((a 6), .inl (G.2.2.1, 12, .inl (r 6))) :: ((a 7), .inl (G.2.1, 12, .inl (r 7))) :: ((a 8), .inl (G.2.1, 144, .inl (r 8))) :: ((a 9), .inl (G.2.1, 144, .inl (r 9))) :: ((a 10), .inl (G.2.1, 144, .inl (r 10))) :: ((a 11), .inl (G.2.2.1, 144, .inl (r 11))) :: ((a 12), .inl (G.2.1, 144, .inl (r 12))) :: ((a 13), .inl (G.2.1, 144, .inl (r 13))) :: ((a 14), .inl (G.2.1, 144, .inl (r 14))) :: ((b 3), .inr (5, [.ref (b 0), .ref (b 1), .ref (b 2), .int (qf 3)])) :: ((b 0), .inl (G.2.1, 25, .inl (q 0))) :: ((b 1), .inl (G.2.1, 25, .inl (q 1))) :: ((b 2), .inl (G.2.1, 25, .inl (q 2))) :: ((ga 9), .inr (0, [.ref (ga 0), .ref (ga 1), .ref (ga 2), .ref (ga 3), .int (gf 4), .int (gf 5), .int (gf 6), .int (gf 7), .int (gf 8)])) :: ((ga 0), .inl (G.2.2.1, 144, .inl (gr 0))) :: ((ga 1), .inl (G.2.1, 8, .inl (gr 1))) :: ((ga 2), .inl (G.2.1, 8, .inl (gr 2))) :: ((ga 3), .inl (G.2.1, 256, .inl (gr 3))) :: ((ua 0), .inr (3, [.ref (ua 23), .ref (ua 1), .ref (ua 2), .ref (ua 3), .ref (ua 4), .ref (ua 5), .ref (ua 6), .ref (ua 7)])) :: ((ua 1), .inl (G.2.1, 144, .inl (ur 1))) :: ((ua 2), .inl (G.2.2.1, 144, .inl (ur 2))) :: ((ua 3), .inl (G.2.1, 25, .inl (ur 3))) :: ((ua 4), .inl (G.2.1, 25, .inl (ur 4))) :: ((ua 5), .inl (G.2.1, 25, .inl (ur 5))) :: ((ua 6), .inl (G.2.1, 25, .inl (ur 6))) :: ((ua 7), .inl (G.2.2.1, 12, .inl (ur 7))) :: ((ua 23), .inr (5, [.ref (ua 20), .ref (ua 21), .ref (ua 22), .int (uf 3)])) :: ((ua 20), .inl (G.2.1, 25, .inl (ur 20))) :: ((ua 21), .inl (G.2.1, 25, .inl (ur 21))) :: ((ua 22), .inl (G.2.1, 25, .inl (ur 22))) :: ((la 0), .inr (1, [.int (lf 0), .int (lf 1), .ref (la 1)])) :: ((la 1), .inl (G.2.1, 144, .inl (lr 2))) :: ((lb 0), .inr (1, [.int (mf 0), .int (mf 1), .ref (lb 1)])) :: ((lb 1), .inl (G.2.1, 144, .inl (mr 2))) :: ((xa 8), .inl (G.2.2.2.2, 16, .inr (.inr (.inr (.inr gg))))) :: ((lc 0), .inr (1, [.int (nf 0), .int (nf 1), .ref (lc 1)])) :: ((lc 1), .inl (G.2.1, 144, .inl (nr 2))) :: [])
abbrev lW (G : GG) (la : Nat → Nat) (p0 p1 : Int32) (s : Nat → Int32) : va_W := [((la 0), .inr (1, [.int p0, .int p1, .ref (la 1)])), ((la 1), .inl (G.2.1, 144, .inl s))]
theorem leaf_w {G : GG} {la : Nat → Nat} {p0 p1 : Int32} {s : Nat → Int32} {H : Heap} {n0 n1 : Nat} (h : PP G (lW G la p0 p1 s) H) (e0 : p0 = nI n0) (e1 : p1 = nI n1) : PP G (lW G la (nI n0) (nI n1) s) H := by subst e0 e1; exact h
def tbO (tb : Int32) (j : Nat) (o : Int32) : Prop := tb = nI j ∧ ¬ o = 0
def tbJ (tb : Int32) (j : Nat) : Prop := ∀ n, n < 6 → tb = nI n → n = j
theorem tb_j {tb : Int32} {j : Nat} (h : tbJ tb j) (h1 : ¬ tb < 0) (h2 : ¬ 6 ≤ tb) : tb = nI j := by
  obtain ⟨n, hn, e⟩ := lt_ix (x := tb) (n := 6) (by decide) h1 h2
  rw [e, h n hn e]
theorem st0 {q : Int32} {P : Prop} (h : (q = 0 ∧ P) ∨ (q = 1 ∧ ¬ P)) (h0 : q = 0) : P := h.elim (fun z => z.2) (fun z => absurd (h0.symm.trans z.1) (by decide))
theorem st1 {q : Int32} {P : Prop} (h : (q = 0 ∧ P) ∨ (q = 1 ∧ ¬ P)) (h0 : ¬ q = 0) : ¬ P := h.elim (fun z => absurd z.1 h0) (fun z => z.2)
theorem nOK_fl {x : Nat → Int32} {n m k : Nat} (hk : k ≤ m) : nOK n m (flF x (nI k) n) := fun j hj => ⟨k, hk, by unfold flF; rw [if_pos hj]⟩
theorem sw5 (x : Int32) : (x.toInt < 0 ∨ 4 < x.toInt) ∨ x = 0 ∨ x = 1 ∨ x = 2 ∨ x = 3 ∨ x = 4 := by
  by_cases h0 : x < 0
  · exact Or.inl (Or.inl (by have := Int32.lt_iff_toInt_lt.mp h0; rw [show (0 : Int32).toInt = 0 by decide] at this; exact this))
  · obtain ⟨n, hn, rfl⟩ := nI_of h0
    rw [nI_toInt hn]
    rcases (show 4 < n ∨ n = 0 ∨ n = 1 ∨ n = 2 ∨ n = 3 ∨ n = 4 by omega) with h | rfl | rfl | rfl | rfl | rfl
    · exact Or.inl (Or.inr (by omega))
    · exact Or.inr (Or.inl rfl)
    · exact Or.inr (Or.inr (Or.inl rfl))
    · exact Or.inr (Or.inr (Or.inr (Or.inl rfl)))
    · exact Or.inr (Or.inr (Or.inr (Or.inr (Or.inl rfl))))
    · exact Or.inr (Or.inr (Or.inr (Or.inr (Or.inr rfl))))
theorem ag_post {G : GG} {a : Nat → Nat} {f : Nat → Int32} {r : Nat → Nat → Int32} {sp : Nat} {v q : Int32} {w w2 : va_W} (h2 : w2 = tW G a f (up2 (up2 r 6 (upd (r 6) sp (r 6 sp + v))) 8 (upd (r 8) (sp * 6 + gvN (r 8) sp 6) v))) (h : (q = 0 ∧ 6 ≤ gvN (r 8) sp 6 ∧ w = tW G a f r) ∨ (q = 1 ∧ gvN (r 8) sp 6 < 6 ∧ w = w2)) : ∃ z6 z8 : Nat → Int32, w = tW G a f (up2 (up2 r 6 z6) 8 z8) := by
  rcases h with ⟨_, _, h⟩ | ⟨_, _, h⟩
  · exact ⟨r 6, r 8, h⟩
  · exact ⟨_, _, h.trans h2⟩
set_option maxHeartbeats 4000000 in
set_option maxRecDepth 100000 in
theorem x_settled (l : Launch) (G : GG) (x : Nat) (xa ta a b ga ua la lb lc : Nat → Nat) (tg gg : Nat → Option Nat) (xf tf f qf gf uf lf mf nf : Nat → Int32) (tr r q gr ur lr mr nr : Nat → Nat → Int32) (v : Int32) : WrI l yX6_settled cX6_settled 2 (some .boolean) ({ frames := 0, cells := 0, slots := 0, locals := 0 }) G (xM G x xa ta a b ga ua la lb lc tg gg xf tf f qf gf uf lf mf nf tr r q gr ur lr mr nr) [.ref x, .int v] (fun q w => ∃ (n_xf_0 : Int32), w = xM G x xa ta a b ga ua la lb lc tg gg (upd xf 0 n_xf_0) tf f qf gf uf lf mf nf tr r q gr ur lr mr nr ∧ ((q = 1 ∧ (v = 0)) ∨ (q = 0 ∧ ¬ (v = 0)))) := by
  refine wr_entryI (by decide +kernel) (Nat.le_of_ble_eq_true rfl) ?_
  intro p e s m below meth c A C0 hP hK hD hA ls hl
  have hS : va_S A s.heap s.heap [] := va_S.rf
  obtain ⟨hx, hb, hml, hown, hts, hr, hlocks, hin⟩ := C0
  have hown : s.vm.findClass RX6 = some m.cls := hown
  have hDD : ∀ xf' tf' f' qf' gf' uf' lf' mf' nf' tr' r' q' gr' ur' lr' mr' nr', va_D A (xM G x xa ta a b ga ua la lb lc tg gg xf' tf' f' qf' gf' uf' lf' mf' nf' tr' r' q' gr' ur' lr' mr' nr') := fun xf' tf' f' qf' gf' uf' lf' mf' nf' tr' r' q' gr' ur' lr' mr' nr' => D_same hD rfl
  have hl : lv_has ls 2 [(0, .ref x), (1, .int v)] := hl
  refine lv_aload_n hx hb dX6_settled_0 rfl (lv_at hl 0 rfl) ?_
  refine lv_iload_n hx hb dX6_settled_1 rfl (lv_at hl 1 rfl) ?_
  refine va_put (D := G.1) (ci := 6) (v := .int v) (C := RX6) (T := TX6) (N := 10) hx hb hts inX6 tyX6 tyX6_ok nmX6 hown hK.1 hP (hDD _ _ _ _ _ _ _ _ _ _ _ _ _ _ _ _ _) hS 0 rfl rfl 0 (by decide) (hts _ mf_X6_9) (fun _ h9 => h9) rfl (tyX6_ok 0 (by decide)) (rfl) (rfl) (Nat.le_of_ble_eq_true rfl) dX6_settled_2 (fun H locs hP _ hS => ?_)
  have hP : PP G (xM G x xa ta a b ga ua la lb lc tg gg (upd xf 0 v) tf f qf gf uf lf mf nf tr r q gr ur lr mr nr) H := hP
  refine lv_iload_n hx hb dX6_settled_5 rfl (lv_at hl 1 rfl) ?_
  refine lv_if_ne (tgt := 13) hx hb dX6_settled_6 (by decide) (fun c1 => ?_) (fun c1 => ?_)
  · refine lv_iconst (v := 0) hx hb dX6_settled_13 (by decide) ?_
    exact wr_zret hx hb hr hlocks (Or.inl rfl) hS hP ⟨v, rfl, Or.inr ⟨rfl, c1⟩⟩ dX6_settled_14
  · refine lv_iconst (v := 1) hx hb dX6_settled_9 (by decide) ?_
    refine lv_goto (tgt := 14) hx hb dX6_settled_10 (by decide) ?_
    exact wr_zret hx hb hr hlocks (Or.inr rfl) hS hP ⟨v, rfl, Or.inl ⟨rfl, c1⟩⟩ dX6_settled_14
set_option maxHeartbeats 4000000 in
set_option maxRecDepth 100000 in
theorem x_refused (l : Launch) (G : GG) (x : Nat) (xa ta a b ga ua la lb lc : Nat → Nat) (tg gg : Nat → Option Nat) (xf tf f qf gf uf lf mf nf : Nat → Int32) (tr r q gr ur lr mr nr : Nat → Nat → Int32) (v : Int32) : WrI l yX6_refused cX6_refused 2 (some .int) ({ frames := 0, cells := 0, slots := 0, locals := 0 }) G (xM G x xa ta a b ga ua la lb lc tg gg xf tf f qf gf uf lf mf nf tr r q gr ur lr mr nr) [.ref x, .int v] (fun q w => ∃ (n_xf_0 : Int32), w = xM G x xa ta a b ga ua la lb lc tg gg (upd xf 0 n_xf_0) tf f qf gf uf lf mf nf tr r q gr ur lr mr nr) := by
  refine wr_entryI (by decide +kernel) (Nat.le_of_ble_eq_true rfl) ?_
  intro p e s m below meth c A C0 hP hK hD hA ls hl
  have hS : va_S A s.heap s.heap [] := va_S.rf
  obtain ⟨hx, hb, hml, hown, hts, hr, hlocks, hin⟩ := C0
  have hown : s.vm.findClass RX6 = some m.cls := hown
  have hDD : ∀ xf' tf' f' qf' gf' uf' lf' mf' nf' tr' r' q' gr' ur' lr' mr' nr', va_D A (xM G x xa ta a b ga ua la lb lc tg gg xf' tf' f' qf' gf' uf' lf' mf' nf' tr' r' q' gr' ur' lr' mr' nr') := fun xf' tf' f' qf' gf' uf' lf' mf' nf' tr' r' q' gr' ur' lr' mr' nr' => D_same hD rfl
  have hl : lv_has ls 2 [(0, .ref x), (1, .int v)] := hl
  refine lv_aload_n hx hb dX6_refused_0 rfl (lv_at hl 0 rfl) ?_
  refine lv_iload_n hx hb dX6_refused_1 rfl (lv_at hl 1 rfl) ?_
  refine va_put (D := G.1) (ci := 6) (v := .int v) (C := RX6) (T := TX6) (N := 10) hx hb hts inX6 tyX6 tyX6_ok nmX6 hown hK.1 hP (hDD _ _ _ _ _ _ _ _ _ _ _ _ _ _ _ _ _) hS 0 rfl rfl 0 (by decide) (hts _ mf_X6_9) (fun _ h9 => h9) rfl (tyX6_ok 0 (by decide)) (rfl) (rfl) (Nat.le_of_ble_eq_true rfl) dX6_refused_2 (fun H locs hP _ hS => ?_)
  have hP : PP G (xM G x xa ta a b ga ua la lb lc tg gg (upd xf 0 v) tf f qf gf uf lf mf nf tr r q gr ur lr mr nr) H := hP
  refine lv_iconst (v := -1) hx hb dX6_refused_5 (by decide) ?_
  exact wr_iret hx hb hr hlocks hS hP ⟨v, rfl⟩ dX6_refused_6
set_option maxHeartbeats 4000000 in
set_option maxRecDepth 100000 in
theorem x_status (l : Launch) (G : GG) (x : Nat) (xa ta a b ga ua la lb lc : Nat → Nat) (tg gg : Nat → Option Nat) (xf tf f qf gf uf lf mf nf : Nat → Int32) (tr r q gr ur lr mr nr : Nat → Nat → Int32) : RdI l yX6_status cX6_status 1 (some .int) ({ frames := 0, cells := 0, slots := 0, locals := 0 }) G (xM G x xa ta a b ga ua la lb lc tg gg xf tf f qf gf uf lf mf nf tr r q gr ur lr mr nr) [.ref x] (fun q => True) := by
  refine rd_entry (by decide +kernel) (Nat.le_of_ble_eq_true rfl) ?_
  intro p e s m below meth c C0 hP hK ls hl
  have hS : va_S (fun q => s.heap.size ≤ q) s.heap s.heap [] := va_S.rf
  have hA : ∀ q, s.heap.size ≤ q → (fun q => s.heap.size ≤ q) q := fun _ h => h
  obtain ⟨hx, hb, hml, hown, hts, hr, hlocks, hin⟩ := C0
  have hown : s.vm.findClass RX6 = some m.cls := hown
  have hl : lv_has ls 1 [(0, .ref x)] := hl
  refine lv_aload_n hx hb dX6_status_0 rfl (lv_at hl 0 rfl) ?_
  refine va_get (D := G.1) (ci := 6) (v := .int (xf 0)) (C := RX6) (T := TX6) (N := 10) hx hb hts inX6 hown hK.1 hP 0 rfl rfl 0 (by decide) (hts _ mf_X6_9) (fun _ h9 => h9) rfl dX6_status_1 ?_
  exact rd_iret hx hb hr hlocks hS (trivial) dX6_status_4
set_option maxHeartbeats 4000000 in
set_option maxRecDepth 100000 in
theorem x_tableStatus (l : Launch) (G : GG) (x : Nat) (xa ta a b ga ua la lb lc : Nat → Nat) (tg gg : Nat → Option Nat) (xf tf f qf gf uf lf mf nf : Nat → Int32) (tr r q gr ur lr mr nr : Nat → Nat → Int32) (tb : Int32) (j : Nat) (hj : j < 6) (hjt : tbJ tb j) (htg : tg j = some (ta 0)) : RdI l yX6_tableStatus cX6_tableStatus 2 (some .int) ({ frames := 0, cells := 0, slots := 0, locals := 0 }) G (xM G x xa ta a b ga ua la lb lc tg gg xf tf f qf gf uf lf mf nf tr r q gr ur lr mr nr) [.ref x, .int tb] (fun q => ((q = 0 ∧ tbO tb j (tf 0)) ∨ (q = 1 ∧ ¬ tbO tb j (tf 0)))) := by
  refine rd_entry (by decide +kernel) (Nat.le_of_ble_eq_true rfl) ?_
  intro p e s m below meth c C0 hP hK ls hl
  have hS : va_S (fun q => s.heap.size ≤ q) s.heap s.heap [] := va_S.rf
  have hA : ∀ q, s.heap.size ≤ q → (fun q => s.heap.size ≤ q) q := fun _ h => h
  obtain ⟨hx, hb, hml, hown, hts, hr, hlocks, hin⟩ := C0
  have hown : s.vm.findClass RX6 = some m.cls := hown
  have hl : lv_has ls 2 [(0, .ref x), (1, .int tb)] := hl
  refine lv_iload_n hx hb dX6_tableStatus_0 rfl (lv_at hl 1 rfl) ?_
  refine lv_if_lt (tgt := 26) hx hb dX6_tableStatus_1 (by decide) (fun c1 => ?_) (fun c1 => ?_)
  · refine lv_iconst (v := 1) hx hb dX6_tableStatus_26 (by decide) ?_
    exact rd_iret hx hb hr hlocks hS (Or.inr ⟨rfl, fun h => absurd (h.1 ▸ c1) (nI_pos (by omega))⟩) dX6_tableStatus_27
  · refine lv_iload_n hx hb dX6_tableStatus_4 rfl (lv_at hl 1 rfl) ?_
    refine lv_bipush (v := 6) hx hb dX6_tableStatus_5 (by decide) ?_
    refine lv_icmp_ge (tgt := 26) hx hb dX6_tableStatus_7 (by decide) (fun c2 => ?_) (fun c2 => ?_)
    · refine lv_iconst (v := 1) hx hb dX6_tableStatus_26 (by decide) ?_
      exact rd_iret hx hb hr hlocks hS (Or.inr ⟨rfl, fun h => absurd (h.1 ▸ c2) (nI_ge hj (by decide))⟩) dX6_tableStatus_27
    · refine lv_aload_n hx hb dX6_tableStatus_10 rfl (lv_at hl 0 rfl) ?_
      refine va_get (D := G.1) (ci := 6) (v := .ref (xa 1)) (C := RX6) (T := TX6) (N := 10) hx hb hts inX6 hown hK.1 hP 0 rfl rfl 1 (by decide) (hts _ mf_X6_15) (fun _ h9 => h9) rfl dX6_tableStatus_11 ?_
      refine lv_iload_n hx hb dX6_tableStatus_14 rfl (lv_at hl 1 rfl) ?_
      have ej := tb_j hjt c1 c2
      subst ej
      refine xaldT hx hb hK hP 1 (j) (b := (ta 0)) rfl (by omega) (by decide) rfl (htg) dX6_tableStatus_15 ?_
      refine va_get (D := G.1) (ci := 4) (v := .int (tf 0)) (C := RX4) (T := TX4) (N := 12) hx hb hts inX4 hown hK.1 hP 2 rfl rfl 0 (by decide) (hts _ mf_X6_61) (fun _ h9 => h9) rfl dX6_tableStatus_16 ?_
      refine lv_if_eq (tgt := 26) hx hb dX6_tableStatus_19 (by decide) (fun c3 => ?_) (fun c3 => ?_)
      · refine lv_iconst (v := 1) hx hb dX6_tableStatus_26 (by decide) ?_
        exact rd_iret hx hb hr hlocks hS (Or.inr ⟨rfl, fun h => h.2 c3⟩) dX6_tableStatus_27
      · refine lv_iconst (v := 0) hx hb dX6_tableStatus_22 (by decide) ?_
        refine lv_goto (tgt := 27) hx hb dX6_tableStatus_23 (by decide) ?_
        exact rd_iret hx hb hr hlocks hS (Or.inl ⟨rfl, rfl, c3⟩) dX6_tableStatus_27
set_option maxHeartbeats 4000000 in
set_option maxRecDepth 100000 in
theorem x_rowStatus (l : Launch) (G : GG) (x : Nat) (xa ta a b ga ua la lb lc : Nat → Nat) (tg gg : Nat → Option Nat) (xf tf f qf gf uf lf mf nf : Nat → Int32) (tr r q gr ur lr mr nr : Nat → Nat → Int32) (tb : Int32) (row : Int32) (j : Nat) (hj : j < 6) (hjt : tbJ tb j) (htg : tg j = some (ta 0)) : RdI l yX6_rowStatus cX6_rowStatus 4 (some .int) ({ frames := 1, cells := 0, slots := 0, locals := 21 }) G (xM G x xa ta a b ga ua la lb lc tg gg xf tf f qf gf uf lf mf nf tr r q gr ur lr mr nr) [.ref x, .int tb, .int row] (fun q => (q = 0 → tbO tb j (tf 0) ∧ inR (tf 1) row)) := by
  refine rd_entry (by decide +kernel) (Nat.le_of_ble_eq_true rfl) ?_
  intro p e s m below meth c C0 hP hK ls hl
  have hS : va_S (fun q => s.heap.size ≤ q) s.heap s.heap [] := va_S.rf
  have hA : ∀ q, s.heap.size ≤ q → (fun q => s.heap.size ≤ q) q := fun _ h => h
  obtain ⟨hx, hb, hml, hown, hts, hr, hlocks, hin⟩ := C0
  have hown : s.vm.findClass RX6 = some m.cls := hown
  have hl : lv_has ls 4 [(0, .ref x), (1, .int tb), (2, .int row)] := hl
  refine lv_aload_n hx hb dX6_rowStatus_0 rfl (lv_at hl 0 rfl) ?_
  refine lv_iload_n hx hb dX6_rowStatus_1 rfl (lv_at hl 1 rfl) ?_
  refine rdV (rest := []) (q0 := 0) ⟨hx, hb, hml, hown, hts⟩ (x_tableStatus l G x xa ta a b ga ua la lb lc tg gg xf tf f qf gf uf lf mf nf tr r q gr ur lr mr nr tb j (by omega) hjt htg) mi_yX6_tableStatus mv_yX6_tableStatus ml_X6_73 ⟨rfl, rfl, Nat.le_of_ble_eq_true rfl, Nat.le_of_ble_eq_true rfl⟩ hK (hP) rfl rfl rfl hl.1 rfl (Nat.le_of_ble_eq_true rfl) dX6_rowStatus_2 ⟨Nat.zero_le _, Nat.zero_le _⟩ hS hA hP (fun r1 H locs hr1 hP hS => ?_)
  have hr1 : ((r1 = 0 ∧ tbO tb j (tf 0)) ∨ (r1 = 1 ∧ ¬ tbO tb j (tf 0))) := hr1
  refine lv_istore_n (lv' := [(3, .int r1), (0, .ref x), (1, .int tb), (2, .int row)]) hx hb dX6_rowStatus_5 rfl hl (by decide) rfl (fun ls hl => ?_)
  refine lv_iload_n hx hb dX6_rowStatus_6 rfl (lv_at hl 0 rfl) ?_
  refine lv_if_eq (tgt := 12) hx hb dX6_rowStatus_7 (by decide) (fun c2 => ?_) (fun c2 => ?_)
  · obtain ⟨ej, ho⟩ := st0 hr1 c2
    subst ej
    refine lv_iload_n hx hb dX6_rowStatus_12 rfl (lv_at hl 3 rfl) ?_
    refine lv_if_lt (tgt := 33) hx hb dX6_rowStatus_13 (by decide) (fun c3 => ?_) (fun c3 => ?_)
    · refine lv_iconst (v := 2) hx hb dX6_rowStatus_33 (by decide) ?_
      exact rd_iret hx hb hr hlocks hS (fun h9 => absurd h9 (by decide)) dX6_rowStatus_34
    · refine lv_iload_n hx hb dX6_rowStatus_16 rfl (lv_at hl 3 rfl) ?_
      refine lv_aload_n hx hb dX6_rowStatus_17 rfl (lv_at hl 1 rfl) ?_
      refine va_get (D := G.1) (ci := 6) (v := .ref (xa 1)) (C := RX6) (T := TX6) (N := 10) hx hb hts inX6 hown hK.1 hP 0 rfl rfl 1 (by decide) (hts _ mf_X6_15) (fun _ h9 => h9) rfl dX6_rowStatus_18 ?_
      refine lv_iload_n hx hb dX6_rowStatus_21 rfl (lv_at hl 2 rfl) ?_
      refine xaldT hx hb hK hP 1 (j) (b := (ta 0)) rfl (by omega) (by decide) rfl (htg) dX6_rowStatus_22 ?_
      refine va_get (D := G.1) (ci := 4) (v := .int (tf 1)) (C := RX4) (T := TX4) (N := 12) hx hb hts inX4 hown hK.1 hP 2 rfl rfl 1 (by decide) (hts _ mf_X6_119) (fun _ h9 => h9) rfl dX6_rowStatus_23 ?_
      refine lv_icmp_ge (tgt := 33) hx hb dX6_rowStatus_26 (by decide) (fun c4 => ?_) (fun c4 => ?_)
      · refine lv_iconst (v := 2) hx hb dX6_rowStatus_33 (by decide) ?_
        exact rd_iret hx hb hr hlocks hS (fun h9 => absurd h9 (by decide)) dX6_rowStatus_34
      · refine lv_iconst (v := 0) hx hb dX6_rowStatus_29 (by decide) ?_
        refine lv_goto (tgt := 34) hx hb dX6_rowStatus_30 (by decide) ?_
        exact rd_iret hx hb hr hlocks hS (fun _ => ⟨⟨rfl, ho⟩, c3, c4⟩) dX6_rowStatus_34
  · refine lv_iload_n hx hb dX6_rowStatus_10 rfl (lv_at hl 0 rfl) ?_
    exact rd_iret hx hb hr hlocks hS (fun h9 => absurd h9 c2) dX6_rowStatus_11
set_option maxHeartbeats 4000000 in
set_option maxRecDepth 100000 in
theorem x_placeStatus (l : Launch) (G : GG) (x : Nat) (xa ta a b ga ua la lb lc : Nat → Nat) (tg gg : Nat → Option Nat) (xf tf f qf gf uf lf mf nf : Nat → Int32) (tr r q gr ur lr mr nr : Nat → Nat → Int32) (tb : Int32) (row : Int32) (col : Int32) (j : Nat) (hj : j < 6) (hjt : tbJ tb j) (htg : tg j = some (ta 0)) (hT1 : nL 12 (tf 1)) : RdI l yX6_placeStatus cX6_placeStatus 6 (some .int) ({ frames := 2, cells := 0, slots := 0, locals := 44 }) G (xM G x xa ta a b ga ua la lb lc tg gg xf tf f qf gf uf lf mf nf tr r q gr ur lr mr nr) [.ref x, .int tb, .int row, .int col] (fun q => (q = 0 → tbO tb j (tf 0) ∧ inR (tf 1) row ∧ inR (tf 2) col)) := by
  refine rd_entry (by decide +kernel) (Nat.le_of_ble_eq_true rfl) ?_
  intro p e s m below meth c C0 hP hK ls hl
  have hS : va_S (fun q => s.heap.size ≤ q) s.heap s.heap [] := va_S.rf
  have hA : ∀ q, s.heap.size ≤ q → (fun q => s.heap.size ≤ q) q := fun _ h => h
  obtain ⟨hx, hb, hml, hown, hts, hr, hlocks, hin⟩ := C0
  have hown : s.vm.findClass RX6 = some m.cls := hown
  have hl : lv_has ls 6 [(0, .ref x), (1, .int tb), (2, .int row), (3, .int col)] := hl
  refine lv_aload_n hx hb dX6_placeStatus_0 rfl (lv_at hl 0 rfl) ?_
  refine lv_iload_n hx hb dX6_placeStatus_1 rfl (lv_at hl 1 rfl) ?_
  refine lv_iload_n hx hb dX6_placeStatus_2 rfl (lv_at hl 2 rfl) ?_
  refine rdV (rest := []) (q0 := 0) ⟨hx, hb, hml, hown, hts⟩ (x_rowStatus l G x xa ta a b ga ua la lb lc tg gg xf tf f qf gf uf lf mf nf tr r q gr ur lr mr nr tb row j (by omega) hjt htg) mi_yX6_rowStatus mv_yX6_rowStatus ml_X6_110 ⟨rfl, rfl, Nat.le_of_ble_eq_true rfl, Nat.le_of_ble_eq_true rfl⟩ hK (hP) rfl rfl rfl hl.1 rfl (Nat.le_of_ble_eq_true rfl) dX6_placeStatus_3 ⟨Nat.zero_le _, Nat.zero_le _⟩ hS hA hP (fun r1 H locs hr1 hP hS => ?_)
  have hr1 : (r1 = 0 → tbO tb j (tf 0) ∧ inR (tf 1) row) := hr1
  refine lv_istore (lv' := [(4, .int r1), (0, .ref x), (1, .int tb), (2, .int row), (3, .int col)]) hx hb dX6_placeStatus_6 hl (by decide) rfl (fun ls hl => ?_)
  refine lv_iload hx hb dX6_placeStatus_8 (lv_at hl 0 rfl) ?_
  refine lv_if_eq (tgt := 16) hx hb dX6_placeStatus_10 (by decide) (fun c2 => ?_) (fun c2 => ?_)
  · obtain ⟨⟨ej, ho⟩, q1⟩ := hr1 c2
    subst ej
    refine lv_iload_n hx hb dX6_placeStatus_16 rfl (lv_at hl 4 rfl) ?_
    refine lv_if_lt (tgt := 33) hx hb dX6_placeStatus_17 (by decide) (fun c3 => ?_) (fun c3 => ?_)
    · refine lv_iconst (v := 2) hx hb dX6_placeStatus_33 (by decide) ?_
      exact rd_iret hx hb hr hlocks hS (fun h9 => absurd h9 (by decide)) dX6_placeStatus_34
    · refine lv_iload_n hx hb dX6_placeStatus_20 rfl (lv_at hl 4 rfl) ?_
      refine lv_aload_n hx hb dX6_placeStatus_21 rfl (lv_at hl 1 rfl) ?_
      refine va_get (D := G.1) (ci := 6) (v := .ref (xa 1)) (C := RX6) (T := TX6) (N := 10) hx hb hts inX6 hown hK.1 hP 0 rfl rfl 1 (by decide) (hts _ mf_X6_15) (fun _ h9 => h9) rfl dX6_placeStatus_22 ?_
      refine lv_iload_n hx hb dX6_placeStatus_25 rfl (lv_at hl 2 rfl) ?_
      refine xaldT hx hb hK hP 1 (j) (b := (ta 0)) rfl (by omega) (by decide) rfl (htg) dX6_placeStatus_26 ?_
      refine va_get (D := G.1) (ci := 4) (v := .int (tf 2)) (C := RX4) (T := TX4) (N := 12) hx hb hts inX4 hown hK.1 hP 2 rfl rfl 2 (by decide) (hts _ mf_X6_159) (fun _ h9 => h9) rfl dX6_placeStatus_27 ?_
      refine lv_icmp_lt (tgt := 35) hx hb dX6_placeStatus_30 (by decide) (fun c4 => ?_) (fun c4 => ?_)
      · obtain ⟨rw, hrw, t1⟩ := hT1
        have q1b := q1
        rw [t1] at q1b
        obtain ⟨i, hi, ei⟩ := inR_n (by omega) q1b
        subst ei
        refine lv_aload_n hx hb dX6_placeStatus_35 rfl (lv_at hl 1 rfl) ?_
        refine va_get (D := G.1) (ci := 6) (v := .ref (xa 1)) (C := RX6) (T := TX6) (N := 10) hx hb hts inX6 hown hK.1 hP 0 rfl rfl 1 (by decide) (hts _ mf_X6_15) (fun _ h9 => h9) rfl dX6_placeStatus_36 ?_
        refine lv_iload_n hx hb dX6_placeStatus_39 rfl (lv_at hl 2 rfl) ?_
        refine xaldT hx hb hK hP 1 (j) (b := (ta 0)) rfl (by omega) (by decide) rfl (htg) dX6_placeStatus_40 ?_
        refine va_get (D := G.1) (ci := 4) (v := .ref (ta 4)) (C := RX4) (T := TX4) (N := 12) hx hb hts inX4 hown hK.1 hP 2 rfl rfl 4 (by decide) (hts _ mf_X6_113) (fun _ h9 => h9) rfl dX6_placeStatus_41 ?_
        refine lv_iload_n hx hb dX6_placeStatus_44 rfl (lv_at hl 3 rfl) ?_
        refine xiald (f := (tr 4)) hx hb hK hP 3 (i) (rfl) (by omega) (by decide) rfl dX6_placeStatus_45 ?_
        refine lv_topi (fun v5 ev5 => ?_)
        refine lv_istore (lv' := [(5, .int v5), (4, .int r1), (0, .ref x), (1, .int (nI j)), (2, .int (nI i)), (3, .int col)]) hx hb dX6_placeStatus_46 hl (by decide) rfl (fun ls hl => ?_)
        refine lv_iload hx hb dX6_placeStatus_48 (lv_at hl 0 rfl) ?_
        refine lv_if_ne (tgt := 55) hx hb dX6_placeStatus_50 (by decide) (fun c6 => ?_) (fun c6 => ?_)
        · refine lv_iload_n hx hb dX6_placeStatus_55 rfl (lv_at hl 5 rfl) ?_
          refine lv_iload hx hb dX6_placeStatus_56 (lv_at hl 0 rfl) ?_
          refine lv_icmp_ge (tgt := 65) hx hb dX6_placeStatus_58 (by decide) (fun c7 => ?_) (fun c7 => ?_)
          · refine lv_iconst (v := 4) hx hb dX6_placeStatus_65 (by decide) ?_
            exact rd_iret hx hb hr hlocks hS (fun h9 => absurd h9 (by decide)) dX6_placeStatus_66
          · refine lv_iconst (v := 0) hx hb dX6_placeStatus_61 (by decide) ?_
            refine lv_goto (tgt := 66) hx hb dX6_placeStatus_62 (by decide) ?_
            exact rd_iret hx hb hr hlocks hS (fun _ => ⟨⟨rfl, ho⟩, q1, c3, Int32.not_le.mpr c4⟩) dX6_placeStatus_66
        · refine lv_iconst (v := 3) hx hb dX6_placeStatus_53 (by decide) ?_
          exact rd_iret hx hb hr hlocks hS (fun h9 => absurd h9 (by decide)) dX6_placeStatus_54
      · refine lv_iconst (v := 2) hx hb dX6_placeStatus_33 (by decide) ?_
        exact rd_iret hx hb hr hlocks hS (fun h9 => absurd h9 (by decide)) dX6_placeStatus_34
  · refine lv_iload hx hb dX6_placeStatus_13 (lv_at hl 0 rfl) ?_
    exact rd_iret hx hb hr hlocks hS (fun h9 => absurd h9 c2) dX6_placeStatus_15
set_option maxHeartbeats 4000000 in
set_option maxRecDepth 100000 in
theorem x_filledStatus (l : Launch) (G : GG) (x : Nat) (xa ta a b ga ua la lb lc : Nat → Nat) (tg gg : Nat → Option Nat) (xf tf f qf gf uf lf mf nf : Nat → Int32) (tr r q gr ur lr mr nr : Nat → Nat → Int32) (tb : Int32) (row : Int32) (col : Int32) (j : Nat) (hj : j < 6) (hjt : tbJ tb j) (htg : tg j = some (ta 0)) (hT1 : nL 12 (tf 1)) (hT2 : nL 12 (tf 2)) (hT3 : nL 12 (tf 3)) : RdI l yX6_filledStatus cX6_filledStatus 5 (some .int) ({ frames := 3, cells := 0, slots := 0, locals := 69 }) G (xM G x xa ta a b ga ua la lb lc tg gg xf tf f qf gf uf lf mf nf tr r q gr ur lr mr nr) [.ref x, .int tb, .int row, .int col] (fun q => (q = 0 → tbO tb j (tf 0) ∧ inR (tf 1) row ∧ inR (tf 2) col)) := by
  refine rd_entry (by decide +kernel) (Nat.le_of_ble_eq_true rfl) ?_
  intro p e s m below meth c C0 hP hK ls hl
  have hS : va_S (fun q => s.heap.size ≤ q) s.heap s.heap [] := va_S.rf
  have hA : ∀ q, s.heap.size ≤ q → (fun q => s.heap.size ≤ q) q := fun _ h => h
  obtain ⟨hx, hb, hml, hown, hts, hr, hlocks, hin⟩ := C0
  have hown : s.vm.findClass RX6 = some m.cls := hown
  have hl : lv_has ls 5 [(0, .ref x), (1, .int tb), (2, .int row), (3, .int col)] := hl
  refine lv_aload_n hx hb dX6_filledStatus_0 rfl (lv_at hl 0 rfl) ?_
  refine lv_iload_n hx hb dX6_filledStatus_1 rfl (lv_at hl 1 rfl) ?_
  refine lv_iload_n hx hb dX6_filledStatus_2 rfl (lv_at hl 2 rfl) ?_
  refine lv_iload_n hx hb dX6_filledStatus_3 rfl (lv_at hl 3 rfl) ?_
  refine rdV (rest := []) (q0 := 0) ⟨hx, hb, hml, hown, hts⟩ (x_placeStatus l G x xa ta a b ga ua la lb lc tg gg xf tf f qf gf uf lf mf nf tr r q gr ur lr mr nr tb row col j (by omega) hjt htg hT1) mi_yX6_placeStatus mv_yX6_placeStatus ml_X6_84 ⟨rfl, rfl, Nat.le_of_ble_eq_true rfl, Nat.le_of_ble_eq_true rfl⟩ hK (hP) rfl rfl rfl hl.1 rfl (Nat.le_of_ble_eq_true rfl) dX6_filledStatus_4 ⟨Nat.zero_le _, Nat.zero_le _⟩ hS hA hP (fun r1 H locs hr1 hP hS => ?_)
  have hr1 : (r1 = 0 → tbO tb j (tf 0) ∧ inR (tf 1) row ∧ inR (tf 2) col) := hr1
  refine lv_istore (lv' := [(4, .int r1), (0, .ref x), (1, .int tb), (2, .int row), (3, .int col)]) hx hb dX6_filledStatus_7 hl (by decide) rfl (fun ls hl => ?_)
  refine lv_iload hx hb dX6_filledStatus_9 (lv_at hl 0 rfl) ?_
  refine lv_if_eq (tgt := 17) hx hb dX6_filledStatus_11 (by decide) (fun c2 => ?_) (fun c2 => ?_)
  · obtain ⟨⟨ej, ho⟩, q1, q2⟩ := hr1 c2
    subst ej
    have q1c := q1
    have q2c := q2
    obtain ⟨rw, hrw, t1⟩ := hT1
    obtain ⟨cl, hcl, t2⟩ := hT2
    obtain ⟨bk, hbk, t3⟩ := hT3
    have hT1 : nL 12 (tf 1) := ⟨rw, hrw, t1⟩
    have hT2 : nL 12 (tf 2) := ⟨cl, hcl, t2⟩
    have hT3 : nL 12 (tf 3) := ⟨bk, hbk, t3⟩
    rw [t1] at q1c
    rw [t2] at q2c
    obtain ⟨i, hi, ei⟩ := inR_n (by omega) q1c
    subst ei
    obtain ⟨k, hk, ek⟩ := inR_n (by omega) q2c
    subst ek
    refine lv_aload_n hx hb dX6_filledStatus_17 rfl (lv_at hl 1 rfl) ?_
    refine va_get (D := G.1) (ci := 6) (v := .ref (xa 1)) (C := RX6) (T := TX6) (N := 10) hx hb hts inX6 hown hK.1 hP 0 rfl rfl 1 (by decide) (hts _ mf_X6_15) (fun _ h9 => h9) rfl dX6_filledStatus_18 ?_
    refine lv_iload_n hx hb dX6_filledStatus_21 rfl (lv_at hl 2 rfl) ?_
    refine xaldT hx hb hK hP 1 (j) (b := (ta 0)) rfl (by omega) (by decide) rfl (htg) dX6_filledStatus_22 ?_
    refine va_get (D := G.1) (ci := 4) (v := .ref (ta 5)) (C := RX4) (T := TX4) (N := 12) hx hb hts inX4 hown hK.1 hP 2 rfl rfl 5 (by decide) (hts _ mf_X6_134) (fun _ h9 => h9) rfl dX6_filledStatus_23 ?_
    refine lv_iload_n hx hb dX6_filledStatus_26 rfl (lv_at hl 3 rfl) ?_
    refine lv_iload_n hx hb dX6_filledStatus_27 rfl (lv_at hl 4 rfl) ?_
    refine rdS (rest := [.ref (ta 5)]) ⟨hx, hb, hml, hown, hts⟩ (c_X6_spotOf l G ((nI i)) ((nI k))) mi_yX6_spotOf mst_yX6_spotOf ml_X6_92 ⟨rfl, rfl, Nat.le_of_ble_eq_true rfl, Nat.le_of_ble_eq_true rfl⟩ hK (fun k q h => by simp at h) rfl hl.1 rfl (Nat.le_of_ble_eq_true rfl) dX6_filledStatus_28 ⟨Nat.zero_le _, Nat.zero_le _⟩ hS hA hP (fun r3 H locs hr3 hP hS => ?_)
    obtain rfl : r3 = nI (i * 12 + k) := spot_eq hr3
    refine xiald (f := (tr 5)) hx hb hK hP 4 ((i * 12 + k)) (rfl) (by omega) (by decide) rfl dX6_filledStatus_31 ?_
    refine lv_topi (fun v4 ev4 => ?_)
    refine lv_if_ne (tgt := 39) hx hb dX6_filledStatus_32 (by decide) (fun c5 => ?_) (fun c5 => ?_)
    · refine lv_iconst (v := 0) hx hb dX6_filledStatus_39 (by decide) ?_
      exact rd_iret hx hb hr hlocks hS (fun _ => ⟨⟨rfl, ho⟩, q1, q2⟩) dX6_filledStatus_40
    · refine lv_iconst (v := 5) hx hb dX6_filledStatus_35 (by decide) ?_
      refine lv_goto (tgt := 40) hx hb dX6_filledStatus_36 (by decide) ?_
      exact rd_iret hx hb hr hlocks hS (fun h9 => absurd h9 (by decide)) dX6_filledStatus_40
  · refine lv_iload hx hb dX6_filledStatus_14 (lv_at hl 0 rfl) ?_
    exact rd_iret hx hb hr hlocks hS (fun h9 => absurd h9 c2) dX6_filledStatus_16
set_option maxHeartbeats 4000000 in
set_option maxRecDepth 100000 in
theorem x_cellStatus (l : Launch) (G : GG) (x : Nat) (xa ta a b ga ua la lb lc : Nat → Nat) (tg gg : Nat → Option Nat) (xf tf f qf gf uf lf mf nf : Nat → Int32) (tr r q gr ur lr mr nr : Nat → Nat → Int32) (tb : Int32) (row : Int32) (col : Int32) (j : Nat) (hj : j < 6) (hjt : tbJ tb j) (htg : tg j = some (ta 0)) (hT1 : nL 12 (tf 1)) (hT2 : nL 12 (tf 2)) (hT3 : nL 12 (tf 3)) : RdI l yX6_cellStatus cX6_cellStatus 5 (some .int) ({ frames := 4, cells := 0, slots := 0, locals := 93 }) G (xM G x xa ta a b ga ua la lb lc tg gg xf tf f qf gf uf lf mf nf tr r q gr ur lr mr nr) [.ref x, .int tb, .int row, .int col] (fun q => (q = 0 → tbO tb j (tf 0) ∧ inR (tf 1) row ∧ inR (tf 2) col)) := by
  refine rd_entry (by decide +kernel) (Nat.le_of_ble_eq_true rfl) ?_
  intro p e s m below meth c C0 hP hK ls hl
  have hS : va_S (fun q => s.heap.size ≤ q) s.heap s.heap [] := va_S.rf
  have hA : ∀ q, s.heap.size ≤ q → (fun q => s.heap.size ≤ q) q := fun _ h => h
  obtain ⟨hx, hb, hml, hown, hts, hr, hlocks, hin⟩ := C0
  have hown : s.vm.findClass RX6 = some m.cls := hown
  have hl : lv_has ls 5 [(0, .ref x), (1, .int tb), (2, .int row), (3, .int col)] := hl
  refine lv_aload_n hx hb dX6_cellStatus_0 rfl (lv_at hl 0 rfl) ?_
  refine lv_iload_n hx hb dX6_cellStatus_1 rfl (lv_at hl 1 rfl) ?_
  refine lv_iload_n hx hb dX6_cellStatus_2 rfl (lv_at hl 2 rfl) ?_
  refine lv_iload_n hx hb dX6_cellStatus_3 rfl (lv_at hl 3 rfl) ?_
  refine rdV (rest := []) (q0 := 0) ⟨hx, hb, hml, hown, hts⟩ (x_filledStatus l G x xa ta a b ga ua la lb lc tg gg xf tf f qf gf uf lf mf nf tr r q gr ur lr mr nr tb row col j (by omega) hjt htg hT1 hT2 hT3) mi_yX6_filledStatus mv_yX6_filledStatus ml_X6_107 ⟨rfl, rfl, Nat.le_of_ble_eq_true rfl, Nat.le_of_ble_eq_true rfl⟩ hK (hP) rfl rfl rfl hl.1 rfl (Nat.le_of_ble_eq_true rfl) dX6_cellStatus_4 ⟨Nat.zero_le _, Nat.zero_le _⟩ hS hA hP (fun r1 H locs hr1 hP hS => ?_)
  have hr1 : (r1 = 0 → tbO tb j (tf 0) ∧ inR (tf 1) row ∧ inR (tf 2) col) := hr1
  refine lv_istore (lv' := [(4, .int r1), (0, .ref x), (1, .int tb), (2, .int row), (3, .int col)]) hx hb dX6_cellStatus_7 hl (by decide) rfl (fun ls hl => ?_)
  refine lv_iload hx hb dX6_cellStatus_9 (lv_at hl 0 rfl) ?_
  refine lv_if_eq (tgt := 17) hx hb dX6_cellStatus_11 (by decide) (fun c2 => ?_) (fun c2 => ?_)
  · obtain ⟨⟨ej, ho⟩, q1, q2⟩ := hr1 c2
    subst ej
    have q1c := q1
    have q2c := q2
    obtain ⟨rw, hrw, t1⟩ := hT1
    obtain ⟨cl, hcl, t2⟩ := hT2
    obtain ⟨bk, hbk, t3⟩ := hT3
    have hT1 : nL 12 (tf 1) := ⟨rw, hrw, t1⟩
    have hT2 : nL 12 (tf 2) := ⟨cl, hcl, t2⟩
    have hT3 : nL 12 (tf 3) := ⟨bk, hbk, t3⟩
    rw [t1] at q1c
    rw [t2] at q2c
    obtain ⟨i, hi, ei⟩ := inR_n (by omega) q1c
    subst ei
    obtain ⟨k, hk, ek⟩ := inR_n (by omega) q2c
    subst ek
    refine lv_aload_n hx hb dX6_cellStatus_17 rfl (lv_at hl 1 rfl) ?_
    refine va_get (D := G.1) (ci := 6) (v := .ref (xa 1)) (C := RX6) (T := TX6) (N := 10) hx hb hts inX6 hown hK.1 hP 0 rfl rfl 1 (by decide) (hts _ mf_X6_15) (fun _ h9 => h9) rfl dX6_cellStatus_18 ?_
    refine lv_iload_n hx hb dX6_cellStatus_21 rfl (lv_at hl 2 rfl) ?_
    refine xaldT hx hb hK hP 1 (j) (b := (ta 0)) rfl (by omega) (by decide) rfl (htg) dX6_cellStatus_22 ?_
    refine va_get (D := G.1) (ci := 4) (v := .ref (ta 5)) (C := RX4) (T := TX4) (N := 12) hx hb hts inX4 hown hK.1 hP 2 rfl rfl 5 (by decide) (hts _ mf_X6_134) (fun _ h9 => h9) rfl dX6_cellStatus_23 ?_
    refine lv_iload_n hx hb dX6_cellStatus_26 rfl (lv_at hl 3 rfl) ?_
    refine lv_iload_n hx hb dX6_cellStatus_27 rfl (lv_at hl 4 rfl) ?_
    refine rdS (rest := [.ref (ta 5)]) ⟨hx, hb, hml, hown, hts⟩ (c_X6_spotOf l G ((nI i)) ((nI k))) mi_yX6_spotOf mst_yX6_spotOf ml_X6_92 ⟨rfl, rfl, Nat.le_of_ble_eq_true rfl, Nat.le_of_ble_eq_true rfl⟩ hK (fun k q h => by simp at h) rfl hl.1 rfl (Nat.le_of_ble_eq_true rfl) dX6_cellStatus_28 ⟨Nat.zero_le _, Nat.zero_le _⟩ hS hA hP (fun r3 H locs hr3 hP hS => ?_)
    obtain rfl : r3 = nI (i * 12 + k) := spot_eq hr3
    refine xiald (f := (tr 5)) hx hb hK hP 4 ((i * 12 + k)) (rfl) (by omega) (by decide) rfl dX6_cellStatus_31 ?_
    refine lv_topi (fun v4 ev4 => ?_)
    refine lv_iconst (v := 5) hx hb dX6_cellStatus_32 (by decide) ?_
    refine lv_icmp_ne (tgt := 41) hx hb dX6_cellStatus_33 (by decide) (fun c5 => ?_) (fun c5 => ?_)
    · refine lv_iconst (v := 0) hx hb dX6_cellStatus_41 (by decide) ?_
      exact rd_iret hx hb hr hlocks hS (fun _ => ⟨⟨rfl, ho⟩, q1, q2⟩) dX6_cellStatus_42
    · refine lv_bipush (v := 6) hx hb dX6_cellStatus_36 (by decide) ?_
      refine lv_goto (tgt := 42) hx hb dX6_cellStatus_38 (by decide) ?_
      exact rd_iret hx hb hr hlocks hS (fun h9 => absurd h9 (by decide)) dX6_cellStatus_42
  · refine lv_iload hx hb dX6_cellStatus_14 (lv_at hl 0 rfl) ?_
    exact rd_iret hx hb hr hlocks hS (fun h9 => absurd h9 c2) dX6_cellStatus_16
set_option maxHeartbeats 4000000 in
set_option maxRecDepth 100000 in
theorem x_guardableStatus (l : Launch) (G : GG) (x : Nat) (xa ta a b ga ua la lb lc : Nat → Nat) (tg gg : Nat → Option Nat) (xf tf f qf gf uf lf mf nf : Nat → Int32) (tr r q gr ur lr mr nr : Nat → Nat → Int32) (tb : Int32) (row : Int32) (col : Int32) (j : Nat) (hj : j < 6) (hjt : tbJ tb j) (htg : tg j = some (ta 0)) (hT1 : nL 12 (tf 1)) (hT2 : nL 12 (tf 2)) (hT3 : nL 12 (tf 3)) : RdI l yX6_guardableStatus cX6_guardableStatus 5 (some .int) ({ frames := 5, cells := 0, slots := 0, locals := 117 }) G (xM G x xa ta a b ga ua la lb lc tg gg xf tf f qf gf uf lf mf nf tr r q gr ur lr mr nr) [.ref x, .int tb, .int row, .int col] (fun q => (q = 0 → tbO tb j (tf 0) ∧ inR (tf 1) row ∧ inR (tf 2) col)) := by
  refine rd_entry (by decide +kernel) (Nat.le_of_ble_eq_true rfl) ?_
  intro p e s m below meth c C0 hP hK ls hl
  have hS : va_S (fun q => s.heap.size ≤ q) s.heap s.heap [] := va_S.rf
  have hA : ∀ q, s.heap.size ≤ q → (fun q => s.heap.size ≤ q) q := fun _ h => h
  obtain ⟨hx, hb, hml, hown, hts, hr, hlocks, hin⟩ := C0
  have hown : s.vm.findClass RX6 = some m.cls := hown
  have hl : lv_has ls 5 [(0, .ref x), (1, .int tb), (2, .int row), (3, .int col)] := hl
  refine lv_aload_n hx hb dX6_guardableStatus_0 rfl (lv_at hl 0 rfl) ?_
  refine lv_iload_n hx hb dX6_guardableStatus_1 rfl (lv_at hl 1 rfl) ?_
  refine lv_iload_n hx hb dX6_guardableStatus_2 rfl (lv_at hl 2 rfl) ?_
  refine lv_iload_n hx hb dX6_guardableStatus_3 rfl (lv_at hl 3 rfl) ?_
  refine rdV (rest := []) (q0 := 0) ⟨hx, hb, hml, hown, hts⟩ (x_cellStatus l G x xa ta a b ga ua la lb lc tg gg xf tf f qf gf uf lf mf nf tr r q gr ur lr mr nr tb row col j (by omega) hjt htg hT1 hT2 hT3) mi_yX6_cellStatus mv_yX6_cellStatus ml_X6_174 ⟨rfl, rfl, Nat.le_of_ble_eq_true rfl, Nat.le_of_ble_eq_true rfl⟩ hK (hP) rfl rfl rfl hl.1 rfl (Nat.le_of_ble_eq_true rfl) dX6_guardableStatus_4 ⟨Nat.zero_le _, Nat.zero_le _⟩ hS hA hP (fun r1 H locs hr1 hP hS => ?_)
  have hr1 : (r1 = 0 → tbO tb j (tf 0) ∧ inR (tf 1) row ∧ inR (tf 2) col) := hr1
  refine lv_istore (lv' := [(4, .int r1), (0, .ref x), (1, .int tb), (2, .int row), (3, .int col)]) hx hb dX6_guardableStatus_7 hl (by decide) rfl (fun ls hl => ?_)
  refine lv_iload hx hb dX6_guardableStatus_9 (lv_at hl 0 rfl) ?_
  refine lv_if_eq (tgt := 17) hx hb dX6_guardableStatus_11 (by decide) (fun c2 => ?_) (fun c2 => ?_)
  · obtain ⟨⟨ej, ho⟩, q1, q2⟩ := hr1 c2
    subst ej
    have q1c := q1
    have q2c := q2
    obtain ⟨rw, hrw, t1⟩ := hT1
    obtain ⟨cl, hcl, t2⟩ := hT2
    obtain ⟨bk, hbk, t3⟩ := hT3
    have hT1 : nL 12 (tf 1) := ⟨rw, hrw, t1⟩
    have hT2 : nL 12 (tf 2) := ⟨cl, hcl, t2⟩
    have hT3 : nL 12 (tf 3) := ⟨bk, hbk, t3⟩
    rw [t1] at q1c
    rw [t2] at q2c
    obtain ⟨i, hi, ei⟩ := inR_n (by omega) q1c
    subst ei
    obtain ⟨k, hk, ek⟩ := inR_n (by omega) q2c
    subst ek
    refine lv_aload_n hx hb dX6_guardableStatus_17 rfl (lv_at hl 1 rfl) ?_
    refine va_get (D := G.1) (ci := 6) (v := .ref (xa 1)) (C := RX6) (T := TX6) (N := 10) hx hb hts inX6 hown hK.1 hP 0 rfl rfl 1 (by decide) (hts _ mf_X6_15) (fun _ h9 => h9) rfl dX6_guardableStatus_18 ?_
    refine lv_iload_n hx hb dX6_guardableStatus_21 rfl (lv_at hl 2 rfl) ?_
    refine xaldT hx hb hK hP 1 (j) (b := (ta 0)) rfl (by omega) (by decide) rfl (htg) dX6_guardableStatus_22 ?_
    refine va_get (D := G.1) (ci := 4) (v := .ref (ta 5)) (C := RX4) (T := TX4) (N := 12) hx hb hts inX4 hown hK.1 hP 2 rfl rfl 5 (by decide) (hts _ mf_X6_134) (fun _ h9 => h9) rfl dX6_guardableStatus_23 ?_
    refine lv_iload_n hx hb dX6_guardableStatus_26 rfl (lv_at hl 3 rfl) ?_
    refine lv_iload_n hx hb dX6_guardableStatus_27 rfl (lv_at hl 4 rfl) ?_
    refine rdS (rest := [.ref (ta 5)]) ⟨hx, hb, hml, hown, hts⟩ (c_X6_spotOf l G ((nI i)) ((nI k))) mi_yX6_spotOf mst_yX6_spotOf ml_X6_92 ⟨rfl, rfl, Nat.le_of_ble_eq_true rfl, Nat.le_of_ble_eq_true rfl⟩ hK (fun k q h => by simp at h) rfl hl.1 rfl (Nat.le_of_ble_eq_true rfl) dX6_guardableStatus_28 ⟨Nat.zero_le _, Nat.zero_le _⟩ hS hA hP (fun r3 H locs hr3 hP hS => ?_)
    obtain rfl : r3 = nI (i * 12 + k) := spot_eq hr3
    refine xiald (f := (tr 5)) hx hb hK hP 4 ((i * 12 + k)) (rfl) (by omega) (by decide) rfl dX6_guardableStatus_31 ?_
    refine lv_topi (fun v4 ev4 => ?_)
    refine lv_iconst (v := 4) hx hb dX6_guardableStatus_32 (by decide) ?_
    refine lv_icmp_ne (tgt := 41) hx hb dX6_guardableStatus_33 (by decide) (fun c5 => ?_) (fun c5 => ?_)
    · refine lv_iconst (v := 0) hx hb dX6_guardableStatus_41 (by decide) ?_
      exact rd_iret hx hb hr hlocks hS (fun _ => ⟨⟨rfl, ho⟩, q1, q2⟩) dX6_guardableStatus_42
    · refine lv_bipush (v := 6) hx hb dX6_guardableStatus_36 (by decide) ?_
      refine lv_goto (tgt := 42) hx hb dX6_guardableStatus_38 (by decide) ?_
      exact rd_iret hx hb hr hlocks hS (fun h9 => absurd h9 (by decide)) dX6_guardableStatus_42
  · refine lv_iload hx hb dX6_guardableStatus_14 (lv_at hl 0 rfl) ?_
    exact rd_iret hx hb hr hlocks hS (fun h9 => absurd h9 c2) dX6_guardableStatus_16
set_option maxHeartbeats 4000000 in
set_option maxRecDepth 100000 in
theorem x_amountStatus (l : Launch) (G : GG) (x : Nat) (xa ta a b ga ua la lb lc : Nat → Nat) (tg gg : Nat → Option Nat) (xf tf f qf gf uf lf mf nf : Nat → Int32) (tr r q gr ur lr mr nr : Nat → Nat → Int32) (tb : Int32) (row : Int32) (col : Int32) (j : Nat) (hj : j < 6) (hjt : tbJ tb j) (htg : tg j = some (ta 0)) (hT1 : nL 12 (tf 1)) (hT2 : nL 12 (tf 2)) (hT3 : nL 12 (tf 3)) : RdI l yX6_amountStatus cX6_amountStatus 5 (some .int) ({ frames := 4, cells := 0, slots := 0, locals := 93 }) G (xM G x xa ta a b ga ua la lb lc tg gg xf tf f qf gf uf lf mf nf tr r q gr ur lr mr nr) [.ref x, .int tb, .int row, .int col] (fun q => (q = 0 → tbO tb j (tf 0) ∧ inR (tf 1) row ∧ inR (tf 2) col)) := by
  refine rd_entry (by decide +kernel) (Nat.le_of_ble_eq_true rfl) ?_
  intro p e s m below meth c C0 hP hK ls hl
  have hS : va_S (fun q => s.heap.size ≤ q) s.heap s.heap [] := va_S.rf
  have hA : ∀ q, s.heap.size ≤ q → (fun q => s.heap.size ≤ q) q := fun _ h => h
  obtain ⟨hx, hb, hml, hown, hts, hr, hlocks, hin⟩ := C0
  have hown : s.vm.findClass RX6 = some m.cls := hown
  have hl : lv_has ls 5 [(0, .ref x), (1, .int tb), (2, .int row), (3, .int col)] := hl
  refine lv_aload_n hx hb dX6_amountStatus_0 rfl (lv_at hl 0 rfl) ?_
  refine lv_iload_n hx hb dX6_amountStatus_1 rfl (lv_at hl 1 rfl) ?_
  refine lv_iload_n hx hb dX6_amountStatus_2 rfl (lv_at hl 2 rfl) ?_
  refine lv_iload_n hx hb dX6_amountStatus_3 rfl (lv_at hl 3 rfl) ?_
  refine rdV (rest := []) (q0 := 0) ⟨hx, hb, hml, hown, hts⟩ (x_filledStatus l G x xa ta a b ga ua la lb lc tg gg xf tf f qf gf uf lf mf nf tr r q gr ur lr mr nr tb row col j (by omega) hjt htg hT1 hT2 hT3) mi_yX6_filledStatus mv_yX6_filledStatus ml_X6_107 ⟨rfl, rfl, Nat.le_of_ble_eq_true rfl, Nat.le_of_ble_eq_true rfl⟩ hK (hP) rfl rfl rfl hl.1 rfl (Nat.le_of_ble_eq_true rfl) dX6_amountStatus_4 ⟨Nat.zero_le _, Nat.zero_le _⟩ hS hA hP (fun r1 H locs hr1 hP hS => ?_)
  have hr1 : (r1 = 0 → tbO tb j (tf 0) ∧ inR (tf 1) row ∧ inR (tf 2) col) := hr1
  refine lv_istore (lv' := [(4, .int r1), (0, .ref x), (1, .int tb), (2, .int row), (3, .int col)]) hx hb dX6_amountStatus_7 hl (by decide) rfl (fun ls hl => ?_)
  refine lv_iload hx hb dX6_amountStatus_9 (lv_at hl 0 rfl) ?_
  refine lv_if_eq (tgt := 17) hx hb dX6_amountStatus_11 (by decide) (fun c2 => ?_) (fun c2 => ?_)
  · obtain ⟨⟨ej, ho⟩, q1, q2⟩ := hr1 c2
    subst ej
    have q1c := q1
    have q2c := q2
    obtain ⟨rw, hrw, t1⟩ := hT1
    obtain ⟨cl, hcl, t2⟩ := hT2
    obtain ⟨bk, hbk, t3⟩ := hT3
    have hT1 : nL 12 (tf 1) := ⟨rw, hrw, t1⟩
    have hT2 : nL 12 (tf 2) := ⟨cl, hcl, t2⟩
    have hT3 : nL 12 (tf 3) := ⟨bk, hbk, t3⟩
    rw [t1] at q1c
    rw [t2] at q2c
    obtain ⟨i, hi, ei⟩ := inR_n (by omega) q1c
    subst ei
    obtain ⟨k, hk, ek⟩ := inR_n (by omega) q2c
    subst ek
    refine lv_aload_n hx hb dX6_amountStatus_17 rfl (lv_at hl 1 rfl) ?_
    refine va_get (D := G.1) (ci := 6) (v := .ref (xa 1)) (C := RX6) (T := TX6) (N := 10) hx hb hts inX6 hown hK.1 hP 0 rfl rfl 1 (by decide) (hts _ mf_X6_15) (fun _ h9 => h9) rfl dX6_amountStatus_18 ?_
    refine lv_iload_n hx hb dX6_amountStatus_21 rfl (lv_at hl 2 rfl) ?_
    refine xaldT hx hb hK hP 1 (j) (b := (ta 0)) rfl (by omega) (by decide) rfl (htg) dX6_amountStatus_22 ?_
    refine va_get (D := G.1) (ci := 4) (v := .ref (ta 5)) (C := RX4) (T := TX4) (N := 12) hx hb hts inX4 hown hK.1 hP 2 rfl rfl 5 (by decide) (hts _ mf_X6_134) (fun _ h9 => h9) rfl dX6_amountStatus_23 ?_
    refine lv_iload_n hx hb dX6_amountStatus_26 rfl (lv_at hl 3 rfl) ?_
    refine lv_iload_n hx hb dX6_amountStatus_27 rfl (lv_at hl 4 rfl) ?_
    refine rdS (rest := [.ref (ta 5)]) ⟨hx, hb, hml, hown, hts⟩ (c_X6_spotOf l G ((nI i)) ((nI k))) mi_yX6_spotOf mst_yX6_spotOf ml_X6_92 ⟨rfl, rfl, Nat.le_of_ble_eq_true rfl, Nat.le_of_ble_eq_true rfl⟩ hK (fun k q h => by simp at h) rfl hl.1 rfl (Nat.le_of_ble_eq_true rfl) dX6_amountStatus_28 ⟨Nat.zero_le _, Nat.zero_le _⟩ hS hA hP (fun r3 H locs hr3 hP hS => ?_)
    obtain rfl : r3 = nI (i * 12 + k) := spot_eq hr3
    refine xiald (f := (tr 5)) hx hb hK hP 4 ((i * 12 + k)) (rfl) (by omega) (by decide) rfl dX6_amountStatus_31 ?_
    refine lv_topi (fun v4 ev4 => ?_)
    refine lv_iconst (v := 2) hx hb dX6_amountStatus_32 (by decide) ?_
    refine lv_icmp_ne (tgt := 40) hx hb dX6_amountStatus_33 (by decide) (fun c5 => ?_) (fun c5 => ?_)
    · refine lv_bipush (v := 6) hx hb dX6_amountStatus_40 (by decide) ?_
      exact rd_iret hx hb hr hlocks hS (fun h9 => absurd h9 (by decide)) dX6_amountStatus_42
    · refine lv_iconst (v := 0) hx hb dX6_amountStatus_36 (by decide) ?_
      refine lv_goto (tgt := 42) hx hb dX6_amountStatus_37 (by decide) ?_
      exact rd_iret hx hb hr hlocks hS (fun _ => ⟨⟨rfl, ho⟩, q1, q2⟩) dX6_amountStatus_42
  · refine lv_iload hx hb dX6_amountStatus_14 (lv_at hl 0 rfl) ?_
    exact rd_iret hx hb hr hlocks hS (fun h9 => absurd h9 c2) dX6_amountStatus_16
set_option maxHeartbeats 4000000 in
set_option maxRecDepth 100000 in
theorem x_soundCellStatus (l : Launch) (G : GG) (x : Nat) (xa ta a b ga ua la lb lc : Nat → Nat) (tg gg : Nat → Option Nat) (xf tf f qf gf uf lf mf nf : Nat → Int32) (tr r q gr ur lr mr nr : Nat → Nat → Int32) (tb : Int32) (row : Int32) (col : Int32) (j : Nat) (hj : j < 6) (hjt : tbJ tb j) (htg : tg j = some (ta 0)) (hT1 : nL 12 (tf 1)) (hT2 : nL 12 (tf 2)) (hT3 : nL 12 (tf 3)) : RdI l yX6_soundCellStatus cX6_soundCellStatus 5 (some .int) ({ frames := 5, cells := 0, slots := 0, locals := 117 }) G (xM G x xa ta a b ga ua la lb lc tg gg xf tf f qf gf uf lf mf nf tr r q gr ur lr mr nr) [.ref x, .int tb, .int row, .int col] (fun q => (q = 0 → tbO tb j (tf 0) ∧ inR (tf 1) row ∧ inR (tf 2) col)) := by
  refine rd_entry (by decide +kernel) (Nat.le_of_ble_eq_true rfl) ?_
  intro p e s m below meth c C0 hP hK ls hl
  have hS : va_S (fun q => s.heap.size ≤ q) s.heap s.heap [] := va_S.rf
  have hA : ∀ q, s.heap.size ≤ q → (fun q => s.heap.size ≤ q) q := fun _ h => h
  obtain ⟨hx, hb, hml, hown, hts, hr, hlocks, hin⟩ := C0
  have hown : s.vm.findClass RX6 = some m.cls := hown
  have hl : lv_has ls 5 [(0, .ref x), (1, .int tb), (2, .int row), (3, .int col)] := hl
  refine lv_aload_n hx hb dX6_soundCellStatus_0 rfl (lv_at hl 0 rfl) ?_
  refine lv_iload_n hx hb dX6_soundCellStatus_1 rfl (lv_at hl 1 rfl) ?_
  refine lv_iload_n hx hb dX6_soundCellStatus_2 rfl (lv_at hl 2 rfl) ?_
  refine lv_iload_n hx hb dX6_soundCellStatus_3 rfl (lv_at hl 3 rfl) ?_
  refine rdV (rest := []) (q0 := 0) ⟨hx, hb, hml, hown, hts⟩ (x_cellStatus l G x xa ta a b ga ua la lb lc tg gg xf tf f qf gf uf lf mf nf tr r q gr ur lr mr nr tb row col j (by omega) hjt htg hT1 hT2 hT3) mi_yX6_cellStatus mv_yX6_cellStatus ml_X6_174 ⟨rfl, rfl, Nat.le_of_ble_eq_true rfl, Nat.le_of_ble_eq_true rfl⟩ hK (hP) rfl rfl rfl hl.1 rfl (Nat.le_of_ble_eq_true rfl) dX6_soundCellStatus_4 ⟨Nat.zero_le _, Nat.zero_le _⟩ hS hA hP (fun r1 H locs hr1 hP hS => ?_)
  have hr1 : (r1 = 0 → tbO tb j (tf 0) ∧ inR (tf 1) row ∧ inR (tf 2) col) := hr1
  refine lv_istore (lv' := [(4, .int r1), (0, .ref x), (1, .int tb), (2, .int row), (3, .int col)]) hx hb dX6_soundCellStatus_7 hl (by decide) rfl (fun ls hl => ?_)
  refine lv_iload hx hb dX6_soundCellStatus_9 (lv_at hl 0 rfl) ?_
  refine lv_if_eq (tgt := 17) hx hb dX6_soundCellStatus_11 (by decide) (fun c2 => ?_) (fun c2 => ?_)
  · obtain ⟨⟨ej, ho⟩, q1, q2⟩ := hr1 c2
    subst ej
    have q1c := q1
    have q2c := q2
    obtain ⟨rw, hrw, t1⟩ := hT1
    obtain ⟨cl, hcl, t2⟩ := hT2
    obtain ⟨bk, hbk, t3⟩ := hT3
    have hT1 : nL 12 (tf 1) := ⟨rw, hrw, t1⟩
    have hT2 : nL 12 (tf 2) := ⟨cl, hcl, t2⟩
    have hT3 : nL 12 (tf 3) := ⟨bk, hbk, t3⟩
    rw [t1] at q1c
    rw [t2] at q2c
    obtain ⟨i, hi, ei⟩ := inR_n (by omega) q1c
    subst ei
    obtain ⟨k, hk, ek⟩ := inR_n (by omega) q2c
    subst ek
    refine lv_aload_n hx hb dX6_soundCellStatus_17 rfl (lv_at hl 1 rfl) ?_
    refine va_get (D := G.1) (ci := 6) (v := .ref (xa 1)) (C := RX6) (T := TX6) (N := 10) hx hb hts inX6 hown hK.1 hP 0 rfl rfl 1 (by decide) (hts _ mf_X6_15) (fun _ h9 => h9) rfl dX6_soundCellStatus_18 ?_
    refine lv_iload_n hx hb dX6_soundCellStatus_21 rfl (lv_at hl 2 rfl) ?_
    refine xaldT hx hb hK hP 1 (j) (b := (ta 0)) rfl (by omega) (by decide) rfl (htg) dX6_soundCellStatus_22 ?_
    refine lv_iload_n hx hb dX6_soundCellStatus_23 rfl (lv_at hl 3 rfl) ?_
    refine rdV (rest := []) (q0 := 0) ⟨hx, hb, hml, hown, hts⟩ (c_X4_isSound l G ta tf tr i cl (by omega) hcl t2) mi_yX4_isSound mv_yX4_isSound ml_X6_153 ⟨rfl, rfl, Nat.le_of_ble_eq_true rfl, Nat.le_of_ble_eq_true rfl⟩ hK (hP.sub (ws' := tW G ta tf tr) [2, 3, 4, 5, 6, 7, 8, 9, 10] rfl) rfl rfl rfl hl.1 rfl (Nat.le_of_ble_eq_true rfl) dX6_soundCellStatus_24 ⟨Nat.zero_le _, Nat.zero_le _⟩ hS hA hP (fun r3 H locs hr3 hP hS => ?_)
    refine lv_if_eq (tgt := 34) hx hb dX6_soundCellStatus_27 (by decide) (fun c4 => ?_) (fun c4 => ?_)
    · refine lv_bipush (v := 11) hx hb dX6_soundCellStatus_34 (by decide) ?_
      exact rd_iret hx hb hr hlocks hS (fun h9 => absurd h9 (by decide)) dX6_soundCellStatus_36
    · refine lv_iconst (v := 0) hx hb dX6_soundCellStatus_30 (by decide) ?_
      refine lv_goto (tgt := 36) hx hb dX6_soundCellStatus_31 (by decide) ?_
      exact rd_iret hx hb hr hlocks hS (fun _ => ⟨⟨rfl, ho⟩, q1, q2⟩) dX6_soundCellStatus_36
  · refine lv_iload hx hb dX6_soundCellStatus_14 (lv_at hl 0 rfl) ?_
    exact rd_iret hx hb hr hlocks hS (fun h9 => absurd h9 c2) dX6_soundCellStatus_16
set_option maxHeartbeats 4000000 in
set_option maxRecDepth 100000 in
theorem x_canBeTold (l : Launch) (G : GG) (x : Nat) (xa ta a b ga ua la lb lc : Nat → Nat) (tg gg : Nat → Option Nat) (xf tf f qf gf uf lf mf nf : Nat → Int32) (tr r q gr ur lr mr nr : Nat → Nat → Int32) (kd : Int32) (nm : Int32) : RdI l yX6_canBeTold cX6_canBeTold 2 (some .boolean) ({ frames := 0, cells := 0, slots := 0, locals := 0 }) G (xM G x xa ta a b ga ua la lb lc tg gg xf tf f qf gf uf lf mf nf tr r q gr ur lr mr nr) [.int kd, .int nm] (fun q => (q = 0 ∨ q = 1)) := by
  refine rd_entry (by decide +kernel) (Nat.le_of_ble_eq_true rfl) ?_
  intro p e s m below meth c C0 hP hK ls hl
  have hS : va_S (fun q => s.heap.size ≤ q) s.heap s.heap [] := va_S.rf
  have hA : ∀ q, s.heap.size ≤ q → (fun q => s.heap.size ≤ q) q := fun _ h => h
  obtain ⟨hx, hb, hml, hown, hts, hr, hlocks, hin⟩ := C0
  have hown : s.vm.findClass RX6 = some m.cls := hown
  have hl : lv_has ls 2 [(0, .int kd), (1, .int nm)] := hl
  refine lv_iload_n hx hb dX6_canBeTold_0 rfl (lv_at hl 0 rfl) ?_
  rcases sw5 kd with h5 | e5 | e5 | e5 | e5 | e5
  · refine lv_tableOut (tgt := 79) hx hb dX6_canBeTold_1 h5 (by decide) ?_
    refine lv_iconst (v := 0) hx hb dX6_canBeTold_79 (by decide) ?_
    exact rd_zret hx hb hr hlocks (Or.inl rfl) hS ((Or.inl rfl)) dX6_canBeTold_80
  · subst e5
    refine lv_tableIn (tgt := 36) hx hb dX6_canBeTold_1 (by decide) (by decide) rfl (by decide) ?_
    refine lv_iload_n hx hb dX6_canBeTold_36 rfl (lv_at hl 1 rfl) ?_
    refine lv_iconst (v := 1) hx hb dX6_canBeTold_37 (by decide) ?_
    refine lv_icmp_lt (tgt := 51) hx hb dX6_canBeTold_38 (by decide) (fun c1 => ?_) (fun c1 => ?_)
    · refine lv_iconst (v := 0) hx hb dX6_canBeTold_51 (by decide) ?_
      exact rd_zret hx hb hr hlocks (Or.inl rfl) hS ((Or.inl rfl)) dX6_canBeTold_52
    · refine lv_iload_n hx hb dX6_canBeTold_41 rfl (lv_at hl 1 rfl) ?_
      refine lv_bipush (v := 99) hx hb dX6_canBeTold_42 (by decide) ?_
      refine lv_icmp_gt (tgt := 51) hx hb dX6_canBeTold_44 (by decide) (fun c2 => ?_) (fun c2 => ?_)
      · refine lv_iconst (v := 0) hx hb dX6_canBeTold_51 (by decide) ?_
        exact rd_zret hx hb hr hlocks (Or.inl rfl) hS ((Or.inl rfl)) dX6_canBeTold_52
      · refine lv_iconst (v := 1) hx hb dX6_canBeTold_47 (by decide) ?_
        refine lv_goto (tgt := 52) hx hb dX6_canBeTold_48 (by decide) ?_
        exact rd_zret hx hb hr hlocks (Or.inr rfl) hS ((Or.inr rfl)) dX6_canBeTold_52
  · subst e5
    refine lv_tableIn (tgt := 53) hx hb dX6_canBeTold_1 (by decide) (by decide) rfl (by decide) ?_
    refine lv_iload_n hx hb dX6_canBeTold_53 rfl (lv_at hl 1 rfl) ?_
    refine lv_if_lt (tgt := 67) hx hb dX6_canBeTold_54 (by decide) (fun c3 => ?_) (fun c3 => ?_)
    · refine lv_iconst (v := 0) hx hb dX6_canBeTold_67 (by decide) ?_
      exact rd_zret hx hb hr hlocks (Or.inl rfl) hS ((Or.inl rfl)) dX6_canBeTold_68
    · refine lv_iload_n hx hb dX6_canBeTold_57 rfl (lv_at hl 1 rfl) ?_
      refine lv_ldc hx hb hown (hts _ mk_X6_255) dX6_canBeTold_58 ?_
      refine lv_icmp_gt (tgt := 67) hx hb dX6_canBeTold_60 (by decide) (fun c4 => ?_) (fun c4 => ?_)
      · refine lv_iconst (v := 0) hx hb dX6_canBeTold_67 (by decide) ?_
        exact rd_zret hx hb hr hlocks (Or.inl rfl) hS ((Or.inl rfl)) dX6_canBeTold_68
      · refine lv_iconst (v := 1) hx hb dX6_canBeTold_63 (by decide) ?_
        refine lv_goto (tgt := 68) hx hb dX6_canBeTold_64 (by decide) ?_
        exact rd_zret hx hb hr hlocks (Or.inr rfl) hS ((Or.inr rfl)) dX6_canBeTold_68
  · subst e5
    refine lv_tableIn (tgt := 69) hx hb dX6_canBeTold_1 (by decide) (by decide) rfl (by decide) ?_
    refine lv_iload_n hx hb dX6_canBeTold_69 rfl (lv_at hl 1 rfl) ?_
    refine lv_if_ne (tgt := 77) hx hb dX6_canBeTold_70 (by decide) (fun c5 => ?_) (fun c5 => ?_)
    · refine lv_iconst (v := 0) hx hb dX6_canBeTold_77 (by decide) ?_
      exact rd_zret hx hb hr hlocks (Or.inl rfl) hS ((Or.inl rfl)) dX6_canBeTold_78
    · refine lv_iconst (v := 1) hx hb dX6_canBeTold_73 (by decide) ?_
      refine lv_goto (tgt := 78) hx hb dX6_canBeTold_74 (by decide) ?_
      exact rd_zret hx hb hr hlocks (Or.inr rfl) hS ((Or.inr rfl)) dX6_canBeTold_78
  · subst e5
    refine lv_tableIn (tgt := 53) hx hb dX6_canBeTold_1 (by decide) (by decide) rfl (by decide) ?_
    refine lv_iload_n hx hb dX6_canBeTold_53 rfl (lv_at hl 1 rfl) ?_
    refine lv_if_lt (tgt := 67) hx hb dX6_canBeTold_54 (by decide) (fun c6 => ?_) (fun c6 => ?_)
    · refine lv_iconst (v := 0) hx hb dX6_canBeTold_67 (by decide) ?_
      exact rd_zret hx hb hr hlocks (Or.inl rfl) hS ((Or.inl rfl)) dX6_canBeTold_68
    · refine lv_iload_n hx hb dX6_canBeTold_57 rfl (lv_at hl 1 rfl) ?_
      refine lv_ldc hx hb hown (hts _ mk_X6_255) dX6_canBeTold_58 ?_
      refine lv_icmp_gt (tgt := 67) hx hb dX6_canBeTold_60 (by decide) (fun c7 => ?_) (fun c7 => ?_)
      · refine lv_iconst (v := 0) hx hb dX6_canBeTold_67 (by decide) ?_
        exact rd_zret hx hb hr hlocks (Or.inl rfl) hS ((Or.inl rfl)) dX6_canBeTold_68
      · refine lv_iconst (v := 1) hx hb dX6_canBeTold_63 (by decide) ?_
        refine lv_goto (tgt := 68) hx hb dX6_canBeTold_64 (by decide) ?_
        exact rd_zret hx hb hr hlocks (Or.inr rfl) hS ((Or.inr rfl)) dX6_canBeTold_68
  · subst e5
    refine lv_tableIn (tgt := 69) hx hb dX6_canBeTold_1 (by decide) (by decide) rfl (by decide) ?_
    refine lv_iload_n hx hb dX6_canBeTold_69 rfl (lv_at hl 1 rfl) ?_
    refine lv_if_ne (tgt := 77) hx hb dX6_canBeTold_70 (by decide) (fun c8 => ?_) (fun c8 => ?_)
    · refine lv_iconst (v := 0) hx hb dX6_canBeTold_77 (by decide) ?_
      exact rd_zret hx hb hr hlocks (Or.inl rfl) hS ((Or.inl rfl)) dX6_canBeTold_78
    · refine lv_iconst (v := 1) hx hb dX6_canBeTold_73 (by decide) ?_
      refine lv_goto (tgt := 78) hx hb dX6_canBeTold_74 (by decide) ?_
      exact rd_zret hx hb hr hlocks (Or.inr rfl) hS ((Or.inr rfl)) dX6_canBeTold_78
def opY (o : Int32) (t ra ca : Int32) (j : Nat) : Prop := t = nI j ∧ o = 0 ∧ ¬ ra < 1 ∧ ¬ 12 < ra ∧ ¬ ca < 1 ∧ ¬ 12 < ca
def opX (o o2 : Int32) (t ra ca : Int32) (j : Nat) (q : Int32) : Prop := (q = 1 ∧ opY o t ra ca j ∧ o2 = 1) ∨ (q = 0 ∧ ¬ opY o t ra ca j ∧ o2 = o)
theorem opX_1 {o o2 t ra ca q v : Int32} {j : Nat} (h : (q = 1 ∧ v = 0) ∨ (q = 0 ∧ ¬ v = 0)) (hv : v = 0) (h1 : opY o t ra ca j) (h2 : o2 = 1) : opX o o2 t ra ca j q := h.elim (fun z => Or.inl ⟨z.1, h1, h2⟩) (fun z => absurd hv z.2)
theorem opX_0 {o o2 t ra ca q v : Int32} {j : Nat} (h : (q = 1 ∧ v = 0) ∨ (q = 0 ∧ ¬ v = 0)) (hv : ¬ v = 0) (h1 : ¬ opY o t ra ca j) (h2 : o2 = o) : opX o o2 t ra ca j q := h.elim (fun z => absurd z.2 hv) (fun z => Or.inr ⟨z.1, h1, h2⟩)
def clX (o o2 : Int32) (t : Int32) (j : Nat) (q : Int32) : Prop := (q = 1 ∧ tbO t j o ∧ o2 = 0) ∨ (q = 0 ∧ ¬ tbO t j o ∧ o2 = o)
set_option maxHeartbeats 4000000 in
set_option maxRecDepth 100000 in
theorem x_open (l : Launch) (G : GG) (x : Nat) (xa ta a b ga ua la lb lc : Nat → Nat) (tg gg : Nat → Option Nat) (xf tf f qf gf uf lf mf nf : Nat → Int32) (tr r q gr ur lr mr nr : Nat → Nat → Int32) (tb : Int32) (ra : Int32) (ca : Int32) (j : Nat) (hj : j < 6) (hjt : tbJ tb j) (htg : tg j = some (ta 0)) (hT1 : nL 12 (tf 1)) (hT2 : nL 12 (tf 2)) (hT3 : nL 12 (tf 3)) (hT4 : nOK 12 12 (tr 4)) : WrIs l yX6_open cX6_open 4 (some .boolean) ({ frames := 2, cells := 0, slots := 0, locals := 84 }) G (xM G x xa ta a b ga ua la lb lc tg gg xf tf f qf gf uf lf mf nf tr r q gr ur lr mr nr) [.ref x, .int tb, .int ra, .int ca] (fun q w => ∃ (n_tf_0 : Int32) (n_tf_1 : Int32) (n_tf_2 : Int32) (n_tf_3 : Int32) (n_tr_4 : Nat → Int32) (n_tr_5 : Nat → Int32) (n_tr_6 : Nat → Int32) (n_tr_7 : Nat → Int32) (n_tr_8 : Nat → Int32) (n_tr_9 : Nat → Int32) (n_xf_0 : Int32), w = xM G x xa ta a b ga ua la lb lc tg gg (upd xf 0 n_xf_0) (upd (upd (upd (upd tf 0 n_tf_0) 1 n_tf_1) 2 n_tf_2) 3 n_tf_3) f qf gf uf lf mf nf (up2 (up2 (up2 (up2 (up2 (up2 tr 4 n_tr_4) 5 n_tr_5) 6 n_tr_6) 7 n_tr_7) 8 n_tr_8) 9 n_tr_9) r q gr ur lr mr nr ∧ opX (tf 0) n_tf_0 tb ra ca j q ∧ (nL 12 n_tf_1) ∧ (nL 12 n_tf_2) ∧ (nL 12 n_tf_3) ∧ (nOK 12 12 n_tr_4)) := by
  refine ws_entryI (by decide +kernel) (Nat.le_of_ble_eq_true rfl) ?_
  intro p e s m below meth c A C0 hP hK hD hA hT ls hl
  have hS : va_S A s.heap s.heap [] := va_S.rf
  obtain ⟨hx, hb, hml, hown, hts, hr, hlocks, hin⟩ := C0
  have hown : s.vm.findClass RX6 = some m.cls := hown
  have hDD : ∀ xf' tf' f' qf' gf' uf' lf' mf' nf' tr' r' q' gr' ur' lr' mr' nr', va_D A (xM G x xa ta a b ga ua la lb lc tg gg xf' tf' f' qf' gf' uf' lf' mf' nf' tr' r' q' gr' ur' lr' mr' nr') := fun xf' tf' f' qf' gf' uf' lf' mf' nf' tr' r' q' gr' ur' lr' mr' nr' => D_same hD rfl
  have hl : lv_has ls 4 [(0, .ref x), (1, .int tb), (2, .int ra), (3, .int ca)] := hl
  refine lv_iload_n hx hb dX6_open_0 rfl (lv_at hl 1 rfl) ?_
  refine lv_if_lt (tgt := 22) hx hb dX6_open_1 (by decide) (fun c1 => ?_) (fun c1 => ?_)
  · refine lv_aload_n hx hb dX6_open_22 rfl (lv_at hl 0 rfl) ?_
    refine lv_iconst (v := 1) hx hb dX6_open_23 (by decide) ?_
    refine wrVIa (rest := []) (q0 := 0) ⟨hx, hb, hml, hown, hts⟩ (x_settled l G x xa ta a b ga ua la lb lc tg gg xf tf f qf gf uf lf mf nf tr r q gr ur lr mr nr 1  ) mi_yX6_settled mv_yX6_settled ml_X6_65 ⟨rfl, rfl, Nat.le_of_ble_eq_true rfl, Nat.le_of_ble_eq_true rfl⟩ hK hP (hDD _ _ _ _ _ _ _ _ _ _ _ _ _ _ _ _ _) rfl rfl rfl hl.1 rfl (Nat.le_of_ble_eq_true rfl) dX6_open_24 ⟨Nat.zero_le _, Nat.zero_le _⟩ hS hA (fun r2 w3 H locs hw3 hP hS => ?_)
    obtain ⟨x4, rfl, hw3r⟩ := hw3
    have hP : PP G (xM G x xa ta a b ga ua la lb lc tg gg (upd xf 0 x4) tf f qf gf uf lf mf nf tr r q gr ur lr mr nr) H := hP
    have hw3r : ((r2 = 1 ∧ (1 = 0)) ∨ (r2 = 0 ∧ ¬ (1 = 0))) := hw3r
    exact wr_zret hx hb hr hlocks ((hw3r.elim (fun q9 => Or.inr q9.1) (fun q9 => Or.inl q9.1))) hS hP ⟨(tf 0), (tf 1), (tf 2), (tf 3), (tr 4), (tr 5), (tr 6), (tr 7), (tr 8), (tr 9), x4, rfl, (opX_0 hw3r (by decide) (fun ⟨h1, h2, h3, h4, h5, h6⟩ => absurd (h1 ▸ c1) (nI_pos (by omega))) rfl), hT1, hT2, hT3, hT4⟩ dX6_open_27
  · refine lv_iload_n hx hb dX6_open_4 rfl (lv_at hl 1 rfl) ?_
    refine lv_bipush (v := 6) hx hb dX6_open_5 (by decide) ?_
    refine lv_icmp_ge (tgt := 22) hx hb dX6_open_7 (by decide) (fun c5 => ?_) (fun c5 => ?_)
    · refine lv_aload_n hx hb dX6_open_22 rfl (lv_at hl 0 rfl) ?_
      refine lv_iconst (v := 1) hx hb dX6_open_23 (by decide) ?_
      refine wrVIa (rest := []) (q0 := 0) ⟨hx, hb, hml, hown, hts⟩ (x_settled l G x xa ta a b ga ua la lb lc tg gg xf tf f qf gf uf lf mf nf tr r q gr ur lr mr nr 1  ) mi_yX6_settled mv_yX6_settled ml_X6_65 ⟨rfl, rfl, Nat.le_of_ble_eq_true rfl, Nat.le_of_ble_eq_true rfl⟩ hK hP (hDD _ _ _ _ _ _ _ _ _ _ _ _ _ _ _ _ _) rfl rfl rfl hl.1 rfl (Nat.le_of_ble_eq_true rfl) dX6_open_24 ⟨Nat.zero_le _, Nat.zero_le _⟩ hS hA (fun r6 w7 H locs hw7 hP hS => ?_)
      obtain ⟨x8, rfl, hw7r⟩ := hw7
      have hP : PP G (xM G x xa ta a b ga ua la lb lc tg gg (upd xf 0 x8) tf f qf gf uf lf mf nf tr r q gr ur lr mr nr) H := hP
      have hw7r : ((r6 = 1 ∧ (1 = 0)) ∨ (r6 = 0 ∧ ¬ (1 = 0))) := hw7r
      exact wr_zret hx hb hr hlocks ((hw7r.elim (fun q9 => Or.inr q9.1) (fun q9 => Or.inl q9.1))) hS hP ⟨(tf 0), (tf 1), (tf 2), (tf 3), (tr 4), (tr 5), (tr 6), (tr 7), (tr 8), (tr 9), x8, rfl, (opX_0 hw7r (by decide) (fun ⟨h1, h2, h3, h4, h5, h6⟩ => absurd (h1 ▸ c5) (nI_ge hj (by decide))) rfl), hT1, hT2, hT3, hT4⟩ dX6_open_27
    · refine lv_aload_n hx hb dX6_open_10 rfl (lv_at hl 0 rfl) ?_
      refine va_get (D := G.1) (ci := 6) (v := .ref (xa 1)) (C := RX6) (T := TX6) (N := 10) hx hb hts inX6 hown hK.1 hP 0 rfl rfl 1 (by decide) (hts _ mf_X6_15) (fun _ h9 => h9) rfl dX6_open_11 ?_
      refine lv_iload_n hx hb dX6_open_14 rfl (lv_at hl 1 rfl) ?_
      have ej := tb_j hjt c1 c5
      subst ej
      refine xaldT hx hb hK hP 1 (j) (b := (ta 0)) rfl (by omega) (by decide) rfl (htg) dX6_open_15 ?_
      refine va_get (D := G.1) (ci := 4) (v := .int (tf 0)) (C := RX4) (T := TX4) (N := 12) hx hb hts inX4 hown hK.1 hP 2 rfl rfl 0 (by decide) (hts _ mf_X6_61) (fun _ h9 => h9) rfl dX6_open_16 ?_
      refine lv_if_eq (tgt := 28) hx hb dX6_open_19 (by decide) (fun c9 => ?_) (fun c9 => ?_)
      · refine lv_iload_n hx hb dX6_open_28 rfl (lv_at hl 2 rfl) ?_
        refine lv_iconst (v := 1) hx hb dX6_open_29 (by decide) ?_
        refine lv_icmp_lt (tgt := 50) hx hb dX6_open_30 (by decide) (fun c10 => ?_) (fun c10 => ?_)
        · refine lv_aload_n hx hb dX6_open_50 rfl (lv_at hl 0 rfl) ?_
          refine lv_iconst (v := 2) hx hb dX6_open_51 (by decide) ?_
          refine wrVIa (rest := []) (q0 := 0) ⟨hx, hb, hml, hown, hts⟩ (x_settled l G x xa ta a b ga ua la lb lc tg gg xf tf f qf gf uf lf mf nf tr r q gr ur lr mr nr 2  ) mi_yX6_settled mv_yX6_settled ml_X6_65 ⟨rfl, rfl, Nat.le_of_ble_eq_true rfl, Nat.le_of_ble_eq_true rfl⟩ hK hP (hDD _ _ _ _ _ _ _ _ _ _ _ _ _ _ _ _ _) rfl rfl rfl hl.1 rfl (Nat.le_of_ble_eq_true rfl) dX6_open_52 ⟨Nat.zero_le _, Nat.zero_le _⟩ hS hA (fun r11 w12 H locs hw12 hP hS => ?_)
          obtain ⟨x13, rfl, hw12r⟩ := hw12
          have hP : PP G (xM G x xa ta a b ga ua la lb lc tg gg (upd xf 0 x13) tf f qf gf uf lf mf nf tr r q gr ur lr mr nr) H := hP
          have hw12r : ((r11 = 1 ∧ (2 = 0)) ∨ (r11 = 0 ∧ ¬ (2 = 0))) := hw12r
          exact wr_zret hx hb hr hlocks ((hw12r.elim (fun q9 => Or.inr q9.1) (fun q9 => Or.inl q9.1))) hS hP ⟨(tf 0), (tf 1), (tf 2), (tf 3), (tr 4), (tr 5), (tr 6), (tr 7), (tr 8), (tr 9), x13, rfl, (opX_0 hw12r (by decide) (fun ⟨h1, h2, h3, h4, h5, h6⟩ => h3 c10) rfl), hT1, hT2, hT3, hT4⟩ dX6_open_55
        · refine lv_iload_n hx hb dX6_open_33 rfl (lv_at hl 2 rfl) ?_
          refine lv_bipush (v := 12) hx hb dX6_open_34 (by decide) ?_
          refine lv_icmp_gt (tgt := 50) hx hb dX6_open_36 (by decide) (fun c14 => ?_) (fun c14 => ?_)
          · refine lv_aload_n hx hb dX6_open_50 rfl (lv_at hl 0 rfl) ?_
            refine lv_iconst (v := 2) hx hb dX6_open_51 (by decide) ?_
            refine wrVIa (rest := []) (q0 := 0) ⟨hx, hb, hml, hown, hts⟩ (x_settled l G x xa ta a b ga ua la lb lc tg gg xf tf f qf gf uf lf mf nf tr r q gr ur lr mr nr 2  ) mi_yX6_settled mv_yX6_settled ml_X6_65 ⟨rfl, rfl, Nat.le_of_ble_eq_true rfl, Nat.le_of_ble_eq_true rfl⟩ hK hP (hDD _ _ _ _ _ _ _ _ _ _ _ _ _ _ _ _ _) rfl rfl rfl hl.1 rfl (Nat.le_of_ble_eq_true rfl) dX6_open_52 ⟨Nat.zero_le _, Nat.zero_le _⟩ hS hA (fun r15 w16 H locs hw16 hP hS => ?_)
            obtain ⟨x17, rfl, hw16r⟩ := hw16
            have hP : PP G (xM G x xa ta a b ga ua la lb lc tg gg (upd xf 0 x17) tf f qf gf uf lf mf nf tr r q gr ur lr mr nr) H := hP
            have hw16r : ((r15 = 1 ∧ (2 = 0)) ∨ (r15 = 0 ∧ ¬ (2 = 0))) := hw16r
            exact wr_zret hx hb hr hlocks ((hw16r.elim (fun q9 => Or.inr q9.1) (fun q9 => Or.inl q9.1))) hS hP ⟨(tf 0), (tf 1), (tf 2), (tf 3), (tr 4), (tr 5), (tr 6), (tr 7), (tr 8), (tr 9), x17, rfl, (opX_0 hw16r (by decide) (fun ⟨h1, h2, h3, h4, h5, h6⟩ => h4 c14) rfl), hT1, hT2, hT3, hT4⟩ dX6_open_55
          · refine lv_iload_n hx hb dX6_open_39 rfl (lv_at hl 3 rfl) ?_
            refine lv_iconst (v := 1) hx hb dX6_open_40 (by decide) ?_
            refine lv_icmp_lt (tgt := 50) hx hb dX6_open_41 (by decide) (fun c18 => ?_) (fun c18 => ?_)
            · refine lv_aload_n hx hb dX6_open_50 rfl (lv_at hl 0 rfl) ?_
              refine lv_iconst (v := 2) hx hb dX6_open_51 (by decide) ?_
              refine wrVIa (rest := []) (q0 := 0) ⟨hx, hb, hml, hown, hts⟩ (x_settled l G x xa ta a b ga ua la lb lc tg gg xf tf f qf gf uf lf mf nf tr r q gr ur lr mr nr 2  ) mi_yX6_settled mv_yX6_settled ml_X6_65 ⟨rfl, rfl, Nat.le_of_ble_eq_true rfl, Nat.le_of_ble_eq_true rfl⟩ hK hP (hDD _ _ _ _ _ _ _ _ _ _ _ _ _ _ _ _ _) rfl rfl rfl hl.1 rfl (Nat.le_of_ble_eq_true rfl) dX6_open_52 ⟨Nat.zero_le _, Nat.zero_le _⟩ hS hA (fun r19 w20 H locs hw20 hP hS => ?_)
              obtain ⟨x21, rfl, hw20r⟩ := hw20
              have hP : PP G (xM G x xa ta a b ga ua la lb lc tg gg (upd xf 0 x21) tf f qf gf uf lf mf nf tr r q gr ur lr mr nr) H := hP
              have hw20r : ((r19 = 1 ∧ (2 = 0)) ∨ (r19 = 0 ∧ ¬ (2 = 0))) := hw20r
              exact wr_zret hx hb hr hlocks ((hw20r.elim (fun q9 => Or.inr q9.1) (fun q9 => Or.inl q9.1))) hS hP ⟨(tf 0), (tf 1), (tf 2), (tf 3), (tr 4), (tr 5), (tr 6), (tr 7), (tr 8), (tr 9), x21, rfl, (opX_0 hw20r (by decide) (fun ⟨h1, h2, h3, h4, h5, h6⟩ => h5 c18) rfl), hT1, hT2, hT3, hT4⟩ dX6_open_55
            · refine lv_iload_n hx hb dX6_open_44 rfl (lv_at hl 3 rfl) ?_
              refine lv_bipush (v := 12) hx hb dX6_open_45 (by decide) ?_
              refine lv_icmp_le (tgt := 56) hx hb dX6_open_47 (by decide) (fun c22 => ?_) (fun c22 => ?_)
              · have k1 := c10
                have k2 := c14
                have k3 := c18
                have k4 := le_n c22
                obtain ⟨rn, hrn, e2⟩ := le_12 k1 k2
                obtain ⟨cn, hcn, e3⟩ := le_12 k3 k4
                subst e2
                subst e3
                refine lv_aload_n hx hb dX6_open_56 rfl (lv_at hl 0 rfl) ?_
                refine va_get (D := G.1) (ci := 6) (v := .ref (xa 1)) (C := RX6) (T := TX6) (N := 10) hx hb hts inX6 hown hK.1 hP 0 rfl rfl 1 (by decide) (hts _ mf_X6_15) (fun _ h9 => h9) rfl dX6_open_57 ?_
                refine lv_iload_n hx hb dX6_open_60 rfl (lv_at hl 1 rfl) ?_
                refine xaldT hx hb hK hP 1 (j) (b := (ta 0)) rfl (by omega) (by decide) rfl (htg) dX6_open_61 ?_
                refine lv_iload_n hx hb dX6_open_62 rfl (lv_at hl 2 rfl) ?_
                refine lv_iload_n hx hb dX6_open_63 rfl (lv_at hl 3 rfl) ?_
                refine wsVV (rest := []) (q0 := 0) ⟨hx, hb, hml, hown, hts⟩ (c_X4_begin l G ta tf tr rn cn (by omega) (by omega)) mi_yX4_begin mv_yX4_begin ml_X6_69 ⟨rfl, rfl, Nat.le_of_ble_eq_true rfl, Nat.le_of_ble_eq_true rfl⟩ hK hT hP (hDD _ _ _ _ _ _ _ _ _ _ _ _ _ _ _ _ _) [2, 3, 4, 5, 6, 7, 8, 9, 10] rfl (by decide) rfl rfl rfl hl.1 rfl (Nat.le_of_ble_eq_true rfl) dX6_open_64 ⟨Nat.zero_le _, Nat.zero_le _⟩ hS hA (fun w24 H locs hw24 hP hS => ?_)
                obtain rfl := hw24
                have hP : PP G (xM G x xa ta a b ga ua la lb lc tg gg xf (upd (upd (upd (upd tf 0 1) 1 (nI rn)) 2 (nI cn)) 3 0) f qf gf uf lf mf nf (up2 (up2 (up2 (up2 (up2 (up2 tr 4 (flF (tr 4) (nI cn) 12)) 5 (clF cn rn 0 (tr 5))) 6 (clF cn rn 0 (tr 6))) 7 (clF cn rn 0 (tr 7))) 8 (clP cn rn 0 (tr 8))) 9 (va_cpy ruI (tr 9) 0 0 6)) r q gr ur lr mr nr) H := hP rfl
                have hT1 : nL 12 (nI rn) := ⟨rn, by omega, rfl⟩
                have hT2 : nL 12 (nI cn) := ⟨cn, by omega, rfl⟩
                have hT3 : nL 12 0 := ⟨0, by omega, rfl⟩
                have hT4 : nOK 12 12 (flF (tr 4) (nI cn) 12) := nOK_fl (by omega)
                refine lv_aload_n hx hb dX6_open_67 rfl (lv_at hl 0 rfl) ?_
                refine lv_iconst (v := 0) hx hb dX6_open_68 (by decide) ?_
                refine wrVIa (rest := []) (q0 := 0) ⟨hx, hb, hml, hown, hts⟩ (x_settled l G x xa ta a b ga ua la lb lc tg gg xf (upd (upd (upd (upd tf 0 1) 1 (nI rn)) 2 (nI cn)) 3 0) f qf gf uf lf mf nf (up2 (up2 (up2 (up2 (up2 (up2 tr 4 (flF (tr 4) (nI cn) 12)) 5 (clF cn rn 0 (tr 5))) 6 (clF cn rn 0 (tr 6))) 7 (clF cn rn 0 (tr 7))) 8 (clP cn rn 0 (tr 8))) 9 (va_cpy ruI (tr 9) 0 0 6)) r q gr ur lr mr nr 0  ) mi_yX6_settled mv_yX6_settled ml_X6_65 ⟨rfl, rfl, Nat.le_of_ble_eq_true rfl, Nat.le_of_ble_eq_true rfl⟩ hK hP (hDD _ _ _ _ _ _ _ _ _ _ _ _ _ _ _ _ _) rfl rfl rfl hl.1 rfl (Nat.le_of_ble_eq_true rfl) dX6_open_69 ⟨Nat.zero_le _, Nat.zero_le _⟩ hS hA (fun r25 w26 H locs hw26 hP hS => ?_)
                obtain ⟨x27, rfl, hw26r⟩ := hw26
                have hP : PP G (xM G x xa ta a b ga ua la lb lc tg gg (upd xf 0 x27) (upd (upd (upd (upd tf 0 1) 1 (nI rn)) 2 (nI cn)) 3 0) f qf gf uf lf mf nf (up2 (up2 (up2 (up2 (up2 (up2 tr 4 (flF (tr 4) (nI cn) 12)) 5 (clF cn rn 0 (tr 5))) 6 (clF cn rn 0 (tr 6))) 7 (clF cn rn 0 (tr 7))) 8 (clP cn rn 0 (tr 8))) 9 (va_cpy ruI (tr 9) 0 0 6)) r q gr ur lr mr nr) H := hP
                have hw26r : ((r25 = 1 ∧ (0 = 0)) ∨ (r25 = 0 ∧ ¬ (0 = 0))) := hw26r
                exact wr_zret hx hb hr hlocks ((hw26r.elim (fun q9 => Or.inr q9.1) (fun q9 => Or.inl q9.1))) hS hP ⟨1, (nI rn), (nI cn), 0, (flF (tr 4) (nI cn) 12), (clF cn rn 0 (tr 5)), (clF cn rn 0 (tr 6)), (clF cn rn 0 (tr 7)), (clP cn rn 0 (tr 8)), (va_cpy ruI (tr 9) 0 0 6), x27, rfl, (opX_1 hw26r rfl ⟨rfl, c9, k1, k2, k3, k4⟩ rfl), hT1, hT2, hT3, hT4⟩ dX6_open_72
              · refine lv_aload_n hx hb dX6_open_50 rfl (lv_at hl 0 rfl) ?_
                refine lv_iconst (v := 2) hx hb dX6_open_51 (by decide) ?_
                refine wrVIa (rest := []) (q0 := 0) ⟨hx, hb, hml, hown, hts⟩ (x_settled l G x xa ta a b ga ua la lb lc tg gg xf tf f qf gf uf lf mf nf tr r q gr ur lr mr nr 2  ) mi_yX6_settled mv_yX6_settled ml_X6_65 ⟨rfl, rfl, Nat.le_of_ble_eq_true rfl, Nat.le_of_ble_eq_true rfl⟩ hK hP (hDD _ _ _ _ _ _ _ _ _ _ _ _ _ _ _ _ _) rfl rfl rfl hl.1 rfl (Nat.le_of_ble_eq_true rfl) dX6_open_52 ⟨Nat.zero_le _, Nat.zero_le _⟩ hS hA (fun r28 w29 H locs hw29 hP hS => ?_)
                obtain ⟨x30, rfl, hw29r⟩ := hw29
                have hP : PP G (xM G x xa ta a b ga ua la lb lc tg gg (upd xf 0 x30) tf f qf gf uf lf mf nf tr r q gr ur lr mr nr) H := hP
                have hw29r : ((r28 = 1 ∧ (2 = 0)) ∨ (r28 = 0 ∧ ¬ (2 = 0))) := hw29r
                exact wr_zret hx hb hr hlocks ((hw29r.elim (fun q9 => Or.inr q9.1) (fun q9 => Or.inl q9.1))) hS hP ⟨(tf 0), (tf 1), (tf 2), (tf 3), (tr 4), (tr 5), (tr 6), (tr 7), (tr 8), (tr 9), x30, rfl, (opX_0 hw29r (by decide) (fun ⟨h1, h2, h3, h4, h5, h6⟩ => h6 (n_le c22)) rfl), hT1, hT2, hT3, hT4⟩ dX6_open_55
      · refine lv_aload_n hx hb dX6_open_22 rfl (lv_at hl 0 rfl) ?_
        refine lv_iconst (v := 1) hx hb dX6_open_23 (by decide) ?_
        refine wrVIa (rest := []) (q0 := 0) ⟨hx, hb, hml, hown, hts⟩ (x_settled l G x xa ta a b ga ua la lb lc tg gg xf tf f qf gf uf lf mf nf tr r q gr ur lr mr nr 1  ) mi_yX6_settled mv_yX6_settled ml_X6_65 ⟨rfl, rfl, Nat.le_of_ble_eq_true rfl, Nat.le_of_ble_eq_true rfl⟩ hK hP (hDD _ _ _ _ _ _ _ _ _ _ _ _ _ _ _ _ _) rfl rfl rfl hl.1 rfl (Nat.le_of_ble_eq_true rfl) dX6_open_24 ⟨Nat.zero_le _, Nat.zero_le _⟩ hS hA (fun r31 w32 H locs hw32 hP hS => ?_)
        obtain ⟨x33, rfl, hw32r⟩ := hw32
        have hP : PP G (xM G x xa ta a b ga ua la lb lc tg gg (upd xf 0 x33) tf f qf gf uf lf mf nf tr r q gr ur lr mr nr) H := hP
        have hw32r : ((r31 = 1 ∧ (1 = 0)) ∨ (r31 = 0 ∧ ¬ (1 = 0))) := hw32r
        exact wr_zret hx hb hr hlocks ((hw32r.elim (fun q9 => Or.inr q9.1) (fun q9 => Or.inl q9.1))) hS hP ⟨(tf 0), (tf 1), (tf 2), (tf 3), (tr 4), (tr 5), (tr 6), (tr 7), (tr 8), (tr 9), x33, rfl, (opX_0 hw32r (by decide) (fun ⟨h1, h2, h3, h4, h5, h6⟩ => c9 h2) rfl), hT1, hT2, hT3, hT4⟩ dX6_open_27
set_option maxHeartbeats 4000000 in
set_option maxRecDepth 100000 in
theorem x_close (l : Launch) (G : GG) (x : Nat) (xa ta a b ga ua la lb lc : Nat → Nat) (tg gg : Nat → Option Nat) (xf tf f qf gf uf lf mf nf : Nat → Int32) (tr r q gr ur lr mr nr : Nat → Nat → Int32) (tb : Int32) (j : Nat) (hj : j < 6) (hjt : tbJ tb j) (htg : tg j = some (ta 0)) (hT1 : nL 12 (tf 1)) (hT2 : nL 12 (tf 2)) (hT3 : nL 12 (tf 3)) (hT4 : nOK 12 12 (tr 4)) : WrI l yX6_close cX6_close 2 (some .boolean) ({ frames := 1, cells := 0, slots := 0, locals := 21 }) G (xM G x xa ta a b ga ua la lb lc tg gg xf tf f qf gf uf lf mf nf tr r q gr ur lr mr nr) [.ref x, .int tb] (fun q w => ∃ (n_tf_0 : Int32) (n_xf_0 : Int32), w = xM G x xa ta a b ga ua la lb lc tg gg (upd xf 0 n_xf_0) (upd tf 0 n_tf_0) f qf gf uf lf mf nf tr r q gr ur lr mr nr ∧ clX (tf 0) n_tf_0 tb j q) := by
  refine wr_entryI (by decide +kernel) (Nat.le_of_ble_eq_true rfl) ?_
  intro p e s m below meth c A C0 hP hK hD hA ls hl
  have hS : va_S A s.heap s.heap [] := va_S.rf
  obtain ⟨hx, hb, hml, hown, hts, hr, hlocks, hin⟩ := C0
  have hown : s.vm.findClass RX6 = some m.cls := hown
  have hDD : ∀ xf' tf' f' qf' gf' uf' lf' mf' nf' tr' r' q' gr' ur' lr' mr' nr', va_D A (xM G x xa ta a b ga ua la lb lc tg gg xf' tf' f' qf' gf' uf' lf' mf' nf' tr' r' q' gr' ur' lr' mr' nr') := fun xf' tf' f' qf' gf' uf' lf' mf' nf' tr' r' q' gr' ur' lr' mr' nr' => D_same hD rfl
  have hl : lv_has ls 2 [(0, .ref x), (1, .int tb)] := hl
  refine lv_aload_n hx hb dX6_close_0 rfl (lv_at hl 0 rfl) ?_
  refine lv_aload_n hx hb dX6_close_1 rfl (lv_at hl 0 rfl) ?_
  refine lv_iload_n hx hb dX6_close_2 rfl (lv_at hl 1 rfl) ?_
  refine rdV (rest := [.ref x]) (q0 := 0) ⟨hx, hb, hml, hown, hts⟩ (x_tableStatus l G x xa ta a b ga ua la lb lc tg gg xf tf f qf gf uf lf mf nf tr r q gr ur lr mr nr tb j (by omega) hjt htg) mi_yX6_tableStatus mv_yX6_tableStatus ml_X6_73 ⟨rfl, rfl, Nat.le_of_ble_eq_true rfl, Nat.le_of_ble_eq_true rfl⟩ hK (hP) rfl rfl rfl hl.1 rfl (Nat.le_of_ble_eq_true rfl) dX6_close_3 ⟨Nat.zero_le _, Nat.zero_le _⟩ hS hA hP (fun r1 H locs hr1 hP hS => ?_)
  have hr1 : ((r1 = 0 ∧ tbO tb j (tf 0)) ∨ (r1 = 1 ∧ ¬ tbO tb j (tf 0))) := hr1
  refine wrVIa (rest := []) (q0 := 0) ⟨hx, hb, hml, hown, hts⟩ (x_settled l G x xa ta a b ga ua la lb lc tg gg xf tf f qf gf uf lf mf nf tr r q gr ur lr mr nr r1  ) mi_yX6_settled mv_yX6_settled ml_X6_65 ⟨rfl, rfl, Nat.le_of_ble_eq_true rfl, Nat.le_of_ble_eq_true rfl⟩ hK hP (hDD _ _ _ _ _ _ _ _ _ _ _ _ _ _ _ _ _) rfl rfl rfl hl.1 rfl (Nat.le_of_ble_eq_true rfl) dX6_close_6 ⟨Nat.zero_le _, Nat.zero_le _⟩ hS hA (fun r2 w3 H locs hw3 hP hS => ?_)
  obtain ⟨x4, rfl, hw3r⟩ := hw3
  have hP : PP G (xM G x xa ta a b ga ua la lb lc tg gg (upd xf 0 x4) tf f qf gf uf lf mf nf tr r q gr ur lr mr nr) H := hP
  have hw3r : ((r2 = 1 ∧ (r1 = 0)) ∨ (r2 = 0 ∧ ¬ (r1 = 0))) := hw3r
  refine lv_if_ne (tgt := 14) hx hb dX6_close_9 (by decide) (fun c5 => ?_) (fun c5 => ?_)
  · have b9 := bT hw3r c5
    obtain ⟨ej, ho⟩ := st0 hr1 b9
    subst ej
    obtain ⟨rw, hrw, t1⟩ := hT1
    obtain ⟨cl, hcl, t2⟩ := hT2
    obtain ⟨bk, hbk, t3⟩ := hT3
    have hT1 : nL 12 (tf 1) := ⟨rw, hrw, t1⟩
    have hT2 : nL 12 (tf 2) := ⟨cl, hcl, t2⟩
    have hT3 : nL 12 (tf 3) := ⟨bk, hbk, t3⟩
    refine lv_aload_n hx hb dX6_close_14 rfl (lv_at hl 0 rfl) ?_
    refine va_get (D := G.1) (ci := 6) (v := .ref (xa 1)) (C := RX6) (T := TX6) (N := 10) hx hb hts inX6 hown hK.1 hP 0 rfl rfl 1 (by decide) (hts _ mf_X6_15) (fun _ h9 => h9) rfl dX6_close_15 ?_
    refine lv_iload_n hx hb dX6_close_18 rfl (lv_at hl 1 rfl) ?_
    refine xaldT hx hb hK hP 1 (j) (b := (ta 0)) rfl (by omega) (by decide) rfl (htg) dX6_close_19 ?_
    refine lv_iconst (v := 0) hx hb dX6_close_20 (by decide) ?_
    refine va_put (D := G.1) (ci := 4) (v := .int 0) (C := RX4) (T := TX4) (N := 12) hx hb hts inX4 tyX4 tyX4_ok nmX4 hown hK.1 hP (hDD _ _ _ _ _ _ _ _ _ _ _ _ _ _ _ _ _) hS 2 rfl rfl 0 (by decide) (hts _ mf_X6_61) (fun _ h9 => h9) rfl (tyX4_ok 0 (by decide)) (rfl) (rfl) (Nat.le_of_ble_eq_true rfl) dX6_close_21 (fun H locs hP _ hS => ?_)
    have hP : PP G (xM G x xa ta a b ga ua la lb lc tg gg (upd xf 0 x4) (upd tf 0 0) f qf gf uf lf mf nf tr r q gr ur lr mr nr) H := hP
    refine lv_iconst (v := 1) hx hb dX6_close_24 (by decide) ?_
    exact wr_zret hx hb hr hlocks (Or.inr rfl) hS hP ⟨0, x4, rfl, Or.inl ⟨rfl, ⟨rfl, ho⟩, rfl⟩⟩ dX6_close_25
  · have b9 := bF hw3r c5
    refine lv_iconst (v := 0) hx hb dX6_close_12 (by decide) ?_
    exact wr_zret hx hb hr hlocks (Or.inl rfl) hS hP ⟨(tf 0), x4, rfl, Or.inr ⟨rfl, st1 hr1 b9, rfl⟩⟩ dX6_close_13
set_option maxHeartbeats 4000000 in
set_option maxRecDepth 100000 in
theorem x_X0_followPlan (l : Launch) (G : GG) (x : Nat) (xa ta a b ga ua la lb lc : Nat → Nat) (tg gg : Nat → Option Nat) (xf tf f qf gf uf lf mf nf : Nat → Int32) (tr r q gr ur lr mr nr : Nat → Nat → Int32) (rw : Nat) (cl : Nat) (hrw : rw ≤ 12) (hcl : cl ≤ 12) (h0 : (f 0) = nI rw) (h1 : (f 1) = nI cl) (hRB : RB adjR (q 0)) : WrI l yX0_followPlan cX0_followPlan 8 (some .int) ({ frames := 5, cells := 0, slots := 0, locals := 134 }) G (xM G x xa ta a b ga ua la lb lc tg gg xf tf f qf gf uf lf mf nf tr r q gr ur lr mr nr) [.ref (ga 9), .ref (ta 0), .ref (a 15)] (fun q w => ∃ (n_f_4 : Int32) (n_gf_7 : Int32) (n_gf_8 : Int32) (n_gr_0 : Nat → Int32) (n_q_0 : Nat → Int32) (n_q_1 : Nat → Int32) (n_q_2 : Nat → Int32) (n_qf_3 : Int32) (n_r_6 : Nat → Int32) (n_r_7 : Nat → Int32) (n_r_8 : Nat → Int32) (n_r_9 : Nat → Int32) (n_r_10 : Nat → Int32) (n_r_11 : Nat → Int32) (n_r_12 : Nat → Int32) (n_r_13 : Nat → Int32) (n_r_14 : Nat → Int32) (n_tr_7 : Nat → Int32), w = xM G x xa ta a b ga ua la lb lc tg gg xf tf (upd f 4 n_f_4) (upd qf 3 n_qf_3) (upd (upd gf 7 n_gf_7) 8 n_gf_8) uf lf mf nf (up2 tr 7 n_tr_7) (up2 (up2 (up2 (up2 (up2 (up2 (up2 (up2 (up2 r 6 n_r_6) 7 n_r_7) 8 n_r_8) 9 n_r_9) 10 n_r_10) 11 n_r_11) 12 n_r_12) 13 n_r_13) 14 n_r_14) (up2 (up2 (up2 q 0 n_q_0) 1 n_q_1) 2 n_q_2) (up2 gr 0 n_gr_0) ur lr mr nr ∧ (RB adjR n_q_0)) := by
  refine wr_entryI (by decide +kernel) (Nat.le_of_ble_eq_true rfl) ?_
  intro p e s m below meth c A C0 hP hK hD hA ls hl
  have hS : va_S A s.heap s.heap [] := va_S.rf
  obtain ⟨hx, hb, hml, hown, hts, hr, hlocks, hin⟩ := C0
  have hown : s.vm.findClass RX0 = some m.cls := hown
  have hDD : ∀ xf' tf' f' qf' gf' uf' lf' mf' nf' tr' r' q' gr' ur' lr' mr' nr', va_D A (xM G x xa ta a b ga ua la lb lc tg gg xf' tf' f' qf' gf' uf' lf' mf' nf' tr' r' q' gr' ur' lr' mr' nr') := fun xf' tf' f' qf' gf' uf' lf' mf' nf' tr' r' q' gr' ur' lr' mr' nr' => D_same hD rfl
  have hl : lv_has ls 8 [(0, .ref (ga 9)), (1, .ref (ta 0)), (2, .ref (a 15))] := hl
  refine lv_aload_n hx hb dX0_followPlan_0 rfl (lv_at hl 0 rfl) ?_
  refine wrVV (rest := []) (q0 := 0) ⟨hx, hb, hml, hown, hts⟩ (c_X0_forgetPlan l G ga gf gr) mi_yX0_forgetPlan mv_yX0_forgetPlan ml_X0_41 ⟨rfl, rfl, Nat.le_of_ble_eq_true rfl, Nat.le_of_ble_eq_true rfl⟩ hK hP (hDD _ _ _ _ _ _ _ _ _ _ _ _ _ _ _ _ _) [25, 26, 27, 28, 29] rfl (by decide) rfl rfl rfl hl.1 rfl (Nat.le_of_ble_eq_true rfl) dX0_followPlan_1 ⟨Nat.zero_le _, Nat.zero_le _⟩ hS hA (fun w3 H locs hw3 hP hS => ?_)
  obtain ⟨x1, rfl⟩ := hw3
  have hP : PP G (xM G x xa ta a b ga ua la lb lc tg gg xf tf f qf gf uf lf mf nf tr r q (up2 gr 0 x1) ur lr mr nr) H := hP rfl
  refine lv_iconst (v := 0) hx hb dX0_followPlan_4 (by decide) ?_
  refine lv_istore_n (lv' := [(3, .int 0), (0, .ref (ga 9)), (1, .ref (ta 0)), (2, .ref (a 15))]) hx hb dX0_followPlan_5 rfl hl (by decide) rfl (fun ls hl => ?_)
  refine lv_iconst (v := 0) hx hb dX0_followPlan_6 (by decide) ?_
  refine lv_istore (lv' := [(4, .int 0), (3, .int 0), (0, .ref (ga 9)), (1, .ref (ta 0)), (2, .ref (a 15))]) hx hb dX0_followPlan_7 hl (by decide) rfl (fun ls hl => ?_)
  have loop9 : ∀ (k4 i : Nat) (z5 : Int32) (x6 : Int32) (x7 : Int32) (x8 : Int32) (x9 : Nat → Int32) (x10 : Nat → Int32) (x11 : Nat → Int32) (x12 : Nat → Int32) (x13 : Int32) (x14 : Nat → Int32) (x15 : Nat → Int32) (x16 : Nat → Int32) (x17 : Nat → Int32) (x18 : Nat → Int32) (x19 : Nat → Int32) (x20 : Nat → Int32) (x21 : Nat → Int32) (x22 : Nat → Int32), i ≤ rw → rw < i + k4 → (RB adjR x10) → ∀ (H : Heap) (locs : List Loc) (ls : Array Slot), PP G (xM G x xa ta a b ga ua la lb lc tg gg xf tf (upd f 4 x6) (upd qf 3 x13) (upd (upd gf 7 x7) 8 x8) uf lf mf nf tr (up2 (up2 (up2 (up2 (up2 (up2 (up2 (up2 (up2 r 6 x14) 7 x15) 8 x16) 9 x17) 10 x18) 11 x19) 12 x20) 13 x21) 14 x22) (up2 (up2 (up2 q 0 x10) 1 x11) 2 x12) (up2 gr 0 x9) ur lr mr nr) H → va_S A s.heap H locs → lv_has ls 8 [(4, .int (nI i)), (3, .int z5), (0, .ref (ga 9)), (1, .ref (ta 0)), (2, .ref (a 15))] → W p l e ({ frames := 5, cells := 0, slots := 0, locals := 134 }) s m ([.ref (ga 9), .ref (ta 0), .ref (a 15)] : List Value).toArray below meth c H locs 0 0 (MQ below (QwI G (fun q w => ∃ (n_f_4 : Int32) (n_gf_7 : Int32) (n_gf_8 : Int32) (n_gr_0 : Nat → Int32) (n_q_0 : Nat → Int32) (n_q_1 : Nat → Int32) (n_q_2 : Nat → Int32) (n_qf_3 : Int32) (n_r_6 : Nat → Int32) (n_r_7 : Nat → Int32) (n_r_8 : Nat → Int32) (n_r_9 : Nat → Int32) (n_r_10 : Nat → Int32) (n_r_11 : Nat → Int32) (n_r_12 : Nat → Int32) (n_r_13 : Nat → Int32) (n_r_14 : Nat → Int32) (n_tr_7 : Nat → Int32), w = xM G x xa ta a b ga ua la lb lc tg gg xf tf (upd f 4 n_f_4) (upd qf 3 n_qf_3) (upd (upd gf 7 n_gf_7) 8 n_gf_8) uf lf mf nf (up2 tr 7 n_tr_7) (up2 (up2 (up2 (up2 (up2 (up2 (up2 (up2 (up2 r 6 n_r_6) 7 n_r_7) 8 n_r_8) 9 n_r_9) 10 n_r_10) 11 n_r_11) 12 n_r_12) 13 n_r_13) 14 n_r_14) (up2 (up2 (up2 q 0 n_q_0) 1 n_q_1) 2 n_q_2) (up2 gr 0 n_gr_0) ur lr mr nr ∧ (RB adjR n_q_0)) A) ([.ref (ga 9), .ref (ta 0), .ref (a 15)] : List Value).toArray s 0 0 A) (F0 m 9 ls []) := by
    intro k4
    induction k4 with
    | zero => intro i z5 x6 x7 x8 x9 x10 x11 x12 x13 x14 x15 x16 x17 x18 x19 x20 x21 x22 h1 h2; exact absurd h1 (by omega)
    | succ k4 ih9k4 =>
      intro i z5 x6 x7 x8 x9 x10 x11 x12 x13 x14 x15 x16 x17 x18 x19 x20 x21 x22 hi_i hk_i hRB H locs ls hP hS hl
      refine lv_iload hx hb dX0_followPlan_9 (lv_at hl 0 rfl) ?_
      refine lv_aload_n hx hb dX0_followPlan_11 rfl (lv_at hl 4 rfl) ?_
      refine va_get (D := G.1) (ci := 2) (v := .int (f 0)) (C := RX2) (T := TX2) (N := 15) hx hb hts inX2 hown hK.1 hP 11 rfl rfl 0 (by decide) (hts _ mf_X0_44) (fun _ h9 => h9) rfl dX0_followPlan_12 ?_
      rw [show (f 0) = nI (rw) from h0]
      refine lv_icmp_ge (tgt := 139) hx hb dX0_followPlan_15 (by decide) (fun c23 => ?_) (fun c23 => ?_)
      · have b15 := qge_t (a := i) (b := (rw)) (by omega) (by omega) c23
        refine lv_aload_n hx hb dX0_followPlan_139 rfl (lv_at hl 2 rfl) ?_
        refine lv_aload_n hx hb dX0_followPlan_140 rfl (lv_at hl 3 rfl) ?_
        refine wrVV (rest := []) (q0 := 0) ⟨hx, hb, hml, hown, hts⟩ (c_X0_tellPlanned l G ga (upd (upd gf 7 x7) 8 x8) (up2 gr 0 x9) ta tf tr) mi_yX0_tellPlanned mv_yX0_tellPlanned ml_X0_71 ⟨rfl, rfl, Nat.le_of_ble_eq_true rfl, Nat.le_of_ble_eq_true rfl⟩ hK hP (hDD _ _ _ _ _ _ _ _ _ _ _ _ _ _ _ _ _) [25, 26, 27, 28, 29, 2, 3, 4, 5, 6, 7, 8, 9, 10] rfl (by decide) rfl rfl rfl hl.1 rfl (Nat.le_of_ble_eq_true rfl) dX0_followPlan_141 ⟨Nat.zero_le _, Nat.zero_le _⟩ hS hA (fun w26 H locs hw26 hP hS => ?_)
        obtain ⟨x24, hb1_, rfl⟩ := hw26
        have hP : PP G (xM G x xa ta a b ga ua la lb lc tg gg xf tf (upd f 4 x6) (upd qf 3 x13) (upd (upd gf 7 x7) 8 x8) uf lf mf nf (up2 tr 7 x24) (up2 (up2 (up2 (up2 (up2 (up2 (up2 (up2 (up2 r 6 x14) 7 x15) 8 x16) 9 x17) 10 x18) 11 x19) 12 x20) 13 x21) 14 x22) (up2 (up2 (up2 q 0 x10) 1 x11) 2 x12) (up2 gr 0 x9) ur lr mr nr) H := hP rfl
        refine lv_iload_n hx hb dX0_followPlan_144 rfl (lv_at hl 1 rfl) ?_
        exact wr_iret hx hb hr hlocks hS hP ⟨x6, x7, x8, x9, x10, x11, x12, x13, x14, x15, x16, x17, x18, x19, x20, x21, x22, x24, rfl, hRB⟩ dX0_followPlan_145
      · have b15 := qge_f (a := i) (b := (rw)) (by omega) (by omega) c23
        refine lv_iconst (v := 0) hx hb dX0_followPlan_18 (by decide) ?_
        refine lv_istore (lv' := [(5, .int 0), (4, .int (nI i)), (3, .int z5), (0, .ref (ga 9)), (1, .ref (ta 0)), (2, .ref (a 15))]) hx hb dX0_followPlan_19 hl (by decide) rfl (fun ls hl => ?_)
        have loop21 : ∀ (k27 k : Nat) (z28 : Int32) (x29 : Int32) (x30 : Int32) (x31 : Int32) (x32 : Nat → Int32) (x33 : Nat → Int32) (x34 : Nat → Int32) (x35 : Nat → Int32) (x36 : Int32) (x37 : Nat → Int32) (x38 : Nat → Int32) (x39 : Nat → Int32) (x40 : Nat → Int32) (x41 : Nat → Int32) (x42 : Nat → Int32) (x43 : Nat → Int32) (x44 : Nat → Int32) (x45 : Nat → Int32), k ≤ cl → cl < k + k27 → (RB adjR x33) → ∀ (H : Heap) (locs : List Loc) (ls : Array Slot), PP G (xM G x xa ta a b ga ua la lb lc tg gg xf tf (upd f 4 x29) (upd qf 3 x36) (upd (upd gf 7 x30) 8 x31) uf lf mf nf tr (up2 (up2 (up2 (up2 (up2 (up2 (up2 (up2 (up2 r 6 x37) 7 x38) 8 x39) 9 x40) 10 x41) 11 x42) 12 x43) 13 x44) 14 x45) (up2 (up2 (up2 q 0 x33) 1 x34) 2 x35) (up2 gr 0 x32) ur lr mr nr) H → va_S A s.heap H locs → lv_has ls 8 [(5, .int (nI k)), (4, .int (nI i)), (3, .int z28), (0, .ref (ga 9)), (1, .ref (ta 0)), (2, .ref (a 15))] → W p l e ({ frames := 5, cells := 0, slots := 0, locals := 134 }) s m ([.ref (ga 9), .ref (ta 0), .ref (a 15)] : List Value).toArray below meth c H locs 0 0 (MQ below (QwI G (fun q w => ∃ (n_f_4 : Int32) (n_gf_7 : Int32) (n_gf_8 : Int32) (n_gr_0 : Nat → Int32) (n_q_0 : Nat → Int32) (n_q_1 : Nat → Int32) (n_q_2 : Nat → Int32) (n_qf_3 : Int32) (n_r_6 : Nat → Int32) (n_r_7 : Nat → Int32) (n_r_8 : Nat → Int32) (n_r_9 : Nat → Int32) (n_r_10 : Nat → Int32) (n_r_11 : Nat → Int32) (n_r_12 : Nat → Int32) (n_r_13 : Nat → Int32) (n_r_14 : Nat → Int32) (n_tr_7 : Nat → Int32), w = xM G x xa ta a b ga ua la lb lc tg gg xf tf (upd f 4 n_f_4) (upd qf 3 n_qf_3) (upd (upd gf 7 n_gf_7) 8 n_gf_8) uf lf mf nf (up2 tr 7 n_tr_7) (up2 (up2 (up2 (up2 (up2 (up2 (up2 (up2 (up2 r 6 n_r_6) 7 n_r_7) 8 n_r_8) 9 n_r_9) 10 n_r_10) 11 n_r_11) 12 n_r_12) 13 n_r_13) 14 n_r_14) (up2 (up2 (up2 q 0 n_q_0) 1 n_q_1) 2 n_q_2) (up2 gr 0 n_gr_0) ur lr mr nr ∧ (RB adjR n_q_0)) A) ([.ref (ga 9), .ref (ta 0), .ref (a 15)] : List Value).toArray s 0 0 A) (F0 m 21 ls []) := by
          intro k27
          induction k27 with
          | zero => intro k z28 x29 x30 x31 x32 x33 x34 x35 x36 x37 x38 x39 x40 x41 x42 x43 x44 x45 h1 h2; exact absurd h1 (by omega)
          | succ k27 ih21k27 =>
            intro k z28 x29 x30 x31 x32 x33 x34 x35 x36 x37 x38 x39 x40 x41 x42 x43 x44 x45 hi_k hk_k hRB H locs ls hP hS hl
            refine lv_iload hx hb dX0_followPlan_21 (lv_at hl 0 rfl) ?_
            refine lv_aload_n hx hb dX0_followPlan_23 rfl (lv_at hl 5 rfl) ?_
            refine va_get (D := G.1) (ci := 2) (v := .int (f 1)) (C := RX2) (T := TX2) (N := 15) hx hb hts inX2 hown hK.1 hP 11 rfl rfl 1 (by decide) (hts _ mf_X0_49) (fun _ h9 => h9) rfl dX0_followPlan_24 ?_
            rw [show (f 1) = nI (cl) from h1]
            refine lv_icmp_ge (tgt := 133) hx hb dX0_followPlan_27 (by decide) (fun c46 => ?_) (fun c46 => ?_)
            · have b27 := qge_t (a := k) (b := (cl)) (by omega) (by omega) c46
              obtain ⟨v47, ev47⟩ : ∃ y9 : Int32, y9 = (nI i) + Int32.ofInt (1) := ⟨_, rfl⟩
              refine lv_iinc (v := v47) (lv' := [(4, .int v47), (5, .int (nI k)), (3, .int z28), (0, .ref (ga 9)), (1, .ref (ta 0)), (2, .ref (a 15))]) hx hb dX0_followPlan_133 hl (k := 1) rfl ev47.symm (by decide) rfl (fun ls hl => ?_)
              obtain rfl : v47 = nI (i + 1) := nI_plus (i := i) (j := 1) ev47 rfl (by decide)
              refine lv_goto (tgt := 9) hx hb dX0_followPlan_136 (by decide) ?_
              exact ih9k4 (i + 1) z28 x29 x30 x31 x32 x33 x34 x35 x36 x37 x38 x39 x40 x41 x42 x43 x44 x45 (by omega) (by omega) hRB _ _ _ hP hS (lv_sub hl [0, 2, 3, 4, 5] rfl)
            · have b27 := qge_f (a := k) (b := (cl)) (by omega) (by omega) c46
              refine lv_aload_n hx hb dX0_followPlan_30 rfl (lv_at hl 5 rfl) ?_
              refine va_get (D := G.1) (ci := 2) (v := .ref (a 10)) (C := RX2) (T := TX2) (N := 15) hx hb hts inX2 hown hK.1 hP 11 rfl rfl 10 (by decide) (hts _ mf_X0_52) (fun _ h9 => h9) rfl dX0_followPlan_31 ?_
              refine lv_iload hx hb dX0_followPlan_34 (lv_at hl 1 rfl) ?_
              refine lv_iload hx hb dX0_followPlan_36 (lv_at hl 0 rfl) ?_
              refine rdSN (rest := [.ref (a 10)]) ⟨hx, hb, hml, hown, hts⟩ (c_X6_spotOf l G ((nI i)) ((nI k))) mi_yX6_spotOf mst_yX6_spotOf (by decide +kernel) ⟨rfl, rfl, Nat.le_of_ble_eq_true rfl, Nat.le_of_ble_eq_true rfl⟩ hK (fun k q h => by simp at h) rfl hl.1 rfl (Nat.le_of_ble_eq_true rfl) dX0_followPlan_38 ⟨Nat.zero_le _, Nat.zero_le _⟩ hS hA hP (fun r48 H locs hr48 hP hS => ?_)
              obtain rfl : r48 = nI (i * 12 + k) := spot_eq hr48
              refine xiald (f := x41) hx hb hK hP 16 ((i * 12 + k)) (rfl) (by omega) (by decide) rfl dX0_followPlan_41 ?_
              refine lv_topi (fun v49 ev49 => ?_)
              have j61_64 : ∀ (z50 : Int32) (x51 : Int32) (x52 : Int32) (x53 : Nat → Int32) (x54 : Nat → Int32) (x55 : Nat → Int32) (x56 : Nat → Int32) (x57 : Nat → Int32) (x58 : Nat → Int32) (x59 : Nat → Int32) (x60 : Nat → Int32) (x61 : Nat → Int32) (x62 : Nat → Int32) (x63 : Nat → Int32) (x64 : Nat → Int32) (gz50 : z50 = 0 ∨ z50 = 1) (hRB : RB adjR x62) (H : Heap) (locs : List Loc) (ls : Array Slot), PP G (xM G x xa ta a b ga ua la lb lc tg gg xf tf (upd f 4 x51) (upd qf 3 x52) (upd (upd gf 7 x30) 8 x31) uf lf mf nf tr (up2 (up2 (up2 (up2 (up2 (up2 (up2 (up2 (up2 r 6 x53) 7 x54) 8 x55) 9 x56) 10 x57) 11 x58) 12 x59) 13 x60) 14 x61) (up2 (up2 (up2 q 0 x62) 1 x63) 2 x64) (up2 gr 0 x32) ur lr mr nr) H → va_S A s.heap H locs → lv_has ls 8 [(5, .int (nI k)), (4, .int (nI i)), (3, .int z28), (0, .ref (ga 9)), (1, .ref (ta 0)), (2, .ref (a 15))] → W p l e ({ frames := 5, cells := 0, slots := 0, locals := 134 }) s m ([.ref (ga 9), .ref (ta 0), .ref (a 15)] : List Value).toArray below meth c H locs 0 0 (MQ below (QwI G (fun q w => ∃ (n_f_4 : Int32) (n_gf_7 : Int32) (n_gf_8 : Int32) (n_gr_0 : Nat → Int32) (n_q_0 : Nat → Int32) (n_q_1 : Nat → Int32) (n_q_2 : Nat → Int32) (n_qf_3 : Int32) (n_r_6 : Nat → Int32) (n_r_7 : Nat → Int32) (n_r_8 : Nat → Int32) (n_r_9 : Nat → Int32) (n_r_10 : Nat → Int32) (n_r_11 : Nat → Int32) (n_r_12 : Nat → Int32) (n_r_13 : Nat → Int32) (n_r_14 : Nat → Int32) (n_tr_7 : Nat → Int32), w = xM G x xa ta a b ga ua la lb lc tg gg xf tf (upd f 4 n_f_4) (upd qf 3 n_qf_3) (upd (upd gf 7 n_gf_7) 8 n_gf_8) uf lf mf nf (up2 tr 7 n_tr_7) (up2 (up2 (up2 (up2 (up2 (up2 (up2 (up2 (up2 r 6 n_r_6) 7 n_r_7) 8 n_r_8) 9 n_r_9) 10 n_r_10) 11 n_r_11) 12 n_r_12) 13 n_r_13) 14 n_r_14) (up2 (up2 (up2 q 0 n_q_0) 1 n_q_1) 2 n_q_2) (up2 gr 0 n_gr_0) ur lr mr nr ∧ (RB adjR n_q_0)) A) ([.ref (ga 9), .ref (ta 0), .ref (a 15)] : List Value).toArray s 0 0 A) (F0 m 61 ls [.int z50]) := by
                intro z50 x51 x52 x53 x54 x55 x56 x57 x58 x59 x60 x61 x62 x63 x64 gz50 hRB H locs ls hP hS hl
                refine lv_istore (lv' := [(6, .int z50), (5, .int (nI k)), (4, .int (nI i)), (3, .int z28), (0, .ref (ga 9)), (1, .ref (ta 0)), (2, .ref (a 15))]) hx hb dX0_followPlan_61 hl (by decide) rfl (fun ls hl => ?_)
                refine lv_iconst (v := 0) hx hb dX0_followPlan_63 (by decide) ?_
                refine lv_istore (lv' := [(7, .int 0), (6, .int z50), (5, .int (nI k)), (4, .int (nI i)), (3, .int z28), (0, .ref (ga 9)), (1, .ref (ta 0)), (2, .ref (a 15))]) hx hb dX0_followPlan_64 hl (by decide) rfl (fun ls hl => ?_)
                have loop66 : ∀ (k65 tn : Nat) (z66 : Int32) (z67 : Int32) (x68 : Int32) (x69 : Int32) (x70 : Int32) (x71 : Nat → Int32) (x72 : Nat → Int32) (x73 : Nat → Int32) (x74 : Nat → Int32) (x75 : Int32) (x76 : Nat → Int32) (x77 : Nat → Int32) (x78 : Nat → Int32) (x79 : Nat → Int32) (x80 : Nat → Int32) (x81 : Nat → Int32) (x82 : Nat → Int32) (x83 : Nat → Int32) (x84 : Nat → Int32), tn ≤ 144 → 144 < tn + k65 → (RB adjR x72) → ∀ (H : Heap) (locs : List Loc) (ls : Array Slot), PP G (xM G x xa ta a b ga ua la lb lc tg gg xf tf (upd f 4 x68) (upd qf 3 x75) (upd (upd gf 7 x69) 8 x70) uf lf mf nf tr (up2 (up2 (up2 (up2 (up2 (up2 (up2 (up2 (up2 r 6 x76) 7 x77) 8 x78) 9 x79) 10 x80) 11 x81) 12 x82) 13 x83) 14 x84) (up2 (up2 (up2 q 0 x72) 1 x73) 2 x74) (up2 gr 0 x71) ur lr mr nr) H → va_S A s.heap H locs → lv_has ls 8 [(7, .int (nI tn)), (6, .int z66), (5, .int (nI k)), (4, .int (nI i)), (3, .int z67), (0, .ref (ga 9)), (1, .ref (ta 0)), (2, .ref (a 15))] → W p l e ({ frames := 5, cells := 0, slots := 0, locals := 134 }) s m ([.ref (ga 9), .ref (ta 0), .ref (a 15)] : List Value).toArray below meth c H locs 0 0 (MQ below (QwI G (fun q w => ∃ (n_f_4 : Int32) (n_gf_7 : Int32) (n_gf_8 : Int32) (n_gr_0 : Nat → Int32) (n_q_0 : Nat → Int32) (n_q_1 : Nat → Int32) (n_q_2 : Nat → Int32) (n_qf_3 : Int32) (n_r_6 : Nat → Int32) (n_r_7 : Nat → Int32) (n_r_8 : Nat → Int32) (n_r_9 : Nat → Int32) (n_r_10 : Nat → Int32) (n_r_11 : Nat → Int32) (n_r_12 : Nat → Int32) (n_r_13 : Nat → Int32) (n_r_14 : Nat → Int32) (n_tr_7 : Nat → Int32), w = xM G x xa ta a b ga ua la lb lc tg gg xf tf (upd f 4 n_f_4) (upd qf 3 n_qf_3) (upd (upd gf 7 n_gf_7) 8 n_gf_8) uf lf mf nf (up2 tr 7 n_tr_7) (up2 (up2 (up2 (up2 (up2 (up2 (up2 (up2 (up2 r 6 n_r_6) 7 n_r_7) 8 n_r_8) 9 n_r_9) 10 n_r_10) 11 n_r_11) 12 n_r_12) 13 n_r_13) 14 n_r_14) (up2 (up2 (up2 q 0 n_q_0) 1 n_q_1) 2 n_q_2) (up2 gr 0 n_gr_0) ur lr mr nr ∧ (RB adjR n_q_0)) A) ([.ref (ga 9), .ref (ta 0), .ref (a 15)] : List Value).toArray s 0 0 A) (F0 m 66 ls []) := by
                  intro k65
                  induction k65 with
                  | zero => intro tn z66 z67 x68 x69 x70 x71 x72 x73 x74 x75 x76 x77 x78 x79 x80 x81 x82 x83 x84 h1 h2; exact absurd h1 (by omega)
                  | succ k65 ih66k65 =>
                    intro tn z66 z67 x68 x69 x70 x71 x72 x73 x74 x75 x76 x77 x78 x79 x80 x81 x82 x83 x84 hi_tn hk_tn hRB H locs ls hP hS hl
                    refine lv_iload hx hb dX0_followPlan_66 (lv_at hl 0 rfl) ?_
                    refine lv_sipush (v := 144) hx hb dX0_followPlan_68 (by decide) ?_
                    refine lv_icmp_ge (tgt := 127) hx hb dX0_followPlan_71 (by decide) (fun c85 => ?_) (fun c85 => ?_)
                    · have b71 := qge_t (a := tn) (b := 144) (by omega) (by omega) c85
                      obtain ⟨v86, ev86⟩ : ∃ y9 : Int32, y9 = (nI k) + Int32.ofInt (1) := ⟨_, rfl⟩
                      refine lv_iinc (v := v86) (lv' := [(5, .int v86), (7, .int (nI tn)), (6, .int z66), (4, .int (nI i)), (3, .int z67), (0, .ref (ga 9)), (1, .ref (ta 0)), (2, .ref (a 15))]) hx hb dX0_followPlan_127 hl (k := 2) rfl ev86.symm (by decide) rfl (fun ls hl => ?_)
                      obtain rfl : v86 = nI (k + 1) := nI_plus (i := k) (j := 1) ev86 rfl (by decide)
                      refine lv_goto (tgt := 21) hx hb dX0_followPlan_130 (by decide) ?_
                      exact ih21k27 (k + 1) z67 x68 x69 x70 x71 x72 x73 x74 x75 x76 x77 x78 x79 x80 x81 x82 x83 x84 (by omega) (by omega) hRB _ _ _ hP hS (lv_sub hl [0, 3, 4, 5, 6, 7] rfl)
                    · have b71 := qge_f (a := tn) (b := 144) (by omega) (by omega) c85
                      refine lv_iload hx hb dX0_followPlan_74 (lv_at hl 1 rfl) ?_
                      refine lv_if_ne (tgt := 127) hx hb dX0_followPlan_76 (by decide) (fun c87 => ?_) (fun c87 => ?_)
                      · obtain ⟨v88, ev88⟩ : ∃ y9 : Int32, y9 = (nI k) + Int32.ofInt (1) := ⟨_, rfl⟩
                        refine lv_iinc (v := v88) (lv' := [(5, .int v88), (7, .int (nI tn)), (6, .int z66), (4, .int (nI i)), (3, .int z67), (0, .ref (ga 9)), (1, .ref (ta 0)), (2, .ref (a 15))]) hx hb dX0_followPlan_127 hl (k := 2) rfl ev88.symm (by decide) rfl (fun ls hl => ?_)
                        obtain rfl : v88 = nI (k + 1) := nI_plus (i := k) (j := 1) ev88 rfl (by decide)
                        refine lv_goto (tgt := 21) hx hb dX0_followPlan_130 (by decide) ?_
                        exact ih21k27 (k + 1) z67 x68 x69 x70 x71 x72 x73 x74 x75 x76 x77 x78 x79 x80 x81 x82 x83 x84 (by omega) (by omega) hRB _ _ _ hP hS (lv_sub hl [0, 3, 4, 5, 6, 7] rfl)
                      · refine lv_aload_n hx hb dX0_followPlan_79 rfl (lv_at hl 5 rfl) ?_
                        refine lv_aload_n hx hb dX0_followPlan_80 rfl (lv_at hl 6 rfl) ?_
                        refine lv_aload_n hx hb dX0_followPlan_81 rfl (lv_at hl 7 rfl) ?_
                        refine lv_iload hx hb dX0_followPlan_82 (lv_at hl 3 rfl) ?_
                        refine lv_iload hx hb dX0_followPlan_84 (lv_at hl 2 rfl) ?_
                        refine wrVV (rest := []) (q0 := 0) ⟨hx, hb, hml, hown, hts⟩ (c_X0_findThree l G ga (upd (upd gf 7 x69) 8 x70) (up2 gr 0 x71) a b (upd f 4 x68) (up2 (up2 (up2 (up2 (up2 (up2 (up2 (up2 (up2 r 6 x76) 7 x77) 8 x78) 9 x79) 10 x80) 11 x81) 12 x82) 13 x83) 14 x84) ta tf tr rw cl hrw hcl h0 h1 i k (by omega) (by omega)) mi_yX0_findThree mv_yX0_findThree ml_X0_63 ⟨rfl, rfl, Nat.le_of_ble_eq_true rfl, Nat.le_of_ble_eq_true rfl⟩ hK hP (hDD _ _ _ _ _ _ _ _ _ _ _ _ _ _ _ _ _) [25, 26, 27, 28, 29, 11, 12, 13, 14, 15, 16, 17, 18, 19, 20, 2, 3, 4, 5, 6, 7, 8, 9, 10] rfl (by decide) rfl rfl rfl hl.1 rfl (Nat.le_of_ble_eq_true rfl) dX0_followPlan_86 ⟨Nat.zero_le _, Nat.zero_le _⟩ hS hA (fun w92 H locs hw92 hP hS => ?_)
                        obtain ⟨x89, x90, hbq, rfl⟩ := hw92
                        have hP : PP G (xM G x xa ta a b ga ua la lb lc tg gg xf tf (upd f 4 x68) (upd qf 3 x75) (upd (upd gf 7 x89) 8 x90) uf lf mf nf tr (up2 (up2 (up2 (up2 (up2 (up2 (up2 (up2 (up2 r 6 x76) 7 x77) 8 x78) 9 x79) 10 x80) 11 x81) 12 x82) 13 x83) 14 x84) (up2 (up2 (up2 q 0 x72) 1 x73) 2 x74) (up2 gr 0 x71) ur lr mr nr) H := hP rfl
                        refine lv_aload_n hx hb dX0_followPlan_89 rfl (lv_at hl 5 rfl) ?_
                        refine va_get (D := G.1) (ci := 0) (v := .int x89) (C := RX0) (T := TX0) (N := 9) hx hb hts inX0 hown hK.1 hP 25 rfl rfl 7 (by decide) (hts _ mf_X0_35) (fun _ h9 => h9) rfl dX0_followPlan_90 ?_
                        refine lv_iconst (v := -1) hx hb dX0_followPlan_93 (by decide) ?_
                        refine lv_icmp_ne (tgt := 99) hx hb dX0_followPlan_94 (by decide) (fun c93 => ?_) (fun c93 => ?_)
                        · refine lv_iload_n hx hb dX0_followPlan_99 rfl (lv_at hl 4 rfl) ?_
                          refine lv_aload_n hx hb dX0_followPlan_100 rfl (lv_at hl 5 rfl) ?_
                          refine lv_aload_n hx hb dX0_followPlan_101 rfl (lv_at hl 7 rfl) ?_
                          refine lv_iload hx hb dX0_followPlan_102 (lv_at hl 3 rfl) ?_
                          refine lv_iload hx hb dX0_followPlan_104 (lv_at hl 2 rfl) ?_
                          obtain ⟨br, bc, hbr, hbc, e7, e8⟩ := hbq.resolve_left c93
                          refine wrVI (rest := [.int z67]) (q0 := 0) ⟨hx, hb, hml, hown, hts⟩ (c_X0_keepThree l G ga (upd (upd gf 7 x89) 8 x90) (up2 gr 0 x71) a b (upd f 4 x68) (up2 (up2 (up2 (up2 (up2 (up2 (up2 (up2 (up2 r 6 x76) 7 x77) 8 x78) 9 x79) 10 x80) 11 x81) 12 x82) 13 x83) 14 x84) i k (by omega) (by omega) br bc hbr hbc e7 e8) mi_yX0_keepThree mv_yX0_keepThree ml_X0_67 ⟨rfl, rfl, Nat.le_of_ble_eq_true rfl, Nat.le_of_ble_eq_true rfl⟩ hK hP (hDD _ _ _ _ _ _ _ _ _ _ _ _ _ _ _ _ _) [25, 26, 27, 28, 29, 11, 12, 13, 14, 15, 16, 17, 18, 19, 20] rfl (by decide) rfl rfl rfl hl.1 rfl (Nat.le_of_ble_eq_true rfl) dX0_followPlan_106 ⟨Nat.zero_le _, Nat.zero_le _⟩ hS hA (fun r97 w98 H locs hw98 hP hS => ?_)
                          obtain ⟨x94, x95, x96, rfl⟩ := hw98
                          have hP : PP G (xM G x xa ta a b ga ua la lb lc tg gg xf tf (upd f 4 x95) (upd qf 3 x75) (upd (upd gf 7 x89) 8 x90) uf lf mf nf tr (up2 (up2 (up2 (up2 (up2 (up2 (up2 (up2 (up2 r 6 x76) 7 x77) 8 x78) 9 x79) 10 x80) 11 x96) 12 x82) 13 x83) 14 x84) (up2 (up2 (up2 q 0 x72) 1 x73) 2 x74) (up2 gr 0 x94) ur lr mr nr) H := hP rfl
                          refine lv_iadd hx hb dX0_followPlan_109 ?_
                          refine lv_topi (fun v99 ev99 => ?_)
                          refine lv_istore_n (lv' := [(3, .int v99), (7, .int (nI tn)), (6, .int z66), (5, .int (nI k)), (4, .int (nI i)), (0, .ref (ga 9)), (1, .ref (ta 0)), (2, .ref (a 15))]) hx hb dX0_followPlan_110 rfl hl (by decide) rfl (fun ls hl => ?_)
                          refine lv_aload_n hx hb dX0_followPlan_111 rfl (lv_at hl 7 rfl) ?_
                          refine lv_iload hx hb dX0_followPlan_112 (lv_at hl 4 rfl) ?_
                          refine lv_iload hx hb dX0_followPlan_114 (lv_at hl 3 rfl) ?_
                          refine wrVI (rest := []) (q0 := 0) ⟨hx, hb, hml, hown, hts⟩ (c_X2_isSafe l G a b (upd f 4 x95) (up2 (up2 (up2 (up2 (up2 (up2 (up2 (up2 (up2 r 6 x76) 7 x77) 8 x78) 9 x79) 10 x80) 11 x96) 12 x82) 13 x83) 14 x84) (up2 (up2 (up2 q 0 x72) 1 x73) 2 x74) x75 rw cl hrw hcl h0 h1 i k (by omega) (by omega) hRB) mi_yX2_isSafe mv_yX2_isSafe ml_X0_59 ⟨rfl, rfl, Nat.le_of_ble_eq_true rfl, Nat.le_of_ble_eq_true rfl⟩ hK hP (hDD _ _ _ _ _ _ _ _ _ _ _ _ _ _ _ _ _) [11, 12, 13, 14, 15, 16, 17, 18, 19, 20, 21, 22, 23, 24] rfl (by decide) rfl rfl rfl hl.1 rfl (Nat.le_of_ble_eq_true rfl) dX0_followPlan_116 ⟨Nat.zero_le _, Nat.zero_le _⟩ hS hA (fun r106 w107 H locs hw107 hP hS => ?_)
                          obtain ⟨x100, x101, x102, x103, x104, x105, hRB, rfl⟩ := hw107
                          have hP : PP G (xM G x xa ta a b ga ua la lb lc tg gg xf tf (upd f 4 x100) (upd qf 3 x105) (upd (upd gf 7 x89) 8 x90) uf lf mf nf tr (up2 (up2 (up2 (up2 (up2 (up2 (up2 (up2 (up2 r 6 (x101 6)) 7 (x101 7)) 8 (x101 8)) 9 (x101 9)) 10 (x101 10)) 11 (x101 11)) 12 (x101 12)) 13 (x101 13)) 14 (x101 14)) (up2 (up2 (up2 q 0 x102) 1 x103) 2 x104) (up2 gr 0 x94) ur lr mr nr) H := hP rfl
                          refine lv_istore (lv' := [(6, .int r106), (3, .int v99), (7, .int (nI tn)), (5, .int (nI k)), (4, .int (nI i)), (0, .ref (ga 9)), (1, .ref (ta 0)), (2, .ref (a 15))]) hx hb dX0_followPlan_119 hl (by decide) rfl (fun ls hl => ?_)
                          obtain ⟨v108, ev108⟩ : ∃ y9 : Int32, y9 = (nI tn) + Int32.ofInt (1) := ⟨_, rfl⟩
                          refine lv_iinc (v := v108) (lv' := [(7, .int v108), (6, .int r106), (3, .int v99), (5, .int (nI k)), (4, .int (nI i)), (0, .ref (ga 9)), (1, .ref (ta 0)), (2, .ref (a 15))]) hx hb dX0_followPlan_121 hl (k := 2) rfl ev108.symm (by decide) rfl (fun ls hl => ?_)
                          obtain rfl : v108 = nI (tn + 1) := nI_plus (i := tn) (j := 1) ev108 rfl (by decide)
                          refine lv_goto (tgt := 66) hx hb dX0_followPlan_124 (by decide) ?_
                          exact ih66k65 (tn + 1) r106 v99 x100 x89 x90 x94 x102 x103 x104 x105 (x101 6) (x101 7) (x101 8) (x101 9) (x101 10) (x101 11) (x101 12) (x101 13) (x101 14) (by omega) (by omega) hRB _ _ _ hP hS (lv_sub hl [0, 1, 3, 4, 2, 5, 6, 7] rfl)
                        · refine lv_iconst (v := -1) hx hb dX0_followPlan_97 (by decide) ?_
                          exact wr_iret hx hb hr hlocks hS hP ⟨x68, x89, x90, x71, x72, x73, x74, x75, x76, x77, x78, x79, x80, x81, x82, x83, x84, (tr 7), rfl, hRB⟩ dX0_followPlan_98
                exact loop66 (144 + 1) 0 z50 z28 x51 x30 x31 x32 x62 x63 x64 x52 x53 x54 x55 x56 x57 x58 x59 x60 x61 (by omega) (by omega) hRB _ _ _ hP hS (lv_sub hl [0, 1, 2, 3, 4, 5, 6, 7] rfl)
              refine lv_if_eq (tgt := 56) hx hb dX0_followPlan_42 (by decide) (fun c109 => ?_) (fun c109 => ?_)
              · refine lv_iconst (v := 1) hx hb dX0_followPlan_56 (by decide) ?_
                refine lv_goto (tgt := 61) hx hb dX0_followPlan_57 (by decide) ?_
                exact j61_64 1 x29 x36 x37 x38 x39 x40 x41 x42 x43 x44 x45 x33 x34 x35 (Or.inr rfl) hRB _ _ _ hP hS (lv_sub hl [0, 1, 2, 3, 4, 5] rfl)
              · refine lv_aload_n hx hb dX0_followPlan_45 rfl (lv_at hl 5 rfl) ?_
                refine lv_iload hx hb dX0_followPlan_46 (lv_at hl 1 rfl) ?_
                refine lv_iload hx hb dX0_followPlan_48 (lv_at hl 0 rfl) ?_
                refine wrVI (rest := []) (q0 := 0) ⟨hx, hb, hml, hown, hts⟩ (c_X2_isSafe l G a b (upd f 4 x29) (up2 (up2 (up2 (up2 (up2 (up2 (up2 (up2 (up2 r 6 x37) 7 x38) 8 x39) 9 x40) 10 x41) 11 x42) 12 x43) 13 x44) 14 x45) (up2 (up2 (up2 q 0 x33) 1 x34) 2 x35) x36 rw cl hrw hcl h0 h1 i k (by omega) (by omega) hRB) mi_yX2_isSafe mv_yX2_isSafe ml_X0_59 ⟨rfl, rfl, Nat.le_of_ble_eq_true rfl, Nat.le_of_ble_eq_true rfl⟩ hK hP (hDD _ _ _ _ _ _ _ _ _ _ _ _ _ _ _ _ _) [11, 12, 13, 14, 15, 16, 17, 18, 19, 20, 21, 22, 23, 24] rfl (by decide) rfl rfl rfl hl.1 rfl (Nat.le_of_ble_eq_true rfl) dX0_followPlan_50 ⟨Nat.zero_le _, Nat.zero_le _⟩ hS hA (fun r116 w117 H locs hw117 hP hS => ?_)
                obtain ⟨x110, x111, x112, x113, x114, x115, hRB, rfl⟩ := hw117
                have hP : PP G (xM G x xa ta a b ga ua la lb lc tg gg xf tf (upd f 4 x110) (upd qf 3 x115) (upd (upd gf 7 x30) 8 x31) uf lf mf nf tr (up2 (up2 (up2 (up2 (up2 (up2 (up2 (up2 (up2 r 6 (x111 6)) 7 (x111 7)) 8 (x111 8)) 9 (x111 9)) 10 (x111 10)) 11 (x111 11)) 12 (x111 12)) 13 (x111 13)) 14 (x111 14)) (up2 (up2 (up2 q 0 x112) 1 x113) 2 x114) (up2 gr 0 x32) ur lr mr nr) H := hP rfl
                refine lv_if_eq (tgt := 60) hx hb dX0_followPlan_53 (by decide) (fun c118 => ?_) (fun c118 => ?_)
                · refine lv_iconst (v := 0) hx hb dX0_followPlan_60 (by decide) ?_
                  exact j61_64 0 x110 x115 (x111 6) (x111 7) (x111 8) (x111 9) (x111 10) (x111 11) (x111 12) (x111 13) (x111 14) x112 x113 x114 (Or.inl rfl) hRB _ _ _ hP hS (lv_sub hl [0, 1, 2, 3, 4, 5] rfl)
                · refine lv_iconst (v := 1) hx hb dX0_followPlan_56 (by decide) ?_
                  refine lv_goto (tgt := 61) hx hb dX0_followPlan_57 (by decide) ?_
                  exact j61_64 1 x110 x115 (x111 6) (x111 7) (x111 8) (x111 9) (x111 10) (x111 11) (x111 12) (x111 13) (x111 14) x112 x113 x114 (Or.inr rfl) hRB _ _ _ hP hS (lv_sub hl [0, 1, 2, 3, 4, 5] rfl)
        exact loop21 (cl + 1) 0 z5 x6 x7 x8 x9 x10 x11 x12 x13 x14 x15 x16 x17 x18 x19 x20 x21 x22 (by omega) (by omega) hRB _ _ _ hP hS (lv_sub hl [0, 1, 2, 3, 4, 5] rfl)
  exact loop9 (rw + 1) 0 0 (f 4) (gf 7) (gf 8) x1 (q 0) (q 1) (q 2) (qf 3) (r 6) (r 7) (r 8) (r 9) (r 10) (r 11) (r 12) (r 13) (r 14) (by omega) (by omega) hRB _ _ _ hP hS (lv_sub hl [0, 1, 2, 3, 4] rfl)
def ruX (j : Nat) : Int32 := match j with | 0 => 100 | 1 => 6 | 2 => 100 | 3 => 1000000 | 4 => 1000000 | _ => 1
set_option maxHeartbeats 4000000 in
set_option maxRecDepth 100000 in
theorem x_rule (l : Launch) (G : GG) (x : Nat) (xa ta a b ga ua la lb lc : Nat → Nat) (tg gg : Nat → Option Nat) (xf tf f qf gf uf lf mf nf : Nat → Int32) (tr r q gr ur lr mr nr : Nat → Nat → Int32) (tb : Int32) (wh : Int32) (nm : Int32) (j : Nat) (hj : j < 6) (hjt : tbJ tb j) (htg : tg j = some (ta 0)) (hT1 : nL 12 (tf 1)) (hT2 : nL 12 (tf 2)) (hT3 : nL 12 (tf 3)) (hT4 : nOK 12 12 (tr 4)) : WrIs l yX6_rule cX6_rule 4 (some .boolean) ({ frames := 1, cells := 0, slots := 0, locals := 21 }) G (xM G x xa ta a b ga ua la lb lc tg gg xf tf f qf gf uf lf mf nf tr r q gr ur lr mr nr) [.ref x, .int tb, .int wh, .int nm] (fun q w => ∃ (n_tr_9 : Nat → Int32) (n_xf_0 : Int32), w = xM G x xa ta a b ga ua la lb lc tg gg (upd xf 0 n_xf_0) tf f qf gf uf lf mf nf (up2 tr 9 n_tr_9) r q gr ur lr mr nr ∧ (q = 0 ∨ q = 1)) := by
  refine ws_entryI (by decide +kernel) (Nat.le_of_ble_eq_true rfl) ?_
  intro p e s m below meth c A C0 hP hK hD hA hT ls hl
  have hS : va_S A s.heap s.heap [] := va_S.rf
  obtain ⟨hx, hb, hml, hown, hts, hr, hlocks, hin⟩ := C0
  have hown : s.vm.findClass RX6 = some m.cls := hown
  have hDD : ∀ xf' tf' f' qf' gf' uf' lf' mf' nf' tr' r' q' gr' ur' lr' mr' nr', va_D A (xM G x xa ta a b ga ua la lb lc tg gg xf' tf' f' qf' gf' uf' lf' mf' nf' tr' r' q' gr' ur' lr' mr' nr') := fun xf' tf' f' qf' gf' uf' lf' mf' nf' tr' r' q' gr' ur' lr' mr' nr' => D_same hD rfl
  have hl : lv_has ls 4 [(0, .ref x), (1, .int tb), (2, .int wh), (3, .int nm)] := hl
  obtain ⟨-, tz, hZ, hTt⟩ := hT
  refine lv_aload_n hx hb dX6_rule_0 rfl (lv_at hl 0 rfl) ?_
  refine lv_aload_n hx hb dX6_rule_1 rfl (lv_at hl 0 rfl) ?_
  refine lv_iload_n hx hb dX6_rule_2 rfl (lv_at hl 1 rfl) ?_
  refine rdV (rest := [.ref x]) (q0 := 0) ⟨hx, hb, hml, hown, hts⟩ (x_tableStatus l G x xa ta a b ga ua la lb lc tg gg xf tf f qf gf uf lf mf nf tr r q gr ur lr mr nr tb j (by omega) hjt htg) mi_yX6_tableStatus mv_yX6_tableStatus ml_X6_73 ⟨rfl, rfl, Nat.le_of_ble_eq_true rfl, Nat.le_of_ble_eq_true rfl⟩ hK (hP) rfl rfl rfl hl.1 rfl (Nat.le_of_ble_eq_true rfl) dX6_rule_3 ⟨Nat.zero_le _, Nat.zero_le _⟩ hS hA hP (fun r1 H locs hr1 hP hS => ?_)
  have hr1 : ((r1 = 0 ∧ tbO tb j (tf 0)) ∨ (r1 = 1 ∧ ¬ tbO tb j (tf 0))) := hr1
  refine wrVIa (rest := []) (q0 := 0) ⟨hx, hb, hml, hown, hts⟩ (x_settled l G x xa ta a b ga ua la lb lc tg gg xf tf f qf gf uf lf mf nf tr r q gr ur lr mr nr r1  ) mi_yX6_settled mv_yX6_settled ml_X6_65 ⟨rfl, rfl, Nat.le_of_ble_eq_true rfl, Nat.le_of_ble_eq_true rfl⟩ hK hP (hDD _ _ _ _ _ _ _ _ _ _ _ _ _ _ _ _ _) rfl rfl rfl hl.1 rfl (Nat.le_of_ble_eq_true rfl) dX6_rule_6 ⟨Nat.zero_le _, Nat.zero_le _⟩ hS hA (fun r2 w3 H locs hw3 hP hS => ?_)
  obtain ⟨x4, rfl, hw3r⟩ := hw3
  have hP : PP G (xM G x xa ta a b ga ua la lb lc tg gg (upd xf 0 x4) tf f qf gf uf lf mf nf tr r q gr ur lr mr nr) H := hP
  have hw3r : ((r2 = 1 ∧ (r1 = 0)) ∨ (r2 = 0 ∧ ¬ (r1 = 0))) := hw3r
  refine lv_if_ne (tgt := 14) hx hb dX6_rule_9 (by decide) (fun c5 => ?_) (fun c5 => ?_)
  · have b9 := bT hw3r c5
    obtain ⟨ej, ho⟩ := st0 hr1 b9
    subst ej
    obtain ⟨rw, hrw, t1⟩ := hT1
    obtain ⟨cl, hcl, t2⟩ := hT2
    obtain ⟨bk, hbk, t3⟩ := hT3
    have hT1 : nL 12 (tf 1) := ⟨rw, hrw, t1⟩
    have hT2 : nL 12 (tf 2) := ⟨cl, hcl, t2⟩
    have hT3 : nL 12 (tf 3) := ⟨bk, hbk, t3⟩
    refine lv_iload_n hx hb dX6_rule_14 rfl (lv_at hl 2 rfl) ?_
    refine lv_if_lt (tgt := 39) hx hb dX6_rule_15 (by decide) (fun c6 => ?_) (fun c6 => ?_)
    · refine lv_aload_n hx hb dX6_rule_39 rfl (lv_at hl 0 rfl) ?_
      refine lv_bipush (v := 7) hx hb dX6_rule_40 (by decide) ?_
      refine wrVIa (rest := []) (q0 := 0) ⟨hx, hb, hml, hown, hts⟩ (x_settled l G x xa ta a b ga ua la lb lc tg gg (upd xf 0 x4) tf f qf gf uf lf mf nf tr r q gr ur lr mr nr 7  ) mi_yX6_settled mv_yX6_settled ml_X6_65 ⟨rfl, rfl, Nat.le_of_ble_eq_true rfl, Nat.le_of_ble_eq_true rfl⟩ hK hP (hDD _ _ _ _ _ _ _ _ _ _ _ _ _ _ _ _ _) rfl rfl rfl hl.1 rfl (Nat.le_of_ble_eq_true rfl) dX6_rule_42 ⟨Nat.zero_le _, Nat.zero_le _⟩ hS hA (fun r7 w8 H locs hw8 hP hS => ?_)
      obtain ⟨x9, rfl, hw8r⟩ := hw8
      have hP : PP G (xM G x xa ta a b ga ua la lb lc tg gg (upd xf 0 x9) tf f qf gf uf lf mf nf tr r q gr ur lr mr nr) H := hP
      have hw8r : ((r7 = 1 ∧ (7 = 0)) ∨ (r7 = 0 ∧ ¬ (7 = 0))) := hw8r
      exact wr_zret hx hb hr hlocks ((hw8r.elim (fun q9 => Or.inr q9.1) (fun q9 => Or.inl q9.1))) hS hP ⟨(tr 9), x9, rfl, ((hw8r.elim (fun q9 => Or.inr q9.1) (fun q9 => Or.inl q9.1)))⟩ dX6_rule_45
    · refine lv_iload_n hx hb dX6_rule_18 rfl (lv_at hl 2 rfl) ?_
      refine va_gets (C := "CellKeeper") (v := .ref tz) hx hb hZ hS hown (hts _ mf_X6_77) (fun _ h9 => h9) dX6_rule_19 ?_
      refine va_tlen (v := nI 6) hx hb hTt hS rfl dX6_rule_22 ?_
      refine lv_icmp_ge (tgt := 39) hx hb dX6_rule_23 (by decide) (fun c10 => ?_) (fun c10 => ?_)
      · refine lv_aload_n hx hb dX6_rule_39 rfl (lv_at hl 0 rfl) ?_
        refine lv_bipush (v := 7) hx hb dX6_rule_40 (by decide) ?_
        refine wrVIa (rest := []) (q0 := 0) ⟨hx, hb, hml, hown, hts⟩ (x_settled l G x xa ta a b ga ua la lb lc tg gg (upd xf 0 x4) tf f qf gf uf lf mf nf tr r q gr ur lr mr nr 7  ) mi_yX6_settled mv_yX6_settled ml_X6_65 ⟨rfl, rfl, Nat.le_of_ble_eq_true rfl, Nat.le_of_ble_eq_true rfl⟩ hK hP (hDD _ _ _ _ _ _ _ _ _ _ _ _ _ _ _ _ _) rfl rfl rfl hl.1 rfl (Nat.le_of_ble_eq_true rfl) dX6_rule_42 ⟨Nat.zero_le _, Nat.zero_le _⟩ hS hA (fun r11 w12 H locs hw12 hP hS => ?_)
        obtain ⟨x13, rfl, hw12r⟩ := hw12
        have hP : PP G (xM G x xa ta a b ga ua la lb lc tg gg (upd xf 0 x13) tf f qf gf uf lf mf nf tr r q gr ur lr mr nr) H := hP
        have hw12r : ((r11 = 1 ∧ (7 = 0)) ∨ (r11 = 0 ∧ ¬ (7 = 0))) := hw12r
        exact wr_zret hx hb hr hlocks ((hw12r.elim (fun q9 => Or.inr q9.1) (fun q9 => Or.inl q9.1))) hS hP ⟨(tr 9), x13, rfl, ((hw12r.elim (fun q9 => Or.inr q9.1) (fun q9 => Or.inl q9.1)))⟩ dX6_rule_45
      · refine lv_iload_n hx hb dX6_rule_26 rfl (lv_at hl 3 rfl) ?_
        refine lv_if_lt (tgt := 39) hx hb dX6_rule_27 (by decide) (fun c14 => ?_) (fun c14 => ?_)
        · refine lv_aload_n hx hb dX6_rule_39 rfl (lv_at hl 0 rfl) ?_
          refine lv_bipush (v := 7) hx hb dX6_rule_40 (by decide) ?_
          refine wrVIa (rest := []) (q0 := 0) ⟨hx, hb, hml, hown, hts⟩ (x_settled l G x xa ta a b ga ua la lb lc tg gg (upd xf 0 x4) tf f qf gf uf lf mf nf tr r q gr ur lr mr nr 7  ) mi_yX6_settled mv_yX6_settled ml_X6_65 ⟨rfl, rfl, Nat.le_of_ble_eq_true rfl, Nat.le_of_ble_eq_true rfl⟩ hK hP (hDD _ _ _ _ _ _ _ _ _ _ _ _ _ _ _ _ _) rfl rfl rfl hl.1 rfl (Nat.le_of_ble_eq_true rfl) dX6_rule_42 ⟨Nat.zero_le _, Nat.zero_le _⟩ hS hA (fun r15 w16 H locs hw16 hP hS => ?_)
          obtain ⟨x17, rfl, hw16r⟩ := hw16
          have hP : PP G (xM G x xa ta a b ga ua la lb lc tg gg (upd xf 0 x17) tf f qf gf uf lf mf nf tr r q gr ur lr mr nr) H := hP
          have hw16r : ((r15 = 1 ∧ (7 = 0)) ∨ (r15 = 0 ∧ ¬ (7 = 0))) := hw16r
          exact wr_zret hx hb hr hlocks ((hw16r.elim (fun q9 => Or.inr q9.1) (fun q9 => Or.inl q9.1))) hS hP ⟨(tr 9), x17, rfl, ((hw16r.elim (fun q9 => Or.inr q9.1) (fun q9 => Or.inl q9.1)))⟩ dX6_rule_45
        · refine lv_iload_n hx hb dX6_rule_30 rfl (lv_at hl 3 rfl) ?_
          refine va_gets (C := "CellKeeper") (v := .ref tz) hx hb hZ hS hown (hts _ mf_X6_77) (fun _ h9 => h9) dX6_rule_31 ?_
          refine lv_iload_n hx hb dX6_rule_34 rfl (lv_at hl 2 rfl) ?_
          obtain ⟨n, hn, en⟩ := lt_ix (x := wh) (n := 6) (by decide) c6 c10
          subst en
          refine va_ti (v := .int (ruX n)) hx hb hTt hS (vp_in_nI hn (by decide)) (by rw [nI_clamp (by omega)]; rfl) dX6_rule_35 ?_
          refine lv_icmp_le (tgt := 46) hx hb dX6_rule_36 (by decide) (fun c18 => ?_) (fun c18 => ?_)
          · refine lv_aload_n hx hb dX6_rule_46 rfl (lv_at hl 0 rfl) ?_
            refine va_get (D := G.1) (ci := 6) (v := .ref (xa 1)) (C := RX6) (T := TX6) (N := 10) hx hb hts inX6 hown hK.1 hP 0 rfl rfl 1 (by decide) (hts _ mf_X6_15) (fun _ h9 => h9) rfl dX6_rule_47 ?_
            refine lv_iload_n hx hb dX6_rule_50 rfl (lv_at hl 1 rfl) ?_
            refine xaldT hx hb hK hP 1 (j) (b := (ta 0)) rfl (by omega) (by decide) rfl (htg) dX6_rule_51 ?_
            refine va_get (D := G.1) (ci := 4) (v := .ref (ta 9)) (C := RX4) (T := TX4) (N := 12) hx hb hts inX4 hown hK.1 hP 2 rfl rfl 9 (by decide) (hts _ mf_X6_81) (fun _ h9 => h9) rfl dX6_rule_52 ?_
            refine lv_iload_n hx hb dX6_rule_55 rfl (lv_at hl 2 rfl) ?_
            refine lv_iload_n hx hb dX6_rule_56 rfl (lv_at hl 3 rfl) ?_
            refine xiast (f := (tr 9)) (x := nm) hx hb hK hP (hDD _ _ _ _ _ _ _ _ _ _ _ _ _ _ _ _ _) hS 8 (n) (rfl) (by omega) (by decide) rfl dX6_rule_57 (fun H locs hP _ hS => ?_)
            have hP : PP G (xM G x xa ta a b ga ua la lb lc tg gg (upd xf 0 x4) tf f qf gf uf lf mf nf (up2 tr 9 (upd (tr 9) (n) (nm))) r q gr ur lr mr nr) H := hP
            refine lv_iconst (v := 1) hx hb dX6_rule_58 (by decide) ?_
            exact wr_zret hx hb hr hlocks (Or.inr rfl) hS hP ⟨(upd (tr 9) (n) (nm)), x4, rfl, (Or.inr rfl)⟩ dX6_rule_59
          · refine lv_aload_n hx hb dX6_rule_39 rfl (lv_at hl 0 rfl) ?_
            refine lv_bipush (v := 7) hx hb dX6_rule_40 (by decide) ?_
            refine wrVIa (rest := []) (q0 := 0) ⟨hx, hb, hml, hown, hts⟩ (x_settled l G x xa ta a b ga ua la lb lc tg gg (upd xf 0 x4) tf f qf gf uf lf mf nf tr r q gr ur lr mr nr 7  ) mi_yX6_settled mv_yX6_settled ml_X6_65 ⟨rfl, rfl, Nat.le_of_ble_eq_true rfl, Nat.le_of_ble_eq_true rfl⟩ hK hP (hDD _ _ _ _ _ _ _ _ _ _ _ _ _ _ _ _ _) rfl rfl rfl hl.1 rfl (Nat.le_of_ble_eq_true rfl) dX6_rule_42 ⟨Nat.zero_le _, Nat.zero_le _⟩ hS hA (fun r19 w20 H locs hw20 hP hS => ?_)
            obtain ⟨x21, rfl, hw20r⟩ := hw20
            have hP : PP G (xM G x xa ta a b ga ua la lb lc tg gg (upd xf 0 x21) tf f qf gf uf lf mf nf tr r q gr ur lr mr nr) H := hP
            have hw20r : ((r19 = 1 ∧ (7 = 0)) ∨ (r19 = 0 ∧ ¬ (7 = 0))) := hw20r
            exact wr_zret hx hb hr hlocks ((hw20r.elim (fun q9 => Or.inr q9.1) (fun q9 => Or.inl q9.1))) hS hP ⟨(tr 9), x21, rfl, ((hw20r.elim (fun q9 => Or.inr q9.1) (fun q9 => Or.inl q9.1)))⟩ dX6_rule_45
  · have b9 := bF hw3r c5
    refine lv_iconst (v := 0) hx hb dX6_rule_12 (by decide) ?_
    exact wr_zret hx hb hr hlocks (Or.inl rfl) hS hP ⟨(tr 9), x4, rfl, (Or.inl rfl)⟩ dX6_rule_13
set_option maxHeartbeats 4000000 in
set_option maxRecDepth 100000 in
theorem x_cell (l : Launch) (G : GG) (x : Nat) (xa ta a b ga ua la lb lc : Nat → Nat) (tg gg : Nat → Option Nat) (xf tf f qf gf uf lf mf nf : Nat → Int32) (tr r q gr ur lr mr nr : Nat → Nat → Int32) (tb : Int32) (row : Int32) (col : Int32) (kd : Int32) (nm : Int32) (j : Nat) (hj : j < 6) (hjt : tbJ tb j) (htg : tg j = some (ta 0)) (hT1 : nL 12 (tf 1)) (hT2 : nL 12 (tf 2)) (hT3 : nL 12 (tf 3)) (hT4 : nOK 12 12 (tr 4)) : WrI l yX6_cell cX6_cell 6 (some .boolean) ({ frames := 3, cells := 0, slots := 0, locals := 69 }) G (xM G x xa ta a b ga ua la lb lc tg gg xf tf f qf gf uf lf mf nf tr r q gr ur lr mr nr) [.ref x, .int tb, .int row, .int col, .int kd, .int nm] (fun q w => ∃ (n_tr_5 : Nat → Int32) (n_tr_6 : Nat → Int32) (n_tr_7 : Nat → Int32) (n_tr_8 : Nat → Int32) (n_xf_0 : Int32), w = xM G x xa ta a b ga ua la lb lc tg gg (upd xf 0 n_xf_0) tf f qf gf uf lf mf nf (up2 (up2 (up2 (up2 tr 5 n_tr_5) 6 n_tr_6) 7 n_tr_7) 8 n_tr_8) r q gr ur lr mr nr ∧ (q = 0 ∨ q = 1)) := by
  refine wr_entryI (by decide +kernel) (Nat.le_of_ble_eq_true rfl) ?_
  intro p e s m below meth c A C0 hP hK hD hA ls hl
  have hS : va_S A s.heap s.heap [] := va_S.rf
  obtain ⟨hx, hb, hml, hown, hts, hr, hlocks, hin⟩ := C0
  have hown : s.vm.findClass RX6 = some m.cls := hown
  have hDD : ∀ xf' tf' f' qf' gf' uf' lf' mf' nf' tr' r' q' gr' ur' lr' mr' nr', va_D A (xM G x xa ta a b ga ua la lb lc tg gg xf' tf' f' qf' gf' uf' lf' mf' nf' tr' r' q' gr' ur' lr' mr' nr') := fun xf' tf' f' qf' gf' uf' lf' mf' nf' tr' r' q' gr' ur' lr' mr' nr' => D_same hD rfl
  have hl : lv_has ls 6 [(0, .ref x), (1, .int tb), (2, .int row), (3, .int col), (4, .int kd), (5, .int nm)] := hl
  refine lv_aload_n hx hb dX6_cell_0 rfl (lv_at hl 0 rfl) ?_
  refine lv_aload_n hx hb dX6_cell_1 rfl (lv_at hl 0 rfl) ?_
  refine lv_iload_n hx hb dX6_cell_2 rfl (lv_at hl 1 rfl) ?_
  refine lv_iload_n hx hb dX6_cell_3 rfl (lv_at hl 2 rfl) ?_
  refine lv_iload_n hx hb dX6_cell_4 rfl (lv_at hl 3 rfl) ?_
  refine rdV (rest := [.ref x]) (q0 := 0) ⟨hx, hb, hml, hown, hts⟩ (x_placeStatus l G x xa ta a b ga ua la lb lc tg gg xf tf f qf gf uf lf mf nf tr r q gr ur lr mr nr tb row col j (by omega) hjt htg hT1) mi_yX6_placeStatus mv_yX6_placeStatus ml_X6_84 ⟨rfl, rfl, Nat.le_of_ble_eq_true rfl, Nat.le_of_ble_eq_true rfl⟩ hK (hP) rfl rfl rfl hl.1 rfl (Nat.le_of_ble_eq_true rfl) dX6_cell_5 ⟨Nat.zero_le _, Nat.zero_le _⟩ hS hA hP (fun r1 H locs hr1 hP hS => ?_)
  have hr1 : (r1 = 0 → tbO tb j (tf 0) ∧ inR (tf 1) row ∧ inR (tf 2) col) := hr1
  refine wrVIa (rest := []) (q0 := 0) ⟨hx, hb, hml, hown, hts⟩ (x_settled l G x xa ta a b ga ua la lb lc tg gg xf tf f qf gf uf lf mf nf tr r q gr ur lr mr nr r1  ) mi_yX6_settled mv_yX6_settled ml_X6_65 ⟨rfl, rfl, Nat.le_of_ble_eq_true rfl, Nat.le_of_ble_eq_true rfl⟩ hK hP (hDD _ _ _ _ _ _ _ _ _ _ _ _ _ _ _ _ _) rfl rfl rfl hl.1 rfl (Nat.le_of_ble_eq_true rfl) dX6_cell_8 ⟨Nat.zero_le _, Nat.zero_le _⟩ hS hA (fun r2 w3 H locs hw3 hP hS => ?_)
  obtain ⟨x4, rfl, hw3r⟩ := hw3
  have hP : PP G (xM G x xa ta a b ga ua la lb lc tg gg (upd xf 0 x4) tf f qf gf uf lf mf nf tr r q gr ur lr mr nr) H := hP
  have hw3r : ((r2 = 1 ∧ (r1 = 0)) ∨ (r2 = 0 ∧ ¬ (r1 = 0))) := hw3r
  refine lv_if_ne (tgt := 16) hx hb dX6_cell_11 (by decide) (fun c5 => ?_) (fun c5 => ?_)
  · have b11 := bT hw3r c5
    obtain ⟨⟨ej, ho⟩, q1, q2⟩ := hr1 b11
    subst ej
    have q1c := q1
    have q2c := q2
    obtain ⟨rw, hrw, t1⟩ := hT1
    obtain ⟨cl, hcl, t2⟩ := hT2
    obtain ⟨bk, hbk, t3⟩ := hT3
    have hT1 : nL 12 (tf 1) := ⟨rw, hrw, t1⟩
    have hT2 : nL 12 (tf 2) := ⟨cl, hcl, t2⟩
    have hT3 : nL 12 (tf 3) := ⟨bk, hbk, t3⟩
    rw [t1] at q1c
    rw [t2] at q2c
    obtain ⟨i, hi, ei⟩ := inR_n (by omega) q1c
    subst ei
    obtain ⟨k, hk, ek⟩ := inR_n (by omega) q2c
    subst ek
    refine lv_iload hx hb dX6_cell_16 (lv_at hl 4 rfl) ?_
    refine lv_iload hx hb dX6_cell_18 (lv_at hl 5 rfl) ?_
    refine rdS (rest := []) ⟨hx, hb, hml, hown, hts⟩ (x_canBeTold l G x xa ta a b ga ua la lb lc tg gg (upd xf 0 x4) tf f qf gf uf lf mf nf tr r q gr ur lr mr nr kd nm  ) mi_yX6_canBeTold mst_yX6_canBeTold ml_X6_88 ⟨rfl, rfl, Nat.le_of_ble_eq_true rfl, Nat.le_of_ble_eq_true rfl⟩ hK (hP) rfl hl.1 rfl (Nat.le_of_ble_eq_true rfl) dX6_cell_20 ⟨Nat.zero_le _, Nat.zero_le _⟩ hS hA hP (fun r6 H locs hr6 hP hS => ?_)
    have hr6 : (r6 = 0 ∨ r6 = 1) := hr6
    refine lv_if_ne (tgt := 33) hx hb dX6_cell_23 (by decide) (fun c7 => ?_) (fun c7 => ?_)
    · refine lv_aload_n hx hb dX6_cell_33 rfl (lv_at hl 0 rfl) ?_
      refine va_get (D := G.1) (ci := 6) (v := .ref (xa 1)) (C := RX6) (T := TX6) (N := 10) hx hb hts inX6 hown hK.1 hP 0 rfl rfl 1 (by decide) (hts _ mf_X6_15) (fun _ h9 => h9) rfl dX6_cell_34 ?_
      refine lv_iload_n hx hb dX6_cell_37 rfl (lv_at hl 1 rfl) ?_
      refine xaldT hx hb hK hP 1 (j) (b := (ta 0)) rfl (by omega) (by decide) rfl (htg) dX6_cell_38 ?_
      refine lv_iload_n hx hb dX6_cell_39 rfl (lv_at hl 2 rfl) ?_
      refine lv_iload_n hx hb dX6_cell_40 rfl (lv_at hl 3 rfl) ?_
      refine rdS (rest := [.ref (ta 0)]) ⟨hx, hb, hml, hown, hts⟩ (c_X6_spotOf l G ((nI i)) ((nI k))) mi_yX6_spotOf mst_yX6_spotOf ml_X6_92 ⟨rfl, rfl, Nat.le_of_ble_eq_true rfl, Nat.le_of_ble_eq_true rfl⟩ hK (fun k q h => by simp at h) rfl hl.1 rfl (Nat.le_of_ble_eq_true rfl) dX6_cell_41 ⟨Nat.zero_le _, Nat.zero_le _⟩ hS hA hP (fun r8 H locs hr8 hP hS => ?_)
      obtain rfl : r8 = nI (i * 12 + k) := spot_eq hr8
      refine lv_iload hx hb dX6_cell_44 (lv_at hl 4 rfl) ?_
      have j55_9 : ∀ (z9 : Int32) (H : Heap) (locs : List Loc) (ls : Array Slot), PP G (xM G x xa ta a b ga ua la lb lc tg gg (upd xf 0 x4) tf f qf gf uf lf mf nf tr r q gr ur lr mr nr) H → va_S A s.heap H locs → lv_has ls 6 [(5, .int nm)] → W p l e ({ frames := 3, cells := 0, slots := 0, locals := 69 }) s m ([.ref x, .int (nI j), .int (nI i), .int (nI k), .int kd, .int nm] : List Value).toArray below meth c H locs 0 0 (MQ below (QwI G (fun q w => ∃ (n_tr_5 : Nat → Int32) (n_tr_6 : Nat → Int32) (n_tr_7 : Nat → Int32) (n_tr_8 : Nat → Int32) (n_xf_0 : Int32), w = xM G x xa ta a b ga ua la lb lc tg gg (upd xf 0 n_xf_0) tf f qf gf uf lf mf nf (up2 (up2 (up2 (up2 tr 5 n_tr_5) 6 n_tr_6) 7 n_tr_7) 8 n_tr_8) r q gr ur lr mr nr ∧ (q = 0 ∨ q = 1)) A) ([.ref x, .int (nI j), .int (nI i), .int (nI k), .int kd, .int nm] : List Value).toArray s 0 0 A) (F0 m 55 ls [.int z9, .int (nI (i * 12 + k)), .ref (ta 0)]) := by
        intro z9  H locs ls hP hS hl
        refine lv_iload hx hb dX6_cell_55 (lv_at hl 0 rfl) ?_
        refine wrVV (rest := []) (q0 := 0) ⟨hx, hb, hml, hown, hts⟩ (c_X4_put l G ta tf tr (i * 12 + k) z9 nm (by omega)) mi_yX4_put mv_yX4_put ml_X6_96 ⟨rfl, rfl, Nat.le_of_ble_eq_true rfl, Nat.le_of_ble_eq_true rfl⟩ hK hP (hDD _ _ _ _ _ _ _ _ _ _ _ _ _ _ _ _ _) [2, 4, 5, 6, 7] rfl (by decide) rfl rfl rfl hl.1 rfl (Nat.le_of_ble_eq_true rfl) dX6_cell_57 ⟨Nat.zero_le _, Nat.zero_le _⟩ hS hA (fun w11 H locs hw11 hP hS => ?_)
        obtain rfl := hw11
        have hP : PP G (xM G x xa ta a b ga ua la lb lc tg gg (upd xf 0 x4) tf f qf gf uf lf mf nf (up2 (up2 (up2 (up2 tr 5 (upd (tr 5) ((i * 12 + k)) z9)) 6 (upd (tr 6) ((i * 12 + k)) nm)) 7 (upd (tr 7) ((i * 12 + k)) 0)) 8 (rgF (tr 8) 0 ((i * 12 + k) * 6) 6)) r q gr ur lr mr nr) H := hP rfl
        refine lv_iconst (v := 1) hx hb dX6_cell_60 (by decide) ?_
        exact wr_zret hx hb hr hlocks (Or.inr rfl) hS hP ⟨(upd (tr 5) ((i * 12 + k)) z9), (upd (tr 6) ((i * 12 + k)) nm), (upd (tr 7) ((i * 12 + k)) 0), (rgF (tr 8) 0 ((i * 12 + k) * 6) 6), x4, rfl, (Or.inr rfl)⟩ dX6_cell_61
      refine lv_if_ne (tgt := 53) hx hb dX6_cell_46 (by decide) (fun c12 => ?_) (fun c12 => ?_)
      · refine lv_iload hx hb dX6_cell_53 (lv_at hl 4 rfl) ?_
        exact j55_9 kd _ _ _ hP hS (lv_sub hl [5] rfl)
      · refine lv_iconst (v := 5) hx hb dX6_cell_49 (by decide) ?_
        refine lv_goto (tgt := 55) hx hb dX6_cell_50 (by decide) ?_
        exact j55_9 5 _ _ _ hP hS (lv_sub hl [5] rfl)
    · refine lv_aload_n hx hb dX6_cell_26 rfl (lv_at hl 0 rfl) ?_
      refine lv_bipush (v := 7) hx hb dX6_cell_27 (by decide) ?_
      refine wrVIa (rest := []) (q0 := 0) ⟨hx, hb, hml, hown, hts⟩ (x_settled l G x xa ta a b ga ua la lb lc tg gg (upd xf 0 x4) tf f qf gf uf lf mf nf tr r q gr ur lr mr nr 7  ) mi_yX6_settled mv_yX6_settled ml_X6_65 ⟨rfl, rfl, Nat.le_of_ble_eq_true rfl, Nat.le_of_ble_eq_true rfl⟩ hK hP (hDD _ _ _ _ _ _ _ _ _ _ _ _ _ _ _ _ _) rfl rfl rfl hl.1 rfl (Nat.le_of_ble_eq_true rfl) dX6_cell_29 ⟨Nat.zero_le _, Nat.zero_le _⟩ hS hA (fun r13 w14 H locs hw14 hP hS => ?_)
      obtain ⟨x15, rfl, hw14r⟩ := hw14
      have hP : PP G (xM G x xa ta a b ga ua la lb lc tg gg (upd xf 0 x15) tf f qf gf uf lf mf nf tr r q gr ur lr mr nr) H := hP
      have hw14r : ((r13 = 1 ∧ (7 = 0)) ∨ (r13 = 0 ∧ ¬ (7 = 0))) := hw14r
      exact wr_zret hx hb hr hlocks ((hw14r.elim (fun q9 => Or.inr q9.1) (fun q9 => Or.inl q9.1))) hS hP ⟨(tr 5), (tr 6), (tr 7), (tr 8), x15, rfl, ((hw14r.elim (fun q9 => Or.inr q9.1) (fun q9 => Or.inl q9.1)))⟩ dX6_cell_32
  · have b11 := bF hw3r c5
    refine lv_iconst (v := 0) hx hb dX6_cell_14 (by decide) ?_
    exact wr_zret hx hb hr hlocks (Or.inl rfl) hS hP ⟨(tr 5), (tr 6), (tr 7), (tr 8), x4, rfl, (Or.inl rfl)⟩ dX6_cell_15
set_option maxHeartbeats 4000000 in
set_option maxRecDepth 100000 in
theorem x_giver (l : Launch) (G : GG) (x : Nat) (xa ta a b ga ua la lb lc : Nat → Nat) (tg gg : Nat → Option Nat) (xf tf f qf gf uf lf mf nf : Nat → Int32) (tr r q gr ur lr mr nr : Nat → Nat → Int32) (tb : Int32) (row : Int32) (col : Int32) (pv : Int32) (j : Nat) (hj : j < 6) (hjt : tbJ tb j) (htg : tg j = some (ta 0)) (hT1 : nL 12 (tf 1)) (hT2 : nL 12 (tf 2)) (hT3 : nL 12 (tf 3)) (hT4 : nOK 12 12 (tr 4)) : WrI l yX6_giver cX6_giver 5 (some .boolean) ({ frames := 5, cells := 0, slots := 0, locals := 117 }) G (xM G x xa ta a b ga ua la lb lc tg gg xf tf f qf gf uf lf mf nf tr r q gr ur lr mr nr) [.ref x, .int tb, .int row, .int col, .int pv] (fun q w => ∃ (n_tr_6 : Nat → Int32) (n_tr_8 : Nat → Int32) (n_xf_0 : Int32), w = xM G x xa ta a b ga ua la lb lc tg gg (upd xf 0 n_xf_0) tf f qf gf uf lf mf nf (up2 (up2 tr 6 n_tr_6) 8 n_tr_8) r q gr ur lr mr nr ∧ (q = 0 ∨ q = 1)) := by
  refine wr_entryI (by decide +kernel) (Nat.le_of_ble_eq_true rfl) ?_
  intro p e s m below meth c A C0 hP hK hD hA ls hl
  have hS : va_S A s.heap s.heap [] := va_S.rf
  obtain ⟨hx, hb, hml, hown, hts, hr, hlocks, hin⟩ := C0
  have hown : s.vm.findClass RX6 = some m.cls := hown
  have hDD : ∀ xf' tf' f' qf' gf' uf' lf' mf' nf' tr' r' q' gr' ur' lr' mr' nr', va_D A (xM G x xa ta a b ga ua la lb lc tg gg xf' tf' f' qf' gf' uf' lf' mf' nf' tr' r' q' gr' ur' lr' mr' nr') := fun xf' tf' f' qf' gf' uf' lf' mf' nf' tr' r' q' gr' ur' lr' mr' nr' => D_same hD rfl
  have hl : lv_has ls 5 [(0, .ref x), (1, .int tb), (2, .int row), (3, .int col), (4, .int pv)] := hl
  refine lv_aload_n hx hb dX6_giver_0 rfl (lv_at hl 0 rfl) ?_
  refine lv_aload_n hx hb dX6_giver_1 rfl (lv_at hl 0 rfl) ?_
  refine lv_iload_n hx hb dX6_giver_2 rfl (lv_at hl 1 rfl) ?_
  refine lv_iload_n hx hb dX6_giver_3 rfl (lv_at hl 2 rfl) ?_
  refine lv_iload_n hx hb dX6_giver_4 rfl (lv_at hl 3 rfl) ?_
  refine rdV (rest := [.ref x]) (q0 := 0) ⟨hx, hb, hml, hown, hts⟩ (x_amountStatus l G x xa ta a b ga ua la lb lc tg gg xf tf f qf gf uf lf mf nf tr r q gr ur lr mr nr tb row col j (by omega) hjt htg hT1 hT2 hT3) mi_yX6_amountStatus mv_yX6_amountStatus ml_X6_100 ⟨rfl, rfl, Nat.le_of_ble_eq_true rfl, Nat.le_of_ble_eq_true rfl⟩ hK (hP) rfl rfl rfl hl.1 rfl (Nat.le_of_ble_eq_true rfl) dX6_giver_5 ⟨Nat.zero_le _, Nat.zero_le _⟩ hS hA hP (fun r1 H locs hr1 hP hS => ?_)
  have hr1 : (r1 = 0 → tbO tb j (tf 0) ∧ inR (tf 1) row ∧ inR (tf 2) col) := hr1
  refine wrVIa (rest := []) (q0 := 0) ⟨hx, hb, hml, hown, hts⟩ (x_settled l G x xa ta a b ga ua la lb lc tg gg xf tf f qf gf uf lf mf nf tr r q gr ur lr mr nr r1  ) mi_yX6_settled mv_yX6_settled ml_X6_65 ⟨rfl, rfl, Nat.le_of_ble_eq_true rfl, Nat.le_of_ble_eq_true rfl⟩ hK hP (hDD _ _ _ _ _ _ _ _ _ _ _ _ _ _ _ _ _) rfl rfl rfl hl.1 rfl (Nat.le_of_ble_eq_true rfl) dX6_giver_8 ⟨Nat.zero_le _, Nat.zero_le _⟩ hS hA (fun r2 w3 H locs hw3 hP hS => ?_)
  obtain ⟨x4, rfl, hw3r⟩ := hw3
  have hP : PP G (xM G x xa ta a b ga ua la lb lc tg gg (upd xf 0 x4) tf f qf gf uf lf mf nf tr r q gr ur lr mr nr) H := hP
  have hw3r : ((r2 = 1 ∧ (r1 = 0)) ∨ (r2 = 0 ∧ ¬ (r1 = 0))) := hw3r
  refine lv_if_ne (tgt := 16) hx hb dX6_giver_11 (by decide) (fun c5 => ?_) (fun c5 => ?_)
  · have b11 := bT hw3r c5
    obtain ⟨⟨ej, ho⟩, q1, q2⟩ := hr1 b11
    subst ej
    have q1c := q1
    have q2c := q2
    obtain ⟨rw, hrw, t1⟩ := hT1
    obtain ⟨cl, hcl, t2⟩ := hT2
    obtain ⟨bk, hbk, t3⟩ := hT3
    have hT1 : nL 12 (tf 1) := ⟨rw, hrw, t1⟩
    have hT2 : nL 12 (tf 2) := ⟨cl, hcl, t2⟩
    have hT3 : nL 12 (tf 3) := ⟨bk, hbk, t3⟩
    rw [t1] at q1c
    rw [t2] at q2c
    obtain ⟨i, hi, ei⟩ := inR_n (by omega) q1c
    subst ei
    obtain ⟨k, hk, ek⟩ := inR_n (by omega) q2c
    subst ek
    refine lv_iload hx hb dX6_giver_16 (lv_at hl 4 rfl) ?_
    refine lv_iconst (v := 1) hx hb dX6_giver_18 (by decide) ?_
    refine lv_icmp_lt (tgt := 29) hx hb dX6_giver_19 (by decide) (fun c6 => ?_) (fun c6 => ?_)
    · refine lv_aload_n hx hb dX6_giver_29 rfl (lv_at hl 0 rfl) ?_
      refine lv_bipush (v := 7) hx hb dX6_giver_30 (by decide) ?_
      refine wrVIa (rest := []) (q0 := 0) ⟨hx, hb, hml, hown, hts⟩ (x_settled l G x xa ta a b ga ua la lb lc tg gg (upd xf 0 x4) tf f qf gf uf lf mf nf tr r q gr ur lr mr nr 7  ) mi_yX6_settled mv_yX6_settled ml_X6_65 ⟨rfl, rfl, Nat.le_of_ble_eq_true rfl, Nat.le_of_ble_eq_true rfl⟩ hK hP (hDD _ _ _ _ _ _ _ _ _ _ _ _ _ _ _ _ _) rfl rfl rfl hl.1 rfl (Nat.le_of_ble_eq_true rfl) dX6_giver_32 ⟨Nat.zero_le _, Nat.zero_le _⟩ hS hA (fun r7 w8 H locs hw8 hP hS => ?_)
      obtain ⟨x9, rfl, hw8r⟩ := hw8
      have hP : PP G (xM G x xa ta a b ga ua la lb lc tg gg (upd xf 0 x9) tf f qf gf uf lf mf nf tr r q gr ur lr mr nr) H := hP
      have hw8r : ((r7 = 1 ∧ (7 = 0)) ∨ (r7 = 0 ∧ ¬ (7 = 0))) := hw8r
      exact wr_zret hx hb hr hlocks ((hw8r.elim (fun q9 => Or.inr q9.1) (fun q9 => Or.inl q9.1))) hS hP ⟨(tr 6), (tr 8), x9, rfl, ((hw8r.elim (fun q9 => Or.inr q9.1) (fun q9 => Or.inl q9.1)))⟩ dX6_giver_35
    · refine lv_iload hx hb dX6_giver_22 (lv_at hl 4 rfl) ?_
      refine lv_ldc hx hb hown (hts _ mk_X6_103) dX6_giver_24 ?_
      refine lv_icmp_le (tgt := 36) hx hb dX6_giver_26 (by decide) (fun c10 => ?_) (fun c10 => ?_)
      · refine lv_aload_n hx hb dX6_giver_36 rfl (lv_at hl 0 rfl) ?_
        refine lv_aload_n hx hb dX6_giver_37 rfl (lv_at hl 0 rfl) ?_
        refine va_get (D := G.1) (ci := 6) (v := .ref (xa 1)) (C := RX6) (T := TX6) (N := 10) hx hb hts inX6 hown hK.1 hP 0 rfl rfl 1 (by decide) (hts _ mf_X6_15) (fun _ h9 => h9) rfl dX6_giver_38 ?_
        refine lv_iload_n hx hb dX6_giver_41 rfl (lv_at hl 1 rfl) ?_
        refine xaldT hx hb hK hP 1 (j) (b := (ta 0)) rfl (by omega) (by decide) rfl (htg) dX6_giver_42 ?_
        refine lv_iload_n hx hb dX6_giver_43 rfl (lv_at hl 2 rfl) ?_
        refine lv_iload_n hx hb dX6_giver_44 rfl (lv_at hl 3 rfl) ?_
        refine rdS (rest := [.ref (ta 0), .ref x]) ⟨hx, hb, hml, hown, hts⟩ (c_X6_spotOf l G ((nI i)) ((nI k))) mi_yX6_spotOf mst_yX6_spotOf ml_X6_92 ⟨rfl, rfl, Nat.le_of_ble_eq_true rfl, Nat.le_of_ble_eq_true rfl⟩ hK (fun k q h => by simp at h) rfl hl.1 rfl (Nat.le_of_ble_eq_true rfl) dX6_giver_45 ⟨Nat.zero_le _, Nat.zero_le _⟩ hS hA hP (fun r11 H locs hr11 hP hS => ?_)
        obtain rfl : r11 = nI (i * 12 + k) := spot_eq hr11
        refine lv_iload hx hb dX6_giver_48 (lv_at hl 4 rfl) ?_
        refine wrVI (rest := [.ref x]) (q0 := 0) ⟨hx, hb, hml, hown, hts⟩ (c_X4_addGiver l G ta tf tr (i * 12 + k) pv (by omega)) mi_yX4_addGiver mv_yX4_addGiver ml_X6_104 ⟨rfl, rfl, Nat.le_of_ble_eq_true rfl, Nat.le_of_ble_eq_true rfl⟩ hK hP (hDD _ _ _ _ _ _ _ _ _ _ _ _ _ _ _ _ _) [2, 3, 4, 5, 6, 7, 8, 9, 10] rfl (by decide) rfl rfl rfl hl.1 rfl (Nat.le_of_ble_eq_true rfl) dX6_giver_50 ⟨Nat.zero_le _, Nat.zero_le _⟩ hS hA (fun r14 w15 H locs hw15 hP hS => ?_)
        obtain ⟨x12, x13, rfl⟩ := ag_post rfl hw15
        have hP : PP G (xM G x xa ta a b ga ua la lb lc tg gg (upd xf 0 x4) tf f qf gf uf lf mf nf (up2 (up2 tr 6 x12) 8 x13) r q gr ur lr mr nr) H := hP rfl
        have j62_16 : ∀ (z16 : Nat) (gz16 : z16 = 0 ∨ z16 = 8) (H : Heap) (locs : List Loc) (ls : Array Slot), PP G (xM G x xa ta a b ga ua la lb lc tg gg (upd xf 0 x4) tf f qf gf uf lf mf nf (up2 (up2 tr 6 x12) 8 x13) r q gr ur lr mr nr) H → va_S A s.heap H locs → lv_has ls 5 [] → W p l e ({ frames := 5, cells := 0, slots := 0, locals := 117 }) s m ([.ref x, .int (nI j), .int (nI i), .int (nI k), .int pv] : List Value).toArray below meth c H locs 0 0 (MQ below (QwI G (fun q w => ∃ (n_tr_6 : Nat → Int32) (n_tr_8 : Nat → Int32) (n_xf_0 : Int32), w = xM G x xa ta a b ga ua la lb lc tg gg (upd xf 0 n_xf_0) tf f qf gf uf lf mf nf (up2 (up2 tr 6 n_tr_6) 8 n_tr_8) r q gr ur lr mr nr ∧ (q = 0 ∨ q = 1)) A) ([.ref x, .int (nI j), .int (nI i), .int (nI k), .int pv] : List Value).toArray s 0 0 A) (F0 m 62 ls [.int (nI z16), .ref x]) := by
          intro z16 gz16 H locs ls hP hS hl
          refine wrVIa (rest := []) (q0 := 0) ⟨hx, hb, hml, hown, hts⟩ (x_settled l G x xa ta a b ga ua la lb lc tg gg (upd xf 0 x4) tf f qf gf uf lf mf nf (up2 (up2 tr 6 x12) 8 x13) r q gr ur lr mr nr (nI z16)  ) mi_yX6_settled mv_yX6_settled ml_X6_65 ⟨rfl, rfl, Nat.le_of_ble_eq_true rfl, Nat.le_of_ble_eq_true rfl⟩ hK hP (hDD _ _ _ _ _ _ _ _ _ _ _ _ _ _ _ _ _) rfl rfl rfl hl.1 rfl (Nat.le_of_ble_eq_true rfl) dX6_giver_62 ⟨Nat.zero_le _, Nat.zero_le _⟩ hS hA (fun r17 w18 H locs hw18 hP hS => ?_)
          obtain ⟨x19, rfl, hw18r⟩ := hw18
          have hP : PP G (xM G x xa ta a b ga ua la lb lc tg gg (upd xf 0 x19) tf f qf gf uf lf mf nf (up2 (up2 tr 6 x12) 8 x13) r q gr ur lr mr nr) H := hP
          have hw18r : ((r17 = 1 ∧ ((nI z16) = 0)) ∨ (r17 = 0 ∧ ¬ ((nI z16) = 0))) := hw18r
          exact wr_zret hx hb hr hlocks ((hw18r.elim (fun q9 => Or.inr q9.1) (fun q9 => Or.inl q9.1))) hS hP ⟨x12, x13, x19, rfl, ((hw18r.elim (fun q9 => Or.inr q9.1) (fun q9 => Or.inl q9.1)))⟩ dX6_giver_65
        refine lv_if_eq (tgt := 60) hx hb dX6_giver_53 (by decide) (fun c20 => ?_) (fun c20 => ?_)
        · refine lv_bipush (v := 8) hx hb dX6_giver_60 (by decide) ?_
          exact j62_16 8 (by omega) _ _ _ hP hS (lv_sub hl [] rfl)
        · refine lv_iconst (v := 0) hx hb dX6_giver_56 (by decide) ?_
          refine lv_goto (tgt := 62) hx hb dX6_giver_57 (by decide) ?_
          exact j62_16 0 (by omega) _ _ _ hP hS (lv_sub hl [] rfl)
      · refine lv_aload_n hx hb dX6_giver_29 rfl (lv_at hl 0 rfl) ?_
        refine lv_bipush (v := 7) hx hb dX6_giver_30 (by decide) ?_
        refine wrVIa (rest := []) (q0 := 0) ⟨hx, hb, hml, hown, hts⟩ (x_settled l G x xa ta a b ga ua la lb lc tg gg (upd xf 0 x4) tf f qf gf uf lf mf nf tr r q gr ur lr mr nr 7  ) mi_yX6_settled mv_yX6_settled ml_X6_65 ⟨rfl, rfl, Nat.le_of_ble_eq_true rfl, Nat.le_of_ble_eq_true rfl⟩ hK hP (hDD _ _ _ _ _ _ _ _ _ _ _ _ _ _ _ _ _) rfl rfl rfl hl.1 rfl (Nat.le_of_ble_eq_true rfl) dX6_giver_32 ⟨Nat.zero_le _, Nat.zero_le _⟩ hS hA (fun r21 w22 H locs hw22 hP hS => ?_)
        obtain ⟨x23, rfl, hw22r⟩ := hw22
        have hP : PP G (xM G x xa ta a b ga ua la lb lc tg gg (upd xf 0 x23) tf f qf gf uf lf mf nf tr r q gr ur lr mr nr) H := hP
        have hw22r : ((r21 = 1 ∧ (7 = 0)) ∨ (r21 = 0 ∧ ¬ (7 = 0))) := hw22r
        exact wr_zret hx hb hr hlocks ((hw22r.elim (fun q9 => Or.inr q9.1) (fun q9 => Or.inl q9.1))) hS hP ⟨(tr 6), (tr 8), x23, rfl, ((hw22r.elim (fun q9 => Or.inr q9.1) (fun q9 => Or.inl q9.1)))⟩ dX6_giver_35
  · have b11 := bF hw3r c5
    refine lv_iconst (v := 0) hx hb dX6_giver_14 (by decide) ?_
    exact wr_zret hx hb hr hlocks (Or.inl rfl) hS hP ⟨(tr 6), (tr 8), x4, rfl, (Or.inl rfl)⟩ dX6_giver_15
set_option maxHeartbeats 4000000 in
set_option maxRecDepth 100000 in
theorem x_clear (l : Launch) (G : GG) (x : Nat) (xa ta a b ga ua la lb lc : Nat → Nat) (tg gg : Nat → Option Nat) (xf tf f qf gf uf lf mf nf : Nat → Int32) (tr r q gr ur lr mr nr : Nat → Nat → Int32) (tb : Int32) (row : Int32) (col : Int32) (j : Nat) (hj : j < 6) (hjt : tbJ tb j) (htg : tg j = some (ta 0)) (hT1 : nL 12 (tf 1)) (hT2 : nL 12 (tf 2)) (hT3 : nL 12 (tf 3)) (hT4 : nOK 12 12 (tr 4)) : WrI l yX6_clear cX6_clear 4 (some .boolean) ({ frames := 4, cells := 0, slots := 0, locals := 93 }) G (xM G x xa ta a b ga ua la lb lc tg gg xf tf f qf gf uf lf mf nf tr r q gr ur lr mr nr) [.ref x, .int tb, .int row, .int col] (fun q w => ∃ (n_tr_5 : Nat → Int32) (n_tr_6 : Nat → Int32) (n_tr_7 : Nat → Int32) (n_tr_8 : Nat → Int32) (n_xf_0 : Int32), w = xM G x xa ta a b ga ua la lb lc tg gg (upd xf 0 n_xf_0) tf f qf gf uf lf mf nf (up2 (up2 (up2 (up2 tr 5 n_tr_5) 6 n_tr_6) 7 n_tr_7) 8 n_tr_8) r q gr ur lr mr nr ∧ (q = 0 ∨ q = 1)) := by
  refine wr_entryI (by decide +kernel) (Nat.le_of_ble_eq_true rfl) ?_
  intro p e s m below meth c A C0 hP hK hD hA ls hl
  have hS : va_S A s.heap s.heap [] := va_S.rf
  obtain ⟨hx, hb, hml, hown, hts, hr, hlocks, hin⟩ := C0
  have hown : s.vm.findClass RX6 = some m.cls := hown
  have hDD : ∀ xf' tf' f' qf' gf' uf' lf' mf' nf' tr' r' q' gr' ur' lr' mr' nr', va_D A (xM G x xa ta a b ga ua la lb lc tg gg xf' tf' f' qf' gf' uf' lf' mf' nf' tr' r' q' gr' ur' lr' mr' nr') := fun xf' tf' f' qf' gf' uf' lf' mf' nf' tr' r' q' gr' ur' lr' mr' nr' => D_same hD rfl
  have hl : lv_has ls 4 [(0, .ref x), (1, .int tb), (2, .int row), (3, .int col)] := hl
  refine lv_aload_n hx hb dX6_clear_0 rfl (lv_at hl 0 rfl) ?_
  refine lv_aload_n hx hb dX6_clear_1 rfl (lv_at hl 0 rfl) ?_
  refine lv_iload_n hx hb dX6_clear_2 rfl (lv_at hl 1 rfl) ?_
  refine lv_iload_n hx hb dX6_clear_3 rfl (lv_at hl 2 rfl) ?_
  refine lv_iload_n hx hb dX6_clear_4 rfl (lv_at hl 3 rfl) ?_
  refine rdV (rest := [.ref x]) (q0 := 0) ⟨hx, hb, hml, hown, hts⟩ (x_filledStatus l G x xa ta a b ga ua la lb lc tg gg xf tf f qf gf uf lf mf nf tr r q gr ur lr mr nr tb row col j (by omega) hjt htg hT1 hT2 hT3) mi_yX6_filledStatus mv_yX6_filledStatus ml_X6_107 ⟨rfl, rfl, Nat.le_of_ble_eq_true rfl, Nat.le_of_ble_eq_true rfl⟩ hK (hP) rfl rfl rfl hl.1 rfl (Nat.le_of_ble_eq_true rfl) dX6_clear_5 ⟨Nat.zero_le _, Nat.zero_le _⟩ hS hA hP (fun r1 H locs hr1 hP hS => ?_)
  have hr1 : (r1 = 0 → tbO tb j (tf 0) ∧ inR (tf 1) row ∧ inR (tf 2) col) := hr1
  refine wrVIa (rest := []) (q0 := 0) ⟨hx, hb, hml, hown, hts⟩ (x_settled l G x xa ta a b ga ua la lb lc tg gg xf tf f qf gf uf lf mf nf tr r q gr ur lr mr nr r1  ) mi_yX6_settled mv_yX6_settled ml_X6_65 ⟨rfl, rfl, Nat.le_of_ble_eq_true rfl, Nat.le_of_ble_eq_true rfl⟩ hK hP (hDD _ _ _ _ _ _ _ _ _ _ _ _ _ _ _ _ _) rfl rfl rfl hl.1 rfl (Nat.le_of_ble_eq_true rfl) dX6_clear_8 ⟨Nat.zero_le _, Nat.zero_le _⟩ hS hA (fun r2 w3 H locs hw3 hP hS => ?_)
  obtain ⟨x4, rfl, hw3r⟩ := hw3
  have hP : PP G (xM G x xa ta a b ga ua la lb lc tg gg (upd xf 0 x4) tf f qf gf uf lf mf nf tr r q gr ur lr mr nr) H := hP
  have hw3r : ((r2 = 1 ∧ (r1 = 0)) ∨ (r2 = 0 ∧ ¬ (r1 = 0))) := hw3r
  refine lv_if_ne (tgt := 16) hx hb dX6_clear_11 (by decide) (fun c5 => ?_) (fun c5 => ?_)
  · have b11 := bT hw3r c5
    obtain ⟨⟨ej, ho⟩, q1, q2⟩ := hr1 b11
    subst ej
    have q1c := q1
    have q2c := q2
    obtain ⟨rw, hrw, t1⟩ := hT1
    obtain ⟨cl, hcl, t2⟩ := hT2
    obtain ⟨bk, hbk, t3⟩ := hT3
    have hT1 : nL 12 (tf 1) := ⟨rw, hrw, t1⟩
    have hT2 : nL 12 (tf 2) := ⟨cl, hcl, t2⟩
    have hT3 : nL 12 (tf 3) := ⟨bk, hbk, t3⟩
    rw [t1] at q1c
    rw [t2] at q2c
    obtain ⟨i, hi, ei⟩ := inR_n (by omega) q1c
    subst ei
    obtain ⟨k, hk, ek⟩ := inR_n (by omega) q2c
    subst ek
    refine lv_aload_n hx hb dX6_clear_16 rfl (lv_at hl 0 rfl) ?_
    refine va_get (D := G.1) (ci := 6) (v := .ref (xa 1)) (C := RX6) (T := TX6) (N := 10) hx hb hts inX6 hown hK.1 hP 0 rfl rfl 1 (by decide) (hts _ mf_X6_15) (fun _ h9 => h9) rfl dX6_clear_17 ?_
    refine lv_iload_n hx hb dX6_clear_20 rfl (lv_at hl 1 rfl) ?_
    refine xaldT hx hb hK hP 1 (j) (b := (ta 0)) rfl (by omega) (by decide) rfl (htg) dX6_clear_21 ?_
    refine lv_iload_n hx hb dX6_clear_22 rfl (lv_at hl 2 rfl) ?_
    refine lv_iload_n hx hb dX6_clear_23 rfl (lv_at hl 3 rfl) ?_
    refine rdS (rest := [.ref (ta 0)]) ⟨hx, hb, hml, hown, hts⟩ (c_X6_spotOf l G ((nI i)) ((nI k))) mi_yX6_spotOf mst_yX6_spotOf ml_X6_92 ⟨rfl, rfl, Nat.le_of_ble_eq_true rfl, Nat.le_of_ble_eq_true rfl⟩ hK (fun k q h => by simp at h) rfl hl.1 rfl (Nat.le_of_ble_eq_true rfl) dX6_clear_24 ⟨Nat.zero_le _, Nat.zero_le _⟩ hS hA hP (fun r6 H locs hr6 hP hS => ?_)
    obtain rfl : r6 = nI (i * 12 + k) := spot_eq hr6
    refine lv_iconst (v := 0) hx hb dX6_clear_27 (by decide) ?_
    refine lv_iconst (v := 0) hx hb dX6_clear_28 (by decide) ?_
    refine wrVV (rest := []) (q0 := 0) ⟨hx, hb, hml, hown, hts⟩ (c_X4_put l G ta tf tr (i * 12 + k) 0 0 (by omega)) mi_yX4_put mv_yX4_put ml_X6_96 ⟨rfl, rfl, Nat.le_of_ble_eq_true rfl, Nat.le_of_ble_eq_true rfl⟩ hK hP (hDD _ _ _ _ _ _ _ _ _ _ _ _ _ _ _ _ _) [2, 4, 5, 6, 7] rfl (by decide) rfl rfl rfl hl.1 rfl (Nat.le_of_ble_eq_true rfl) dX6_clear_29 ⟨Nat.zero_le _, Nat.zero_le _⟩ hS hA (fun w8 H locs hw8 hP hS => ?_)
    obtain rfl := hw8
    have hP : PP G (xM G x xa ta a b ga ua la lb lc tg gg (upd xf 0 x4) tf f qf gf uf lf mf nf (up2 (up2 (up2 (up2 tr 5 (upd (tr 5) ((i * 12 + k)) 0)) 6 (upd (tr 6) ((i * 12 + k)) 0)) 7 (upd (tr 7) ((i * 12 + k)) 0)) 8 (rgF (tr 8) 0 ((i * 12 + k) * 6) 6)) r q gr ur lr mr nr) H := hP rfl
    refine lv_iconst (v := 1) hx hb dX6_clear_32 (by decide) ?_
    exact wr_zret hx hb hr hlocks (Or.inr rfl) hS hP ⟨(upd (tr 5) ((i * 12 + k)) 0), (upd (tr 6) ((i * 12 + k)) 0), (upd (tr 7) ((i * 12 + k)) 0), (rgF (tr 8) 0 ((i * 12 + k) * 6) 6), x4, rfl, (Or.inr rfl)⟩ dX6_clear_33
  · have b11 := bF hw3r c5
    refine lv_iconst (v := 0) hx hb dX6_clear_14 (by decide) ?_
    exact wr_zret hx hb hr hlocks (Or.inl rfl) hS hP ⟨(tr 5), (tr 6), (tr 7), (tr 8), x4, rfl, (Or.inl rfl)⟩ dX6_clear_15
set_option maxHeartbeats 4000000 in
set_option maxRecDepth 100000 in
theorem x_tear (l : Launch) (G : GG) (x : Nat) (xa ta a b ga ua la lb lc : Nat → Nat) (tg gg : Nat → Option Nat) (xf tf f qf gf uf lf mf nf : Nat → Int32) (tr r q gr ur lr mr nr : Nat → Nat → Int32) (tb : Int32) (row : Int32) (np : Int32) (j : Nat) (hj : j < 6) (hjt : tbJ tb j) (htg : tg j = some (ta 0)) (hT1 : nL 12 (tf 1)) (hT2 : nL 12 (tf 2)) (hT3 : nL 12 (tf 3)) (hT4 : nOK 12 12 (tr 4)) : WrI l yX6_tear cX6_tear 5 (some .boolean) ({ frames := 2, cells := 0, slots := 0, locals := 47 }) G (xM G x xa ta a b ga ua la lb lc tg gg xf tf f qf gf uf lf mf nf tr r q gr ur lr mr nr) [.ref x, .int tb, .int row, .int np] (fun q w => ∃ (n_tr_4 : Nat → Int32) (n_tr_5 : Nat → Int32) (n_tr_6 : Nat → Int32) (n_tr_7 : Nat → Int32) (n_tr_8 : Nat → Int32) (n_xf_0 : Int32), w = xM G x xa ta a b ga ua la lb lc tg gg (upd xf 0 n_xf_0) tf f qf gf uf lf mf nf (up2 (up2 (up2 (up2 (up2 tr 4 n_tr_4) 5 n_tr_5) 6 n_tr_6) 7 n_tr_7) 8 n_tr_8) r q gr ur lr mr nr ∧ (q = 0 ∨ q = 1) ∧ (nOK 12 12 n_tr_4)) := by
  refine wr_entryI (by decide +kernel) (Nat.le_of_ble_eq_true rfl) ?_
  intro p e s m below meth c A C0 hP hK hD hA ls hl
  have hS : va_S A s.heap s.heap [] := va_S.rf
  obtain ⟨hx, hb, hml, hown, hts, hr, hlocks, hin⟩ := C0
  have hown : s.vm.findClass RX6 = some m.cls := hown
  have hDD : ∀ xf' tf' f' qf' gf' uf' lf' mf' nf' tr' r' q' gr' ur' lr' mr' nr', va_D A (xM G x xa ta a b ga ua la lb lc tg gg xf' tf' f' qf' gf' uf' lf' mf' nf' tr' r' q' gr' ur' lr' mr' nr') := fun xf' tf' f' qf' gf' uf' lf' mf' nf' tr' r' q' gr' ur' lr' mr' nr' => D_same hD rfl
  have hl : lv_has ls 5 [(0, .ref x), (1, .int tb), (2, .int row), (3, .int np)] := hl
  refine lv_aload_n hx hb dX6_tear_0 rfl (lv_at hl 0 rfl) ?_
  refine lv_aload_n hx hb dX6_tear_1 rfl (lv_at hl 0 rfl) ?_
  refine lv_iload_n hx hb dX6_tear_2 rfl (lv_at hl 1 rfl) ?_
  refine lv_iload_n hx hb dX6_tear_3 rfl (lv_at hl 2 rfl) ?_
  refine rdV (rest := [.ref x]) (q0 := 0) ⟨hx, hb, hml, hown, hts⟩ (x_rowStatus l G x xa ta a b ga ua la lb lc tg gg xf tf f qf gf uf lf mf nf tr r q gr ur lr mr nr tb row j (by omega) hjt htg) mi_yX6_rowStatus mv_yX6_rowStatus ml_X6_110 ⟨rfl, rfl, Nat.le_of_ble_eq_true rfl, Nat.le_of_ble_eq_true rfl⟩ hK (hP) rfl rfl rfl hl.1 rfl (Nat.le_of_ble_eq_true rfl) dX6_tear_4 ⟨Nat.zero_le _, Nat.zero_le _⟩ hS hA hP (fun r1 H locs hr1 hP hS => ?_)
  have hr1 : (r1 = 0 → tbO tb j (tf 0) ∧ inR (tf 1) row) := hr1
  refine wrVIa (rest := []) (q0 := 0) ⟨hx, hb, hml, hown, hts⟩ (x_settled l G x xa ta a b ga ua la lb lc tg gg xf tf f qf gf uf lf mf nf tr r q gr ur lr mr nr r1  ) mi_yX6_settled mv_yX6_settled ml_X6_65 ⟨rfl, rfl, Nat.le_of_ble_eq_true rfl, Nat.le_of_ble_eq_true rfl⟩ hK hP (hDD _ _ _ _ _ _ _ _ _ _ _ _ _ _ _ _ _) rfl rfl rfl hl.1 rfl (Nat.le_of_ble_eq_true rfl) dX6_tear_7 ⟨Nat.zero_le _, Nat.zero_le _⟩ hS hA (fun r2 w3 H locs hw3 hP hS => ?_)
  obtain ⟨x4, rfl, hw3r⟩ := hw3
  have hP : PP G (xM G x xa ta a b ga ua la lb lc tg gg (upd xf 0 x4) tf f qf gf uf lf mf nf tr r q gr ur lr mr nr) H := hP
  have hw3r : ((r2 = 1 ∧ (r1 = 0)) ∨ (r2 = 0 ∧ ¬ (r1 = 0))) := hw3r
  refine lv_if_ne (tgt := 15) hx hb dX6_tear_10 (by decide) (fun c5 => ?_) (fun c5 => ?_)
  · have b10 := bT hw3r c5
    obtain ⟨⟨ej, ho⟩, q1⟩ := hr1 b10
    subst ej
    have q1c := q1
    obtain ⟨rw, hrw, t1⟩ := hT1
    obtain ⟨cl, hcl, t2⟩ := hT2
    obtain ⟨bk, hbk, t3⟩ := hT3
    have hT1 : nL 12 (tf 1) := ⟨rw, hrw, t1⟩
    have hT2 : nL 12 (tf 2) := ⟨cl, hcl, t2⟩
    have hT3 : nL 12 (tf 3) := ⟨bk, hbk, t3⟩
    rw [t1] at q1c
    obtain ⟨i, hi, ei⟩ := inR_n (by omega) q1c
    subst ei
    refine lv_aload_n hx hb dX6_tear_15 rfl (lv_at hl 0 rfl) ?_
    refine va_get (D := G.1) (ci := 6) (v := .ref (xa 1)) (C := RX6) (T := TX6) (N := 10) hx hb hts inX6 hown hK.1 hP 0 rfl rfl 1 (by decide) (hts _ mf_X6_15) (fun _ h9 => h9) rfl dX6_tear_16 ?_
    refine lv_iload_n hx hb dX6_tear_19 rfl (lv_at hl 1 rfl) ?_
    refine xaldT hx hb hK hP 1 (j) (b := (ta 0)) rfl (by omega) (by decide) rfl (htg) dX6_tear_20 ?_
    refine va_get (D := G.1) (ci := 4) (v := .ref (ta 4)) (C := RX4) (T := TX4) (N := 12) hx hb hts inX4 hown hK.1 hP 2 rfl rfl 4 (by decide) (hts _ mf_X6_113) (fun _ h9 => h9) rfl dX6_tear_21 ?_
    refine lv_iload_n hx hb dX6_tear_24 rfl (lv_at hl 2 rfl) ?_
    refine xiald (f := (tr 4)) hx hb hK hP 3 (i) (rfl) (by omega) (by decide) rfl dX6_tear_25 ?_
    refine lv_topi (fun v6 ev6 => ?_)
    obtain ⟨pn, hpn, epn⟩ := hT4 i (by omega)
    obtain rfl : v6 = nI (pn) := ev6.trans (epn)
    refine lv_istore (lv' := [(4, .int (nI (pn))), (0, .ref x), (1, .int (nI j)), (2, .int (nI i)), (3, .int np)]) hx hb dX6_tear_26 hl (by decide) rfl (fun ls hl => ?_)
    refine lv_iload hx hb dX6_tear_28 (lv_at hl 0 rfl) ?_
    refine lv_if_ne (tgt := 39) hx hb dX6_tear_30 (by decide) (fun c7 => ?_) (fun c7 => ?_)
    · have b30 := qeq_f (a := (pn)) (b := 0) (by omega) (by omega) c7
      refine lv_iload_n hx hb dX6_tear_39 rfl (lv_at hl 4 rfl) ?_
      refine lv_iload hx hb dX6_tear_40 (lv_at hl 0 rfl) ?_
      refine lv_icmp_le (tgt := 51) hx hb dX6_tear_42 (by decide) (fun c8 => ?_) (fun c8 => ?_)
      · refine lv_iload_n hx hb dX6_tear_51 rfl (lv_at hl 4 rfl) ?_
        refine lv_if_ge (tgt := 62) hx hb dX6_tear_52 (by decide) (fun c9 => ?_) (fun c9 => ?_)
        · obtain ⟨n, hn, en⟩ := nI_le_n (x := np) (n := pn) (by omega) (Int32.not_lt.mpr c9) (le_n c8)
          subst en
          refine lv_aload_n hx hb dX6_tear_62 rfl (lv_at hl 1 rfl) ?_
          refine va_get (D := G.1) (ci := 6) (v := .ref (xa 1)) (C := RX6) (T := TX6) (N := 10) hx hb hts inX6 hown hK.1 hP 0 rfl rfl 1 (by decide) (hts _ mf_X6_15) (fun _ h9 => h9) rfl dX6_tear_63 ?_
          refine lv_iload_n hx hb dX6_tear_66 rfl (lv_at hl 2 rfl) ?_
          refine xaldT hx hb hK hP 1 (j) (b := (ta 0)) rfl (by omega) (by decide) rfl (htg) dX6_tear_67 ?_
          refine lv_iload_n hx hb dX6_tear_68 rfl (lv_at hl 3 rfl) ?_
          refine lv_iload_n hx hb dX6_tear_69 rfl (lv_at hl 4 rfl) ?_
          refine wrVV (rest := []) (q0 := 0) ⟨hx, hb, hml, hown, hts⟩ (c_X4_shorten l G ta tf tr i n pn (by omega) (by omega) hpn epn) mi_yX4_shorten mv_yX4_shorten ml_X6_116 ⟨rfl, rfl, Nat.le_of_ble_eq_true rfl, Nat.le_of_ble_eq_true rfl⟩ hK hP (hDD _ _ _ _ _ _ _ _ _ _ _ _ _ _ _ _ _) [2, 3, 4, 5, 6, 7, 8, 9, 10] rfl (by decide) rfl rfl rfl hl.1 rfl (Nat.le_of_ble_eq_true rfl) dX6_tear_70 ⟨Nat.zero_le _, Nat.zero_le _⟩ hS hA (fun w15 H locs hw15 hP hS => ?_)
          obtain rfl := hw15
          have hP : PP G (xM G x xa ta a b ga ua la lb lc tg gg (upd xf 0 x4) tf f qf gf uf lf mf nf (up2 (up2 (up2 (up2 (up2 tr 4 (upd (tr 4) i (nI n))) 5 (rgF (tr 5) 0 (i * 12 + n) (pn - n))) 6 (rgF (tr 6) 0 (i * 12 + n) (pn - n))) 7 (rgF (tr 7) 0 (i * 12 + n) (pn - n))) 8 (rgF (tr 8) 0 ((i * 12 + n) * 6) ((pn - n) * 6))) r q gr ur lr mr nr) H := hP rfl
          have hT4 : nOK 12 12 (upd (tr 4) i (nI n)) := nOK_u hT4 (by omega)
          refine lv_iconst (v := 1) hx hb dX6_tear_73 (by decide) ?_
          exact wr_zret hx hb hr hlocks (Or.inr rfl) hS hP ⟨(upd (tr 4) i (nI n)), (rgF (tr 5) 0 (i * 12 + n) (pn - n)), (rgF (tr 6) 0 (i * 12 + n) (pn - n)), (rgF (tr 7) 0 (i * 12 + n) (pn - n)), (rgF (tr 8) 0 ((i * 12 + n) * 6) ((pn - n) * 6)), x4, rfl, (Or.inr rfl), hT4⟩ dX6_tear_74
        · refine lv_aload_n hx hb dX6_tear_55 rfl (lv_at hl 1 rfl) ?_
          refine lv_bipush (v := 7) hx hb dX6_tear_56 (by decide) ?_
          refine wrVIa (rest := []) (q0 := 0) ⟨hx, hb, hml, hown, hts⟩ (x_settled l G x xa ta a b ga ua la lb lc tg gg (upd xf 0 x4) tf f qf gf uf lf mf nf tr r q gr ur lr mr nr 7  ) mi_yX6_settled mv_yX6_settled ml_X6_65 ⟨rfl, rfl, Nat.le_of_ble_eq_true rfl, Nat.le_of_ble_eq_true rfl⟩ hK hP (hDD _ _ _ _ _ _ _ _ _ _ _ _ _ _ _ _ _) rfl rfl rfl hl.1 rfl (Nat.le_of_ble_eq_true rfl) dX6_tear_58 ⟨Nat.zero_le _, Nat.zero_le _⟩ hS hA (fun r16 w17 H locs hw17 hP hS => ?_)
          obtain ⟨x18, rfl, hw17r⟩ := hw17
          have hP : PP G (xM G x xa ta a b ga ua la lb lc tg gg (upd xf 0 x18) tf f qf gf uf lf mf nf tr r q gr ur lr mr nr) H := hP
          have hw17r : ((r16 = 1 ∧ (7 = 0)) ∨ (r16 = 0 ∧ ¬ (7 = 0))) := hw17r
          exact wr_zret hx hb hr hlocks ((hw17r.elim (fun q9 => Or.inr q9.1) (fun q9 => Or.inl q9.1))) hS hP ⟨(tr 4), (tr 5), (tr 6), (tr 7), (tr 8), x18, rfl, ((hw17r.elim (fun q9 => Or.inr q9.1) (fun q9 => Or.inl q9.1))), hT4⟩ dX6_tear_61
      · refine lv_aload_n hx hb dX6_tear_45 rfl (lv_at hl 1 rfl) ?_
        refine lv_iconst (v := 4) hx hb dX6_tear_46 (by decide) ?_
        refine wrVIa (rest := []) (q0 := 0) ⟨hx, hb, hml, hown, hts⟩ (x_settled l G x xa ta a b ga ua la lb lc tg gg (upd xf 0 x4) tf f qf gf uf lf mf nf tr r q gr ur lr mr nr 4  ) mi_yX6_settled mv_yX6_settled ml_X6_65 ⟨rfl, rfl, Nat.le_of_ble_eq_true rfl, Nat.le_of_ble_eq_true rfl⟩ hK hP (hDD _ _ _ _ _ _ _ _ _ _ _ _ _ _ _ _ _) rfl rfl rfl hl.1 rfl (Nat.le_of_ble_eq_true rfl) dX6_tear_47 ⟨Nat.zero_le _, Nat.zero_le _⟩ hS hA (fun r19 w20 H locs hw20 hP hS => ?_)
        obtain ⟨x21, rfl, hw20r⟩ := hw20
        have hP : PP G (xM G x xa ta a b ga ua la lb lc tg gg (upd xf 0 x21) tf f qf gf uf lf mf nf tr r q gr ur lr mr nr) H := hP
        have hw20r : ((r19 = 1 ∧ (4 = 0)) ∨ (r19 = 0 ∧ ¬ (4 = 0))) := hw20r
        exact wr_zret hx hb hr hlocks ((hw20r.elim (fun q9 => Or.inr q9.1) (fun q9 => Or.inl q9.1))) hS hP ⟨(tr 4), (tr 5), (tr 6), (tr 7), (tr 8), x21, rfl, ((hw20r.elim (fun q9 => Or.inr q9.1) (fun q9 => Or.inl q9.1))), hT4⟩ dX6_tear_50
    · have b30 := qeq_t (a := (pn)) (b := 0) (by omega) (by omega) c7
      refine lv_aload_n hx hb dX6_tear_33 rfl (lv_at hl 1 rfl) ?_
      refine lv_iconst (v := 3) hx hb dX6_tear_34 (by decide) ?_
      refine wrVIa (rest := []) (q0 := 0) ⟨hx, hb, hml, hown, hts⟩ (x_settled l G x xa ta a b ga ua la lb lc tg gg (upd xf 0 x4) tf f qf gf uf lf mf nf tr r q gr ur lr mr nr 3  ) mi_yX6_settled mv_yX6_settled ml_X6_65 ⟨rfl, rfl, Nat.le_of_ble_eq_true rfl, Nat.le_of_ble_eq_true rfl⟩ hK hP (hDD _ _ _ _ _ _ _ _ _ _ _ _ _ _ _ _ _) rfl rfl rfl hl.1 rfl (Nat.le_of_ble_eq_true rfl) dX6_tear_35 ⟨Nat.zero_le _, Nat.zero_le _⟩ hS hA (fun r22 w23 H locs hw23 hP hS => ?_)
      obtain ⟨x24, rfl, hw23r⟩ := hw23
      have hP : PP G (xM G x xa ta a b ga ua la lb lc tg gg (upd xf 0 x24) tf f qf gf uf lf mf nf tr r q gr ur lr mr nr) H := hP
      have hw23r : ((r22 = 1 ∧ (3 = 0)) ∨ (r22 = 0 ∧ ¬ (3 = 0))) := hw23r
      exact wr_zret hx hb hr hlocks ((hw23r.elim (fun q9 => Or.inr q9.1) (fun q9 => Or.inl q9.1))) hS hP ⟨(tr 4), (tr 5), (tr 6), (tr 7), (tr 8), x24, rfl, ((hw23r.elim (fun q9 => Or.inr q9.1) (fun q9 => Or.inl q9.1))), hT4⟩ dX6_tear_38
  · have b10 := bF hw3r c5
    refine lv_iconst (v := 0) hx hb dX6_tear_13 (by decide) ?_
    exact wr_zret hx hb hr hlocks (Or.inl rfl) hS hP ⟨(tr 4), (tr 5), (tr 6), (tr 7), (tr 8), x4, rfl, (Or.inl rfl), hT4⟩ dX6_tear_14
set_option maxHeartbeats 4000000 in
set_option maxRecDepth 100000 in
theorem x_block (l : Launch) (G : GG) (x : Nat) (xa ta a b ga ua la lb lc : Nat → Nat) (tg gg : Nat → Option Nat) (xf tf f qf gf uf lf mf nf : Nat → Int32) (tr r q gr ur lr mr nr : Nat → Nat → Int32) (tb : Int32) (fi : Int32) (li : Int32) (j : Nat) (hj : j < 6) (hjt : tbJ tb j) (htg : tg j = some (ta 0)) (hT1 : nL 12 (tf 1)) (hT2 : nL 12 (tf 2)) (hT3 : nL 12 (tf 3)) (hT4 : nOK 12 12 (tr 4)) : WrI l yX6_block cX6_block 5 (some .int) ({ frames := 1, cells := 0, slots := 0, locals := 27 }) G (xM G x xa ta a b ga ua la lb lc tg gg xf tf f qf gf uf lf mf nf tr r q gr ur lr mr nr) [.ref x, .int tb, .int fi, .int li] (fun q w => ∃ (n_tf_3 : Int32) (n_tr_10 : Nat → Int32) (n_tr_11 : Nat → Int32) (n_xf_0 : Int32), w = xM G x xa ta a b ga ua la lb lc tg gg (upd xf 0 n_xf_0) (upd tf 3 n_tf_3) f qf gf uf lf mf nf (up2 (up2 tr 10 n_tr_10) 11 n_tr_11) r q gr ur lr mr nr ∧ (nL 12 n_tf_3)) := by
  refine wr_entryI (by decide +kernel) (Nat.le_of_ble_eq_true rfl) ?_
  intro p e s m below meth c A C0 hP hK hD hA ls hl
  have hS : va_S A s.heap s.heap [] := va_S.rf
  obtain ⟨hx, hb, hml, hown, hts, hr, hlocks, hin⟩ := C0
  have hown : s.vm.findClass RX6 = some m.cls := hown
  have hDD : ∀ xf' tf' f' qf' gf' uf' lf' mf' nf' tr' r' q' gr' ur' lr' mr' nr', va_D A (xM G x xa ta a b ga ua la lb lc tg gg xf' tf' f' qf' gf' uf' lf' mf' nf' tr' r' q' gr' ur' lr' mr' nr') := fun xf' tf' f' qf' gf' uf' lf' mf' nf' tr' r' q' gr' ur' lr' mr' nr' => D_same hD rfl
  have hl : lv_has ls 5 [(0, .ref x), (1, .int tb), (2, .int fi), (3, .int li)] := hl
  refine lv_aload_n hx hb dX6_block_0 rfl (lv_at hl 0 rfl) ?_
  refine lv_aload_n hx hb dX6_block_1 rfl (lv_at hl 0 rfl) ?_
  refine lv_iload_n hx hb dX6_block_2 rfl (lv_at hl 1 rfl) ?_
  refine rdV (rest := [.ref x]) (q0 := 0) ⟨hx, hb, hml, hown, hts⟩ (x_tableStatus l G x xa ta a b ga ua la lb lc tg gg xf tf f qf gf uf lf mf nf tr r q gr ur lr mr nr tb j (by omega) hjt htg) mi_yX6_tableStatus mv_yX6_tableStatus ml_X6_73 ⟨rfl, rfl, Nat.le_of_ble_eq_true rfl, Nat.le_of_ble_eq_true rfl⟩ hK (hP) rfl rfl rfl hl.1 rfl (Nat.le_of_ble_eq_true rfl) dX6_block_3 ⟨Nat.zero_le _, Nat.zero_le _⟩ hS hA hP (fun r1 H locs hr1 hP hS => ?_)
  have hr1 : ((r1 = 0 ∧ tbO tb j (tf 0)) ∨ (r1 = 1 ∧ ¬ tbO tb j (tf 0))) := hr1
  refine wrVIa (rest := []) (q0 := 0) ⟨hx, hb, hml, hown, hts⟩ (x_settled l G x xa ta a b ga ua la lb lc tg gg xf tf f qf gf uf lf mf nf tr r q gr ur lr mr nr r1  ) mi_yX6_settled mv_yX6_settled ml_X6_65 ⟨rfl, rfl, Nat.le_of_ble_eq_true rfl, Nat.le_of_ble_eq_true rfl⟩ hK hP (hDD _ _ _ _ _ _ _ _ _ _ _ _ _ _ _ _ _) rfl rfl rfl hl.1 rfl (Nat.le_of_ble_eq_true rfl) dX6_block_6 ⟨Nat.zero_le _, Nat.zero_le _⟩ hS hA (fun r2 w3 H locs hw3 hP hS => ?_)
  obtain ⟨x4, rfl, hw3r⟩ := hw3
  have hP : PP G (xM G x xa ta a b ga ua la lb lc tg gg (upd xf 0 x4) tf f qf gf uf lf mf nf tr r q gr ur lr mr nr) H := hP
  have hw3r : ((r2 = 1 ∧ (r1 = 0)) ∨ (r2 = 0 ∧ ¬ (r1 = 0))) := hw3r
  refine lv_if_ne (tgt := 14) hx hb dX6_block_9 (by decide) (fun c5 => ?_) (fun c5 => ?_)
  · have b9 := bT hw3r c5
    obtain ⟨ej, ho⟩ := st0 hr1 b9
    subst ej
    obtain ⟨rw, hrw, t1⟩ := hT1
    obtain ⟨cl, hcl, t2⟩ := hT2
    obtain ⟨bk, hbk, t3⟩ := hT3
    have hT1 : nL 12 (tf 1) := ⟨rw, hrw, t1⟩
    have hT2 : nL 12 (tf 2) := ⟨cl, hcl, t2⟩
    have hT3 : nL 12 (tf 3) := ⟨bk, hbk, t3⟩
    refine lv_aload_n hx hb dX6_block_14 rfl (lv_at hl 0 rfl) ?_
    refine va_get (D := G.1) (ci := 6) (v := .ref (xa 1)) (C := RX6) (T := TX6) (N := 10) hx hb hts inX6 hown hK.1 hP 0 rfl rfl 1 (by decide) (hts _ mf_X6_15) (fun _ h9 => h9) rfl dX6_block_15 ?_
    refine lv_iload_n hx hb dX6_block_18 rfl (lv_at hl 1 rfl) ?_
    refine xaldT hx hb hK hP 1 (j) (b := (ta 0)) rfl (by omega) (by decide) rfl (htg) dX6_block_19 ?_
    refine lv_astore (lv' := [(4, .ref (ta 0)), (0, .ref x), (1, .int (nI j)), (2, .int fi), (3, .int li)]) hx hb dX6_block_20 hl (by decide) rfl (fun ls hl => ?_)
    refine lv_iload_n hx hb dX6_block_22 rfl (lv_at hl 3 rfl) ?_
    refine lv_if_lt (tgt := 40) hx hb dX6_block_23 (by decide) (fun c6 => ?_) (fun c6 => ?_)
    · refine lv_aload_n hx hb dX6_block_40 rfl (lv_at hl 1 rfl) ?_
      refine lv_iconst (v := 2) hx hb dX6_block_41 (by decide) ?_
      refine wrVIa (rest := []) (q0 := 0) ⟨hx, hb, hml, hown, hts⟩ (x_refused l G x xa ta a b ga ua la lb lc tg gg (upd xf 0 x4) tf f qf gf uf lf mf nf tr r q gr ur lr mr nr 2  ) mi_yX6_refused mv_yX6_refused ml_X6_122 ⟨rfl, rfl, Nat.le_of_ble_eq_true rfl, Nat.le_of_ble_eq_true rfl⟩ hK hP (hDD _ _ _ _ _ _ _ _ _ _ _ _ _ _ _ _ _) rfl rfl rfl hl.1 rfl (Nat.le_of_ble_eq_true rfl) dX6_block_42 ⟨Nat.zero_le _, Nat.zero_le _⟩ hS hA (fun r7 w8 H locs hw8 hP hS => ?_)
      obtain ⟨x9, rfl⟩ := hw8
      have hP : PP G (xM G x xa ta a b ga ua la lb lc tg gg (upd xf 0 x9) tf f qf gf uf lf mf nf tr r q gr ur lr mr nr) H := hP
      exact wr_iret hx hb hr hlocks hS hP ⟨(tf 3), (tr 10), (tr 11), x9, rfl, hT3⟩ dX6_block_45
    · refine lv_iload_n hx hb dX6_block_26 rfl (lv_at hl 4 rfl) ?_
      refine lv_aload hx hb dX6_block_27 (lv_at hl 0 rfl) ?_
      refine va_get (D := G.1) (ci := 4) (v := .int (tf 1)) (C := RX4) (T := TX4) (N := 12) hx hb hts inX4 hown hK.1 hP 2 rfl rfl 1 (by decide) (hts _ mf_X6_119) (fun _ h9 => h9) rfl dX6_block_29 ?_
      rw [show (tf 1) = nI (rw) from t1]
      refine lv_icmp_ge (tgt := 40) hx hb dX6_block_32 (by decide) (fun c10 => ?_) (fun c10 => ?_)
      · refine lv_aload_n hx hb dX6_block_40 rfl (lv_at hl 1 rfl) ?_
        refine lv_iconst (v := 2) hx hb dX6_block_41 (by decide) ?_
        refine wrVIa (rest := []) (q0 := 0) ⟨hx, hb, hml, hown, hts⟩ (x_refused l G x xa ta a b ga ua la lb lc tg gg (upd xf 0 x4) tf f qf gf uf lf mf nf tr r q gr ur lr mr nr 2  ) mi_yX6_refused mv_yX6_refused ml_X6_122 ⟨rfl, rfl, Nat.le_of_ble_eq_true rfl, Nat.le_of_ble_eq_true rfl⟩ hK hP (hDD _ _ _ _ _ _ _ _ _ _ _ _ _ _ _ _ _) rfl rfl rfl hl.1 rfl (Nat.le_of_ble_eq_true rfl) dX6_block_42 ⟨Nat.zero_le _, Nat.zero_le _⟩ hS hA (fun r11 w12 H locs hw12 hP hS => ?_)
        obtain ⟨x13, rfl⟩ := hw12
        have hP : PP G (xM G x xa ta a b ga ua la lb lc tg gg (upd xf 0 x13) tf f qf gf uf lf mf nf tr r q gr ur lr mr nr) H := hP
        exact wr_iret hx hb hr hlocks hS hP ⟨(tf 3), (tr 10), (tr 11), x13, rfl, hT3⟩ dX6_block_45
      · refine lv_iload_n hx hb dX6_block_35 rfl (lv_at hl 4 rfl) ?_
        refine lv_iload_n hx hb dX6_block_36 rfl (lv_at hl 3 rfl) ?_
        refine lv_icmp_ge (tgt := 46) hx hb dX6_block_37 (by decide) (fun c14 => ?_) (fun c14 => ?_)
        · refine lv_aload hx hb dX6_block_46 (lv_at hl 0 rfl) ?_
          refine va_get (D := G.1) (ci := 4) (v := .int (tf 3)) (C := RX4) (T := TX4) (N := 12) hx hb hts inX4 hown hK.1 hP 2 rfl rfl 3 (by decide) (hts _ mf_X6_125) (fun _ h9 => h9) rfl dX6_block_48 ?_
          rw [show (tf 3) = nI (bk) from t3]
          refine lv_bipush (v := 12) hx hb dX6_block_51 (by decide) ?_
          refine lv_icmp_lt (tgt := 63) hx hb dX6_block_53 (by decide) (fun c15 => ?_) (fun c15 => ?_)
          · have b53 := qlt_t (a := (bk)) (b := 12) (by omega) (by omega) c15
            refine lv_aload hx hb dX6_block_63 (lv_at hl 0 rfl) ?_
            refine lv_iload_n hx hb dX6_block_65 rfl (lv_at hl 3 rfl) ?_
            refine lv_iload_n hx hb dX6_block_66 rfl (lv_at hl 4 rfl) ?_
            refine rdV (rest := []) (q0 := 0) ⟨hx, hb, hml, hown, hts⟩ (c_X4_mayLie l G ta tf tr fi li bk hbk t3) mi_yX4_mayLie mv_yX4_mayLie ml_X6_128 ⟨rfl, rfl, Nat.le_of_ble_eq_true rfl, Nat.le_of_ble_eq_true rfl⟩ hK (hP.sub (ws' := tW G ta tf tr) [2, 3, 4, 5, 6, 7, 8, 9, 10] rfl) rfl rfl rfl hl.1 rfl (Nat.le_of_ble_eq_true rfl) dX6_block_67 ⟨Nat.zero_le _, Nat.zero_le _⟩ hS hA hP (fun r16 H locs hr16 hP hS => ?_)
            refine lv_if_ne (tgt := 80) hx hb dX6_block_70 (by decide) (fun c17 => ?_) (fun c17 => ?_)
            · have b70 := bT hr16 c17
              refine lv_aload hx hb dX6_block_80 (lv_at hl 0 rfl) ?_
              refine lv_iload_n hx hb dX6_block_82 rfl (lv_at hl 3 rfl) ?_
              refine lv_iload_n hx hb dX6_block_83 rfl (lv_at hl 4 rfl) ?_
              refine wrVV (rest := []) (q0 := 0) ⟨hx, hb, hml, hown, hts⟩ (c_X4_addBlock l G ta tf tr bk fi li (by omega) t3) mi_yX4_addBlock mv_yX4_addBlock ml_X6_131 ⟨rfl, rfl, Nat.le_of_ble_eq_true rfl, Nat.le_of_ble_eq_true rfl⟩ hK hP (hDD _ _ _ _ _ _ _ _ _ _ _ _ _ _ _ _ _) [2, 9, 10] rfl (by decide) rfl rfl rfl hl.1 rfl (Nat.le_of_ble_eq_true rfl) dX6_block_84 ⟨Nat.zero_le _, Nat.zero_le _⟩ hS hA (fun w19 H locs hw19 hP hS => ?_)
              obtain rfl := hw19
              have hP : PP G (xM G x xa ta a b ga ua la lb lc tg gg (upd xf 0 x4) (upd tf 3 (nI (bk + 1))) f qf gf uf lf mf nf (up2 (up2 tr 10 (upd (tr 10) bk fi)) 11 (upd (tr 11) bk li)) r q gr ur lr mr nr) H := hP rfl
              have hT3 : nL 12 (nI (bk + 1)) := ⟨bk + 1, by omega, rfl⟩
              refine lv_aload hx hb dX6_block_87 (lv_at hl 0 rfl) ?_
              refine va_get (D := G.1) (ci := 4) (v := .int (nI (bk + 1))) (C := RX4) (T := TX4) (N := 12) hx hb hts inX4 hown hK.1 hP 2 rfl rfl 3 (by decide) (hts _ mf_X6_125) (fun _ h9 => h9) rfl dX6_block_89 ?_
              exact wr_iret hx hb hr hlocks hS hP ⟨(nI (bk + 1)), (upd (tr 10) bk fi), (upd (tr 11) bk li), x4, rfl, hT3⟩ dX6_block_92
            · have b70 := bF hr16 c17
              refine lv_aload_n hx hb dX6_block_73 rfl (lv_at hl 1 rfl) ?_
              refine lv_bipush (v := 9) hx hb dX6_block_74 (by decide) ?_
              refine wrVIa (rest := []) (q0 := 0) ⟨hx, hb, hml, hown, hts⟩ (x_refused l G x xa ta a b ga ua la lb lc tg gg (upd xf 0 x4) tf f qf gf uf lf mf nf tr r q gr ur lr mr nr 9  ) mi_yX6_refused mv_yX6_refused ml_X6_122 ⟨rfl, rfl, Nat.le_of_ble_eq_true rfl, Nat.le_of_ble_eq_true rfl⟩ hK hP (hDD _ _ _ _ _ _ _ _ _ _ _ _ _ _ _ _ _) rfl rfl rfl hl.1 rfl (Nat.le_of_ble_eq_true rfl) dX6_block_76 ⟨Nat.zero_le _, Nat.zero_le _⟩ hS hA (fun r20 w21 H locs hw21 hP hS => ?_)
              obtain ⟨x22, rfl⟩ := hw21
              have hP : PP G (xM G x xa ta a b ga ua la lb lc tg gg (upd xf 0 x22) tf f qf gf uf lf mf nf tr r q gr ur lr mr nr) H := hP
              exact wr_iret hx hb hr hlocks hS hP ⟨(tf 3), (tr 10), (tr 11), x22, rfl, hT3⟩ dX6_block_79
          · have b53 := qlt_f (a := (bk)) (b := 12) (by omega) (by omega) c15
            refine lv_aload_n hx hb dX6_block_56 rfl (lv_at hl 1 rfl) ?_
            refine lv_bipush (v := 8) hx hb dX6_block_57 (by decide) ?_
            refine wrVIa (rest := []) (q0 := 0) ⟨hx, hb, hml, hown, hts⟩ (x_refused l G x xa ta a b ga ua la lb lc tg gg (upd xf 0 x4) tf f qf gf uf lf mf nf tr r q gr ur lr mr nr 8  ) mi_yX6_refused mv_yX6_refused ml_X6_122 ⟨rfl, rfl, Nat.le_of_ble_eq_true rfl, Nat.le_of_ble_eq_true rfl⟩ hK hP (hDD _ _ _ _ _ _ _ _ _ _ _ _ _ _ _ _ _) rfl rfl rfl hl.1 rfl (Nat.le_of_ble_eq_true rfl) dX6_block_59 ⟨Nat.zero_le _, Nat.zero_le _⟩ hS hA (fun r23 w24 H locs hw24 hP hS => ?_)
            obtain ⟨x25, rfl⟩ := hw24
            have hP : PP G (xM G x xa ta a b ga ua la lb lc tg gg (upd xf 0 x25) tf f qf gf uf lf mf nf tr r q gr ur lr mr nr) H := hP
            exact wr_iret hx hb hr hlocks hS hP ⟨(tf 3), (tr 10), (tr 11), x25, rfl, hT3⟩ dX6_block_62
        · refine lv_aload_n hx hb dX6_block_40 rfl (lv_at hl 1 rfl) ?_
          refine lv_iconst (v := 2) hx hb dX6_block_41 (by decide) ?_
          refine wrVIa (rest := []) (q0 := 0) ⟨hx, hb, hml, hown, hts⟩ (x_refused l G x xa ta a b ga ua la lb lc tg gg (upd xf 0 x4) tf f qf gf uf lf mf nf tr r q gr ur lr mr nr 2  ) mi_yX6_refused mv_yX6_refused ml_X6_122 ⟨rfl, rfl, Nat.le_of_ble_eq_true rfl, Nat.le_of_ble_eq_true rfl⟩ hK hP (hDD _ _ _ _ _ _ _ _ _ _ _ _ _ _ _ _ _) rfl rfl rfl hl.1 rfl (Nat.le_of_ble_eq_true rfl) dX6_block_42 ⟨Nat.zero_le _, Nat.zero_le _⟩ hS hA (fun r26 w27 H locs hw27 hP hS => ?_)
          obtain ⟨x28, rfl⟩ := hw27
          have hP : PP G (xM G x xa ta a b ga ua la lb lc tg gg (upd xf 0 x28) tf f qf gf uf lf mf nf tr r q gr ur lr mr nr) H := hP
          exact wr_iret hx hb hr hlocks hS hP ⟨(tf 3), (tr 10), (tr 11), x28, rfl, hT3⟩ dX6_block_45
  · have b9 := bF hw3r c5
    refine lv_iconst (v := -1) hx hb dX6_block_12 (by decide) ?_
    exact wr_iret hx hb hr hlocks hS hP ⟨(tf 3), (tr 10), (tr 11), x4, rfl, hT3⟩ dX6_block_13
set_option maxHeartbeats 4000000 in
set_option maxRecDepth 100000 in
theorem x_kind (l : Launch) (G : GG) (x : Nat) (xa ta a b ga ua la lb lc : Nat → Nat) (tg gg : Nat → Option Nat) (xf tf f qf gf uf lf mf nf : Nat → Int32) (tr r q gr ur lr mr nr : Nat → Nat → Int32) (tb : Int32) (row : Int32) (col : Int32) (j : Nat) (hj : j < 6) (hjt : tbJ tb j) (htg : tg j = some (ta 0)) (hT1 : nL 12 (tf 1)) (hT2 : nL 12 (tf 2)) (hT3 : nL 12 (tf 3)) (hT4 : nOK 12 12 (tr 4)) : WrI l yX6_kind cX6_kind 4 (some .int) ({ frames := 3, cells := 0, slots := 0, locals := 69 }) G (xM G x xa ta a b ga ua la lb lc tg gg xf tf f qf gf uf lf mf nf tr r q gr ur lr mr nr) [.ref x, .int tb, .int row, .int col] (fun q w => ∃ (n_xf_0 : Int32), w = xM G x xa ta a b ga ua la lb lc tg gg (upd xf 0 n_xf_0) tf f qf gf uf lf mf nf tr r q gr ur lr mr nr) := by
  refine wr_entryI (by decide +kernel) (Nat.le_of_ble_eq_true rfl) ?_
  intro p e s m below meth c A C0 hP hK hD hA ls hl
  have hS : va_S A s.heap s.heap [] := va_S.rf
  obtain ⟨hx, hb, hml, hown, hts, hr, hlocks, hin⟩ := C0
  have hown : s.vm.findClass RX6 = some m.cls := hown
  have hDD : ∀ xf' tf' f' qf' gf' uf' lf' mf' nf' tr' r' q' gr' ur' lr' mr' nr', va_D A (xM G x xa ta a b ga ua la lb lc tg gg xf' tf' f' qf' gf' uf' lf' mf' nf' tr' r' q' gr' ur' lr' mr' nr') := fun xf' tf' f' qf' gf' uf' lf' mf' nf' tr' r' q' gr' ur' lr' mr' nr' => D_same hD rfl
  have hl : lv_has ls 4 [(0, .ref x), (1, .int tb), (2, .int row), (3, .int col)] := hl
  refine lv_aload_n hx hb dX6_kind_0 rfl (lv_at hl 0 rfl) ?_
  refine lv_aload_n hx hb dX6_kind_1 rfl (lv_at hl 0 rfl) ?_
  refine lv_iload_n hx hb dX6_kind_2 rfl (lv_at hl 1 rfl) ?_
  refine lv_iload_n hx hb dX6_kind_3 rfl (lv_at hl 2 rfl) ?_
  refine lv_iload_n hx hb dX6_kind_4 rfl (lv_at hl 3 rfl) ?_
  refine rdV (rest := [.ref x]) (q0 := 0) ⟨hx, hb, hml, hown, hts⟩ (x_placeStatus l G x xa ta a b ga ua la lb lc tg gg xf tf f qf gf uf lf mf nf tr r q gr ur lr mr nr tb row col j (by omega) hjt htg hT1) mi_yX6_placeStatus mv_yX6_placeStatus ml_X6_84 ⟨rfl, rfl, Nat.le_of_ble_eq_true rfl, Nat.le_of_ble_eq_true rfl⟩ hK (hP) rfl rfl rfl hl.1 rfl (Nat.le_of_ble_eq_true rfl) dX6_kind_5 ⟨Nat.zero_le _, Nat.zero_le _⟩ hS hA hP (fun r1 H locs hr1 hP hS => ?_)
  have hr1 : (r1 = 0 → tbO tb j (tf 0) ∧ inR (tf 1) row ∧ inR (tf 2) col) := hr1
  refine wrVIa (rest := []) (q0 := 0) ⟨hx, hb, hml, hown, hts⟩ (x_settled l G x xa ta a b ga ua la lb lc tg gg xf tf f qf gf uf lf mf nf tr r q gr ur lr mr nr r1  ) mi_yX6_settled mv_yX6_settled ml_X6_65 ⟨rfl, rfl, Nat.le_of_ble_eq_true rfl, Nat.le_of_ble_eq_true rfl⟩ hK hP (hDD _ _ _ _ _ _ _ _ _ _ _ _ _ _ _ _ _) rfl rfl rfl hl.1 rfl (Nat.le_of_ble_eq_true rfl) dX6_kind_8 ⟨Nat.zero_le _, Nat.zero_le _⟩ hS hA (fun r2 w3 H locs hw3 hP hS => ?_)
  obtain ⟨x4, rfl, hw3r⟩ := hw3
  have hP : PP G (xM G x xa ta a b ga ua la lb lc tg gg (upd xf 0 x4) tf f qf gf uf lf mf nf tr r q gr ur lr mr nr) H := hP
  have hw3r : ((r2 = 1 ∧ (r1 = 0)) ∨ (r2 = 0 ∧ ¬ (r1 = 0))) := hw3r
  refine lv_if_ne (tgt := 16) hx hb dX6_kind_11 (by decide) (fun c5 => ?_) (fun c5 => ?_)
  · have b11 := bT hw3r c5
    obtain ⟨⟨ej, ho⟩, q1, q2⟩ := hr1 b11
    subst ej
    have q1c := q1
    have q2c := q2
    obtain ⟨rw, hrw, t1⟩ := hT1
    obtain ⟨cl, hcl, t2⟩ := hT2
    obtain ⟨bk, hbk, t3⟩ := hT3
    have hT1 : nL 12 (tf 1) := ⟨rw, hrw, t1⟩
    have hT2 : nL 12 (tf 2) := ⟨cl, hcl, t2⟩
    have hT3 : nL 12 (tf 3) := ⟨bk, hbk, t3⟩
    rw [t1] at q1c
    rw [t2] at q2c
    obtain ⟨i, hi, ei⟩ := inR_n (by omega) q1c
    subst ei
    obtain ⟨k, hk, ek⟩ := inR_n (by omega) q2c
    subst ek
    refine lv_aload_n hx hb dX6_kind_16 rfl (lv_at hl 0 rfl) ?_
    refine va_get (D := G.1) (ci := 6) (v := .ref (xa 1)) (C := RX6) (T := TX6) (N := 10) hx hb hts inX6 hown hK.1 hP 0 rfl rfl 1 (by decide) (hts _ mf_X6_15) (fun _ h9 => h9) rfl dX6_kind_17 ?_
    refine lv_iload_n hx hb dX6_kind_20 rfl (lv_at hl 1 rfl) ?_
    refine xaldT hx hb hK hP 1 (j) (b := (ta 0)) rfl (by omega) (by decide) rfl (htg) dX6_kind_21 ?_
    refine va_get (D := G.1) (ci := 4) (v := .ref (ta 5)) (C := RX4) (T := TX4) (N := 12) hx hb hts inX4 hown hK.1 hP 2 rfl rfl 5 (by decide) (hts _ mf_X6_134) (fun _ h9 => h9) rfl dX6_kind_22 ?_
    refine lv_iload_n hx hb dX6_kind_25 rfl (lv_at hl 2 rfl) ?_
    refine lv_iload_n hx hb dX6_kind_26 rfl (lv_at hl 3 rfl) ?_
    refine rdS (rest := [.ref (ta 5)]) ⟨hx, hb, hml, hown, hts⟩ (c_X6_spotOf l G ((nI i)) ((nI k))) mi_yX6_spotOf mst_yX6_spotOf ml_X6_92 ⟨rfl, rfl, Nat.le_of_ble_eq_true rfl, Nat.le_of_ble_eq_true rfl⟩ hK (fun k q h => by simp at h) rfl hl.1 rfl (Nat.le_of_ble_eq_true rfl) dX6_kind_27 ⟨Nat.zero_le _, Nat.zero_le _⟩ hS hA hP (fun r6 H locs hr6 hP hS => ?_)
    obtain rfl : r6 = nI (i * 12 + k) := spot_eq hr6
    refine xiald (f := (tr 5)) hx hb hK hP 4 ((i * 12 + k)) (rfl) (by omega) (by decide) rfl dX6_kind_30 ?_
    refine lv_topi (fun v7 ev7 => ?_)
    exact wr_iret hx hb hr hlocks hS hP ⟨x4, rfl⟩ dX6_kind_31
  · have b11 := bF hw3r c5
    refine lv_iconst (v := -1) hx hb dX6_kind_14 (by decide) ?_
    exact wr_iret hx hb hr hlocks hS hP ⟨x4, rfl⟩ dX6_kind_15
set_option maxHeartbeats 4000000 in
set_option maxRecDepth 100000 in
theorem x_number (l : Launch) (G : GG) (x : Nat) (xa ta a b ga ua la lb lc : Nat → Nat) (tg gg : Nat → Option Nat) (xf tf f qf gf uf lf mf nf : Nat → Int32) (tr r q gr ur lr mr nr : Nat → Nat → Int32) (tb : Int32) (row : Int32) (col : Int32) (j : Nat) (hj : j < 6) (hjt : tbJ tb j) (htg : tg j = some (ta 0)) (hT1 : nL 12 (tf 1)) (hT2 : nL 12 (tf 2)) (hT3 : nL 12 (tf 3)) (hT4 : nOK 12 12 (tr 4)) : WrI l yX6_number cX6_number 4 (some .int) ({ frames := 4, cells := 0, slots := 0, locals := 93 }) G (xM G x xa ta a b ga ua la lb lc tg gg xf tf f qf gf uf lf mf nf tr r q gr ur lr mr nr) [.ref x, .int tb, .int row, .int col] (fun q w => ∃ (n_xf_0 : Int32), w = xM G x xa ta a b ga ua la lb lc tg gg (upd xf 0 n_xf_0) tf f qf gf uf lf mf nf tr r q gr ur lr mr nr) := by
  refine wr_entryI (by decide +kernel) (Nat.le_of_ble_eq_true rfl) ?_
  intro p e s m below meth c A C0 hP hK hD hA ls hl
  have hS : va_S A s.heap s.heap [] := va_S.rf
  obtain ⟨hx, hb, hml, hown, hts, hr, hlocks, hin⟩ := C0
  have hown : s.vm.findClass RX6 = some m.cls := hown
  have hDD : ∀ xf' tf' f' qf' gf' uf' lf' mf' nf' tr' r' q' gr' ur' lr' mr' nr', va_D A (xM G x xa ta a b ga ua la lb lc tg gg xf' tf' f' qf' gf' uf' lf' mf' nf' tr' r' q' gr' ur' lr' mr' nr') := fun xf' tf' f' qf' gf' uf' lf' mf' nf' tr' r' q' gr' ur' lr' mr' nr' => D_same hD rfl
  have hl : lv_has ls 4 [(0, .ref x), (1, .int tb), (2, .int row), (3, .int col)] := hl
  refine lv_aload_n hx hb dX6_number_0 rfl (lv_at hl 0 rfl) ?_
  refine lv_aload_n hx hb dX6_number_1 rfl (lv_at hl 0 rfl) ?_
  refine lv_iload_n hx hb dX6_number_2 rfl (lv_at hl 1 rfl) ?_
  refine lv_iload_n hx hb dX6_number_3 rfl (lv_at hl 2 rfl) ?_
  refine lv_iload_n hx hb dX6_number_4 rfl (lv_at hl 3 rfl) ?_
  refine rdV (rest := [.ref x]) (q0 := 0) ⟨hx, hb, hml, hown, hts⟩ (x_filledStatus l G x xa ta a b ga ua la lb lc tg gg xf tf f qf gf uf lf mf nf tr r q gr ur lr mr nr tb row col j (by omega) hjt htg hT1 hT2 hT3) mi_yX6_filledStatus mv_yX6_filledStatus ml_X6_107 ⟨rfl, rfl, Nat.le_of_ble_eq_true rfl, Nat.le_of_ble_eq_true rfl⟩ hK (hP) rfl rfl rfl hl.1 rfl (Nat.le_of_ble_eq_true rfl) dX6_number_5 ⟨Nat.zero_le _, Nat.zero_le _⟩ hS hA hP (fun r1 H locs hr1 hP hS => ?_)
  have hr1 : (r1 = 0 → tbO tb j (tf 0) ∧ inR (tf 1) row ∧ inR (tf 2) col) := hr1
  refine wrVIa (rest := []) (q0 := 0) ⟨hx, hb, hml, hown, hts⟩ (x_settled l G x xa ta a b ga ua la lb lc tg gg xf tf f qf gf uf lf mf nf tr r q gr ur lr mr nr r1  ) mi_yX6_settled mv_yX6_settled ml_X6_65 ⟨rfl, rfl, Nat.le_of_ble_eq_true rfl, Nat.le_of_ble_eq_true rfl⟩ hK hP (hDD _ _ _ _ _ _ _ _ _ _ _ _ _ _ _ _ _) rfl rfl rfl hl.1 rfl (Nat.le_of_ble_eq_true rfl) dX6_number_8 ⟨Nat.zero_le _, Nat.zero_le _⟩ hS hA (fun r2 w3 H locs hw3 hP hS => ?_)
  obtain ⟨x4, rfl, hw3r⟩ := hw3
  have hP : PP G (xM G x xa ta a b ga ua la lb lc tg gg (upd xf 0 x4) tf f qf gf uf lf mf nf tr r q gr ur lr mr nr) H := hP
  have hw3r : ((r2 = 1 ∧ (r1 = 0)) ∨ (r2 = 0 ∧ ¬ (r1 = 0))) := hw3r
  refine lv_if_ne (tgt := 16) hx hb dX6_number_11 (by decide) (fun c5 => ?_) (fun c5 => ?_)
  · have b11 := bT hw3r c5
    obtain ⟨⟨ej, ho⟩, q1, q2⟩ := hr1 b11
    subst ej
    have q1c := q1
    have q2c := q2
    obtain ⟨rw, hrw, t1⟩ := hT1
    obtain ⟨cl, hcl, t2⟩ := hT2
    obtain ⟨bk, hbk, t3⟩ := hT3
    have hT1 : nL 12 (tf 1) := ⟨rw, hrw, t1⟩
    have hT2 : nL 12 (tf 2) := ⟨cl, hcl, t2⟩
    have hT3 : nL 12 (tf 3) := ⟨bk, hbk, t3⟩
    rw [t1] at q1c
    rw [t2] at q2c
    obtain ⟨i, hi, ei⟩ := inR_n (by omega) q1c
    subst ei
    obtain ⟨k, hk, ek⟩ := inR_n (by omega) q2c
    subst ek
    refine lv_aload_n hx hb dX6_number_16 rfl (lv_at hl 0 rfl) ?_
    refine va_get (D := G.1) (ci := 6) (v := .ref (xa 1)) (C := RX6) (T := TX6) (N := 10) hx hb hts inX6 hown hK.1 hP 0 rfl rfl 1 (by decide) (hts _ mf_X6_15) (fun _ h9 => h9) rfl dX6_number_17 ?_
    refine lv_iload_n hx hb dX6_number_20 rfl (lv_at hl 1 rfl) ?_
    refine xaldT hx hb hK hP 1 (j) (b := (ta 0)) rfl (by omega) (by decide) rfl (htg) dX6_number_21 ?_
    refine va_get (D := G.1) (ci := 4) (v := .ref (ta 6)) (C := RX4) (T := TX4) (N := 12) hx hb hts inX4 hown hK.1 hP 2 rfl rfl 6 (by decide) (hts _ mf_X6_137) (fun _ h9 => h9) rfl dX6_number_22 ?_
    refine lv_iload_n hx hb dX6_number_25 rfl (lv_at hl 2 rfl) ?_
    refine lv_iload_n hx hb dX6_number_26 rfl (lv_at hl 3 rfl) ?_
    refine rdS (rest := [.ref (ta 6)]) ⟨hx, hb, hml, hown, hts⟩ (c_X6_spotOf l G ((nI i)) ((nI k))) mi_yX6_spotOf mst_yX6_spotOf ml_X6_92 ⟨rfl, rfl, Nat.le_of_ble_eq_true rfl, Nat.le_of_ble_eq_true rfl⟩ hK (fun k q h => by simp at h) rfl hl.1 rfl (Nat.le_of_ble_eq_true rfl) dX6_number_27 ⟨Nat.zero_le _, Nat.zero_le _⟩ hS hA hP (fun r6 H locs hr6 hP hS => ?_)
    obtain rfl : r6 = nI (i * 12 + k) := spot_eq hr6
    refine xiald (f := (tr 6)) hx hb hK hP 5 ((i * 12 + k)) (rfl) (by omega) (by decide) rfl dX6_number_30 ?_
    refine lv_topi (fun v7 ev7 => ?_)
    exact wr_iret hx hb hr hlocks hS hP ⟨x4, rfl⟩ dX6_number_31
  · have b11 := bF hw3r c5
    refine lv_iconst (v := -1) hx hb dX6_number_14 (by decide) ?_
    exact wr_iret hx hb hr hlocks hS hP ⟨x4, rfl⟩ dX6_number_15
set_option maxHeartbeats 4000000 in
set_option maxRecDepth 100000 in
theorem x_givers (l : Launch) (G : GG) (x : Nat) (xa ta a b ga ua la lb lc : Nat → Nat) (tg gg : Nat → Option Nat) (xf tf f qf gf uf lf mf nf : Nat → Int32) (tr r q gr ur lr mr nr : Nat → Nat → Int32) (tb : Int32) (row : Int32) (col : Int32) (j : Nat) (hj : j < 6) (hjt : tbJ tb j) (htg : tg j = some (ta 0)) (hT1 : nL 12 (tf 1)) (hT2 : nL 12 (tf 2)) (hT3 : nL 12 (tf 3)) (hT4 : nOK 12 12 (tr 4)) : WrI l yX6_givers cX6_givers 4 (some .int) ({ frames := 5, cells := 0, slots := 0, locals := 117 }) G (xM G x xa ta a b ga ua la lb lc tg gg xf tf f qf gf uf lf mf nf tr r q gr ur lr mr nr) [.ref x, .int tb, .int row, .int col] (fun q w => ∃ (n_xf_0 : Int32), w = xM G x xa ta a b ga ua la lb lc tg gg (upd xf 0 n_xf_0) tf f qf gf uf lf mf nf tr r q gr ur lr mr nr) := by
  refine wr_entryI (by decide +kernel) (Nat.le_of_ble_eq_true rfl) ?_
  intro p e s m below meth c A C0 hP hK hD hA ls hl
  have hS : va_S A s.heap s.heap [] := va_S.rf
  obtain ⟨hx, hb, hml, hown, hts, hr, hlocks, hin⟩ := C0
  have hown : s.vm.findClass RX6 = some m.cls := hown
  have hDD : ∀ xf' tf' f' qf' gf' uf' lf' mf' nf' tr' r' q' gr' ur' lr' mr' nr', va_D A (xM G x xa ta a b ga ua la lb lc tg gg xf' tf' f' qf' gf' uf' lf' mf' nf' tr' r' q' gr' ur' lr' mr' nr') := fun xf' tf' f' qf' gf' uf' lf' mf' nf' tr' r' q' gr' ur' lr' mr' nr' => D_same hD rfl
  have hl : lv_has ls 4 [(0, .ref x), (1, .int tb), (2, .int row), (3, .int col)] := hl
  refine lv_aload_n hx hb dX6_givers_0 rfl (lv_at hl 0 rfl) ?_
  refine lv_aload_n hx hb dX6_givers_1 rfl (lv_at hl 0 rfl) ?_
  refine lv_iload_n hx hb dX6_givers_2 rfl (lv_at hl 1 rfl) ?_
  refine lv_iload_n hx hb dX6_givers_3 rfl (lv_at hl 2 rfl) ?_
  refine lv_iload_n hx hb dX6_givers_4 rfl (lv_at hl 3 rfl) ?_
  refine rdV (rest := [.ref x]) (q0 := 0) ⟨hx, hb, hml, hown, hts⟩ (x_amountStatus l G x xa ta a b ga ua la lb lc tg gg xf tf f qf gf uf lf mf nf tr r q gr ur lr mr nr tb row col j (by omega) hjt htg hT1 hT2 hT3) mi_yX6_amountStatus mv_yX6_amountStatus ml_X6_100 ⟨rfl, rfl, Nat.le_of_ble_eq_true rfl, Nat.le_of_ble_eq_true rfl⟩ hK (hP) rfl rfl rfl hl.1 rfl (Nat.le_of_ble_eq_true rfl) dX6_givers_5 ⟨Nat.zero_le _, Nat.zero_le _⟩ hS hA hP (fun r1 H locs hr1 hP hS => ?_)
  have hr1 : (r1 = 0 → tbO tb j (tf 0) ∧ inR (tf 1) row ∧ inR (tf 2) col) := hr1
  refine wrVIa (rest := []) (q0 := 0) ⟨hx, hb, hml, hown, hts⟩ (x_settled l G x xa ta a b ga ua la lb lc tg gg xf tf f qf gf uf lf mf nf tr r q gr ur lr mr nr r1  ) mi_yX6_settled mv_yX6_settled ml_X6_65 ⟨rfl, rfl, Nat.le_of_ble_eq_true rfl, Nat.le_of_ble_eq_true rfl⟩ hK hP (hDD _ _ _ _ _ _ _ _ _ _ _ _ _ _ _ _ _) rfl rfl rfl hl.1 rfl (Nat.le_of_ble_eq_true rfl) dX6_givers_8 ⟨Nat.zero_le _, Nat.zero_le _⟩ hS hA (fun r2 w3 H locs hw3 hP hS => ?_)
  obtain ⟨x4, rfl, hw3r⟩ := hw3
  have hP : PP G (xM G x xa ta a b ga ua la lb lc tg gg (upd xf 0 x4) tf f qf gf uf lf mf nf tr r q gr ur lr mr nr) H := hP
  have hw3r : ((r2 = 1 ∧ (r1 = 0)) ∨ (r2 = 0 ∧ ¬ (r1 = 0))) := hw3r
  refine lv_if_ne (tgt := 16) hx hb dX6_givers_11 (by decide) (fun c5 => ?_) (fun c5 => ?_)
  · have b11 := bT hw3r c5
    obtain ⟨⟨ej, ho⟩, q1, q2⟩ := hr1 b11
    subst ej
    have q1c := q1
    have q2c := q2
    obtain ⟨rw, hrw, t1⟩ := hT1
    obtain ⟨cl, hcl, t2⟩ := hT2
    obtain ⟨bk, hbk, t3⟩ := hT3
    have hT1 : nL 12 (tf 1) := ⟨rw, hrw, t1⟩
    have hT2 : nL 12 (tf 2) := ⟨cl, hcl, t2⟩
    have hT3 : nL 12 (tf 3) := ⟨bk, hbk, t3⟩
    rw [t1] at q1c
    rw [t2] at q2c
    obtain ⟨i, hi, ei⟩ := inR_n (by omega) q1c
    subst ei
    obtain ⟨k, hk, ek⟩ := inR_n (by omega) q2c
    subst ek
    refine lv_aload_n hx hb dX6_givers_16 rfl (lv_at hl 0 rfl) ?_
    refine va_get (D := G.1) (ci := 6) (v := .ref (xa 1)) (C := RX6) (T := TX6) (N := 10) hx hb hts inX6 hown hK.1 hP 0 rfl rfl 1 (by decide) (hts _ mf_X6_15) (fun _ h9 => h9) rfl dX6_givers_17 ?_
    refine lv_iload_n hx hb dX6_givers_20 rfl (lv_at hl 1 rfl) ?_
    refine xaldT hx hb hK hP 1 (j) (b := (ta 0)) rfl (by omega) (by decide) rfl (htg) dX6_givers_21 ?_
    refine lv_iload_n hx hb dX6_givers_22 rfl (lv_at hl 2 rfl) ?_
    refine lv_iload_n hx hb dX6_givers_23 rfl (lv_at hl 3 rfl) ?_
    refine rdS (rest := [.ref (ta 0)]) ⟨hx, hb, hml, hown, hts⟩ (c_X6_spotOf l G ((nI i)) ((nI k))) mi_yX6_spotOf mst_yX6_spotOf ml_X6_92 ⟨rfl, rfl, Nat.le_of_ble_eq_true rfl, Nat.le_of_ble_eq_true rfl⟩ hK (fun k q h => by simp at h) rfl hl.1 rfl (Nat.le_of_ble_eq_true rfl) dX6_givers_24 ⟨Nat.zero_le _, Nat.zero_le _⟩ hS hA hP (fun r6 H locs hr6 hP hS => ?_)
    obtain rfl : r6 = nI (i * 12 + k) := spot_eq hr6
    refine rdV (rest := []) (q0 := 0) ⟨hx, hb, hml, hown, hts⟩ (c_X4_giversAt l G ta tf tr (i * 12 + k) (by omega)) mi_yX4_giversAt mv_yX4_giversAt ml_X6_140 ⟨rfl, rfl, Nat.le_of_ble_eq_true rfl, Nat.le_of_ble_eq_true rfl⟩ hK (hP.sub (ws' := tW G ta tf tr) [2, 3, 4, 5, 6, 7, 8, 9, 10] rfl) rfl rfl rfl hl.1 rfl (Nat.le_of_ble_eq_true rfl) dX6_givers_27 ⟨Nat.zero_le _, Nat.zero_le _⟩ hS hA hP (fun r7 H locs hr7 hP hS => ?_)
    obtain rfl := hr7
    exact wr_iret hx hb hr hlocks hS hP ⟨x4, rfl⟩ dX6_givers_30
  · have b11 := bF hw3r c5
    refine lv_iconst (v := -1) hx hb dX6_givers_14 (by decide) ?_
    exact wr_iret hx hb hr hlocks hS hP ⟨x4, rfl⟩ dX6_givers_15
set_option maxHeartbeats 4000000 in
set_option maxRecDepth 100000 in
theorem x_part (l : Launch) (G : GG) (x : Nat) (xa ta a b ga ua la lb lc : Nat → Nat) (tg gg : Nat → Option Nat) (xf tf f qf gf uf lf mf nf : Nat → Int32) (tr r q gr ur lr mr nr : Nat → Nat → Int32) (tb : Int32) (row : Int32) (col : Int32) (kx : Int32) (j : Nat) (hj : j < 6) (hjt : tbJ tb j) (htg : tg j = some (ta 0)) (hT1 : nL 12 (tf 1)) (hT2 : nL 12 (tf 2)) (hT3 : nL 12 (tf 3)) (hT4 : nOK 12 12 (tr 4)) : WrI l yX6_part cX6_part 6 (some .int) ({ frames := 5, cells := 0, slots := 0, locals := 117 }) G (xM G x xa ta a b ga ua la lb lc tg gg xf tf f qf gf uf lf mf nf tr r q gr ur lr mr nr) [.ref x, .int tb, .int row, .int col, .int kx] (fun q w => ∃ (n_xf_0 : Int32), w = xM G x xa ta a b ga ua la lb lc tg gg (upd xf 0 n_xf_0) tf f qf gf uf lf mf nf tr r q gr ur lr mr nr) := by
  refine wr_entryI (by decide +kernel) (Nat.le_of_ble_eq_true rfl) ?_
  intro p e s m below meth c A C0 hP hK hD hA ls hl
  have hS : va_S A s.heap s.heap [] := va_S.rf
  obtain ⟨hx, hb, hml, hown, hts, hr, hlocks, hin⟩ := C0
  have hown : s.vm.findClass RX6 = some m.cls := hown
  have hDD : ∀ xf' tf' f' qf' gf' uf' lf' mf' nf' tr' r' q' gr' ur' lr' mr' nr', va_D A (xM G x xa ta a b ga ua la lb lc tg gg xf' tf' f' qf' gf' uf' lf' mf' nf' tr' r' q' gr' ur' lr' mr' nr') := fun xf' tf' f' qf' gf' uf' lf' mf' nf' tr' r' q' gr' ur' lr' mr' nr' => D_same hD rfl
  have hl : lv_has ls 6 [(0, .ref x), (1, .int tb), (2, .int row), (3, .int col), (4, .int kx)] := hl
  refine lv_aload_n hx hb dX6_part_0 rfl (lv_at hl 0 rfl) ?_
  refine lv_aload_n hx hb dX6_part_1 rfl (lv_at hl 0 rfl) ?_
  refine lv_iload_n hx hb dX6_part_2 rfl (lv_at hl 1 rfl) ?_
  refine lv_iload_n hx hb dX6_part_3 rfl (lv_at hl 2 rfl) ?_
  refine lv_iload_n hx hb dX6_part_4 rfl (lv_at hl 3 rfl) ?_
  refine rdV (rest := [.ref x]) (q0 := 0) ⟨hx, hb, hml, hown, hts⟩ (x_amountStatus l G x xa ta a b ga ua la lb lc tg gg xf tf f qf gf uf lf mf nf tr r q gr ur lr mr nr tb row col j (by omega) hjt htg hT1 hT2 hT3) mi_yX6_amountStatus mv_yX6_amountStatus ml_X6_100 ⟨rfl, rfl, Nat.le_of_ble_eq_true rfl, Nat.le_of_ble_eq_true rfl⟩ hK (hP) rfl rfl rfl hl.1 rfl (Nat.le_of_ble_eq_true rfl) dX6_part_5 ⟨Nat.zero_le _, Nat.zero_le _⟩ hS hA hP (fun r1 H locs hr1 hP hS => ?_)
  have hr1 : (r1 = 0 → tbO tb j (tf 0) ∧ inR (tf 1) row ∧ inR (tf 2) col) := hr1
  refine wrVIa (rest := []) (q0 := 0) ⟨hx, hb, hml, hown, hts⟩ (x_settled l G x xa ta a b ga ua la lb lc tg gg xf tf f qf gf uf lf mf nf tr r q gr ur lr mr nr r1  ) mi_yX6_settled mv_yX6_settled ml_X6_65 ⟨rfl, rfl, Nat.le_of_ble_eq_true rfl, Nat.le_of_ble_eq_true rfl⟩ hK hP (hDD _ _ _ _ _ _ _ _ _ _ _ _ _ _ _ _ _) rfl rfl rfl hl.1 rfl (Nat.le_of_ble_eq_true rfl) dX6_part_8 ⟨Nat.zero_le _, Nat.zero_le _⟩ hS hA (fun r2 w3 H locs hw3 hP hS => ?_)
  obtain ⟨x4, rfl, hw3r⟩ := hw3
  have hP : PP G (xM G x xa ta a b ga ua la lb lc tg gg (upd xf 0 x4) tf f qf gf uf lf mf nf tr r q gr ur lr mr nr) H := hP
  have hw3r : ((r2 = 1 ∧ (r1 = 0)) ∨ (r2 = 0 ∧ ¬ (r1 = 0))) := hw3r
  refine lv_if_ne (tgt := 16) hx hb dX6_part_11 (by decide) (fun c5 => ?_) (fun c5 => ?_)
  · have b11 := bT hw3r c5
    obtain ⟨⟨ej, ho⟩, q1, q2⟩ := hr1 b11
    subst ej
    have q1c := q1
    have q2c := q2
    obtain ⟨rw, hrw, t1⟩ := hT1
    obtain ⟨cl, hcl, t2⟩ := hT2
    obtain ⟨bk, hbk, t3⟩ := hT3
    have hT1 : nL 12 (tf 1) := ⟨rw, hrw, t1⟩
    have hT2 : nL 12 (tf 2) := ⟨cl, hcl, t2⟩
    have hT3 : nL 12 (tf 3) := ⟨bk, hbk, t3⟩
    rw [t1] at q1c
    rw [t2] at q2c
    obtain ⟨i, hi, ei⟩ := inR_n (by omega) q1c
    subst ei
    obtain ⟨k, hk, ek⟩ := inR_n (by omega) q2c
    subst ek
    refine lv_iload_n hx hb dX6_part_16 rfl (lv_at hl 2 rfl) ?_
    refine lv_iload_n hx hb dX6_part_17 rfl (lv_at hl 3 rfl) ?_
    refine rdS (rest := []) ⟨hx, hb, hml, hown, hts⟩ (c_X6_spotOf l G ((nI i)) ((nI k))) mi_yX6_spotOf mst_yX6_spotOf ml_X6_92 ⟨rfl, rfl, Nat.le_of_ble_eq_true rfl, Nat.le_of_ble_eq_true rfl⟩ hK (fun k q h => by simp at h) rfl hl.1 rfl (Nat.le_of_ble_eq_true rfl) dX6_part_18 ⟨Nat.zero_le _, Nat.zero_le _⟩ hS hA hP (fun r6 H locs hr6 hP hS => ?_)
    obtain rfl : r6 = nI (i * 12 + k) := spot_eq hr6
    refine lv_istore (lv' := [(5, .int (nI (i * 12 + k))), (0, .ref x), (1, .int (nI j)), (2, .int (nI i)), (3, .int (nI k)), (4, .int kx)]) hx hb dX6_part_21 hl (by decide) rfl (fun ls hl => ?_)
    refine lv_iload hx hb dX6_part_23 (lv_at hl 5 rfl) ?_
    refine lv_if_lt (tgt := 44) hx hb dX6_part_25 (by decide) (fun c7 => ?_) (fun c7 => ?_)
    · refine lv_aload_n hx hb dX6_part_44 rfl (lv_at hl 1 rfl) ?_
      refine lv_bipush (v := 7) hx hb dX6_part_45 (by decide) ?_
      refine wrVIa (rest := []) (q0 := 0) ⟨hx, hb, hml, hown, hts⟩ (x_refused l G x xa ta a b ga ua la lb lc tg gg (upd xf 0 x4) tf f qf gf uf lf mf nf tr r q gr ur lr mr nr 7  ) mi_yX6_refused mv_yX6_refused ml_X6_122 ⟨rfl, rfl, Nat.le_of_ble_eq_true rfl, Nat.le_of_ble_eq_true rfl⟩ hK hP (hDD _ _ _ _ _ _ _ _ _ _ _ _ _ _ _ _ _) rfl rfl rfl hl.1 rfl (Nat.le_of_ble_eq_true rfl) dX6_part_47 ⟨Nat.zero_le _, Nat.zero_le _⟩ hS hA (fun r8 w9 H locs hw9 hP hS => ?_)
      obtain ⟨x10, rfl⟩ := hw9
      have hP : PP G (xM G x xa ta a b ga ua la lb lc tg gg (upd xf 0 x10) tf f qf gf uf lf mf nf tr r q gr ur lr mr nr) H := hP
      exact wr_iret hx hb hr hlocks hS hP ⟨x10, rfl⟩ dX6_part_50
    · refine lv_iload hx hb dX6_part_28 (lv_at hl 5 rfl) ?_
      refine lv_aload_n hx hb dX6_part_30 rfl (lv_at hl 1 rfl) ?_
      refine va_get (D := G.1) (ci := 6) (v := .ref (xa 1)) (C := RX6) (T := TX6) (N := 10) hx hb hts inX6 hown hK.1 hP 0 rfl rfl 1 (by decide) (hts _ mf_X6_15) (fun _ h9 => h9) rfl dX6_part_31 ?_
      refine lv_iload_n hx hb dX6_part_34 rfl (lv_at hl 2 rfl) ?_
      refine xaldT hx hb hK hP 1 (j) (b := (ta 0)) rfl (by omega) (by decide) rfl (htg) dX6_part_35 ?_
      refine lv_iload hx hb dX6_part_36 (lv_at hl 0 rfl) ?_
      refine rdV (rest := [.int kx]) (q0 := 0) ⟨hx, hb, hml, hown, hts⟩ (c_X4_giversAt l G ta tf tr (i * 12 + k) (by omega)) mi_yX4_giversAt mv_yX4_giversAt ml_X6_140 ⟨rfl, rfl, Nat.le_of_ble_eq_true rfl, Nat.le_of_ble_eq_true rfl⟩ hK (hP.sub (ws' := tW G ta tf tr) [2, 3, 4, 5, 6, 7, 8, 9, 10] rfl) rfl rfl rfl hl.1 rfl (Nat.le_of_ble_eq_true rfl) dX6_part_38 ⟨Nat.zero_le _, Nat.zero_le _⟩ hS hA hP (fun r11 H locs hr11 hP hS => ?_)
      obtain rfl := hr11
      refine lv_icmp_lt (tgt := 51) hx hb dX6_part_41 (by decide) (fun c12 => ?_) (fun c12 => ?_)
      · have hg := gvN_le (tr 8) (i * 12 + k) 6
        obtain ⟨n, hn, en⟩ := lt_ix (x := kx) (n := gvN (tr 8) (i * 12 + k) 6) (by omega) c7 (Int32.not_le.mpr c12)
        subst en
        refine lv_aload_n hx hb dX6_part_51 rfl (lv_at hl 1 rfl) ?_
        refine va_get (D := G.1) (ci := 6) (v := .ref (xa 1)) (C := RX6) (T := TX6) (N := 10) hx hb hts inX6 hown hK.1 hP 0 rfl rfl 1 (by decide) (hts _ mf_X6_15) (fun _ h9 => h9) rfl dX6_part_52 ?_
        refine lv_iload_n hx hb dX6_part_55 rfl (lv_at hl 2 rfl) ?_
        refine xaldT hx hb hK hP 1 (j) (b := (ta 0)) rfl (by omega) (by decide) rfl (htg) dX6_part_56 ?_
        refine va_get (D := G.1) (ci := 4) (v := .ref (ta 8)) (C := RX4) (T := TX4) (N := 12) hx hb hts inX4 hown hK.1 hP 2 rfl rfl 8 (by decide) (hts _ mf_X6_143) (fun _ h9 => h9) rfl dX6_part_57 ?_
        refine lv_iload hx hb dX6_part_60 (lv_at hl 0 rfl) ?_
        refine lv_bipush (v := 6) hx hb dX6_part_62 (by decide) ?_
        refine lv_imul hx hb dX6_part_64 ?_
        refine lv_topi (fun v13 ev13 => ?_)
        obtain rfl : v13 = nI ((i * 12 + k) * 6) := nI_times ev13 rfl rfl
        refine lv_iload hx hb dX6_part_65 (lv_at hl 5 rfl) ?_
        refine lv_iadd hx hb dX6_part_67 ?_
        refine lv_topi (fun v14 ev14 => ?_)
        obtain rfl : v14 = nI (((i * 12 + k) * 6) + n) := nI_plus ev14 rfl rfl
        refine xiald (f := (tr 8)) hx hb hK hP 7 ((((i * 12 + k) * 6) + n)) (rfl) (by omega) (by decide) rfl dX6_part_68 ?_
        refine lv_topi (fun v15 ev15 => ?_)
        exact wr_iret hx hb hr hlocks hS hP ⟨x4, rfl⟩ dX6_part_69
      · refine lv_aload_n hx hb dX6_part_44 rfl (lv_at hl 1 rfl) ?_
        refine lv_bipush (v := 7) hx hb dX6_part_45 (by decide) ?_
        refine wrVIa (rest := []) (q0 := 0) ⟨hx, hb, hml, hown, hts⟩ (x_refused l G x xa ta a b ga ua la lb lc tg gg (upd xf 0 x4) tf f qf gf uf lf mf nf tr r q gr ur lr mr nr 7  ) mi_yX6_refused mv_yX6_refused ml_X6_122 ⟨rfl, rfl, Nat.le_of_ble_eq_true rfl, Nat.le_of_ble_eq_true rfl⟩ hK hP (hDD _ _ _ _ _ _ _ _ _ _ _ _ _ _ _ _ _) rfl rfl rfl hl.1 rfl (Nat.le_of_ble_eq_true rfl) dX6_part_47 ⟨Nat.zero_le _, Nat.zero_le _⟩ hS hA (fun r16 w17 H locs hw17 hP hS => ?_)
        obtain ⟨x18, rfl⟩ := hw17
        have hP : PP G (xM G x xa ta a b ga ua la lb lc tg gg (upd xf 0 x18) tf f qf gf uf lf mf nf tr r q gr ur lr mr nr) H := hP
        exact wr_iret hx hb hr hlocks hS hP ⟨x18, rfl⟩ dX6_part_50
  · have b11 := bF hw3r c5
    refine lv_iconst (v := -1) hx hb dX6_part_14 (by decide) ?_
    exact wr_iret hx hb hr hlocks hS hP ⟨x4, rfl⟩ dX6_part_15
set_option maxHeartbeats 4000000 in
set_option maxRecDepth 100000 in
theorem x_hand (l : Launch) (G : GG) (x : Nat) (xa ta a b ga ua la lb lc : Nat → Nat) (tg gg : Nat → Option Nat) (xf tf f qf gf uf lf mf nf : Nat → Int32) (tr r q gr ur lr mr nr : Nat → Nat → Int32) (tb : Int32) (row : Int32) (col : Int32) (on : Int32) (j : Nat) (hj : j < 6) (hjt : tbJ tb j) (htg : tg j = some (ta 0)) (hT1 : nL 12 (tf 1)) (hT2 : nL 12 (tf 2)) (hT3 : nL 12 (tf 3)) (hT4 : nOK 12 12 (tr 4)) : WrI l yX6_hand cX6_hand 5 (some .boolean) ({ frames := 6, cells := 0, slots := 0, locals := 141 }) G (xM G x xa ta a b ga ua la lb lc tg gg xf tf f qf gf uf lf mf nf tr r q gr ur lr mr nr) [.ref x, .int tb, .int row, .int col, .int on] (fun q w => ∃ (n_tr_7 : Nat → Int32) (n_xf_0 : Int32), w = xM G x xa ta a b ga ua la lb lc tg gg (upd xf 0 n_xf_0) tf f qf gf uf lf mf nf (up2 tr 7 n_tr_7) r q gr ur lr mr nr ∧ (q = 0 ∨ q = 1)) := by
  refine wr_entryI (by decide +kernel) (Nat.le_of_ble_eq_true rfl) ?_
  intro p e s m below meth c A C0 hP hK hD hA ls hl
  have hS : va_S A s.heap s.heap [] := va_S.rf
  obtain ⟨hx, hb, hml, hown, hts, hr, hlocks, hin⟩ := C0
  have hown : s.vm.findClass RX6 = some m.cls := hown
  have hDD : ∀ xf' tf' f' qf' gf' uf' lf' mf' nf' tr' r' q' gr' ur' lr' mr' nr', va_D A (xM G x xa ta a b ga ua la lb lc tg gg xf' tf' f' qf' gf' uf' lf' mf' nf' tr' r' q' gr' ur' lr' mr' nr') := fun xf' tf' f' qf' gf' uf' lf' mf' nf' tr' r' q' gr' ur' lr' mr' nr' => D_same hD rfl
  have hl : lv_has ls 5 [(0, .ref x), (1, .int tb), (2, .int row), (3, .int col), (4, .int on)] := hl
  refine lv_aload_n hx hb dX6_hand_0 rfl (lv_at hl 0 rfl) ?_
  refine lv_aload_n hx hb dX6_hand_1 rfl (lv_at hl 0 rfl) ?_
  refine lv_iload_n hx hb dX6_hand_2 rfl (lv_at hl 1 rfl) ?_
  refine lv_iload_n hx hb dX6_hand_3 rfl (lv_at hl 2 rfl) ?_
  refine lv_iload_n hx hb dX6_hand_4 rfl (lv_at hl 3 rfl) ?_
  refine rdV (rest := [.ref x]) (q0 := 0) ⟨hx, hb, hml, hown, hts⟩ (x_guardableStatus l G x xa ta a b ga ua la lb lc tg gg xf tf f qf gf uf lf mf nf tr r q gr ur lr mr nr tb row col j (by omega) hjt htg hT1 hT2 hT3) mi_yX6_guardableStatus mv_yX6_guardableStatus ml_X6_146 ⟨rfl, rfl, Nat.le_of_ble_eq_true rfl, Nat.le_of_ble_eq_true rfl⟩ hK (hP) rfl rfl rfl hl.1 rfl (Nat.le_of_ble_eq_true rfl) dX6_hand_5 ⟨Nat.zero_le _, Nat.zero_le _⟩ hS hA hP (fun r1 H locs hr1 hP hS => ?_)
  have hr1 : (r1 = 0 → tbO tb j (tf 0) ∧ inR (tf 1) row ∧ inR (tf 2) col) := hr1
  refine wrVIa (rest := []) (q0 := 0) ⟨hx, hb, hml, hown, hts⟩ (x_settled l G x xa ta a b ga ua la lb lc tg gg xf tf f qf gf uf lf mf nf tr r q gr ur lr mr nr r1  ) mi_yX6_settled mv_yX6_settled ml_X6_65 ⟨rfl, rfl, Nat.le_of_ble_eq_true rfl, Nat.le_of_ble_eq_true rfl⟩ hK hP (hDD _ _ _ _ _ _ _ _ _ _ _ _ _ _ _ _ _) rfl rfl rfl hl.1 rfl (Nat.le_of_ble_eq_true rfl) dX6_hand_8 ⟨Nat.zero_le _, Nat.zero_le _⟩ hS hA (fun r2 w3 H locs hw3 hP hS => ?_)
  obtain ⟨x4, rfl, hw3r⟩ := hw3
  have hP : PP G (xM G x xa ta a b ga ua la lb lc tg gg (upd xf 0 x4) tf f qf gf uf lf mf nf tr r q gr ur lr mr nr) H := hP
  have hw3r : ((r2 = 1 ∧ (r1 = 0)) ∨ (r2 = 0 ∧ ¬ (r1 = 0))) := hw3r
  refine lv_if_ne (tgt := 16) hx hb dX6_hand_11 (by decide) (fun c5 => ?_) (fun c5 => ?_)
  · have b11 := bT hw3r c5
    obtain ⟨⟨ej, ho⟩, q1, q2⟩ := hr1 b11
    subst ej
    have q1c := q1
    have q2c := q2
    obtain ⟨rw, hrw, t1⟩ := hT1
    obtain ⟨cl, hcl, t2⟩ := hT2
    obtain ⟨bk, hbk, t3⟩ := hT3
    have hT1 : nL 12 (tf 1) := ⟨rw, hrw, t1⟩
    have hT2 : nL 12 (tf 2) := ⟨cl, hcl, t2⟩
    have hT3 : nL 12 (tf 3) := ⟨bk, hbk, t3⟩
    rw [t1] at q1c
    rw [t2] at q2c
    obtain ⟨i, hi, ei⟩ := inR_n (by omega) q1c
    subst ei
    obtain ⟨k, hk, ek⟩ := inR_n (by omega) q2c
    subst ek
    refine lv_aload_n hx hb dX6_hand_16 rfl (lv_at hl 0 rfl) ?_
    refine va_get (D := G.1) (ci := 6) (v := .ref (xa 1)) (C := RX6) (T := TX6) (N := 10) hx hb hts inX6 hown hK.1 hP 0 rfl rfl 1 (by decide) (hts _ mf_X6_15) (fun _ h9 => h9) rfl dX6_hand_17 ?_
    refine lv_iload_n hx hb dX6_hand_20 rfl (lv_at hl 1 rfl) ?_
    refine xaldT hx hb hK hP 1 (j) (b := (ta 0)) rfl (by omega) (by decide) rfl (htg) dX6_hand_21 ?_
    refine lv_iload_n hx hb dX6_hand_22 rfl (lv_at hl 2 rfl) ?_
    refine lv_iload_n hx hb dX6_hand_23 rfl (lv_at hl 3 rfl) ?_
    refine rdS (rest := [.ref (ta 0)]) ⟨hx, hb, hml, hown, hts⟩ (c_X6_spotOf l G ((nI i)) ((nI k))) mi_yX6_spotOf mst_yX6_spotOf ml_X6_92 ⟨rfl, rfl, Nat.le_of_ble_eq_true rfl, Nat.le_of_ble_eq_true rfl⟩ hK (fun k q h => by simp at h) rfl hl.1 rfl (Nat.le_of_ble_eq_true rfl) dX6_hand_24 ⟨Nat.zero_le _, Nat.zero_le _⟩ hS hA hP (fun r6 H locs hr6 hP hS => ?_)
    obtain rfl : r6 = nI (i * 12 + k) := spot_eq hr6
    refine lv_iconst (v := 1) hx hb dX6_hand_27 (by decide) ?_
    refine lv_iload hx hb dX6_hand_28 (lv_at hl 4 rfl) ?_
    refine wrVV (rest := []) (q0 := 0) ⟨hx, hb, hml, hown, hts⟩ (c_X4_tell l G ta tf tr (i * 12 + k) 1 on (by omega)) mi_yX4_tell mv_yX4_tell ml_X6_149 ⟨rfl, rfl, Nat.le_of_ble_eq_true rfl, Nat.le_of_ble_eq_true rfl⟩ hK hP (hDD _ _ _ _ _ _ _ _ _ _ _ _ _ _ _ _ _) [2, 6] rfl (by decide) rfl rfl rfl hl.1 rfl (Nat.le_of_ble_eq_true rfl) dX6_hand_30 ⟨Nat.zero_le _, Nat.zero_le _⟩ hS hA (fun w8 H locs hw8 hP hS => ?_)
    obtain rfl := hw8
    have hP : PP G (xM G x xa ta a b ga ua la lb lc tg gg (upd xf 0 x4) tf f qf gf uf lf mf nf (up2 tr 7 (upd (tr 7) (i * 12 + k) (if on = 0 then (tr 7) (i * 12 + k) &&& (1 ^^^ (-1)) else (tr 7) (i * 12 + k) ||| 1))) r q gr ur lr mr nr) H := hP rfl
    refine lv_iconst (v := 1) hx hb dX6_hand_33 (by decide) ?_
    exact wr_zret hx hb hr hlocks (Or.inr rfl) hS hP ⟨(upd (tr 7) (i * 12 + k) (if on = 0 then (tr 7) (i * 12 + k) &&& (1 ^^^ (-1)) else (tr 7) (i * 12 + k) ||| 1)), x4, rfl, (Or.inr rfl)⟩ dX6_hand_34
  · have b11 := bF hw3r c5
    refine lv_iconst (v := 0) hx hb dX6_hand_14 (by decide) ?_
    exact wr_zret hx hb hr hlocks (Or.inl rfl) hS hP ⟨(tr 7), x4, rfl, (Or.inl rfl)⟩ dX6_hand_15
set_option maxHeartbeats 4000000 in
set_option maxRecDepth 100000 in
theorem x_keep (l : Launch) (G : GG) (x : Nat) (xa ta a b ga ua la lb lc : Nat → Nat) (tg gg : Nat → Option Nat) (xf tf f qf gf uf lf mf nf : Nat → Int32) (tr r q gr ur lr mr nr : Nat → Nat → Int32) (tb : Int32) (row : Int32) (col : Int32) (on : Int32) (j : Nat) (hj : j < 6) (hjt : tbJ tb j) (htg : tg j = some (ta 0)) (hT1 : nL 12 (tf 1)) (hT2 : nL 12 (tf 2)) (hT3 : nL 12 (tf 3)) (hT4 : nOK 12 12 (tr 4)) : WrI l yX6_keep cX6_keep 5 (some .boolean) ({ frames := 6, cells := 0, slots := 0, locals := 141 }) G (xM G x xa ta a b ga ua la lb lc tg gg xf tf f qf gf uf lf mf nf tr r q gr ur lr mr nr) [.ref x, .int tb, .int row, .int col, .int on] (fun q w => ∃ (n_tr_7 : Nat → Int32) (n_xf_0 : Int32), w = xM G x xa ta a b ga ua la lb lc tg gg (upd xf 0 n_xf_0) tf f qf gf uf lf mf nf (up2 tr 7 n_tr_7) r q gr ur lr mr nr ∧ (q = 0 ∨ q = 1)) := by
  refine wr_entryI (by decide +kernel) (Nat.le_of_ble_eq_true rfl) ?_
  intro p e s m below meth c A C0 hP hK hD hA ls hl
  have hS : va_S A s.heap s.heap [] := va_S.rf
  obtain ⟨hx, hb, hml, hown, hts, hr, hlocks, hin⟩ := C0
  have hown : s.vm.findClass RX6 = some m.cls := hown
  have hDD : ∀ xf' tf' f' qf' gf' uf' lf' mf' nf' tr' r' q' gr' ur' lr' mr' nr', va_D A (xM G x xa ta a b ga ua la lb lc tg gg xf' tf' f' qf' gf' uf' lf' mf' nf' tr' r' q' gr' ur' lr' mr' nr') := fun xf' tf' f' qf' gf' uf' lf' mf' nf' tr' r' q' gr' ur' lr' mr' nr' => D_same hD rfl
  have hl : lv_has ls 5 [(0, .ref x), (1, .int tb), (2, .int row), (3, .int col), (4, .int on)] := hl
  refine lv_aload_n hx hb dX6_keep_0 rfl (lv_at hl 0 rfl) ?_
  refine lv_aload_n hx hb dX6_keep_1 rfl (lv_at hl 0 rfl) ?_
  refine lv_iload_n hx hb dX6_keep_2 rfl (lv_at hl 1 rfl) ?_
  refine lv_iload_n hx hb dX6_keep_3 rfl (lv_at hl 2 rfl) ?_
  refine lv_iload_n hx hb dX6_keep_4 rfl (lv_at hl 3 rfl) ?_
  refine rdV (rest := [.ref x]) (q0 := 0) ⟨hx, hb, hml, hown, hts⟩ (x_guardableStatus l G x xa ta a b ga ua la lb lc tg gg xf tf f qf gf uf lf mf nf tr r q gr ur lr mr nr tb row col j (by omega) hjt htg hT1 hT2 hT3) mi_yX6_guardableStatus mv_yX6_guardableStatus ml_X6_146 ⟨rfl, rfl, Nat.le_of_ble_eq_true rfl, Nat.le_of_ble_eq_true rfl⟩ hK (hP) rfl rfl rfl hl.1 rfl (Nat.le_of_ble_eq_true rfl) dX6_keep_5 ⟨Nat.zero_le _, Nat.zero_le _⟩ hS hA hP (fun r1 H locs hr1 hP hS => ?_)
  have hr1 : (r1 = 0 → tbO tb j (tf 0) ∧ inR (tf 1) row ∧ inR (tf 2) col) := hr1
  refine wrVIa (rest := []) (q0 := 0) ⟨hx, hb, hml, hown, hts⟩ (x_settled l G x xa ta a b ga ua la lb lc tg gg xf tf f qf gf uf lf mf nf tr r q gr ur lr mr nr r1  ) mi_yX6_settled mv_yX6_settled ml_X6_65 ⟨rfl, rfl, Nat.le_of_ble_eq_true rfl, Nat.le_of_ble_eq_true rfl⟩ hK hP (hDD _ _ _ _ _ _ _ _ _ _ _ _ _ _ _ _ _) rfl rfl rfl hl.1 rfl (Nat.le_of_ble_eq_true rfl) dX6_keep_8 ⟨Nat.zero_le _, Nat.zero_le _⟩ hS hA (fun r2 w3 H locs hw3 hP hS => ?_)
  obtain ⟨x4, rfl, hw3r⟩ := hw3
  have hP : PP G (xM G x xa ta a b ga ua la lb lc tg gg (upd xf 0 x4) tf f qf gf uf lf mf nf tr r q gr ur lr mr nr) H := hP
  have hw3r : ((r2 = 1 ∧ (r1 = 0)) ∨ (r2 = 0 ∧ ¬ (r1 = 0))) := hw3r
  refine lv_if_ne (tgt := 16) hx hb dX6_keep_11 (by decide) (fun c5 => ?_) (fun c5 => ?_)
  · have b11 := bT hw3r c5
    obtain ⟨⟨ej, ho⟩, q1, q2⟩ := hr1 b11
    subst ej
    have q1c := q1
    have q2c := q2
    obtain ⟨rw, hrw, t1⟩ := hT1
    obtain ⟨cl, hcl, t2⟩ := hT2
    obtain ⟨bk, hbk, t3⟩ := hT3
    have hT1 : nL 12 (tf 1) := ⟨rw, hrw, t1⟩
    have hT2 : nL 12 (tf 2) := ⟨cl, hcl, t2⟩
    have hT3 : nL 12 (tf 3) := ⟨bk, hbk, t3⟩
    rw [t1] at q1c
    rw [t2] at q2c
    obtain ⟨i, hi, ei⟩ := inR_n (by omega) q1c
    subst ei
    obtain ⟨k, hk, ek⟩ := inR_n (by omega) q2c
    subst ek
    refine lv_aload_n hx hb dX6_keep_16 rfl (lv_at hl 0 rfl) ?_
    refine va_get (D := G.1) (ci := 6) (v := .ref (xa 1)) (C := RX6) (T := TX6) (N := 10) hx hb hts inX6 hown hK.1 hP 0 rfl rfl 1 (by decide) (hts _ mf_X6_15) (fun _ h9 => h9) rfl dX6_keep_17 ?_
    refine lv_iload_n hx hb dX6_keep_20 rfl (lv_at hl 1 rfl) ?_
    refine xaldT hx hb hK hP 1 (j) (b := (ta 0)) rfl (by omega) (by decide) rfl (htg) dX6_keep_21 ?_
    refine lv_iload_n hx hb dX6_keep_22 rfl (lv_at hl 2 rfl) ?_
    refine lv_iload_n hx hb dX6_keep_23 rfl (lv_at hl 3 rfl) ?_
    refine rdS (rest := [.ref (ta 0)]) ⟨hx, hb, hml, hown, hts⟩ (c_X6_spotOf l G ((nI i)) ((nI k))) mi_yX6_spotOf mst_yX6_spotOf ml_X6_92 ⟨rfl, rfl, Nat.le_of_ble_eq_true rfl, Nat.le_of_ble_eq_true rfl⟩ hK (fun k q h => by simp at h) rfl hl.1 rfl (Nat.le_of_ble_eq_true rfl) dX6_keep_24 ⟨Nat.zero_le _, Nat.zero_le _⟩ hS hA hP (fun r6 H locs hr6 hP hS => ?_)
    obtain rfl : r6 = nI (i * 12 + k) := spot_eq hr6
    refine lv_iconst (v := 2) hx hb dX6_keep_27 (by decide) ?_
    refine lv_iload hx hb dX6_keep_28 (lv_at hl 4 rfl) ?_
    refine wrVV (rest := []) (q0 := 0) ⟨hx, hb, hml, hown, hts⟩ (c_X4_tell l G ta tf tr (i * 12 + k) 2 on (by omega)) mi_yX4_tell mv_yX4_tell ml_X6_149 ⟨rfl, rfl, Nat.le_of_ble_eq_true rfl, Nat.le_of_ble_eq_true rfl⟩ hK hP (hDD _ _ _ _ _ _ _ _ _ _ _ _ _ _ _ _ _) [2, 6] rfl (by decide) rfl rfl rfl hl.1 rfl (Nat.le_of_ble_eq_true rfl) dX6_keep_30 ⟨Nat.zero_le _, Nat.zero_le _⟩ hS hA (fun w8 H locs hw8 hP hS => ?_)
    obtain rfl := hw8
    have hP : PP G (xM G x xa ta a b ga ua la lb lc tg gg (upd xf 0 x4) tf f qf gf uf lf mf nf (up2 tr 7 (upd (tr 7) (i * 12 + k) (if on = 0 then (tr 7) (i * 12 + k) &&& (2 ^^^ (-1)) else (tr 7) (i * 12 + k) ||| 2))) r q gr ur lr mr nr) H := hP rfl
    refine lv_iconst (v := 1) hx hb dX6_keep_33 (by decide) ?_
    exact wr_zret hx hb hr hlocks (Or.inr rfl) hS hP ⟨(upd (tr 7) (i * 12 + k) (if on = 0 then (tr 7) (i * 12 + k) &&& (2 ^^^ (-1)) else (tr 7) (i * 12 + k) ||| 2)), x4, rfl, (Or.inr rfl)⟩ dX6_keep_34
  · have b11 := bF hw3r c5
    refine lv_iconst (v := 0) hx hb dX6_keep_14 (by decide) ?_
    exact wr_zret hx hb hr hlocks (Or.inl rfl) hS hP ⟨(tr 7), x4, rfl, (Or.inl rfl)⟩ dX6_keep_15
set_option maxHeartbeats 4000000 in
set_option maxRecDepth 100000 in
theorem x_sound (l : Launch) (G : GG) (x : Nat) (xa ta a b ga ua la lb lc : Nat → Nat) (tg gg : Nat → Option Nat) (xf tf f qf gf uf lf mf nf : Nat → Int32) (tr r q gr ur lr mr nr : Nat → Nat → Int32) (tb : Int32) (row : Int32) (j : Nat) (hj : j < 6) (hjt : tbJ tb j) (htg : tg j = some (ta 0)) (hT1 : nL 12 (tf 1)) (hT2 : nL 12 (tf 2)) (hT3 : nL 12 (tf 3)) (hT4 : nOK 12 12 (tr 4)) : WrI l yX6_sound cX6_sound 3 (some .int) ({ frames := 2, cells := 0, slots := 0, locals := 44 }) G (xM G x xa ta a b ga ua la lb lc tg gg xf tf f qf gf uf lf mf nf tr r q gr ur lr mr nr) [.ref x, .int tb, .int row] (fun q w => ∃ (n_xf_0 : Int32), w = xM G x xa ta a b ga ua la lb lc tg gg (upd xf 0 n_xf_0) tf f qf gf uf lf mf nf tr r q gr ur lr mr nr) := by
  refine wr_entryI (by decide +kernel) (Nat.le_of_ble_eq_true rfl) ?_
  intro p e s m below meth c A C0 hP hK hD hA ls hl
  have hS : va_S A s.heap s.heap [] := va_S.rf
  obtain ⟨hx, hb, hml, hown, hts, hr, hlocks, hin⟩ := C0
  have hown : s.vm.findClass RX6 = some m.cls := hown
  have hDD : ∀ xf' tf' f' qf' gf' uf' lf' mf' nf' tr' r' q' gr' ur' lr' mr' nr', va_D A (xM G x xa ta a b ga ua la lb lc tg gg xf' tf' f' qf' gf' uf' lf' mf' nf' tr' r' q' gr' ur' lr' mr' nr') := fun xf' tf' f' qf' gf' uf' lf' mf' nf' tr' r' q' gr' ur' lr' mr' nr' => D_same hD rfl
  have hl : lv_has ls 3 [(0, .ref x), (1, .int tb), (2, .int row)] := hl
  refine lv_aload_n hx hb dX6_sound_0 rfl (lv_at hl 0 rfl) ?_
  refine lv_aload_n hx hb dX6_sound_1 rfl (lv_at hl 0 rfl) ?_
  refine lv_iload_n hx hb dX6_sound_2 rfl (lv_at hl 1 rfl) ?_
  refine lv_iload_n hx hb dX6_sound_3 rfl (lv_at hl 2 rfl) ?_
  refine rdV (rest := [.ref x]) (q0 := 0) ⟨hx, hb, hml, hown, hts⟩ (x_rowStatus l G x xa ta a b ga ua la lb lc tg gg xf tf f qf gf uf lf mf nf tr r q gr ur lr mr nr tb row j (by omega) hjt htg) mi_yX6_rowStatus mv_yX6_rowStatus ml_X6_110 ⟨rfl, rfl, Nat.le_of_ble_eq_true rfl, Nat.le_of_ble_eq_true rfl⟩ hK (hP) rfl rfl rfl hl.1 rfl (Nat.le_of_ble_eq_true rfl) dX6_sound_4 ⟨Nat.zero_le _, Nat.zero_le _⟩ hS hA hP (fun r1 H locs hr1 hP hS => ?_)
  have hr1 : (r1 = 0 → tbO tb j (tf 0) ∧ inR (tf 1) row) := hr1
  refine wrVIa (rest := []) (q0 := 0) ⟨hx, hb, hml, hown, hts⟩ (x_settled l G x xa ta a b ga ua la lb lc tg gg xf tf f qf gf uf lf mf nf tr r q gr ur lr mr nr r1  ) mi_yX6_settled mv_yX6_settled ml_X6_65 ⟨rfl, rfl, Nat.le_of_ble_eq_true rfl, Nat.le_of_ble_eq_true rfl⟩ hK hP (hDD _ _ _ _ _ _ _ _ _ _ _ _ _ _ _ _ _) rfl rfl rfl hl.1 rfl (Nat.le_of_ble_eq_true rfl) dX6_sound_7 ⟨Nat.zero_le _, Nat.zero_le _⟩ hS hA (fun r2 w3 H locs hw3 hP hS => ?_)
  obtain ⟨x4, rfl, hw3r⟩ := hw3
  have hP : PP G (xM G x xa ta a b ga ua la lb lc tg gg (upd xf 0 x4) tf f qf gf uf lf mf nf tr r q gr ur lr mr nr) H := hP
  have hw3r : ((r2 = 1 ∧ (r1 = 0)) ∨ (r2 = 0 ∧ ¬ (r1 = 0))) := hw3r
  refine lv_if_ne (tgt := 15) hx hb dX6_sound_10 (by decide) (fun c5 => ?_) (fun c5 => ?_)
  · have b10 := bT hw3r c5
    obtain ⟨⟨ej, ho⟩, q1⟩ := hr1 b10
    subst ej
    have q1c := q1
    obtain ⟨rw, hrw, t1⟩ := hT1
    obtain ⟨cl, hcl, t2⟩ := hT2
    obtain ⟨bk, hbk, t3⟩ := hT3
    have hT1 : nL 12 (tf 1) := ⟨rw, hrw, t1⟩
    have hT2 : nL 12 (tf 2) := ⟨cl, hcl, t2⟩
    have hT3 : nL 12 (tf 3) := ⟨bk, hbk, t3⟩
    rw [t1] at q1c
    obtain ⟨i, hi, ei⟩ := inR_n (by omega) q1c
    subst ei
    refine lv_aload_n hx hb dX6_sound_15 rfl (lv_at hl 0 rfl) ?_
    refine va_get (D := G.1) (ci := 6) (v := .ref (xa 1)) (C := RX6) (T := TX6) (N := 10) hx hb hts inX6 hown hK.1 hP 0 rfl rfl 1 (by decide) (hts _ mf_X6_15) (fun _ h9 => h9) rfl dX6_sound_16 ?_
    refine lv_iload_n hx hb dX6_sound_19 rfl (lv_at hl 1 rfl) ?_
    refine xaldT hx hb hK hP 1 (j) (b := (ta 0)) rfl (by omega) (by decide) rfl (htg) dX6_sound_20 ?_
    refine lv_iload_n hx hb dX6_sound_21 rfl (lv_at hl 2 rfl) ?_
    refine rdV (rest := []) (q0 := 0) ⟨hx, hb, hml, hown, hts⟩ (c_X4_isSound l G ta tf tr i cl (by omega) hcl t2) mi_yX4_isSound mv_yX4_isSound ml_X6_153 ⟨rfl, rfl, Nat.le_of_ble_eq_true rfl, Nat.le_of_ble_eq_true rfl⟩ hK (hP.sub (ws' := tW G ta tf tr) [2, 3, 4, 5, 6, 7, 8, 9, 10] rfl) rfl rfl rfl hl.1 rfl (Nat.le_of_ble_eq_true rfl) dX6_sound_22 ⟨Nat.zero_le _, Nat.zero_le _⟩ hS hA hP (fun r6 H locs hr6 hP hS => ?_)
    refine lv_if_eq (tgt := 32) hx hb dX6_sound_25 (by decide) (fun c7 => ?_) (fun c7 => ?_)
    · have b25 := bF hr6 c7
      refine lv_iconst (v := 0) hx hb dX6_sound_32 (by decide) ?_
      exact wr_iret hx hb hr hlocks hS hP ⟨x4, rfl⟩ dX6_sound_33
    · have b25 := bT hr6 c7
      refine lv_iconst (v := 1) hx hb dX6_sound_28 (by decide) ?_
      refine lv_goto (tgt := 33) hx hb dX6_sound_29 (by decide) ?_
      exact wr_iret hx hb hr hlocks hS hP ⟨x4, rfl⟩ dX6_sound_33
  · have b10 := bF hw3r c5
    refine lv_iconst (v := -1) hx hb dX6_sound_13 (by decide) ?_
    exact wr_iret hx hb hr hlocks hS hP ⟨x4, rfl⟩ dX6_sound_14
set_option maxHeartbeats 4000000 in
set_option maxRecDepth 100000 in
theorem x_sum (l : Launch) (G : GG) (x : Nat) (xa ta a b ga ua la lb lc : Nat → Nat) (tg gg : Nat → Option Nat) (xf tf f qf gf uf lf mf nf : Nat → Int32) (tr r q gr ur lr mr nr : Nat → Nat → Int32) (tb : Int32) (row : Int32) (j : Nat) (hj : j < 6) (hjt : tbJ tb j) (htg : tg j = some (ta 0)) (hT1 : nL 12 (tf 1)) (hT2 : nL 12 (tf 2)) (hT3 : nL 12 (tf 3)) (hT4 : nOK 12 12 (tr 4)) : WrI l yX6_sum cX6_sum 3 (some .int) ({ frames := 2, cells := 0, slots := 0, locals := 44 }) G (xM G x xa ta a b ga ua la lb lc tg gg xf tf f qf gf uf lf mf nf tr r q gr ur lr mr nr) [.ref x, .int tb, .int row] (fun q w => ∃ (n_xf_0 : Int32), w = xM G x xa ta a b ga ua la lb lc tg gg (upd xf 0 n_xf_0) tf f qf gf uf lf mf nf tr r q gr ur lr mr nr) := by
  refine wr_entryI (by decide +kernel) (Nat.le_of_ble_eq_true rfl) ?_
  intro p e s m below meth c A C0 hP hK hD hA ls hl
  have hS : va_S A s.heap s.heap [] := va_S.rf
  obtain ⟨hx, hb, hml, hown, hts, hr, hlocks, hin⟩ := C0
  have hown : s.vm.findClass RX6 = some m.cls := hown
  have hDD : ∀ xf' tf' f' qf' gf' uf' lf' mf' nf' tr' r' q' gr' ur' lr' mr' nr', va_D A (xM G x xa ta a b ga ua la lb lc tg gg xf' tf' f' qf' gf' uf' lf' mf' nf' tr' r' q' gr' ur' lr' mr' nr') := fun xf' tf' f' qf' gf' uf' lf' mf' nf' tr' r' q' gr' ur' lr' mr' nr' => D_same hD rfl
  have hl : lv_has ls 3 [(0, .ref x), (1, .int tb), (2, .int row)] := hl
  refine lv_aload_n hx hb dX6_sum_0 rfl (lv_at hl 0 rfl) ?_
  refine lv_aload_n hx hb dX6_sum_1 rfl (lv_at hl 0 rfl) ?_
  refine lv_iload_n hx hb dX6_sum_2 rfl (lv_at hl 1 rfl) ?_
  refine lv_iload_n hx hb dX6_sum_3 rfl (lv_at hl 2 rfl) ?_
  refine rdV (rest := [.ref x]) (q0 := 0) ⟨hx, hb, hml, hown, hts⟩ (x_rowStatus l G x xa ta a b ga ua la lb lc tg gg xf tf f qf gf uf lf mf nf tr r q gr ur lr mr nr tb row j (by omega) hjt htg) mi_yX6_rowStatus mv_yX6_rowStatus ml_X6_110 ⟨rfl, rfl, Nat.le_of_ble_eq_true rfl, Nat.le_of_ble_eq_true rfl⟩ hK (hP) rfl rfl rfl hl.1 rfl (Nat.le_of_ble_eq_true rfl) dX6_sum_4 ⟨Nat.zero_le _, Nat.zero_le _⟩ hS hA hP (fun r1 H locs hr1 hP hS => ?_)
  have hr1 : (r1 = 0 → tbO tb j (tf 0) ∧ inR (tf 1) row) := hr1
  refine wrVIa (rest := []) (q0 := 0) ⟨hx, hb, hml, hown, hts⟩ (x_settled l G x xa ta a b ga ua la lb lc tg gg xf tf f qf gf uf lf mf nf tr r q gr ur lr mr nr r1  ) mi_yX6_settled mv_yX6_settled ml_X6_65 ⟨rfl, rfl, Nat.le_of_ble_eq_true rfl, Nat.le_of_ble_eq_true rfl⟩ hK hP (hDD _ _ _ _ _ _ _ _ _ _ _ _ _ _ _ _ _) rfl rfl rfl hl.1 rfl (Nat.le_of_ble_eq_true rfl) dX6_sum_7 ⟨Nat.zero_le _, Nat.zero_le _⟩ hS hA (fun r2 w3 H locs hw3 hP hS => ?_)
  obtain ⟨x4, rfl, hw3r⟩ := hw3
  have hP : PP G (xM G x xa ta a b ga ua la lb lc tg gg (upd xf 0 x4) tf f qf gf uf lf mf nf tr r q gr ur lr mr nr) H := hP
  have hw3r : ((r2 = 1 ∧ (r1 = 0)) ∨ (r2 = 0 ∧ ¬ (r1 = 0))) := hw3r
  refine lv_if_ne (tgt := 15) hx hb dX6_sum_10 (by decide) (fun c5 => ?_) (fun c5 => ?_)
  · have b10 := bT hw3r c5
    obtain ⟨⟨ej, ho⟩, q1⟩ := hr1 b10
    subst ej
    have q1c := q1
    obtain ⟨rw, hrw, t1⟩ := hT1
    obtain ⟨cl, hcl, t2⟩ := hT2
    obtain ⟨bk, hbk, t3⟩ := hT3
    have hT1 : nL 12 (tf 1) := ⟨rw, hrw, t1⟩
    have hT2 : nL 12 (tf 2) := ⟨cl, hcl, t2⟩
    have hT3 : nL 12 (tf 3) := ⟨bk, hbk, t3⟩
    rw [t1] at q1c
    obtain ⟨i, hi, ei⟩ := inR_n (by omega) q1c
    subst ei
    refine lv_aload_n hx hb dX6_sum_15 rfl (lv_at hl 0 rfl) ?_
    refine va_get (D := G.1) (ci := 6) (v := .ref (xa 1)) (C := RX6) (T := TX6) (N := 10) hx hb hts inX6 hown hK.1 hP 0 rfl rfl 1 (by decide) (hts _ mf_X6_15) (fun _ h9 => h9) rfl dX6_sum_16 ?_
    refine lv_iload_n hx hb dX6_sum_19 rfl (lv_at hl 1 rfl) ?_
    refine xaldT hx hb hK hP 1 (j) (b := (ta 0)) rfl (by omega) (by decide) rfl (htg) dX6_sum_20 ?_
    refine lv_iload_n hx hb dX6_sum_21 rfl (lv_at hl 2 rfl) ?_
    refine rdV (rest := []) (q0 := 0) ⟨hx, hb, hml, hown, hts⟩ (c_X4_isSound l G ta tf tr i cl (by omega) hcl t2) mi_yX4_isSound mv_yX4_isSound ml_X6_153 ⟨rfl, rfl, Nat.le_of_ble_eq_true rfl, Nat.le_of_ble_eq_true rfl⟩ hK (hP.sub (ws' := tW G ta tf tr) [2, 3, 4, 5, 6, 7, 8, 9, 10] rfl) rfl rfl rfl hl.1 rfl (Nat.le_of_ble_eq_true rfl) dX6_sum_22 ⟨Nat.zero_le _, Nat.zero_le _⟩ hS hA hP (fun r6 H locs hr6 hP hS => ?_)
    refine lv_if_ne (tgt := 35) hx hb dX6_sum_25 (by decide) (fun c7 => ?_) (fun c7 => ?_)
    · have b25 := bT hr6 c7
      refine lv_aload_n hx hb dX6_sum_35 rfl (lv_at hl 0 rfl) ?_
      refine va_get (D := G.1) (ci := 6) (v := .ref (xa 1)) (C := RX6) (T := TX6) (N := 10) hx hb hts inX6 hown hK.1 hP 0 rfl rfl 1 (by decide) (hts _ mf_X6_15) (fun _ h9 => h9) rfl dX6_sum_36 ?_
      refine lv_iload_n hx hb dX6_sum_39 rfl (lv_at hl 1 rfl) ?_
      refine xaldT hx hb hK hP 1 (j) (b := (ta 0)) rfl (by omega) (by decide) rfl (htg) dX6_sum_40 ?_
      refine lv_iload_n hx hb dX6_sum_41 rfl (lv_at hl 2 rfl) ?_
      refine rdV (rest := []) (q0 := 0) ⟨hx, hb, hml, hown, hts⟩ (c_X4_rowSum l G ta tf tr i cl (by omega) hcl t2) mi_yX4_rowSum mv_yX4_rowSum ml_X6_156 ⟨rfl, rfl, Nat.le_of_ble_eq_true rfl, Nat.le_of_ble_eq_true rfl⟩ hK (hP.sub (ws' := tW G ta tf tr) [2, 3, 4, 5, 6, 7, 8, 9, 10] rfl) rfl rfl rfl hl.1 rfl (Nat.le_of_ble_eq_true rfl) dX6_sum_42 ⟨Nat.zero_le _, Nat.zero_le _⟩ hS hA hP (fun r8 H locs hr8 hP hS => ?_)
      exact wr_iret hx hb hr hlocks hS hP ⟨x4, rfl⟩ dX6_sum_45
    · have b25 := bF hr6 c7
      refine lv_aload_n hx hb dX6_sum_28 rfl (lv_at hl 0 rfl) ?_
      refine lv_bipush (v := 11) hx hb dX6_sum_29 (by decide) ?_
      refine wrVIa (rest := []) (q0 := 0) ⟨hx, hb, hml, hown, hts⟩ (x_refused l G x xa ta a b ga ua la lb lc tg gg (upd xf 0 x4) tf f qf gf uf lf mf nf tr r q gr ur lr mr nr 11  ) mi_yX6_refused mv_yX6_refused ml_X6_122 ⟨rfl, rfl, Nat.le_of_ble_eq_true rfl, Nat.le_of_ble_eq_true rfl⟩ hK hP (hDD _ _ _ _ _ _ _ _ _ _ _ _ _ _ _ _ _) rfl rfl rfl hl.1 rfl (Nat.le_of_ble_eq_true rfl) dX6_sum_31 ⟨Nat.zero_le _, Nat.zero_le _⟩ hS hA (fun r9 w10 H locs hw10 hP hS => ?_)
      obtain ⟨x11, rfl⟩ := hw10
      have hP : PP G (xM G x xa ta a b ga ua la lb lc tg gg (upd xf 0 x11) tf f qf gf uf lf mf nf tr r q gr ur lr mr nr) H := hP
      exact wr_iret hx hb hr hlocks hS hP ⟨x11, rfl⟩ dX6_sum_34
  · have b10 := bF hw3r c5
    refine lv_iconst (v := -1) hx hb dX6_sum_13 (by decide) ?_
    exact wr_iret hx hb hr hlocks hS hP ⟨x4, rfl⟩ dX6_sum_14
set_option maxHeartbeats 4000000 in
set_option maxRecDepth 100000 in
theorem x_total (l : Launch) (G : GG) (x : Nat) (xa ta a b ga ua la lb lc : Nat → Nat) (tg gg : Nat → Option Nat) (xf tf f qf gf uf lf mf nf : Nat → Int32) (tr r q gr ur lr mr nr : Nat → Nat → Int32) (tb : Int32) (row : Int32) (col : Int32) (j : Nat) (hj : j < 6) (hjt : tbJ tb j) (htg : tg j = some (ta 0)) (hT1 : nL 12 (tf 1)) (hT2 : nL 12 (tf 2)) (hT3 : nL 12 (tf 3)) (hT4 : nOK 12 12 (tr 4)) : WrI l yX6_total cX6_total 4 (some .int) ({ frames := 3, cells := 0, slots := 0, locals := 69 }) G (xM G x xa ta a b ga ua la lb lc tg gg xf tf f qf gf uf lf mf nf tr r q gr ur lr mr nr) [.ref x, .int tb, .int row, .int col] (fun q w => ∃ (n_xf_0 : Int32), w = xM G x xa ta a b ga ua la lb lc tg gg (upd xf 0 n_xf_0) tf f qf gf uf lf mf nf tr r q gr ur lr mr nr) := by
  refine wr_entryI (by decide +kernel) (Nat.le_of_ble_eq_true rfl) ?_
  intro p e s m below meth c A C0 hP hK hD hA ls hl
  have hS : va_S A s.heap s.heap [] := va_S.rf
  obtain ⟨hx, hb, hml, hown, hts, hr, hlocks, hin⟩ := C0
  have hown : s.vm.findClass RX6 = some m.cls := hown
  have hDD : ∀ xf' tf' f' qf' gf' uf' lf' mf' nf' tr' r' q' gr' ur' lr' mr' nr', va_D A (xM G x xa ta a b ga ua la lb lc tg gg xf' tf' f' qf' gf' uf' lf' mf' nf' tr' r' q' gr' ur' lr' mr' nr') := fun xf' tf' f' qf' gf' uf' lf' mf' nf' tr' r' q' gr' ur' lr' mr' nr' => D_same hD rfl
  have hl : lv_has ls 4 [(0, .ref x), (1, .int tb), (2, .int row), (3, .int col)] := hl
  refine lv_aload_n hx hb dX6_total_0 rfl (lv_at hl 0 rfl) ?_
  refine lv_aload_n hx hb dX6_total_1 rfl (lv_at hl 0 rfl) ?_
  refine lv_iload_n hx hb dX6_total_2 rfl (lv_at hl 1 rfl) ?_
  refine lv_iload_n hx hb dX6_total_3 rfl (lv_at hl 2 rfl) ?_
  refine rdV (rest := [.ref x]) (q0 := 0) ⟨hx, hb, hml, hown, hts⟩ (x_rowStatus l G x xa ta a b ga ua la lb lc tg gg xf tf f qf gf uf lf mf nf tr r q gr ur lr mr nr tb row j (by omega) hjt htg) mi_yX6_rowStatus mv_yX6_rowStatus ml_X6_110 ⟨rfl, rfl, Nat.le_of_ble_eq_true rfl, Nat.le_of_ble_eq_true rfl⟩ hK (hP) rfl rfl rfl hl.1 rfl (Nat.le_of_ble_eq_true rfl) dX6_total_4 ⟨Nat.zero_le _, Nat.zero_le _⟩ hS hA hP (fun r1 H locs hr1 hP hS => ?_)
  have hr1 : (r1 = 0 → tbO tb j (tf 0) ∧ inR (tf 1) row) := hr1
  refine wrVIa (rest := []) (q0 := 0) ⟨hx, hb, hml, hown, hts⟩ (x_settled l G x xa ta a b ga ua la lb lc tg gg xf tf f qf gf uf lf mf nf tr r q gr ur lr mr nr r1  ) mi_yX6_settled mv_yX6_settled ml_X6_65 ⟨rfl, rfl, Nat.le_of_ble_eq_true rfl, Nat.le_of_ble_eq_true rfl⟩ hK hP (hDD _ _ _ _ _ _ _ _ _ _ _ _ _ _ _ _ _) rfl rfl rfl hl.1 rfl (Nat.le_of_ble_eq_true rfl) dX6_total_7 ⟨Nat.zero_le _, Nat.zero_le _⟩ hS hA (fun r2 w3 H locs hw3 hP hS => ?_)
  obtain ⟨x4, rfl, hw3r⟩ := hw3
  have hP : PP G (xM G x xa ta a b ga ua la lb lc tg gg (upd xf 0 x4) tf f qf gf uf lf mf nf tr r q gr ur lr mr nr) H := hP
  have hw3r : ((r2 = 1 ∧ (r1 = 0)) ∨ (r2 = 0 ∧ ¬ (r1 = 0))) := hw3r
  refine lv_if_ne (tgt := 15) hx hb dX6_total_10 (by decide) (fun c5 => ?_) (fun c5 => ?_)
  · have b10 := bT hw3r c5
    obtain ⟨⟨ej, ho⟩, q1⟩ := hr1 b10
    subst ej
    have q1c := q1
    obtain ⟨rw, hrw, t1⟩ := hT1
    obtain ⟨cl, hcl, t2⟩ := hT2
    obtain ⟨bk, hbk, t3⟩ := hT3
    have hT1 : nL 12 (tf 1) := ⟨rw, hrw, t1⟩
    have hT2 : nL 12 (tf 2) := ⟨cl, hcl, t2⟩
    have hT3 : nL 12 (tf 3) := ⟨bk, hbk, t3⟩
    rw [t1] at q1c
    obtain ⟨i, hi, ei⟩ := inR_n (by omega) q1c
    subst ei
    refine lv_iload_n hx hb dX6_total_15 rfl (lv_at hl 3 rfl) ?_
    refine lv_if_lt (tgt := 32) hx hb dX6_total_16 (by decide) (fun c6 => ?_) (fun c6 => ?_)
    · refine lv_aload_n hx hb dX6_total_32 rfl (lv_at hl 0 rfl) ?_
      refine lv_iconst (v := 2) hx hb dX6_total_33 (by decide) ?_
      refine wrVIa (rest := []) (q0 := 0) ⟨hx, hb, hml, hown, hts⟩ (x_refused l G x xa ta a b ga ua la lb lc tg gg (upd xf 0 x4) tf f qf gf uf lf mf nf tr r q gr ur lr mr nr 2  ) mi_yX6_refused mv_yX6_refused ml_X6_122 ⟨rfl, rfl, Nat.le_of_ble_eq_true rfl, Nat.le_of_ble_eq_true rfl⟩ hK hP (hDD _ _ _ _ _ _ _ _ _ _ _ _ _ _ _ _ _) rfl rfl rfl hl.1 rfl (Nat.le_of_ble_eq_true rfl) dX6_total_34 ⟨Nat.zero_le _, Nat.zero_le _⟩ hS hA (fun r7 w8 H locs hw8 hP hS => ?_)
      obtain ⟨x9, rfl⟩ := hw8
      have hP : PP G (xM G x xa ta a b ga ua la lb lc tg gg (upd xf 0 x9) tf f qf gf uf lf mf nf tr r q gr ur lr mr nr) H := hP
      exact wr_iret hx hb hr hlocks hS hP ⟨x9, rfl⟩ dX6_total_37
    · refine lv_iload_n hx hb dX6_total_19 rfl (lv_at hl 3 rfl) ?_
      refine lv_aload_n hx hb dX6_total_20 rfl (lv_at hl 0 rfl) ?_
      refine va_get (D := G.1) (ci := 6) (v := .ref (xa 1)) (C := RX6) (T := TX6) (N := 10) hx hb hts inX6 hown hK.1 hP 0 rfl rfl 1 (by decide) (hts _ mf_X6_15) (fun _ h9 => h9) rfl dX6_total_21 ?_
      refine lv_iload_n hx hb dX6_total_24 rfl (lv_at hl 1 rfl) ?_
      refine xaldT hx hb hK hP 1 (j) (b := (ta 0)) rfl (by omega) (by decide) rfl (htg) dX6_total_25 ?_
      refine va_get (D := G.1) (ci := 4) (v := .int (tf 2)) (C := RX4) (T := TX4) (N := 12) hx hb hts inX4 hown hK.1 hP 2 rfl rfl 2 (by decide) (hts _ mf_X6_159) (fun _ h9 => h9) rfl dX6_total_26 ?_
      rw [show (tf 2) = nI (cl) from t2]
      refine lv_icmp_lt (tgt := 38) hx hb dX6_total_29 (by decide) (fun c10 => ?_) (fun c10 => ?_)
      · obtain ⟨k, hk, ek⟩ := lt_ix (x := col) (n := cl) (by omega) c6 (Int32.not_le.mpr c10)
        subst ek
        refine lv_aload_n hx hb dX6_total_38 rfl (lv_at hl 0 rfl) ?_
        refine va_get (D := G.1) (ci := 6) (v := .ref (xa 1)) (C := RX6) (T := TX6) (N := 10) hx hb hts inX6 hown hK.1 hP 0 rfl rfl 1 (by decide) (hts _ mf_X6_15) (fun _ h9 => h9) rfl dX6_total_39 ?_
        refine lv_iload_n hx hb dX6_total_42 rfl (lv_at hl 1 rfl) ?_
        refine xaldT hx hb hK hP 1 (j) (b := (ta 0)) rfl (by omega) (by decide) rfl (htg) dX6_total_43 ?_
        refine lv_iload_n hx hb dX6_total_44 rfl (lv_at hl 2 rfl) ?_
        refine rdV (rest := []) (q0 := 0) ⟨hx, hb, hml, hown, hts⟩ (c_X4_isSound l G ta tf tr i cl (by omega) hcl t2) mi_yX4_isSound mv_yX4_isSound ml_X6_153 ⟨rfl, rfl, Nat.le_of_ble_eq_true rfl, Nat.le_of_ble_eq_true rfl⟩ hK (hP.sub (ws' := tW G ta tf tr) [2, 3, 4, 5, 6, 7, 8, 9, 10] rfl) rfl rfl rfl hl.1 rfl (Nat.le_of_ble_eq_true rfl) dX6_total_45 ⟨Nat.zero_le _, Nat.zero_le _⟩ hS hA hP (fun r11 H locs hr11 hP hS => ?_)
        refine lv_if_ne (tgt := 58) hx hb dX6_total_48 (by decide) (fun c12 => ?_) (fun c12 => ?_)
        · have b48 := bT hr11 c12
          refine lv_aload_n hx hb dX6_total_58 rfl (lv_at hl 0 rfl) ?_
          refine va_get (D := G.1) (ci := 6) (v := .ref (xa 1)) (C := RX6) (T := TX6) (N := 10) hx hb hts inX6 hown hK.1 hP 0 rfl rfl 1 (by decide) (hts _ mf_X6_15) (fun _ h9 => h9) rfl dX6_total_59 ?_
          refine lv_iload_n hx hb dX6_total_62 rfl (lv_at hl 1 rfl) ?_
          refine xaldT hx hb hK hP 1 (j) (b := (ta 0)) rfl (by omega) (by decide) rfl (htg) dX6_total_63 ?_
          refine lv_iload_n hx hb dX6_total_64 rfl (lv_at hl 2 rfl) ?_
          refine lv_iload_n hx hb dX6_total_65 rfl (lv_at hl 3 rfl) ?_
          refine rdV (rest := []) (q0 := 0) ⟨hx, hb, hml, hown, hts⟩ (c_X4_classSum l G ta tf tr i k rw cl bk hrw hcl hbk t1 t2 t3 (by omega) (by omega)) mi_yX4_classSum mv_yX4_classSum ml_X6_162 ⟨rfl, rfl, Nat.le_of_ble_eq_true rfl, Nat.le_of_ble_eq_true rfl⟩ hK (hP.sub (ws' := tW G ta tf tr) [2, 3, 4, 5, 6, 7, 8, 9, 10] rfl) rfl rfl rfl hl.1 rfl (Nat.le_of_ble_eq_true rfl) dX6_total_66 ⟨Nat.zero_le _, Nat.zero_le _⟩ hS hA hP (fun r13 H locs hr13 hP hS => ?_)
          exact wr_iret hx hb hr hlocks hS hP ⟨x4, rfl⟩ dX6_total_69
        · have b48 := bF hr11 c12
          refine lv_aload_n hx hb dX6_total_51 rfl (lv_at hl 0 rfl) ?_
          refine lv_bipush (v := 11) hx hb dX6_total_52 (by decide) ?_
          refine wrVIa (rest := []) (q0 := 0) ⟨hx, hb, hml, hown, hts⟩ (x_refused l G x xa ta a b ga ua la lb lc tg gg (upd xf 0 x4) tf f qf gf uf lf mf nf tr r q gr ur lr mr nr 11  ) mi_yX6_refused mv_yX6_refused ml_X6_122 ⟨rfl, rfl, Nat.le_of_ble_eq_true rfl, Nat.le_of_ble_eq_true rfl⟩ hK hP (hDD _ _ _ _ _ _ _ _ _ _ _ _ _ _ _ _ _) rfl rfl rfl hl.1 rfl (Nat.le_of_ble_eq_true rfl) dX6_total_54 ⟨Nat.zero_le _, Nat.zero_le _⟩ hS hA (fun r14 w15 H locs hw15 hP hS => ?_)
          obtain ⟨x16, rfl⟩ := hw15
          have hP : PP G (xM G x xa ta a b ga ua la lb lc tg gg (upd xf 0 x16) tf f qf gf uf lf mf nf tr r q gr ur lr mr nr) H := hP
          exact wr_iret hx hb hr hlocks hS hP ⟨x16, rfl⟩ dX6_total_57
      · refine lv_aload_n hx hb dX6_total_32 rfl (lv_at hl 0 rfl) ?_
        refine lv_iconst (v := 2) hx hb dX6_total_33 (by decide) ?_
        refine wrVIa (rest := []) (q0 := 0) ⟨hx, hb, hml, hown, hts⟩ (x_refused l G x xa ta a b ga ua la lb lc tg gg (upd xf 0 x4) tf f qf gf uf lf mf nf tr r q gr ur lr mr nr 2  ) mi_yX6_refused mv_yX6_refused ml_X6_122 ⟨rfl, rfl, Nat.le_of_ble_eq_true rfl, Nat.le_of_ble_eq_true rfl⟩ hK hP (hDD _ _ _ _ _ _ _ _ _ _ _ _ _ _ _ _ _) rfl rfl rfl hl.1 rfl (Nat.le_of_ble_eq_true rfl) dX6_total_34 ⟨Nat.zero_le _, Nat.zero_le _⟩ hS hA (fun r17 w18 H locs hw18 hP hS => ?_)
        obtain ⟨x19, rfl⟩ := hw18
        have hP : PP G (xM G x xa ta a b ga ua la lb lc tg gg (upd xf 0 x19) tf f qf gf uf lf mf nf tr r q gr ur lr mr nr) H := hP
        exact wr_iret hx hb hr hlocks hS hP ⟨x19, rfl⟩ dX6_total_37
  · have b10 := bF hw3r c5
    refine lv_iconst (v := -1) hx hb dX6_total_13 (by decide) ?_
    exact wr_iret hx hb hr hlocks hS hP ⟨x4, rfl⟩ dX6_total_14
set_option maxHeartbeats 4000000 in
set_option maxRecDepth 100000 in
theorem x_secret (l : Launch) (G : GG) (x : Nat) (xa ta a b ga ua la lb lc : Nat → Nat) (tg gg : Nat → Option Nat) (xf tf f qf gf uf lf mf nf : Nat → Int32) (tr r q gr ur lr mr nr : Nat → Nat → Int32) (tb : Int32) (row : Int32) (col : Int32) (j : Nat) (hj : j < 6) (hjt : tbJ tb j) (htg : tg j = some (ta 0)) (hT1 : nL 12 (tf 1)) (hT2 : nL 12 (tf 2)) (hT3 : nL 12 (tf 3)) (hT4 : nOK 12 12 (tr 4)) : WrI l yX6_secret cX6_secret 4 (some .int) ({ frames := 6, cells := 0, slots := 0, locals := 141 }) G (xM G x xa ta a b ga ua la lb lc tg gg xf tf f qf gf uf lf mf nf tr r q gr ur lr mr nr) [.ref x, .int tb, .int row, .int col] (fun q w => ∃ (n_xf_0 : Int32), w = xM G x xa ta a b ga ua la lb lc tg gg (upd xf 0 n_xf_0) tf f qf gf uf lf mf nf tr r q gr ur lr mr nr) := by
  refine wr_entryI (by decide +kernel) (Nat.le_of_ble_eq_true rfl) ?_
  intro p e s m below meth c A C0 hP hK hD hA ls hl
  have hS : va_S A s.heap s.heap [] := va_S.rf
  obtain ⟨hx, hb, hml, hown, hts, hr, hlocks, hin⟩ := C0
  have hown : s.vm.findClass RX6 = some m.cls := hown
  have hDD : ∀ xf' tf' f' qf' gf' uf' lf' mf' nf' tr' r' q' gr' ur' lr' mr' nr', va_D A (xM G x xa ta a b ga ua la lb lc tg gg xf' tf' f' qf' gf' uf' lf' mf' nf' tr' r' q' gr' ur' lr' mr' nr') := fun xf' tf' f' qf' gf' uf' lf' mf' nf' tr' r' q' gr' ur' lr' mr' nr' => D_same hD rfl
  have hl : lv_has ls 4 [(0, .ref x), (1, .int tb), (2, .int row), (3, .int col)] := hl
  refine lv_aload_n hx hb dX6_secret_0 rfl (lv_at hl 0 rfl) ?_
  refine lv_aload_n hx hb dX6_secret_1 rfl (lv_at hl 0 rfl) ?_
  refine lv_iload_n hx hb dX6_secret_2 rfl (lv_at hl 1 rfl) ?_
  refine lv_iload_n hx hb dX6_secret_3 rfl (lv_at hl 2 rfl) ?_
  refine lv_iload_n hx hb dX6_secret_4 rfl (lv_at hl 3 rfl) ?_
  refine rdV (rest := [.ref x]) (q0 := 0) ⟨hx, hb, hml, hown, hts⟩ (x_soundCellStatus l G x xa ta a b ga ua la lb lc tg gg xf tf f qf gf uf lf mf nf tr r q gr ur lr mr nr tb row col j (by omega) hjt htg hT1 hT2 hT3) mi_yX6_soundCellStatus mv_yX6_soundCellStatus ml_X6_165 ⟨rfl, rfl, Nat.le_of_ble_eq_true rfl, Nat.le_of_ble_eq_true rfl⟩ hK (hP) rfl rfl rfl hl.1 rfl (Nat.le_of_ble_eq_true rfl) dX6_secret_5 ⟨Nat.zero_le _, Nat.zero_le _⟩ hS hA hP (fun r1 H locs hr1 hP hS => ?_)
  have hr1 : (r1 = 0 → tbO tb j (tf 0) ∧ inR (tf 1) row ∧ inR (tf 2) col) := hr1
  refine wrVIa (rest := []) (q0 := 0) ⟨hx, hb, hml, hown, hts⟩ (x_settled l G x xa ta a b ga ua la lb lc tg gg xf tf f qf gf uf lf mf nf tr r q gr ur lr mr nr r1  ) mi_yX6_settled mv_yX6_settled ml_X6_65 ⟨rfl, rfl, Nat.le_of_ble_eq_true rfl, Nat.le_of_ble_eq_true rfl⟩ hK hP (hDD _ _ _ _ _ _ _ _ _ _ _ _ _ _ _ _ _) rfl rfl rfl hl.1 rfl (Nat.le_of_ble_eq_true rfl) dX6_secret_8 ⟨Nat.zero_le _, Nat.zero_le _⟩ hS hA (fun r2 w3 H locs hw3 hP hS => ?_)
  obtain ⟨x4, rfl, hw3r⟩ := hw3
  have hP : PP G (xM G x xa ta a b ga ua la lb lc tg gg (upd xf 0 x4) tf f qf gf uf lf mf nf tr r q gr ur lr mr nr) H := hP
  have hw3r : ((r2 = 1 ∧ (r1 = 0)) ∨ (r2 = 0 ∧ ¬ (r1 = 0))) := hw3r
  refine lv_if_ne (tgt := 16) hx hb dX6_secret_11 (by decide) (fun c5 => ?_) (fun c5 => ?_)
  · have b11 := bT hw3r c5
    obtain ⟨⟨ej, ho⟩, q1, q2⟩ := hr1 b11
    subst ej
    have q1c := q1
    have q2c := q2
    obtain ⟨rw, hrw, t1⟩ := hT1
    obtain ⟨cl, hcl, t2⟩ := hT2
    obtain ⟨bk, hbk, t3⟩ := hT3
    have hT1 : nL 12 (tf 1) := ⟨rw, hrw, t1⟩
    have hT2 : nL 12 (tf 2) := ⟨cl, hcl, t2⟩
    have hT3 : nL 12 (tf 3) := ⟨bk, hbk, t3⟩
    rw [t1] at q1c
    rw [t2] at q2c
    obtain ⟨i, hi, ei⟩ := inR_n (by omega) q1c
    subst ei
    obtain ⟨k, hk, ek⟩ := inR_n (by omega) q2c
    subst ek
    refine lv_aload_n hx hb dX6_secret_16 rfl (lv_at hl 0 rfl) ?_
    refine va_get (D := G.1) (ci := 6) (v := .ref (xa 1)) (C := RX6) (T := TX6) (N := 10) hx hb hts inX6 hown hK.1 hP 0 rfl rfl 1 (by decide) (hts _ mf_X6_15) (fun _ h9 => h9) rfl dX6_secret_17 ?_
    refine lv_iload_n hx hb dX6_secret_20 rfl (lv_at hl 1 rfl) ?_
    refine xaldT hx hb hK hP 1 (j) (b := (ta 0)) rfl (by omega) (by decide) rfl (htg) dX6_secret_21 ?_
    refine lv_iload_n hx hb dX6_secret_22 rfl (lv_at hl 2 rfl) ?_
    refine lv_iload_n hx hb dX6_secret_23 rfl (lv_at hl 3 rfl) ?_
    refine rdS (rest := [.ref (ta 0)]) ⟨hx, hb, hml, hown, hts⟩ (c_X6_spotOf l G ((nI i)) ((nI k))) mi_yX6_spotOf mst_yX6_spotOf ml_X6_92 ⟨rfl, rfl, Nat.le_of_ble_eq_true rfl, Nat.le_of_ble_eq_true rfl⟩ hK (fun k q h => by simp at h) rfl hl.1 rfl (Nat.le_of_ble_eq_true rfl) dX6_secret_24 ⟨Nat.zero_le _, Nat.zero_le _⟩ hS hA hP (fun r6 H locs hr6 hP hS => ?_)
    obtain rfl : r6 = nI (i * 12 + k) := spot_eq hr6
    refine rdV (rest := []) (q0 := 0) ⟨hx, hb, hml, hown, hts⟩ (c_X4_reasons l G ta tf tr (i * 12 + k) (by omega)) mi_yX4_reasons mv_yX4_reasons ml_X6_168 ⟨rfl, rfl, Nat.le_of_ble_eq_true rfl, Nat.le_of_ble_eq_true rfl⟩ hK (hP.sub (ws' := tW G ta tf tr) [2, 3, 4, 5, 6, 7, 8, 9, 10] rfl) rfl rfl rfl hl.1 rfl (Nat.le_of_ble_eq_true rfl) dX6_secret_27 ⟨Nat.zero_le _, Nat.zero_le _⟩ hS hA hP (fun r7 H locs hr7 hP hS => ?_)
    exact wr_iret hx hb hr hlocks hS hP ⟨x4, rfl⟩ dX6_secret_30
  · have b11 := bF hw3r c5
    refine lv_iconst (v := -1) hx hb dX6_secret_14 (by decide) ?_
    exact wr_iret hx hb hr hlocks hS hP ⟨x4, rfl⟩ dX6_secret_15
set_option maxHeartbeats 4000000 in
set_option maxRecDepth 100000 in
theorem x_kept (l : Launch) (G : GG) (x : Nat) (xa ta a b ga ua la lb lc : Nat → Nat) (tg gg : Nat → Option Nat) (xf tf f qf gf uf lf mf nf : Nat → Int32) (tr r q gr ur lr mr nr : Nat → Nat → Int32) (tb : Int32) (row : Int32) (col : Int32) (j : Nat) (hj : j < 6) (hjt : tbJ tb j) (htg : tg j = some (ta 0)) (hT1 : nL 12 (tf 1)) (hT2 : nL 12 (tf 2)) (hT3 : nL 12 (tf 3)) (hT4 : nOK 12 12 (tr 4)) : WrI l yX6_kept cX6_kept 4 (some .int) ({ frames := 6, cells := 0, slots := 0, locals := 141 }) G (xM G x xa ta a b ga ua la lb lc tg gg xf tf f qf gf uf lf mf nf tr r q gr ur lr mr nr) [.ref x, .int tb, .int row, .int col] (fun q w => ∃ (n_xf_0 : Int32), w = xM G x xa ta a b ga ua la lb lc tg gg (upd xf 0 n_xf_0) tf f qf gf uf lf mf nf tr r q gr ur lr mr nr) := by
  refine wr_entryI (by decide +kernel) (Nat.le_of_ble_eq_true rfl) ?_
  intro p e s m below meth c A C0 hP hK hD hA ls hl
  have hS : va_S A s.heap s.heap [] := va_S.rf
  obtain ⟨hx, hb, hml, hown, hts, hr, hlocks, hin⟩ := C0
  have hown : s.vm.findClass RX6 = some m.cls := hown
  have hDD : ∀ xf' tf' f' qf' gf' uf' lf' mf' nf' tr' r' q' gr' ur' lr' mr' nr', va_D A (xM G x xa ta a b ga ua la lb lc tg gg xf' tf' f' qf' gf' uf' lf' mf' nf' tr' r' q' gr' ur' lr' mr' nr') := fun xf' tf' f' qf' gf' uf' lf' mf' nf' tr' r' q' gr' ur' lr' mr' nr' => D_same hD rfl
  have hl : lv_has ls 4 [(0, .ref x), (1, .int tb), (2, .int row), (3, .int col)] := hl
  refine lv_aload_n hx hb dX6_kept_0 rfl (lv_at hl 0 rfl) ?_
  refine lv_aload_n hx hb dX6_kept_1 rfl (lv_at hl 0 rfl) ?_
  refine lv_iload_n hx hb dX6_kept_2 rfl (lv_at hl 1 rfl) ?_
  refine lv_iload_n hx hb dX6_kept_3 rfl (lv_at hl 2 rfl) ?_
  refine lv_iload_n hx hb dX6_kept_4 rfl (lv_at hl 3 rfl) ?_
  refine rdV (rest := [.ref x]) (q0 := 0) ⟨hx, hb, hml, hown, hts⟩ (x_soundCellStatus l G x xa ta a b ga ua la lb lc tg gg xf tf f qf gf uf lf mf nf tr r q gr ur lr mr nr tb row col j (by omega) hjt htg hT1 hT2 hT3) mi_yX6_soundCellStatus mv_yX6_soundCellStatus ml_X6_165 ⟨rfl, rfl, Nat.le_of_ble_eq_true rfl, Nat.le_of_ble_eq_true rfl⟩ hK (hP) rfl rfl rfl hl.1 rfl (Nat.le_of_ble_eq_true rfl) dX6_kept_5 ⟨Nat.zero_le _, Nat.zero_le _⟩ hS hA hP (fun r1 H locs hr1 hP hS => ?_)
  have hr1 : (r1 = 0 → tbO tb j (tf 0) ∧ inR (tf 1) row ∧ inR (tf 2) col) := hr1
  refine wrVIa (rest := []) (q0 := 0) ⟨hx, hb, hml, hown, hts⟩ (x_settled l G x xa ta a b ga ua la lb lc tg gg xf tf f qf gf uf lf mf nf tr r q gr ur lr mr nr r1  ) mi_yX6_settled mv_yX6_settled ml_X6_65 ⟨rfl, rfl, Nat.le_of_ble_eq_true rfl, Nat.le_of_ble_eq_true rfl⟩ hK hP (hDD _ _ _ _ _ _ _ _ _ _ _ _ _ _ _ _ _) rfl rfl rfl hl.1 rfl (Nat.le_of_ble_eq_true rfl) dX6_kept_8 ⟨Nat.zero_le _, Nat.zero_le _⟩ hS hA (fun r2 w3 H locs hw3 hP hS => ?_)
  obtain ⟨x4, rfl, hw3r⟩ := hw3
  have hP : PP G (xM G x xa ta a b ga ua la lb lc tg gg (upd xf 0 x4) tf f qf gf uf lf mf nf tr r q gr ur lr mr nr) H := hP
  have hw3r : ((r2 = 1 ∧ (r1 = 0)) ∨ (r2 = 0 ∧ ¬ (r1 = 0))) := hw3r
  refine lv_if_ne (tgt := 16) hx hb dX6_kept_11 (by decide) (fun c5 => ?_) (fun c5 => ?_)
  · have b11 := bT hw3r c5
    obtain ⟨⟨ej, ho⟩, q1, q2⟩ := hr1 b11
    subst ej
    have q1c := q1
    have q2c := q2
    obtain ⟨rw, hrw, t1⟩ := hT1
    obtain ⟨cl, hcl, t2⟩ := hT2
    obtain ⟨bk, hbk, t3⟩ := hT3
    have hT1 : nL 12 (tf 1) := ⟨rw, hrw, t1⟩
    have hT2 : nL 12 (tf 2) := ⟨cl, hcl, t2⟩
    have hT3 : nL 12 (tf 3) := ⟨bk, hbk, t3⟩
    rw [t1] at q1c
    rw [t2] at q2c
    obtain ⟨i, hi, ei⟩ := inR_n (by omega) q1c
    subst ei
    obtain ⟨k, hk, ek⟩ := inR_n (by omega) q2c
    subst ek
    refine lv_aload_n hx hb dX6_kept_16 rfl (lv_at hl 0 rfl) ?_
    refine va_get (D := G.1) (ci := 6) (v := .ref (xa 1)) (C := RX6) (T := TX6) (N := 10) hx hb hts inX6 hown hK.1 hP 0 rfl rfl 1 (by decide) (hts _ mf_X6_15) (fun _ h9 => h9) rfl dX6_kept_17 ?_
    refine lv_iload_n hx hb dX6_kept_20 rfl (lv_at hl 1 rfl) ?_
    refine xaldT hx hb hK hP 1 (j) (b := (ta 0)) rfl (by omega) (by decide) rfl (htg) dX6_kept_21 ?_
    refine lv_iload_n hx hb dX6_kept_22 rfl (lv_at hl 2 rfl) ?_
    refine lv_iload_n hx hb dX6_kept_23 rfl (lv_at hl 3 rfl) ?_
    refine rdS (rest := [.ref (ta 0)]) ⟨hx, hb, hml, hown, hts⟩ (c_X6_spotOf l G ((nI i)) ((nI k))) mi_yX6_spotOf mst_yX6_spotOf ml_X6_92 ⟨rfl, rfl, Nat.le_of_ble_eq_true rfl, Nat.le_of_ble_eq_true rfl⟩ hK (fun k q h => by simp at h) rfl hl.1 rfl (Nat.le_of_ble_eq_true rfl) dX6_kept_24 ⟨Nat.zero_le _, Nat.zero_le _⟩ hS hA hP (fun r6 H locs hr6 hP hS => ?_)
    obtain rfl : r6 = nI (i * 12 + k) := spot_eq hr6
    refine rdV (rest := []) (q0 := 0) ⟨hx, hb, hml, hown, hts⟩ (c_X4_isKept l G ta tf tr (i * 12 + k) (by omega)) mi_yX4_isKept mv_yX4_isKept ml_X6_171 ⟨rfl, rfl, Nat.le_of_ble_eq_true rfl, Nat.le_of_ble_eq_true rfl⟩ hK (hP.sub (ws' := tW G ta tf tr) [2, 3, 4, 5, 6, 7, 8, 9, 10] rfl) rfl rfl rfl hl.1 rfl (Nat.le_of_ble_eq_true rfl) dX6_kept_27 ⟨Nat.zero_le _, Nat.zero_le _⟩ hS hA hP (fun r7 H locs hr7 hP hS => ?_)
    refine lv_if_eq (tgt := 37) hx hb dX6_kept_30 (by decide) (fun c8 => ?_) (fun c8 => ?_)
    · have b30 := bF hr7 c8
      refine lv_iconst (v := 0) hx hb dX6_kept_37 (by decide) ?_
      exact wr_iret hx hb hr hlocks hS hP ⟨x4, rfl⟩ dX6_kept_38
    · have b30 := bT hr7 c8
      refine lv_iconst (v := 1) hx hb dX6_kept_33 (by decide) ?_
      refine lv_goto (tgt := 38) hx hb dX6_kept_34 (by decide) ?_
      exact wr_iret hx hb hr hlocks hS hP ⟨x4, rfl⟩ dX6_kept_38
  · have b11 := bF hw3r c5
    refine lv_iconst (v := -1) hx hb dX6_kept_14 (by decide) ?_
    exact wr_iret hx hb hr hlocks hS hP ⟨x4, rfl⟩ dX6_kept_15
set_option maxHeartbeats 4000000 in
set_option maxRecDepth 100000 in
theorem x_thousandths (l : Launch) (G : GG) (x : Nat) (xa ta a b ga ua la lb lc : Nat → Nat) (tg gg : Nat → Option Nat) (xf tf f qf gf uf lf mf nf : Nat → Int32) (tr r q gr ur lr mr nr : Nat → Nat → Int32) (tb : Int32) (row : Int32) (col : Int32) (j : Nat) (hj : j < 6) (hjt : tbJ tb j) (htg : tg j = some (ta 0)) (hT1 : nL 12 (tf 1)) (hT2 : nL 12 (tf 2)) (hT3 : nL 12 (tf 3)) (hT4 : nOK 12 12 (tr 4)) : WrI l yX6_thousandths cX6_thousandths 4 (some .int) ({ frames := 5, cells := 0, slots := 0, locals := 117 }) G (xM G x xa ta a b ga ua la lb lc tg gg xf tf f qf gf uf lf mf nf tr r q gr ur lr mr nr) [.ref x, .int tb, .int row, .int col] (fun q w => ∃ (n_xf_0 : Int32), w = xM G x xa ta a b ga ua la lb lc tg gg (upd xf 0 n_xf_0) tf f qf gf uf lf mf nf tr r q gr ur lr mr nr) := by
  refine wr_entryI (by decide +kernel) (Nat.le_of_ble_eq_true rfl) ?_
  intro p e s m below meth c A C0 hP hK hD hA ls hl
  have hS : va_S A s.heap s.heap [] := va_S.rf
  obtain ⟨hx, hb, hml, hown, hts, hr, hlocks, hin⟩ := C0
  have hown : s.vm.findClass RX6 = some m.cls := hown
  have hDD : ∀ xf' tf' f' qf' gf' uf' lf' mf' nf' tr' r' q' gr' ur' lr' mr' nr', va_D A (xM G x xa ta a b ga ua la lb lc tg gg xf' tf' f' qf' gf' uf' lf' mf' nf' tr' r' q' gr' ur' lr' mr' nr') := fun xf' tf' f' qf' gf' uf' lf' mf' nf' tr' r' q' gr' ur' lr' mr' nr' => D_same hD rfl
  have hl : lv_has ls 4 [(0, .ref x), (1, .int tb), (2, .int row), (3, .int col)] := hl
  refine lv_aload_n hx hb dX6_thousandths_0 rfl (lv_at hl 0 rfl) ?_
  refine lv_aload_n hx hb dX6_thousandths_1 rfl (lv_at hl 0 rfl) ?_
  refine lv_iload_n hx hb dX6_thousandths_2 rfl (lv_at hl 1 rfl) ?_
  refine lv_iload_n hx hb dX6_thousandths_3 rfl (lv_at hl 2 rfl) ?_
  refine lv_iload_n hx hb dX6_thousandths_4 rfl (lv_at hl 3 rfl) ?_
  refine rdV (rest := [.ref x]) (q0 := 0) ⟨hx, hb, hml, hown, hts⟩ (x_cellStatus l G x xa ta a b ga ua la lb lc tg gg xf tf f qf gf uf lf mf nf tr r q gr ur lr mr nr tb row col j (by omega) hjt htg hT1 hT2 hT3) mi_yX6_cellStatus mv_yX6_cellStatus ml_X6_174 ⟨rfl, rfl, Nat.le_of_ble_eq_true rfl, Nat.le_of_ble_eq_true rfl⟩ hK (hP) rfl rfl rfl hl.1 rfl (Nat.le_of_ble_eq_true rfl) dX6_thousandths_5 ⟨Nat.zero_le _, Nat.zero_le _⟩ hS hA hP (fun r1 H locs hr1 hP hS => ?_)
  have hr1 : (r1 = 0 → tbO tb j (tf 0) ∧ inR (tf 1) row ∧ inR (tf 2) col) := hr1
  refine wrVIa (rest := []) (q0 := 0) ⟨hx, hb, hml, hown, hts⟩ (x_settled l G x xa ta a b ga ua la lb lc tg gg xf tf f qf gf uf lf mf nf tr r q gr ur lr mr nr r1  ) mi_yX6_settled mv_yX6_settled ml_X6_65 ⟨rfl, rfl, Nat.le_of_ble_eq_true rfl, Nat.le_of_ble_eq_true rfl⟩ hK hP (hDD _ _ _ _ _ _ _ _ _ _ _ _ _ _ _ _ _) rfl rfl rfl hl.1 rfl (Nat.le_of_ble_eq_true rfl) dX6_thousandths_8 ⟨Nat.zero_le _, Nat.zero_le _⟩ hS hA (fun r2 w3 H locs hw3 hP hS => ?_)
  obtain ⟨x4, rfl, hw3r⟩ := hw3
  have hP : PP G (xM G x xa ta a b ga ua la lb lc tg gg (upd xf 0 x4) tf f qf gf uf lf mf nf tr r q gr ur lr mr nr) H := hP
  have hw3r : ((r2 = 1 ∧ (r1 = 0)) ∨ (r2 = 0 ∧ ¬ (r1 = 0))) := hw3r
  refine lv_if_ne (tgt := 16) hx hb dX6_thousandths_11 (by decide) (fun c5 => ?_) (fun c5 => ?_)
  · have b11 := bT hw3r c5
    obtain ⟨⟨ej, ho⟩, q1, q2⟩ := hr1 b11
    subst ej
    have q1c := q1
    have q2c := q2
    obtain ⟨rw, hrw, t1⟩ := hT1
    obtain ⟨cl, hcl, t2⟩ := hT2
    obtain ⟨bk, hbk, t3⟩ := hT3
    have hT1 : nL 12 (tf 1) := ⟨rw, hrw, t1⟩
    have hT2 : nL 12 (tf 2) := ⟨cl, hcl, t2⟩
    have hT3 : nL 12 (tf 3) := ⟨bk, hbk, t3⟩
    rw [t1] at q1c
    rw [t2] at q2c
    obtain ⟨i, hi, ei⟩ := inR_n (by omega) q1c
    subst ei
    obtain ⟨k, hk, ek⟩ := inR_n (by omega) q2c
    subst ek
    refine lv_aload_n hx hb dX6_thousandths_16 rfl (lv_at hl 0 rfl) ?_
    refine va_get (D := G.1) (ci := 6) (v := .ref (xa 1)) (C := RX6) (T := TX6) (N := 10) hx hb hts inX6 hown hK.1 hP 0 rfl rfl 1 (by decide) (hts _ mf_X6_15) (fun _ h9 => h9) rfl dX6_thousandths_17 ?_
    refine lv_iload_n hx hb dX6_thousandths_20 rfl (lv_at hl 1 rfl) ?_
    refine xaldT hx hb hK hP 1 (j) (b := (ta 0)) rfl (by omega) (by decide) rfl (htg) dX6_thousandths_21 ?_
    refine va_get (D := G.1) (ci := 4) (v := .ref (ta 5)) (C := RX4) (T := TX4) (N := 12) hx hb hts inX4 hown hK.1 hP 2 rfl rfl 5 (by decide) (hts _ mf_X6_134) (fun _ h9 => h9) rfl dX6_thousandths_22 ?_
    refine lv_iload_n hx hb dX6_thousandths_25 rfl (lv_at hl 2 rfl) ?_
    refine lv_iload_n hx hb dX6_thousandths_26 rfl (lv_at hl 3 rfl) ?_
    refine rdS (rest := [.ref (ta 5)]) ⟨hx, hb, hml, hown, hts⟩ (c_X6_spotOf l G ((nI i)) ((nI k))) mi_yX6_spotOf mst_yX6_spotOf ml_X6_92 ⟨rfl, rfl, Nat.le_of_ble_eq_true rfl, Nat.le_of_ble_eq_true rfl⟩ hK (fun k q h => by simp at h) rfl hl.1 rfl (Nat.le_of_ble_eq_true rfl) dX6_thousandths_27 ⟨Nat.zero_le _, Nat.zero_le _⟩ hS hA hP (fun r6 H locs hr6 hP hS => ?_)
    obtain rfl : r6 = nI (i * 12 + k) := spot_eq hr6
    refine xiald (f := (tr 5)) hx hb hK hP 4 ((i * 12 + k)) (rfl) (by omega) (by decide) rfl dX6_thousandths_30 ?_
    refine lv_topi (fun v7 ev7 => ?_)
    refine lv_iconst (v := 3) hx hb dX6_thousandths_31 (by decide) ?_
    refine lv_icmp_eq (tgt := 42) hx hb dX6_thousandths_32 (by decide) (fun c8 => ?_) (fun c8 => ?_)
    · refine lv_aload_n hx hb dX6_thousandths_42 rfl (lv_at hl 0 rfl) ?_
      refine va_get (D := G.1) (ci := 6) (v := .ref (xa 1)) (C := RX6) (T := TX6) (N := 10) hx hb hts inX6 hown hK.1 hP 0 rfl rfl 1 (by decide) (hts _ mf_X6_15) (fun _ h9 => h9) rfl dX6_thousandths_43 ?_
      refine lv_iload_n hx hb dX6_thousandths_46 rfl (lv_at hl 1 rfl) ?_
      refine xaldT hx hb hK hP 1 (j) (b := (ta 0)) rfl (by omega) (by decide) rfl (htg) dX6_thousandths_47 ?_
      refine lv_iload_n hx hb dX6_thousandths_48 rfl (lv_at hl 2 rfl) ?_
      refine rdV (rest := []) (q0 := 0) ⟨hx, hb, hml, hown, hts⟩ (c_X4_isSound l G ta tf tr i cl (by omega) hcl t2) mi_yX4_isSound mv_yX4_isSound ml_X6_153 ⟨rfl, rfl, Nat.le_of_ble_eq_true rfl, Nat.le_of_ble_eq_true rfl⟩ hK (hP.sub (ws' := tW G ta tf tr) [2, 3, 4, 5, 6, 7, 8, 9, 10] rfl) rfl rfl rfl hl.1 rfl (Nat.le_of_ble_eq_true rfl) dX6_thousandths_49 ⟨Nat.zero_le _, Nat.zero_le _⟩ hS hA hP (fun r9 H locs hr9 hP hS => ?_)
      refine lv_if_ne (tgt := 62) hx hb dX6_thousandths_52 (by decide) (fun c10 => ?_) (fun c10 => ?_)
      · have b52 := bT hr9 c10
        refine lv_aload_n hx hb dX6_thousandths_62 rfl (lv_at hl 0 rfl) ?_
        refine va_get (D := G.1) (ci := 6) (v := .ref (xa 1)) (C := RX6) (T := TX6) (N := 10) hx hb hts inX6 hown hK.1 hP 0 rfl rfl 1 (by decide) (hts _ mf_X6_15) (fun _ h9 => h9) rfl dX6_thousandths_63 ?_
        refine lv_iload_n hx hb dX6_thousandths_66 rfl (lv_at hl 1 rfl) ?_
        refine xaldT hx hb hK hP 1 (j) (b := (ta 0)) rfl (by omega) (by decide) rfl (htg) dX6_thousandths_67 ?_
        refine va_get (D := G.1) (ci := 4) (v := .ref (ta 6)) (C := RX4) (T := TX4) (N := 12) hx hb hts inX4 hown hK.1 hP 2 rfl rfl 6 (by decide) (hts _ mf_X6_137) (fun _ h9 => h9) rfl dX6_thousandths_68 ?_
        refine lv_iload_n hx hb dX6_thousandths_71 rfl (lv_at hl 2 rfl) ?_
        refine lv_iload_n hx hb dX6_thousandths_72 rfl (lv_at hl 3 rfl) ?_
        refine rdS (rest := [.ref (ta 6)]) ⟨hx, hb, hml, hown, hts⟩ (c_X6_spotOf l G ((nI i)) ((nI k))) mi_yX6_spotOf mst_yX6_spotOf ml_X6_92 ⟨rfl, rfl, Nat.le_of_ble_eq_true rfl, Nat.le_of_ble_eq_true rfl⟩ hK (fun k q h => by simp at h) rfl hl.1 rfl (Nat.le_of_ble_eq_true rfl) dX6_thousandths_73 ⟨Nat.zero_le _, Nat.zero_le _⟩ hS hA hP (fun r11 H locs hr11 hP hS => ?_)
        obtain rfl : r11 = nI (i * 12 + k) := spot_eq hr11
        refine xiald (f := (tr 6)) hx hb hK hP 5 ((i * 12 + k)) (rfl) (by omega) (by decide) rfl dX6_thousandths_76 ?_
        refine lv_topi (fun v12 ev12 => ?_)
        refine lv_aload_n hx hb dX6_thousandths_77 rfl (lv_at hl 0 rfl) ?_
        refine va_get (D := G.1) (ci := 6) (v := .ref (xa 1)) (C := RX6) (T := TX6) (N := 10) hx hb hts inX6 hown hK.1 hP 0 rfl rfl 1 (by decide) (hts _ mf_X6_15) (fun _ h9 => h9) rfl dX6_thousandths_78 ?_
        refine lv_iload_n hx hb dX6_thousandths_81 rfl (lv_at hl 1 rfl) ?_
        refine xaldT hx hb hK hP 1 (j) (b := (ta 0)) rfl (by omega) (by decide) rfl (htg) dX6_thousandths_82 ?_
        refine lv_iload_n hx hb dX6_thousandths_83 rfl (lv_at hl 2 rfl) ?_
        refine rdV (rest := [.int v12]) (q0 := 0) ⟨hx, hb, hml, hown, hts⟩ (c_X4_rowSum l G ta tf tr i cl (by omega) hcl t2) mi_yX4_rowSum mv_yX4_rowSum ml_X6_156 ⟨rfl, rfl, Nat.le_of_ble_eq_true rfl, Nat.le_of_ble_eq_true rfl⟩ hK (hP.sub (ws' := tW G ta tf tr) [2, 3, 4, 5, 6, 7, 8, 9, 10] rfl) rfl rfl rfl hl.1 rfl (Nat.le_of_ble_eq_true rfl) dX6_thousandths_84 ⟨Nat.zero_le _, Nat.zero_le _⟩ hS hA hP (fun r13 H locs hr13 hP hS => ?_)
        refine rdS (rest := []) ⟨hx, hb, hml, hown, hts⟩ (c_X6_thousandthsOf l G v12 r13) mi_yX6_thousandthsOf mst_yX6_thousandthsOf ml_X6_177 ⟨rfl, rfl, Nat.le_of_ble_eq_true rfl, Nat.le_of_ble_eq_true rfl⟩ hK (fun k q h => by simp at h) rfl hl.1 rfl (Nat.le_of_ble_eq_true rfl) dX6_thousandths_87 ⟨Nat.zero_le _, Nat.zero_le _⟩ hS hA hP (fun r14 H locs hr14 hP hS => ?_)
        exact wr_iret hx hb hr hlocks hS hP ⟨x4, rfl⟩ dX6_thousandths_90
      · have b52 := bF hr9 c10
        refine lv_aload_n hx hb dX6_thousandths_55 rfl (lv_at hl 0 rfl) ?_
        refine lv_bipush (v := 11) hx hb dX6_thousandths_56 (by decide) ?_
        refine wrVIa (rest := []) (q0 := 0) ⟨hx, hb, hml, hown, hts⟩ (x_refused l G x xa ta a b ga ua la lb lc tg gg (upd xf 0 x4) tf f qf gf uf lf mf nf tr r q gr ur lr mr nr 11  ) mi_yX6_refused mv_yX6_refused ml_X6_122 ⟨rfl, rfl, Nat.le_of_ble_eq_true rfl, Nat.le_of_ble_eq_true rfl⟩ hK hP (hDD _ _ _ _ _ _ _ _ _ _ _ _ _ _ _ _ _) rfl rfl rfl hl.1 rfl (Nat.le_of_ble_eq_true rfl) dX6_thousandths_58 ⟨Nat.zero_le _, Nat.zero_le _⟩ hS hA (fun r15 w16 H locs hw16 hP hS => ?_)
        obtain ⟨x17, rfl⟩ := hw16
        have hP : PP G (xM G x xa ta a b ga ua la lb lc tg gg (upd xf 0 x17) tf f qf gf uf lf mf nf tr r q gr ur lr mr nr) H := hP
        exact wr_iret hx hb hr hlocks hS hP ⟨x17, rfl⟩ dX6_thousandths_61
    · refine lv_aload_n hx hb dX6_thousandths_35 rfl (lv_at hl 0 rfl) ?_
      refine lv_bipush (v := 6) hx hb dX6_thousandths_36 (by decide) ?_
      refine wrVIa (rest := []) (q0 := 0) ⟨hx, hb, hml, hown, hts⟩ (x_refused l G x xa ta a b ga ua la lb lc tg gg (upd xf 0 x4) tf f qf gf uf lf mf nf tr r q gr ur lr mr nr 6  ) mi_yX6_refused mv_yX6_refused ml_X6_122 ⟨rfl, rfl, Nat.le_of_ble_eq_true rfl, Nat.le_of_ble_eq_true rfl⟩ hK hP (hDD _ _ _ _ _ _ _ _ _ _ _ _ _ _ _ _ _) rfl rfl rfl hl.1 rfl (Nat.le_of_ble_eq_true rfl) dX6_thousandths_38 ⟨Nat.zero_le _, Nat.zero_le _⟩ hS hA (fun r18 w19 H locs hw19 hP hS => ?_)
      obtain ⟨x20, rfl⟩ := hw19
      have hP : PP G (xM G x xa ta a b ga ua la lb lc tg gg (upd xf 0 x20) tf f qf gf uf lf mf nf tr r q gr ur lr mr nr) H := hP
      exact wr_iret hx hb hr hlocks hS hP ⟨x20, rfl⟩ dX6_thousandths_41
  · have b11 := bF hw3r c5
    refine lv_iconst (v := -1) hx hb dX6_thousandths_14 (by decide) ?_
    exact wr_iret hx hb hr hlocks hS hP ⟨x4, rfl⟩ dX6_thousandths_15
set_option maxHeartbeats 4000000 in
set_option maxRecDepth 100000 in
theorem x_spanEnd (l : Launch) (G : GG) (x : Nat) (xa ta a b ga ua la lb lc : Nat → Nat) (tg gg : Nat → Option Nat) (xf tf f qf gf uf lf mf nf : Nat → Int32) (tr r q gr ur lr mr nr : Nat → Nat → Int32) (tb : Int32) (row : Int32) (col : Int32) (gr_ : Int32) (j : Nat) (hj : j < 6) (hjt : tbJ tb j) (htg : tg j = some (ta 0)) (hT1 : nL 12 (tf 1)) (hT2 : nL 12 (tf 2)) (hT3 : nL 12 (tf 3)) (hT4 : nOK 12 12 (tr 4)) (hRB : RB adjR (q 0)) : WrI l yX6_spanEnd cX6_spanEnd 5 (some .int) ({ frames := 6, cells := 0, slots := 0, locals := 141 }) G (xM G x xa ta a b ga ua la lb lc tg gg xf tf f qf gf uf lf mf nf tr r q gr ur lr mr nr) [.ref x, .int tb, .int row, .int col, .int gr_] (fun q w => ∃ (n_f_0 : Int32) (n_f_1 : Int32) (n_f_2 : Int32) (n_f_3 : Int32) (n_f_4 : Int32) (n_q_0 : Nat → Int32) (n_q_1 : Nat → Int32) (n_q_2 : Nat → Int32) (n_qf_3 : Int32) (n_r_6 : Nat → Int32) (n_r_7 : Nat → Int32) (n_r_8 : Nat → Int32) (n_r_9 : Nat → Int32) (n_r_10 : Nat → Int32) (n_r_11 : Nat → Int32) (n_r_12 : Nat → Int32) (n_r_13 : Nat → Int32) (n_r_14 : Nat → Int32) (n_xf_0 : Int32), w = xM G x xa ta a b ga ua la lb lc tg gg (upd xf 0 n_xf_0) tf (upd (upd (upd (upd (upd f 0 n_f_0) 1 n_f_1) 2 n_f_2) 3 n_f_3) 4 n_f_4) (upd qf 3 n_qf_3) gf uf lf mf nf tr (up2 (up2 (up2 (up2 (up2 (up2 (up2 (up2 (up2 r 6 n_r_6) 7 n_r_7) 8 n_r_8) 9 n_r_9) 10 n_r_10) 11 n_r_11) 12 n_r_12) 13 n_r_13) 14 n_r_14) (up2 (up2 (up2 q 0 n_q_0) 1 n_q_1) 2 n_q_2) gr ur lr mr nr ∧ (RB adjR n_q_0)) := by
  refine wr_entryI (by decide +kernel) (Nat.le_of_ble_eq_true rfl) ?_
  intro p e s m below meth c A C0 hP hK hD hA ls hl
  have hS : va_S A s.heap s.heap [] := va_S.rf
  obtain ⟨hx, hb, hml, hown, hts, hr, hlocks, hin⟩ := C0
  have hown : s.vm.findClass RX6 = some m.cls := hown
  have hDD : ∀ xf' tf' f' qf' gf' uf' lf' mf' nf' tr' r' q' gr' ur' lr' mr' nr', va_D A (xM G x xa ta a b ga ua la lb lc tg gg xf' tf' f' qf' gf' uf' lf' mf' nf' tr' r' q' gr' ur' lr' mr' nr') := fun xf' tf' f' qf' gf' uf' lf' mf' nf' tr' r' q' gr' ur' lr' mr' nr' => D_same hD rfl
  have hl : lv_has ls 5 [(0, .ref x), (1, .int tb), (2, .int row), (3, .int col), (4, .int gr_)] := hl
  refine lv_aload_n hx hb dX6_spanEnd_0 rfl (lv_at hl 0 rfl) ?_
  refine lv_aload_n hx hb dX6_spanEnd_1 rfl (lv_at hl 0 rfl) ?_
  refine lv_iload_n hx hb dX6_spanEnd_2 rfl (lv_at hl 1 rfl) ?_
  refine lv_iload_n hx hb dX6_spanEnd_3 rfl (lv_at hl 2 rfl) ?_
  refine lv_iload_n hx hb dX6_spanEnd_4 rfl (lv_at hl 3 rfl) ?_
  refine rdV (rest := [.ref x]) (q0 := 0) ⟨hx, hb, hml, hown, hts⟩ (x_soundCellStatus l G x xa ta a b ga ua la lb lc tg gg xf tf f qf gf uf lf mf nf tr r q gr ur lr mr nr tb row col j (by omega) hjt htg hT1 hT2 hT3) mi_yX6_soundCellStatus mv_yX6_soundCellStatus ml_X6_165 ⟨rfl, rfl, Nat.le_of_ble_eq_true rfl, Nat.le_of_ble_eq_true rfl⟩ hK (hP) rfl rfl rfl hl.1 rfl (Nat.le_of_ble_eq_true rfl) dX6_spanEnd_5 ⟨Nat.zero_le _, Nat.zero_le _⟩ hS hA hP (fun r1 H locs hr1 hP hS => ?_)
  have hr1 : (r1 = 0 → tbO tb j (tf 0) ∧ inR (tf 1) row ∧ inR (tf 2) col) := hr1
  refine wrVIa (rest := []) (q0 := 0) ⟨hx, hb, hml, hown, hts⟩ (x_settled l G x xa ta a b ga ua la lb lc tg gg xf tf f qf gf uf lf mf nf tr r q gr ur lr mr nr r1  ) mi_yX6_settled mv_yX6_settled ml_X6_65 ⟨rfl, rfl, Nat.le_of_ble_eq_true rfl, Nat.le_of_ble_eq_true rfl⟩ hK hP (hDD _ _ _ _ _ _ _ _ _ _ _ _ _ _ _ _ _) rfl rfl rfl hl.1 rfl (Nat.le_of_ble_eq_true rfl) dX6_spanEnd_8 ⟨Nat.zero_le _, Nat.zero_le _⟩ hS hA (fun r2 w3 H locs hw3 hP hS => ?_)
  obtain ⟨x4, rfl, hw3r⟩ := hw3
  have hP : PP G (xM G x xa ta a b ga ua la lb lc tg gg (upd xf 0 x4) tf f qf gf uf lf mf nf tr r q gr ur lr mr nr) H := hP
  have hw3r : ((r2 = 1 ∧ (r1 = 0)) ∨ (r2 = 0 ∧ ¬ (r1 = 0))) := hw3r
  refine lv_if_ne (tgt := 16) hx hb dX6_spanEnd_11 (by decide) (fun c5 => ?_) (fun c5 => ?_)
  · have b11 := bT hw3r c5
    obtain ⟨⟨ej, ho⟩, q1, q2⟩ := hr1 b11
    subst ej
    have q1c := q1
    have q2c := q2
    obtain ⟨rw, hrw, t1⟩ := hT1
    obtain ⟨cl, hcl, t2⟩ := hT2
    obtain ⟨bk, hbk, t3⟩ := hT3
    have hT1 : nL 12 (tf 1) := ⟨rw, hrw, t1⟩
    have hT2 : nL 12 (tf 2) := ⟨cl, hcl, t2⟩
    have hT3 : nL 12 (tf 3) := ⟨bk, hbk, t3⟩
    rw [t1] at q1c
    rw [t2] at q2c
    obtain ⟨i, hi, ei⟩ := inR_n (by omega) q1c
    subst ei
    obtain ⟨k, hk, ek⟩ := inR_n (by omega) q2c
    subst ek
    refine lv_aload_n hx hb dX6_spanEnd_16 rfl (lv_at hl 0 rfl) ?_
    refine va_get (D := G.1) (ci := 6) (v := .ref (a 15)) (C := RX6) (T := TX6) (N := 10) hx hb hts inX6 hown hK.1 hP 0 rfl rfl 2 (by decide) (hts _ mf_X6_22) (fun _ h9 => h9) rfl dX6_spanEnd_17 ?_
    refine lv_aload_n hx hb dX6_spanEnd_20 rfl (lv_at hl 0 rfl) ?_
    refine va_get (D := G.1) (ci := 6) (v := .ref (xa 1)) (C := RX6) (T := TX6) (N := 10) hx hb hts inX6 hown hK.1 hP 0 rfl rfl 1 (by decide) (hts _ mf_X6_15) (fun _ h9 => h9) rfl dX6_spanEnd_21 ?_
    refine lv_iload_n hx hb dX6_spanEnd_24 rfl (lv_at hl 1 rfl) ?_
    refine xaldT hx hb hK hP 1 (j) (b := (ta 0)) rfl (by omega) (by decide) rfl (htg) dX6_spanEnd_25 ?_
    refine wrVV (rest := []) (q0 := 0) ⟨hx, hb, hml, hown, hts⟩ (c_X2_load l G a b f r ta tf tr rw cl bk hrw hcl hbk t1 t2 t3) mi_yX2_load mv_yX2_load ml_X6_184 ⟨rfl, rfl, Nat.le_of_ble_eq_true rfl, Nat.le_of_ble_eq_true rfl⟩ hK hP (hDD _ _ _ _ _ _ _ _ _ _ _ _ _ _ _ _ _) [11, 12, 13, 14, 15, 16, 17, 18, 19, 20, 2, 3, 4, 5, 6, 7, 8, 9, 10] rfl (by decide) rfl rfl rfl hl.1 rfl (Nat.le_of_ble_eq_true rfl) dX6_spanEnd_26 ⟨Nat.zero_le _, Nat.zero_le _⟩ hS hA (fun w9 H locs hw9 hP hS => ?_)
    obtain ⟨x6, x7, h0, h1, rfl⟩ := hw9
    have hP : PP G (xM G x xa ta a b ga ua la lb lc tg gg (upd xf 0 x4) tf (upd (upd (upd (upd (upd f 0 (x6 0)) 1 (x6 1)) 2 (x6 2)) 3 (x6 3)) 4 (x6 4)) qf gf uf lf mf nf tr (up2 (up2 (up2 (up2 (up2 (up2 (up2 (up2 (up2 r 6 (x7 6)) 7 (x7 7)) 8 (x7 8)) 9 (x7 9)) 10 (x7 10)) 11 (x7 11)) 12 (x7 12)) 13 (x7 13)) 14 (x7 14)) q gr ur lr mr nr) H := hP rfl
    refine lv_aload_n hx hb dX6_spanEnd_29 rfl (lv_at hl 0 rfl) ?_
    refine va_get (D := G.1) (ci := 6) (v := .ref (a 15)) (C := RX6) (T := TX6) (N := 10) hx hb hts inX6 hown hK.1 hP 0 rfl rfl 2 (by decide) (hts _ mf_X6_22) (fun _ h9 => h9) rfl dX6_spanEnd_30 ?_
    refine lv_iload_n hx hb dX6_spanEnd_33 rfl (lv_at hl 2 rfl) ?_
    refine lv_iload_n hx hb dX6_spanEnd_34 rfl (lv_at hl 3 rfl) ?_
    refine lv_iload hx hb dX6_spanEnd_35 (lv_at hl 4 rfl) ?_
    refine wrVV (rest := []) (q0 := 0) ⟨hx, hb, hml, hown, hts⟩ (c_X2_moveToEnd l G a b (upd (upd (upd (upd (upd f 0 (x6 0)) 1 (x6 1)) 2 (x6 2)) 3 (x6 3)) 4 (x6 4)) (up2 (up2 (up2 (up2 (up2 (up2 (up2 (up2 (up2 r 6 (x7 6)) 7 (x7 7)) 8 (x7 8)) 9 (x7 9)) 10 (x7 10)) 11 (x7 11)) 12 (x7 12)) 13 (x7 13)) 14 (x7 14)) q (qf 3) rw cl hrw hcl h0 h1 i k (by omega) (by omega) gr_ hRB) mi_yX2_moveToEnd mv_yX2_moveToEnd ml_X6_249 ⟨rfl, rfl, Nat.le_of_ble_eq_true rfl, Nat.le_of_ble_eq_true rfl⟩ hK hP (hDD _ _ _ _ _ _ _ _ _ _ _ _ _ _ _ _ _) [11, 12, 13, 14, 15, 16, 17, 18, 19, 20, 21, 22, 23, 24] rfl (by decide) rfl rfl rfl hl.1 rfl (Nat.le_of_ble_eq_true rfl) dX6_spanEnd_37 ⟨Nat.zero_le _, Nat.zero_le _⟩ hS hA (fun w17 H locs hw17 hP hS => ?_)
    obtain ⟨x10, x11, x12, x13, x14, x15, hRB, rfl⟩ := hw17
    have hP : PP G (xM G x xa ta a b ga ua la lb lc tg gg (upd xf 0 x4) tf (upd (upd (upd (upd (upd f 0 (x6 0)) 1 (x6 1)) 2 (x6 2)) 3 (x6 3)) 4 x10) (upd qf 3 x15) gf uf lf mf nf tr (up2 (up2 (up2 (up2 (up2 (up2 (up2 (up2 (up2 r 6 (x11 6)) 7 (x11 7)) 8 (x11 8)) 9 (x11 9)) 10 (x11 10)) 11 (x11 11)) 12 (x11 12)) 13 (x11 13)) 14 (x11 14)) (up2 (up2 (up2 q 0 x12) 1 x13) 2 x14) gr ur lr mr nr) H := hP rfl
    refine lv_aload_n hx hb dX6_spanEnd_40 rfl (lv_at hl 0 rfl) ?_
    refine va_get (D := G.1) (ci := 6) (v := .ref (a 15)) (C := RX6) (T := TX6) (N := 10) hx hb hts inX6 hown hK.1 hP 0 rfl rfl 2 (by decide) (hts _ mf_X6_22) (fun _ h9 => h9) rfl dX6_spanEnd_41 ?_
    refine va_get (D := G.1) (ci := 2) (v := .ref (a 12)) (C := RX2) (T := TX2) (N := 15) hx hb hts inX2 hown hK.1 hP 11 rfl rfl 12 (by decide) (hts _ mf_X6_252) (fun _ h9 => h9) rfl dX6_spanEnd_44 ?_
    refine lv_iload_n hx hb dX6_spanEnd_47 rfl (lv_at hl 2 rfl) ?_
    refine lv_iload_n hx hb dX6_spanEnd_48 rfl (lv_at hl 3 rfl) ?_
    refine rdS (rest := [.ref (a 12)]) ⟨hx, hb, hml, hown, hts⟩ (c_X6_spotOf l G ((nI i)) ((nI k))) mi_yX6_spotOf mst_yX6_spotOf ml_X6_92 ⟨rfl, rfl, Nat.le_of_ble_eq_true rfl, Nat.le_of_ble_eq_true rfl⟩ hK (fun k q h => by simp at h) rfl hl.1 rfl (Nat.le_of_ble_eq_true rfl) dX6_spanEnd_49 ⟨Nat.zero_le _, Nat.zero_le _⟩ hS hA hP (fun r18 H locs hr18 hP hS => ?_)
    obtain rfl : r18 = nI (i * 12 + k) := spot_eq hr18
    refine xiald (f := (x11 12)) hx hb hK hP 18 ((i * 12 + k)) (rfl) (by omega) (by decide) rfl dX6_spanEnd_52 ?_
    refine lv_topi (fun v19 ev19 => ?_)
    exact wr_iret hx hb hr hlocks hS hP ⟨(x6 0), (x6 1), (x6 2), (x6 3), x10, x12, x13, x14, x15, (x11 6), (x11 7), (x11 8), (x11 9), (x11 10), (x11 11), (x11 12), (x11 13), (x11 14), x4, rfl, hRB⟩ dX6_spanEnd_53
  · have b11 := bF hw3r c5
    refine lv_iconst (v := -1) hx hb dX6_spanEnd_14 (by decide) ?_
    exact wr_iret hx hb hr hlocks hS hP ⟨(f 0), (f 1), (f 2), (f 3), (f 4), (q 0), (q 1), (q 2), (qf 3), (r 6), (r 7), (r 8), (r 9), (r 10), (r 11), (r 12), (r 13), (r 14), x4, rfl, hRB⟩ dX6_spanEnd_15
set_option maxHeartbeats 4000000 in
set_option maxRecDepth 100000 in
theorem x_least (l : Launch) (G : GG) (x : Nat) (xa ta a b ga ua la lb lc : Nat → Nat) (tg gg : Nat → Option Nat) (xf tf f qf gf uf lf mf nf : Nat → Int32) (tr r q gr ur lr mr nr : Nat → Nat → Int32) (tb : Int32) (row : Int32) (col : Int32) (j : Nat) (hj : j < 6) (hjt : tbJ tb j) (htg : tg j = some (ta 0)) (hT1 : nL 12 (tf 1)) (hT2 : nL 12 (tf 2)) (hT3 : nL 12 (tf 3)) (hT4 : nOK 12 12 (tr 4)) (hRB : RB adjR (q 0)) : WrI l yX6_least cX6_least 4 (some .int) ({ frames := 7, cells := 0, slots := 0, locals := 165 }) G (xM G x xa ta a b ga ua la lb lc tg gg xf tf f qf gf uf lf mf nf tr r q gr ur lr mr nr) [.ref x, .int tb, .int row, .int col] (fun q w => ∃ (n_f_0 : Int32) (n_f_1 : Int32) (n_f_2 : Int32) (n_f_3 : Int32) (n_f_4 : Int32) (n_q_0 : Nat → Int32) (n_q_1 : Nat → Int32) (n_q_2 : Nat → Int32) (n_qf_3 : Int32) (n_r_6 : Nat → Int32) (n_r_7 : Nat → Int32) (n_r_8 : Nat → Int32) (n_r_9 : Nat → Int32) (n_r_10 : Nat → Int32) (n_r_11 : Nat → Int32) (n_r_12 : Nat → Int32) (n_r_13 : Nat → Int32) (n_r_14 : Nat → Int32) (n_xf_0 : Int32), w = xM G x xa ta a b ga ua la lb lc tg gg (upd xf 0 n_xf_0) tf (upd (upd (upd (upd (upd f 0 n_f_0) 1 n_f_1) 2 n_f_2) 3 n_f_3) 4 n_f_4) (upd qf 3 n_qf_3) gf uf lf mf nf tr (up2 (up2 (up2 (up2 (up2 (up2 (up2 (up2 (up2 r 6 n_r_6) 7 n_r_7) 8 n_r_8) 9 n_r_9) 10 n_r_10) 11 n_r_11) 12 n_r_12) 13 n_r_13) 14 n_r_14) (up2 (up2 (up2 q 0 n_q_0) 1 n_q_1) 2 n_q_2) gr ur lr mr nr ∧ (RB adjR n_q_0)) := by
  refine wr_entryI (by decide +kernel) (Nat.le_of_ble_eq_true rfl) ?_
  intro p e s m below meth c A C0 hP hK hD hA ls hl
  have hS : va_S A s.heap s.heap [] := va_S.rf
  obtain ⟨hx, hb, hml, hown, hts, hr, hlocks, hin⟩ := C0
  have hown : s.vm.findClass RX6 = some m.cls := hown
  have hDD : ∀ xf' tf' f' qf' gf' uf' lf' mf' nf' tr' r' q' gr' ur' lr' mr' nr', va_D A (xM G x xa ta a b ga ua la lb lc tg gg xf' tf' f' qf' gf' uf' lf' mf' nf' tr' r' q' gr' ur' lr' mr' nr') := fun xf' tf' f' qf' gf' uf' lf' mf' nf' tr' r' q' gr' ur' lr' mr' nr' => D_same hD rfl
  have hl : lv_has ls 4 [(0, .ref x), (1, .int tb), (2, .int row), (3, .int col)] := hl
  refine lv_aload_n hx hb dX6_least_0 rfl (lv_at hl 0 rfl) ?_
  refine lv_iload_n hx hb dX6_least_1 rfl (lv_at hl 1 rfl) ?_
  refine lv_iload_n hx hb dX6_least_2 rfl (lv_at hl 2 rfl) ?_
  refine lv_iload_n hx hb dX6_least_3 rfl (lv_at hl 3 rfl) ?_
  refine lv_iconst (v := 0) hx hb dX6_least_4 (by decide) ?_
  refine wrVIa (rest := []) (q0 := 0) ⟨hx, hb, hml, hown, hts⟩ (x_spanEnd l G x xa ta a b ga ua la lb lc tg gg xf tf f qf gf uf lf mf nf tr r q gr ur lr mr nr tb row col 0 j (by omega) hjt htg hT1 hT2 hT3 hT4 hRB) mi_yX6_spanEnd mv_yX6_spanEnd ml_X6_180 ⟨rfl, rfl, Nat.le_of_ble_eq_true rfl, Nat.le_of_ble_eq_true rfl⟩ hK hP (hDD _ _ _ _ _ _ _ _ _ _ _ _ _ _ _ _ _) rfl rfl rfl hl.1 rfl (Nat.le_of_ble_eq_true rfl) dX6_least_5 ⟨Nat.zero_le _, Nat.zero_le _⟩ hS hA (fun r1 w2 H locs hw2 hP hS => ?_)
  obtain ⟨x3, x4, x5, x6, x7, x8, x9, x10, x11, x12, x13, x14, x15, x16, x17, x18, x19, x20, x21, rfl, hRB⟩ := hw2
  have hP : PP G (xM G x xa ta a b ga ua la lb lc tg gg (upd xf 0 x21) tf (upd (upd (upd (upd (upd f 0 x3) 1 x4) 2 x5) 3 x6) 4 x7) (upd qf 3 x11) gf uf lf mf nf tr (up2 (up2 (up2 (up2 (up2 (up2 (up2 (up2 (up2 r 6 x12) 7 x13) 8 x14) 9 x15) 10 x16) 11 x17) 12 x18) 13 x19) 14 x20) (up2 (up2 (up2 q 0 x8) 1 x9) 2 x10) gr ur lr mr nr) H := hP
  have hRB : RB adjR x8 := hRB
  exact wr_iret hx hb hr hlocks hS hP ⟨x3, x4, x5, x6, x7, x8, x9, x10, x11, x12, x13, x14, x15, x16, x17, x18, x19, x20, x21, rfl, hRB⟩ dX6_least_8
set_option maxHeartbeats 4000000 in
set_option maxRecDepth 100000 in
theorem x_greatest (l : Launch) (G : GG) (x : Nat) (xa ta a b ga ua la lb lc : Nat → Nat) (tg gg : Nat → Option Nat) (xf tf f qf gf uf lf mf nf : Nat → Int32) (tr r q gr ur lr mr nr : Nat → Nat → Int32) (tb : Int32) (row : Int32) (col : Int32) (j : Nat) (hj : j < 6) (hjt : tbJ tb j) (htg : tg j = some (ta 0)) (hT1 : nL 12 (tf 1)) (hT2 : nL 12 (tf 2)) (hT3 : nL 12 (tf 3)) (hT4 : nOK 12 12 (tr 4)) (hRB : RB adjR (q 0)) : WrI l yX6_greatest cX6_greatest 4 (some .int) ({ frames := 7, cells := 0, slots := 0, locals := 165 }) G (xM G x xa ta a b ga ua la lb lc tg gg xf tf f qf gf uf lf mf nf tr r q gr ur lr mr nr) [.ref x, .int tb, .int row, .int col] (fun q w => ∃ (n_f_0 : Int32) (n_f_1 : Int32) (n_f_2 : Int32) (n_f_3 : Int32) (n_f_4 : Int32) (n_q_0 : Nat → Int32) (n_q_1 : Nat → Int32) (n_q_2 : Nat → Int32) (n_qf_3 : Int32) (n_r_6 : Nat → Int32) (n_r_7 : Nat → Int32) (n_r_8 : Nat → Int32) (n_r_9 : Nat → Int32) (n_r_10 : Nat → Int32) (n_r_11 : Nat → Int32) (n_r_12 : Nat → Int32) (n_r_13 : Nat → Int32) (n_r_14 : Nat → Int32) (n_xf_0 : Int32), w = xM G x xa ta a b ga ua la lb lc tg gg (upd xf 0 n_xf_0) tf (upd (upd (upd (upd (upd f 0 n_f_0) 1 n_f_1) 2 n_f_2) 3 n_f_3) 4 n_f_4) (upd qf 3 n_qf_3) gf uf lf mf nf tr (up2 (up2 (up2 (up2 (up2 (up2 (up2 (up2 (up2 r 6 n_r_6) 7 n_r_7) 8 n_r_8) 9 n_r_9) 10 n_r_10) 11 n_r_11) 12 n_r_12) 13 n_r_13) 14 n_r_14) (up2 (up2 (up2 q 0 n_q_0) 1 n_q_1) 2 n_q_2) gr ur lr mr nr ∧ (RB adjR n_q_0)) := by
  refine wr_entryI (by decide +kernel) (Nat.le_of_ble_eq_true rfl) ?_
  intro p e s m below meth c A C0 hP hK hD hA ls hl
  have hS : va_S A s.heap s.heap [] := va_S.rf
  obtain ⟨hx, hb, hml, hown, hts, hr, hlocks, hin⟩ := C0
  have hown : s.vm.findClass RX6 = some m.cls := hown
  have hDD : ∀ xf' tf' f' qf' gf' uf' lf' mf' nf' tr' r' q' gr' ur' lr' mr' nr', va_D A (xM G x xa ta a b ga ua la lb lc tg gg xf' tf' f' qf' gf' uf' lf' mf' nf' tr' r' q' gr' ur' lr' mr' nr') := fun xf' tf' f' qf' gf' uf' lf' mf' nf' tr' r' q' gr' ur' lr' mr' nr' => D_same hD rfl
  have hl : lv_has ls 4 [(0, .ref x), (1, .int tb), (2, .int row), (3, .int col)] := hl
  refine lv_aload_n hx hb dX6_greatest_0 rfl (lv_at hl 0 rfl) ?_
  refine lv_iload_n hx hb dX6_greatest_1 rfl (lv_at hl 1 rfl) ?_
  refine lv_iload_n hx hb dX6_greatest_2 rfl (lv_at hl 2 rfl) ?_
  refine lv_iload_n hx hb dX6_greatest_3 rfl (lv_at hl 3 rfl) ?_
  refine lv_iconst (v := 1) hx hb dX6_greatest_4 (by decide) ?_
  refine wrVIa (rest := []) (q0 := 0) ⟨hx, hb, hml, hown, hts⟩ (x_spanEnd l G x xa ta a b ga ua la lb lc tg gg xf tf f qf gf uf lf mf nf tr r q gr ur lr mr nr tb row col 1 j (by omega) hjt htg hT1 hT2 hT3 hT4 hRB) mi_yX6_spanEnd mv_yX6_spanEnd ml_X6_180 ⟨rfl, rfl, Nat.le_of_ble_eq_true rfl, Nat.le_of_ble_eq_true rfl⟩ hK hP (hDD _ _ _ _ _ _ _ _ _ _ _ _ _ _ _ _ _) rfl rfl rfl hl.1 rfl (Nat.le_of_ble_eq_true rfl) dX6_greatest_5 ⟨Nat.zero_le _, Nat.zero_le _⟩ hS hA (fun r1 w2 H locs hw2 hP hS => ?_)
  obtain ⟨x3, x4, x5, x6, x7, x8, x9, x10, x11, x12, x13, x14, x15, x16, x17, x18, x19, x20, x21, rfl, hRB⟩ := hw2
  have hP : PP G (xM G x xa ta a b ga ua la lb lc tg gg (upd xf 0 x21) tf (upd (upd (upd (upd (upd f 0 x3) 1 x4) 2 x5) 3 x6) 4 x7) (upd qf 3 x11) gf uf lf mf nf tr (up2 (up2 (up2 (up2 (up2 (up2 (up2 (up2 (up2 r 6 x12) 7 x13) 8 x14) 9 x15) 10 x16) 11 x17) 12 x18) 13 x19) 14 x20) (up2 (up2 (up2 q 0 x8) 1 x9) 2 x10) gr ur lr mr nr) H := hP
  have hRB : RB adjR x8 := hRB
  exact wr_iret hx hb hr hlocks hS hP ⟨x3, x4, x5, x6, x7, x8, x9, x10, x11, x12, x13, x14, x15, x16, x17, x18, x19, x20, x21, rfl, hRB⟩ dX6_greatest_8
set_option maxHeartbeats 4000000 in
set_option maxRecDepth 100000 in
theorem x_safe (l : Launch) (G : GG) (x : Nat) (xa ta a b ga ua la lb lc : Nat → Nat) (tg gg : Nat → Option Nat) (xf tf f qf gf uf lf mf nf : Nat → Int32) (tr r q gr ur lr mr nr : Nat → Nat → Int32) (tb : Int32) (row : Int32) (col : Int32) (j : Nat) (hj : j < 6) (hjt : tbJ tb j) (htg : tg j = some (ta 0)) (hT1 : nL 12 (tf 1)) (hT2 : nL 12 (tf 2)) (hT3 : nL 12 (tf 3)) (hT4 : nOK 12 12 (tr 4)) (hRB : RB adjR (q 0)) : WrI l yX6_safe cX6_safe 4 (some .int) ({ frames := 6, cells := 0, slots := 0, locals := 141 }) G (xM G x xa ta a b ga ua la lb lc tg gg xf tf f qf gf uf lf mf nf tr r q gr ur lr mr nr) [.ref x, .int tb, .int row, .int col] (fun q w => ∃ (n_f_0 : Int32) (n_f_1 : Int32) (n_f_2 : Int32) (n_f_3 : Int32) (n_f_4 : Int32) (n_q_0 : Nat → Int32) (n_q_1 : Nat → Int32) (n_q_2 : Nat → Int32) (n_qf_3 : Int32) (n_r_6 : Nat → Int32) (n_r_7 : Nat → Int32) (n_r_8 : Nat → Int32) (n_r_9 : Nat → Int32) (n_r_10 : Nat → Int32) (n_r_11 : Nat → Int32) (n_r_12 : Nat → Int32) (n_r_13 : Nat → Int32) (n_r_14 : Nat → Int32) (n_xf_0 : Int32), w = xM G x xa ta a b ga ua la lb lc tg gg (upd xf 0 n_xf_0) tf (upd (upd (upd (upd (upd f 0 n_f_0) 1 n_f_1) 2 n_f_2) 3 n_f_3) 4 n_f_4) (upd qf 3 n_qf_3) gf uf lf mf nf tr (up2 (up2 (up2 (up2 (up2 (up2 (up2 (up2 (up2 r 6 n_r_6) 7 n_r_7) 8 n_r_8) 9 n_r_9) 10 n_r_10) 11 n_r_11) 12 n_r_12) 13 n_r_13) 14 n_r_14) (up2 (up2 (up2 q 0 n_q_0) 1 n_q_1) 2 n_q_2) gr ur lr mr nr ∧ (RB adjR n_q_0)) := by
  refine wr_entryI (by decide +kernel) (Nat.le_of_ble_eq_true rfl) ?_
  intro p e s m below meth c A C0 hP hK hD hA ls hl
  have hS : va_S A s.heap s.heap [] := va_S.rf
  obtain ⟨hx, hb, hml, hown, hts, hr, hlocks, hin⟩ := C0
  have hown : s.vm.findClass RX6 = some m.cls := hown
  have hDD : ∀ xf' tf' f' qf' gf' uf' lf' mf' nf' tr' r' q' gr' ur' lr' mr' nr', va_D A (xM G x xa ta a b ga ua la lb lc tg gg xf' tf' f' qf' gf' uf' lf' mf' nf' tr' r' q' gr' ur' lr' mr' nr') := fun xf' tf' f' qf' gf' uf' lf' mf' nf' tr' r' q' gr' ur' lr' mr' nr' => D_same hD rfl
  have hl : lv_has ls 4 [(0, .ref x), (1, .int tb), (2, .int row), (3, .int col)] := hl
  refine lv_aload_n hx hb dX6_safe_0 rfl (lv_at hl 0 rfl) ?_
  refine lv_aload_n hx hb dX6_safe_1 rfl (lv_at hl 0 rfl) ?_
  refine lv_iload_n hx hb dX6_safe_2 rfl (lv_at hl 1 rfl) ?_
  refine lv_iload_n hx hb dX6_safe_3 rfl (lv_at hl 2 rfl) ?_
  refine lv_iload_n hx hb dX6_safe_4 rfl (lv_at hl 3 rfl) ?_
  refine rdV (rest := [.ref x]) (q0 := 0) ⟨hx, hb, hml, hown, hts⟩ (x_soundCellStatus l G x xa ta a b ga ua la lb lc tg gg xf tf f qf gf uf lf mf nf tr r q gr ur lr mr nr tb row col j (by omega) hjt htg hT1 hT2 hT3) mi_yX6_soundCellStatus mv_yX6_soundCellStatus ml_X6_165 ⟨rfl, rfl, Nat.le_of_ble_eq_true rfl, Nat.le_of_ble_eq_true rfl⟩ hK (hP) rfl rfl rfl hl.1 rfl (Nat.le_of_ble_eq_true rfl) dX6_safe_5 ⟨Nat.zero_le _, Nat.zero_le _⟩ hS hA hP (fun r1 H locs hr1 hP hS => ?_)
  have hr1 : (r1 = 0 → tbO tb j (tf 0) ∧ inR (tf 1) row ∧ inR (tf 2) col) := hr1
  refine wrVIa (rest := []) (q0 := 0) ⟨hx, hb, hml, hown, hts⟩ (x_settled l G x xa ta a b ga ua la lb lc tg gg xf tf f qf gf uf lf mf nf tr r q gr ur lr mr nr r1  ) mi_yX6_settled mv_yX6_settled ml_X6_65 ⟨rfl, rfl, Nat.le_of_ble_eq_true rfl, Nat.le_of_ble_eq_true rfl⟩ hK hP (hDD _ _ _ _ _ _ _ _ _ _ _ _ _ _ _ _ _) rfl rfl rfl hl.1 rfl (Nat.le_of_ble_eq_true rfl) dX6_safe_8 ⟨Nat.zero_le _, Nat.zero_le _⟩ hS hA (fun r2 w3 H locs hw3 hP hS => ?_)
  obtain ⟨x4, rfl, hw3r⟩ := hw3
  have hP : PP G (xM G x xa ta a b ga ua la lb lc tg gg (upd xf 0 x4) tf f qf gf uf lf mf nf tr r q gr ur lr mr nr) H := hP
  have hw3r : ((r2 = 1 ∧ (r1 = 0)) ∨ (r2 = 0 ∧ ¬ (r1 = 0))) := hw3r
  refine lv_if_ne (tgt := 16) hx hb dX6_safe_11 (by decide) (fun c5 => ?_) (fun c5 => ?_)
  · have b11 := bT hw3r c5
    obtain ⟨⟨ej, ho⟩, q1, q2⟩ := hr1 b11
    subst ej
    have q1c := q1
    have q2c := q2
    obtain ⟨rw, hrw, t1⟩ := hT1
    obtain ⟨cl, hcl, t2⟩ := hT2
    obtain ⟨bk, hbk, t3⟩ := hT3
    have hT1 : nL 12 (tf 1) := ⟨rw, hrw, t1⟩
    have hT2 : nL 12 (tf 2) := ⟨cl, hcl, t2⟩
    have hT3 : nL 12 (tf 3) := ⟨bk, hbk, t3⟩
    rw [t1] at q1c
    rw [t2] at q2c
    obtain ⟨i, hi, ei⟩ := inR_n (by omega) q1c
    subst ei
    obtain ⟨k, hk, ek⟩ := inR_n (by omega) q2c
    subst ek
    refine lv_aload_n hx hb dX6_safe_16 rfl (lv_at hl 0 rfl) ?_
    refine va_get (D := G.1) (ci := 6) (v := .ref (a 15)) (C := RX6) (T := TX6) (N := 10) hx hb hts inX6 hown hK.1 hP 0 rfl rfl 2 (by decide) (hts _ mf_X6_22) (fun _ h9 => h9) rfl dX6_safe_17 ?_
    refine lv_aload_n hx hb dX6_safe_20 rfl (lv_at hl 0 rfl) ?_
    refine va_get (D := G.1) (ci := 6) (v := .ref (xa 1)) (C := RX6) (T := TX6) (N := 10) hx hb hts inX6 hown hK.1 hP 0 rfl rfl 1 (by decide) (hts _ mf_X6_15) (fun _ h9 => h9) rfl dX6_safe_21 ?_
    refine lv_iload_n hx hb dX6_safe_24 rfl (lv_at hl 1 rfl) ?_
    refine xaldT hx hb hK hP 1 (j) (b := (ta 0)) rfl (by omega) (by decide) rfl (htg) dX6_safe_25 ?_
    refine wrVV (rest := []) (q0 := 0) ⟨hx, hb, hml, hown, hts⟩ (c_X2_load l G a b f r ta tf tr rw cl bk hrw hcl hbk t1 t2 t3) mi_yX2_load mv_yX2_load ml_X6_184 ⟨rfl, rfl, Nat.le_of_ble_eq_true rfl, Nat.le_of_ble_eq_true rfl⟩ hK hP (hDD _ _ _ _ _ _ _ _ _ _ _ _ _ _ _ _ _) [11, 12, 13, 14, 15, 16, 17, 18, 19, 20, 2, 3, 4, 5, 6, 7, 8, 9, 10] rfl (by decide) rfl rfl rfl hl.1 rfl (Nat.le_of_ble_eq_true rfl) dX6_safe_26 ⟨Nat.zero_le _, Nat.zero_le _⟩ hS hA (fun w9 H locs hw9 hP hS => ?_)
    obtain ⟨x6, x7, h0, h1, rfl⟩ := hw9
    have hP : PP G (xM G x xa ta a b ga ua la lb lc tg gg (upd xf 0 x4) tf (upd (upd (upd (upd (upd f 0 (x6 0)) 1 (x6 1)) 2 (x6 2)) 3 (x6 3)) 4 (x6 4)) qf gf uf lf mf nf tr (up2 (up2 (up2 (up2 (up2 (up2 (up2 (up2 (up2 r 6 (x7 6)) 7 (x7 7)) 8 (x7 8)) 9 (x7 9)) 10 (x7 10)) 11 (x7 11)) 12 (x7 12)) 13 (x7 13)) 14 (x7 14)) q gr ur lr mr nr) H := hP rfl
    refine lv_aload_n hx hb dX6_safe_29 rfl (lv_at hl 0 rfl) ?_
    refine va_get (D := G.1) (ci := 6) (v := .ref (a 15)) (C := RX6) (T := TX6) (N := 10) hx hb hts inX6 hown hK.1 hP 0 rfl rfl 2 (by decide) (hts _ mf_X6_22) (fun _ h9 => h9) rfl dX6_safe_30 ?_
    refine lv_iload_n hx hb dX6_safe_33 rfl (lv_at hl 2 rfl) ?_
    refine lv_iload_n hx hb dX6_safe_34 rfl (lv_at hl 3 rfl) ?_
    refine wrVI (rest := []) (q0 := 0) ⟨hx, hb, hml, hown, hts⟩ (c_X2_isSafe l G a b (upd (upd (upd (upd (upd f 0 (x6 0)) 1 (x6 1)) 2 (x6 2)) 3 (x6 3)) 4 (x6 4)) (up2 (up2 (up2 (up2 (up2 (up2 (up2 (up2 (up2 r 6 (x7 6)) 7 (x7 7)) 8 (x7 8)) 9 (x7 9)) 10 (x7 10)) 11 (x7 11)) 12 (x7 12)) 13 (x7 13)) 14 (x7 14)) q (qf 3) rw cl hrw hcl h0 h1 i k (by omega) (by omega) hRB) mi_yX2_isSafe mv_yX2_isSafe ml_X6_188 ⟨rfl, rfl, Nat.le_of_ble_eq_true rfl, Nat.le_of_ble_eq_true rfl⟩ hK hP (hDD _ _ _ _ _ _ _ _ _ _ _ _ _ _ _ _ _) [11, 12, 13, 14, 15, 16, 17, 18, 19, 20, 21, 22, 23, 24] rfl (by decide) rfl rfl rfl hl.1 rfl (Nat.le_of_ble_eq_true rfl) dX6_safe_35 ⟨Nat.zero_le _, Nat.zero_le _⟩ hS hA (fun r16 w17 H locs hw17 hP hS => ?_)
    obtain ⟨x10, x11, x12, x13, x14, x15, hRB, rfl⟩ := hw17
    have hP : PP G (xM G x xa ta a b ga ua la lb lc tg gg (upd xf 0 x4) tf (upd (upd (upd (upd (upd f 0 (x6 0)) 1 (x6 1)) 2 (x6 2)) 3 (x6 3)) 4 x10) (upd qf 3 x15) gf uf lf mf nf tr (up2 (up2 (up2 (up2 (up2 (up2 (up2 (up2 (up2 r 6 (x11 6)) 7 (x11 7)) 8 (x11 8)) 9 (x11 9)) 10 (x11 10)) 11 (x11 11)) 12 (x11 12)) 13 (x11 13)) 14 (x11 14)) (up2 (up2 (up2 q 0 x12) 1 x13) 2 x14) gr ur lr mr nr) H := hP rfl
    refine lv_if_eq (tgt := 45) hx hb dX6_safe_38 (by decide) (fun c18 => ?_) (fun c18 => ?_)
    · refine lv_iconst (v := 0) hx hb dX6_safe_45 (by decide) ?_
      exact wr_iret hx hb hr hlocks hS hP ⟨(x6 0), (x6 1), (x6 2), (x6 3), x10, x12, x13, x14, x15, (x11 6), (x11 7), (x11 8), (x11 9), (x11 10), (x11 11), (x11 12), (x11 13), (x11 14), x4, rfl, hRB⟩ dX6_safe_46
    · refine lv_iconst (v := 1) hx hb dX6_safe_41 (by decide) ?_
      refine lv_goto (tgt := 46) hx hb dX6_safe_42 (by decide) ?_
      exact wr_iret hx hb hr hlocks hS hP ⟨(x6 0), (x6 1), (x6 2), (x6 3), x10, x12, x13, x14, x15, (x11 6), (x11 7), (x11 8), (x11 9), (x11 10), (x11 11), (x11 12), (x11 13), (x11 14), x4, rfl, hRB⟩ dX6_safe_46
  · have b11 := bF hw3r c5
    refine lv_iconst (v := -1) hx hb dX6_safe_14 (by decide) ?_
    exact wr_iret hx hb hr hlocks hS hP ⟨(f 0), (f 1), (f 2), (f 3), (f 4), (q 0), (q 1), (q 2), (qf 3), (r 6), (r 7), (r 8), (r 9), (r 10), (r 11), (r 12), (r 13), (r 14), x4, rfl, hRB⟩ dX6_safe_15
set_option maxHeartbeats 4000000 in
set_option maxRecDepth 100000 in
theorem x_unsafe (l : Launch) (G : GG) (x : Nat) (xa ta a b ga ua la lb lc : Nat → Nat) (tg gg : Nat → Option Nat) (xf tf f qf gf uf lf mf nf : Nat → Int32) (tr r q gr ur lr mr nr : Nat → Nat → Int32) (tb : Int32) (j : Nat) (hj : j < 6) (hjt : tbJ tb j) (htg : tg j = some (ta 0)) (hT1 : nL 12 (tf 1)) (hT2 : nL 12 (tf 2)) (hT3 : nL 12 (tf 3)) (hT4 : nOK 12 12 (tr 4)) (hRB : RB adjR (q 0)) : WrI l yX6_unsafe cX6_unsafe 2 (some .int) ({ frames := 6, cells := 0, slots := 0, locals := 157 }) G (xM G x xa ta a b ga ua la lb lc tg gg xf tf f qf gf uf lf mf nf tr r q gr ur lr mr nr) [.ref x, .int tb] (fun q w => ∃ (n_f_0 : Int32) (n_f_1 : Int32) (n_f_2 : Int32) (n_f_3 : Int32) (n_f_4 : Int32) (n_q_0 : Nat → Int32) (n_q_1 : Nat → Int32) (n_q_2 : Nat → Int32) (n_qf_3 : Int32) (n_r_6 : Nat → Int32) (n_r_7 : Nat → Int32) (n_r_8 : Nat → Int32) (n_r_9 : Nat → Int32) (n_r_10 : Nat → Int32) (n_r_11 : Nat → Int32) (n_r_12 : Nat → Int32) (n_r_13 : Nat → Int32) (n_r_14 : Nat → Int32) (n_xf_0 : Int32), w = xM G x xa ta a b ga ua la lb lc tg gg (upd xf 0 n_xf_0) tf (upd (upd (upd (upd (upd f 0 n_f_0) 1 n_f_1) 2 n_f_2) 3 n_f_3) 4 n_f_4) (upd qf 3 n_qf_3) gf uf lf mf nf tr (up2 (up2 (up2 (up2 (up2 (up2 (up2 (up2 (up2 r 6 n_r_6) 7 n_r_7) 8 n_r_8) 9 n_r_9) 10 n_r_10) 11 n_r_11) 12 n_r_12) 13 n_r_13) 14 n_r_14) (up2 (up2 (up2 q 0 n_q_0) 1 n_q_1) 2 n_q_2) gr ur lr mr nr ∧ (RB adjR n_q_0)) := by
  refine wr_entryI (by decide +kernel) (Nat.le_of_ble_eq_true rfl) ?_
  intro p e s m below meth c A C0 hP hK hD hA ls hl
  have hS : va_S A s.heap s.heap [] := va_S.rf
  obtain ⟨hx, hb, hml, hown, hts, hr, hlocks, hin⟩ := C0
  have hown : s.vm.findClass RX6 = some m.cls := hown
  have hDD : ∀ xf' tf' f' qf' gf' uf' lf' mf' nf' tr' r' q' gr' ur' lr' mr' nr', va_D A (xM G x xa ta a b ga ua la lb lc tg gg xf' tf' f' qf' gf' uf' lf' mf' nf' tr' r' q' gr' ur' lr' mr' nr') := fun xf' tf' f' qf' gf' uf' lf' mf' nf' tr' r' q' gr' ur' lr' mr' nr' => D_same hD rfl
  have hl : lv_has ls 2 [(0, .ref x), (1, .int tb)] := hl
  refine lv_aload_n hx hb dX6_unsafe_0 rfl (lv_at hl 0 rfl) ?_
  refine lv_aload_n hx hb dX6_unsafe_1 rfl (lv_at hl 0 rfl) ?_
  refine lv_iload_n hx hb dX6_unsafe_2 rfl (lv_at hl 1 rfl) ?_
  refine rdV (rest := [.ref x]) (q0 := 0) ⟨hx, hb, hml, hown, hts⟩ (x_tableStatus l G x xa ta a b ga ua la lb lc tg gg xf tf f qf gf uf lf mf nf tr r q gr ur lr mr nr tb j (by omega) hjt htg) mi_yX6_tableStatus mv_yX6_tableStatus ml_X6_73 ⟨rfl, rfl, Nat.le_of_ble_eq_true rfl, Nat.le_of_ble_eq_true rfl⟩ hK (hP) rfl rfl rfl hl.1 rfl (Nat.le_of_ble_eq_true rfl) dX6_unsafe_3 ⟨Nat.zero_le _, Nat.zero_le _⟩ hS hA hP (fun r1 H locs hr1 hP hS => ?_)
  have hr1 : ((r1 = 0 ∧ tbO tb j (tf 0)) ∨ (r1 = 1 ∧ ¬ tbO tb j (tf 0))) := hr1
  refine wrVIa (rest := []) (q0 := 0) ⟨hx, hb, hml, hown, hts⟩ (x_settled l G x xa ta a b ga ua la lb lc tg gg xf tf f qf gf uf lf mf nf tr r q gr ur lr mr nr r1  ) mi_yX6_settled mv_yX6_settled ml_X6_65 ⟨rfl, rfl, Nat.le_of_ble_eq_true rfl, Nat.le_of_ble_eq_true rfl⟩ hK hP (hDD _ _ _ _ _ _ _ _ _ _ _ _ _ _ _ _ _) rfl rfl rfl hl.1 rfl (Nat.le_of_ble_eq_true rfl) dX6_unsafe_6 ⟨Nat.zero_le _, Nat.zero_le _⟩ hS hA (fun r2 w3 H locs hw3 hP hS => ?_)
  obtain ⟨x4, rfl, hw3r⟩ := hw3
  have hP : PP G (xM G x xa ta a b ga ua la lb lc tg gg (upd xf 0 x4) tf f qf gf uf lf mf nf tr r q gr ur lr mr nr) H := hP
  have hw3r : ((r2 = 1 ∧ (r1 = 0)) ∨ (r2 = 0 ∧ ¬ (r1 = 0))) := hw3r
  refine lv_if_ne (tgt := 14) hx hb dX6_unsafe_9 (by decide) (fun c5 => ?_) (fun c5 => ?_)
  · have b9 := bT hw3r c5
    obtain ⟨ej, ho⟩ := st0 hr1 b9
    subst ej
    obtain ⟨rw, hrw, t1⟩ := hT1
    obtain ⟨cl, hcl, t2⟩ := hT2
    obtain ⟨bk, hbk, t3⟩ := hT3
    have hT1 : nL 12 (tf 1) := ⟨rw, hrw, t1⟩
    have hT2 : nL 12 (tf 2) := ⟨cl, hcl, t2⟩
    have hT3 : nL 12 (tf 3) := ⟨bk, hbk, t3⟩
    refine lv_aload_n hx hb dX6_unsafe_14 rfl (lv_at hl 0 rfl) ?_
    refine va_get (D := G.1) (ci := 6) (v := .ref (a 15)) (C := RX6) (T := TX6) (N := 10) hx hb hts inX6 hown hK.1 hP 0 rfl rfl 2 (by decide) (hts _ mf_X6_22) (fun _ h9 => h9) rfl dX6_unsafe_15 ?_
    refine lv_aload_n hx hb dX6_unsafe_18 rfl (lv_at hl 0 rfl) ?_
    refine va_get (D := G.1) (ci := 6) (v := .ref (xa 1)) (C := RX6) (T := TX6) (N := 10) hx hb hts inX6 hown hK.1 hP 0 rfl rfl 1 (by decide) (hts _ mf_X6_15) (fun _ h9 => h9) rfl dX6_unsafe_19 ?_
    refine lv_iload_n hx hb dX6_unsafe_22 rfl (lv_at hl 1 rfl) ?_
    refine xaldT hx hb hK hP 1 (j) (b := (ta 0)) rfl (by omega) (by decide) rfl (htg) dX6_unsafe_23 ?_
    refine wrVV (rest := []) (q0 := 0) ⟨hx, hb, hml, hown, hts⟩ (c_X2_load l G a b f r ta tf tr rw cl bk hrw hcl hbk t1 t2 t3) mi_yX2_load mv_yX2_load ml_X6_184 ⟨rfl, rfl, Nat.le_of_ble_eq_true rfl, Nat.le_of_ble_eq_true rfl⟩ hK hP (hDD _ _ _ _ _ _ _ _ _ _ _ _ _ _ _ _ _) [11, 12, 13, 14, 15, 16, 17, 18, 19, 20, 2, 3, 4, 5, 6, 7, 8, 9, 10] rfl (by decide) rfl rfl rfl hl.1 rfl (Nat.le_of_ble_eq_true rfl) dX6_unsafe_24 ⟨Nat.zero_le _, Nat.zero_le _⟩ hS hA (fun w9 H locs hw9 hP hS => ?_)
    obtain ⟨x6, x7, h0, h1, rfl⟩ := hw9
    have hP : PP G (xM G x xa ta a b ga ua la lb lc tg gg (upd xf 0 x4) tf (upd (upd (upd (upd (upd f 0 (x6 0)) 1 (x6 1)) 2 (x6 2)) 3 (x6 3)) 4 (x6 4)) qf gf uf lf mf nf tr (up2 (up2 (up2 (up2 (up2 (up2 (up2 (up2 (up2 r 6 (x7 6)) 7 (x7 7)) 8 (x7 8)) 9 (x7 9)) 10 (x7 10)) 11 (x7 11)) 12 (x7 12)) 13 (x7 13)) 14 (x7 14)) q gr ur lr mr nr) H := hP rfl
    refine lv_aload_n hx hb dX6_unsafe_27 rfl (lv_at hl 0 rfl) ?_
    refine va_get (D := G.1) (ci := 6) (v := .ref (a 15)) (C := RX6) (T := TX6) (N := 10) hx hb hts inX6 hown hK.1 hP 0 rfl rfl 2 (by decide) (hts _ mf_X6_22) (fun _ h9 => h9) rfl dX6_unsafe_28 ?_
    refine wrVI (rest := []) (q0 := 0) ⟨hx, hb, hml, hown, hts⟩ (c_X2_countUnsafe l G a b (upd (upd (upd (upd (upd f 0 (x6 0)) 1 (x6 1)) 2 (x6 2)) 3 (x6 3)) 4 (x6 4)) (up2 (up2 (up2 (up2 (up2 (up2 (up2 (up2 (up2 r 6 (x7 6)) 7 (x7 7)) 8 (x7 8)) 9 (x7 9)) 10 (x7 10)) 11 (x7 11)) 12 (x7 12)) 13 (x7 13)) 14 (x7 14)) q (qf 3) rw cl hrw hcl h0 h1  hRB) mi_yX2_countUnsafe mv_yX2_countUnsafe ml_X6_191 ⟨rfl, rfl, Nat.le_of_ble_eq_true rfl, Nat.le_of_ble_eq_true rfl⟩ hK hP (hDD _ _ _ _ _ _ _ _ _ _ _ _ _ _ _ _ _) [11, 12, 13, 14, 15, 16, 17, 18, 19, 20, 21, 22, 23, 24] rfl (by decide) rfl rfl rfl hl.1 rfl (Nat.le_of_ble_eq_true rfl) dX6_unsafe_31 ⟨Nat.zero_le _, Nat.zero_le _⟩ hS hA (fun r16 w17 H locs hw17 hP hS => ?_)
    obtain ⟨x10, x11, x12, x13, x14, x15, hRB, rfl⟩ := hw17
    have hP : PP G (xM G x xa ta a b ga ua la lb lc tg gg (upd xf 0 x4) tf (upd (upd (upd (upd (upd f 0 (x6 0)) 1 (x6 1)) 2 (x6 2)) 3 (x6 3)) 4 x10) (upd qf 3 x15) gf uf lf mf nf tr (up2 (up2 (up2 (up2 (up2 (up2 (up2 (up2 (up2 r 6 (x11 6)) 7 (x11 7)) 8 (x11 8)) 9 (x11 9)) 10 (x11 10)) 11 (x11 11)) 12 (x11 12)) 13 (x11 13)) 14 (x11 14)) (up2 (up2 (up2 q 0 x12) 1 x13) 2 x14) gr ur lr mr nr) H := hP rfl
    exact wr_iret hx hb hr hlocks hS hP ⟨(x6 0), (x6 1), (x6 2), (x6 3), x10, x12, x13, x14, x15, (x11 6), (x11 7), (x11 8), (x11 9), (x11 10), (x11 11), (x11 12), (x11 13), (x11 14), x4, rfl, hRB⟩ dX6_unsafe_34
  · have b9 := bF hw3r c5
    refine lv_iconst (v := -1) hx hb dX6_unsafe_12 (by decide) ?_
    exact wr_iret hx hb hr hlocks hS hP ⟨(f 0), (f 1), (f 2), (f 3), (f 4), (q 0), (q 1), (q 2), (qf 3), (r 6), (r 7), (r 8), (r 9), (r 10), (r 11), (r 12), (r 13), (r 14), x4, rfl, hRB⟩ dX6_unsafe_13
set_option maxHeartbeats 4000000 in
set_option maxRecDepth 100000 in
theorem x_witness (l : Launch) (G : GG) (x : Nat) (xa ta a b ga ua la lb lc : Nat → Nat) (tg gg : Nat → Option Nat) (xf tf f qf gf uf lf mf nf : Nat → Int32) (tr r q gr ur lr mr nr : Nat → Nat → Int32) (tb : Int32) (row : Int32) (col : Int32) (gr_ : Int32) (j : Nat) (hj : j < 6) (hjt : tbJ tb j) (htg : tg j = some (ta 0)) (hT1 : nL 12 (tf 1)) (hT2 : nL 12 (tf 2)) (hT3 : nL 12 (tf 3)) (hT4 : nOK 12 12 (tr 4)) (hRB : RB adjR (q 0)) (hL0 : nL 12 (lf 0)) (hL1 : nL 12 (lf 1)) : WrI l yX6_witness cX6_witness 5 (some .int) ({ frames := 6, cells := 0, slots := 0, locals := 157 }) G (xM G x xa ta a b ga ua la lb lc tg gg xf tf f qf gf uf lf mf nf tr r q gr ur lr mr nr) [.ref x, .int tb, .int row, .int col, .int gr_] (fun q w => ∃ (n_f_0 : Int32) (n_f_1 : Int32) (n_f_2 : Int32) (n_f_3 : Int32) (n_f_4 : Int32) (n_lf_0 : Int32) (n_lf_1 : Int32) (n_lr_2 : Nat → Int32) (n_q_0 : Nat → Int32) (n_q_1 : Nat → Int32) (n_q_2 : Nat → Int32) (n_qf_3 : Int32) (n_r_6 : Nat → Int32) (n_r_7 : Nat → Int32) (n_r_8 : Nat → Int32) (n_r_9 : Nat → Int32) (n_r_10 : Nat → Int32) (n_r_11 : Nat → Int32) (n_r_12 : Nat → Int32) (n_r_13 : Nat → Int32) (n_r_14 : Nat → Int32) (n_xf_0 : Int32) (n_xf_7 : Int32), w = xM G x xa ta a b ga ua la lb lc tg gg (upd (upd xf 0 n_xf_0) 7 n_xf_7) tf (upd (upd (upd (upd (upd f 0 n_f_0) 1 n_f_1) 2 n_f_2) 3 n_f_3) 4 n_f_4) (upd qf 3 n_qf_3) gf uf (upd (upd lf 0 n_lf_0) 1 n_lf_1) mf nf tr (up2 (up2 (up2 (up2 (up2 (up2 (up2 (up2 (up2 r 6 n_r_6) 7 n_r_7) 8 n_r_8) 9 n_r_9) 10 n_r_10) 11 n_r_11) 12 n_r_12) 13 n_r_13) 14 n_r_14) (up2 (up2 (up2 q 0 n_q_0) 1 n_q_1) 2 n_q_2) gr ur (up2 lr 2 n_lr_2) mr nr ∧ (RB adjR n_q_0) ∧ (nL 12 n_lf_0) ∧ (nL 12 n_lf_1)) := by
  refine wr_entryI (by decide +kernel) (Nat.le_of_ble_eq_true rfl) ?_
  intro p e s m below meth c A C0 hP hK hD hA ls hl
  have hS : va_S A s.heap s.heap [] := va_S.rf
  obtain ⟨hx, hb, hml, hown, hts, hr, hlocks, hin⟩ := C0
  have hown : s.vm.findClass RX6 = some m.cls := hown
  have hDD : ∀ xf' tf' f' qf' gf' uf' lf' mf' nf' tr' r' q' gr' ur' lr' mr' nr', va_D A (xM G x xa ta a b ga ua la lb lc tg gg xf' tf' f' qf' gf' uf' lf' mf' nf' tr' r' q' gr' ur' lr' mr' nr') := fun xf' tf' f' qf' gf' uf' lf' mf' nf' tr' r' q' gr' ur' lr' mr' nr' => D_same hD rfl
  have hl : lv_has ls 5 [(0, .ref x), (1, .int tb), (2, .int row), (3, .int col), (4, .int gr_)] := hl
  refine lv_aload_n hx hb dX6_witness_0 rfl (lv_at hl 0 rfl) ?_
  refine lv_aload_n hx hb dX6_witness_1 rfl (lv_at hl 0 rfl) ?_
  refine lv_iload_n hx hb dX6_witness_2 rfl (lv_at hl 1 rfl) ?_
  refine lv_iload_n hx hb dX6_witness_3 rfl (lv_at hl 2 rfl) ?_
  refine lv_iload_n hx hb dX6_witness_4 rfl (lv_at hl 3 rfl) ?_
  refine rdV (rest := [.ref x]) (q0 := 0) ⟨hx, hb, hml, hown, hts⟩ (x_soundCellStatus l G x xa ta a b ga ua la lb lc tg gg xf tf f qf gf uf lf mf nf tr r q gr ur lr mr nr tb row col j (by omega) hjt htg hT1 hT2 hT3) mi_yX6_soundCellStatus mv_yX6_soundCellStatus ml_X6_165 ⟨rfl, rfl, Nat.le_of_ble_eq_true rfl, Nat.le_of_ble_eq_true rfl⟩ hK (hP) rfl rfl rfl hl.1 rfl (Nat.le_of_ble_eq_true rfl) dX6_witness_5 ⟨Nat.zero_le _, Nat.zero_le _⟩ hS hA hP (fun r1 H locs hr1 hP hS => ?_)
  have hr1 : (r1 = 0 → tbO tb j (tf 0) ∧ inR (tf 1) row ∧ inR (tf 2) col) := hr1
  refine wrVIa (rest := []) (q0 := 0) ⟨hx, hb, hml, hown, hts⟩ (x_settled l G x xa ta a b ga ua la lb lc tg gg xf tf f qf gf uf lf mf nf tr r q gr ur lr mr nr r1  ) mi_yX6_settled mv_yX6_settled ml_X6_65 ⟨rfl, rfl, Nat.le_of_ble_eq_true rfl, Nat.le_of_ble_eq_true rfl⟩ hK hP (hDD _ _ _ _ _ _ _ _ _ _ _ _ _ _ _ _ _) rfl rfl rfl hl.1 rfl (Nat.le_of_ble_eq_true rfl) dX6_witness_8 ⟨Nat.zero_le _, Nat.zero_le _⟩ hS hA (fun r2 w3 H locs hw3 hP hS => ?_)
  obtain ⟨x4, rfl, hw3r⟩ := hw3
  have hP : PP G (xM G x xa ta a b ga ua la lb lc tg gg (upd xf 0 x4) tf f qf gf uf lf mf nf tr r q gr ur lr mr nr) H := hP
  have hw3r : ((r2 = 1 ∧ (r1 = 0)) ∨ (r2 = 0 ∧ ¬ (r1 = 0))) := hw3r
  refine lv_if_ne (tgt := 16) hx hb dX6_witness_11 (by decide) (fun c5 => ?_) (fun c5 => ?_)
  · have b11 := bT hw3r c5
    obtain ⟨⟨ej, ho⟩, q1, q2⟩ := hr1 b11
    subst ej
    have q1c := q1
    have q2c := q2
    obtain ⟨rw, hrw, t1⟩ := hT1
    obtain ⟨cl, hcl, t2⟩ := hT2
    obtain ⟨bk, hbk, t3⟩ := hT3
    have hT1 : nL 12 (tf 1) := ⟨rw, hrw, t1⟩
    have hT2 : nL 12 (tf 2) := ⟨cl, hcl, t2⟩
    have hT3 : nL 12 (tf 3) := ⟨bk, hbk, t3⟩
    rw [t1] at q1c
    rw [t2] at q2c
    obtain ⟨i, hi, ei⟩ := inR_n (by omega) q1c
    subst ei
    obtain ⟨k, hk, ek⟩ := inR_n (by omega) q2c
    subst ek
    refine lv_aload_n hx hb dX6_witness_16 rfl (lv_at hl 0 rfl) ?_
    refine va_get (D := G.1) (ci := 6) (v := .ref (a 15)) (C := RX6) (T := TX6) (N := 10) hx hb hts inX6 hown hK.1 hP 0 rfl rfl 2 (by decide) (hts _ mf_X6_22) (fun _ h9 => h9) rfl dX6_witness_17 ?_
    refine lv_aload_n hx hb dX6_witness_20 rfl (lv_at hl 0 rfl) ?_
    refine va_get (D := G.1) (ci := 6) (v := .ref (xa 1)) (C := RX6) (T := TX6) (N := 10) hx hb hts inX6 hown hK.1 hP 0 rfl rfl 1 (by decide) (hts _ mf_X6_15) (fun _ h9 => h9) rfl dX6_witness_21 ?_
    refine lv_iload_n hx hb dX6_witness_24 rfl (lv_at hl 1 rfl) ?_
    refine xaldT hx hb hK hP 1 (j) (b := (ta 0)) rfl (by omega) (by decide) rfl (htg) dX6_witness_25 ?_
    refine wrVV (rest := []) (q0 := 0) ⟨hx, hb, hml, hown, hts⟩ (c_X2_load l G a b f r ta tf tr rw cl bk hrw hcl hbk t1 t2 t3) mi_yX2_load mv_yX2_load ml_X6_184 ⟨rfl, rfl, Nat.le_of_ble_eq_true rfl, Nat.le_of_ble_eq_true rfl⟩ hK hP (hDD _ _ _ _ _ _ _ _ _ _ _ _ _ _ _ _ _) [11, 12, 13, 14, 15, 16, 17, 18, 19, 20, 2, 3, 4, 5, 6, 7, 8, 9, 10] rfl (by decide) rfl rfl rfl hl.1 rfl (Nat.le_of_ble_eq_true rfl) dX6_witness_26 ⟨Nat.zero_le _, Nat.zero_le _⟩ hS hA (fun w9 H locs hw9 hP hS => ?_)
    obtain ⟨x6, x7, h0, h1, rfl⟩ := hw9
    have hP : PP G (xM G x xa ta a b ga ua la lb lc tg gg (upd xf 0 x4) tf (upd (upd (upd (upd (upd f 0 (x6 0)) 1 (x6 1)) 2 (x6 2)) 3 (x6 3)) 4 (x6 4)) qf gf uf lf mf nf tr (up2 (up2 (up2 (up2 (up2 (up2 (up2 (up2 (up2 r 6 (x7 6)) 7 (x7 7)) 8 (x7 8)) 9 (x7 9)) 10 (x7 10)) 11 (x7 11)) 12 (x7 12)) 13 (x7 13)) 14 (x7 14)) q gr ur lr mr nr) H := hP rfl
    refine lv_aload_n hx hb dX6_witness_29 rfl (lv_at hl 0 rfl) ?_
    refine va_get (D := G.1) (ci := 6) (v := .ref (a 15)) (C := RX6) (T := TX6) (N := 10) hx hb hts inX6 hown hK.1 hP 0 rfl rfl 2 (by decide) (hts _ mf_X6_22) (fun _ h9 => h9) rfl dX6_witness_30 ?_
    refine lv_iload_n hx hb dX6_witness_33 rfl (lv_at hl 2 rfl) ?_
    refine lv_iload_n hx hb dX6_witness_34 rfl (lv_at hl 3 rfl) ?_
    refine lv_iload hx hb dX6_witness_35 (lv_at hl 4 rfl) ?_
    refine wrVV (rest := []) (q0 := 0) ⟨hx, hb, hml, hown, hts⟩ (c_X2_findFirst l G a b (upd (upd (upd (upd (upd f 0 (x6 0)) 1 (x6 1)) 2 (x6 2)) 3 (x6 3)) 4 (x6 4)) (up2 (up2 (up2 (up2 (up2 (up2 (up2 (up2 (up2 r 6 (x7 6)) 7 (x7 7)) 8 (x7 8)) 9 (x7 9)) 10 (x7 10)) 11 (x7 11)) 12 (x7 12)) 13 (x7 13)) 14 (x7 14)) q (qf 3) rw cl hrw hcl h0 h1 i k (by omega) (by omega) gr_ hRB) mi_yX2_findFirst mv_yX2_findFirst ml_X6_195 ⟨rfl, rfl, Nat.le_of_ble_eq_true rfl, Nat.le_of_ble_eq_true rfl⟩ hK hP (hDD _ _ _ _ _ _ _ _ _ _ _ _ _ _ _ _ _) [11, 12, 13, 14, 15, 16, 17, 18, 19, 20, 21, 22, 23, 24] rfl (by decide) rfl rfl rfl hl.1 rfl (Nat.le_of_ble_eq_true rfl) dX6_witness_37 ⟨Nat.zero_le _, Nat.zero_le _⟩ hS hA (fun w17 H locs hw17 hP hS => ?_)
    obtain ⟨x10, x11, x12, x13, x14, x15, hRB, rfl⟩ := hw17
    have hP : PP G (xM G x xa ta a b ga ua la lb lc tg gg (upd xf 0 x4) tf (upd (upd (upd (upd (upd f 0 (x6 0)) 1 (x6 1)) 2 (x6 2)) 3 (x6 3)) 4 x10) (upd qf 3 x15) gf uf lf mf nf tr (up2 (up2 (up2 (up2 (up2 (up2 (up2 (up2 (up2 r 6 (x11 6)) 7 (x11 7)) 8 (x11 8)) 9 (x11 9)) 10 (x11 10)) 11 (x11 11)) 12 (x11 12)) 13 (x11 13)) 14 (x11 14)) (up2 (up2 (up2 q 0 x12) 1 x13) 2 x14) gr ur lr mr nr) H := hP rfl
    refine lv_aload_n hx hb dX6_witness_40 rfl (lv_at hl 0 rfl) ?_
    refine va_get (D := G.1) (ci := 6) (v := .ref (a 15)) (C := RX6) (T := TX6) (N := 10) hx hb hts inX6 hown hK.1 hP 0 rfl rfl 2 (by decide) (hts _ mf_X6_22) (fun _ h9 => h9) rfl dX6_witness_41 ?_
    refine lv_aload_n hx hb dX6_witness_44 rfl (lv_at hl 0 rfl) ?_
    refine va_get (D := G.1) (ci := 6) (v := .ref (la 0)) (C := RX6) (T := TX6) (N := 10) hx hb hts inX6 hown hK.1 hP 0 rfl rfl 5 (by decide) (hts _ mf_X6_43) (fun _ h9 => h9) rfl dX6_witness_45 ?_
    refine wrVV (rest := []) (q0 := 0) ⟨hx, hb, hml, hown, hts⟩ (c_X2_showValues l G a b (upd (upd (upd (upd (upd f 0 (x6 0)) 1 (x6 1)) 2 (x6 2)) 3 (x6 3)) 4 x10) (up2 (up2 (up2 (up2 (up2 (up2 (up2 (up2 (up2 r 6 (x11 6)) 7 (x11 7)) 8 (x11 8)) 9 (x11 9)) 10 (x11 10)) 11 (x11 11)) 12 (x11 12)) 13 (x11 13)) 14 (x11 14)) la (lf 0) (lf 1) (lr 2) rw cl hrw hcl h0 h1) mi_yX2_showValues mv_yX2_showValues ml_X6_198 ⟨rfl, rfl, Nat.le_of_ble_eq_true rfl, Nat.le_of_ble_eq_true rfl⟩ hK hP (hDD _ _ _ _ _ _ _ _ _ _ _ _ _ _ _ _ _) [11, 12, 13, 14, 15, 16, 17, 18, 19, 20, 42, 43] rfl (by decide) rfl rfl rfl hl.1 rfl (Nat.le_of_ble_eq_true rfl) dX6_witness_48 ⟨Nat.zero_le _, Nat.zero_le _⟩ hS hA (fun w20 H locs hw20 hP hS => ?_)
    obtain ⟨x18, rfl⟩ := hw20
    have hP : PP G (xM G x xa ta a b ga ua la lb lc tg gg (upd xf 0 x4) tf (upd (upd (upd (upd (upd f 0 (x6 0)) 1 (x6 1)) 2 (x6 2)) 3 (x6 3)) 4 x10) (upd qf 3 x15) gf uf (upd (upd lf 0 (x6 0)) 1 (x6 1)) mf nf tr (up2 (up2 (up2 (up2 (up2 (up2 (up2 (up2 (up2 r 6 (x11 6)) 7 (x11 7)) 8 (x11 8)) 9 (x11 9)) 10 (x11 10)) 11 (x11 11)) 12 (x11 12)) 13 (x11 13)) 14 (x11 14)) (up2 (up2 (up2 q 0 x12) 1 x13) 2 x14) gr ur (up2 lr 2 x18) mr nr) H := hP rfl
    have hL0 : nL 12 (x6 0) := ⟨rw, hrw, h0⟩
    have hL1 : nL 12 (x6 1) := ⟨cl, hcl, h1⟩
    refine lv_aload_n hx hb dX6_witness_51 rfl (lv_at hl 0 rfl) ?_
    refine lv_aload_n hx hb dX6_witness_52 rfl (lv_at hl 0 rfl) ?_
    refine va_get (D := G.1) (ci := 6) (v := .ref (a 15)) (C := RX6) (T := TX6) (N := 10) hx hb hts inX6 hown hK.1 hP 0 rfl rfl 2 (by decide) (hts _ mf_X6_22) (fun _ h9 => h9) rfl dX6_witness_53 ?_
    refine lv_iload_n hx hb dX6_witness_56 rfl (lv_at hl 2 rfl) ?_
    refine lv_iload_n hx hb dX6_witness_57 rfl (lv_at hl 3 rfl) ?_
    refine lv_iload hx hb dX6_witness_58 (lv_at hl 4 rfl) ?_
    refine wrVI (rest := [.ref x]) (q0 := 0) ⟨hx, hb, hml, hown, hts⟩ (c_X2_cutOf l G a b (upd (upd (upd (upd (upd f 0 (x6 0)) 1 (x6 1)) 2 (x6 2)) 3 (x6 3)) 4 x10) (up2 (up2 (up2 (up2 (up2 (up2 (up2 (up2 (up2 r 6 (x11 6)) 7 (x11 7)) 8 (x11 8)) 9 (x11 9)) 10 (x11 10)) 11 (x11 11)) 12 (x11 12)) 13 (x11 13)) 14 (x11 14)) (up2 (up2 (up2 q 0 x12) 1 x13) 2 x14) x15 rw cl hrw hcl h0 h1 i k (by omega) (by omega) gr_ hRB) mi_yX2_cutOf mv_yX2_cutOf ml_X6_202 ⟨rfl, rfl, Nat.le_of_ble_eq_true rfl, Nat.le_of_ble_eq_true rfl⟩ hK hP (hDD _ _ _ _ _ _ _ _ _ _ _ _ _ _ _ _ _) [11, 12, 13, 14, 15, 16, 17, 18, 19, 20, 21, 22, 23, 24] rfl (by decide) rfl rfl rfl hl.1 rfl (Nat.le_of_ble_eq_true rfl) dX6_witness_60 ⟨Nat.zero_le _, Nat.zero_le _⟩ hS hA (fun r27 w28 H locs hw28 hP hS => ?_)
    obtain ⟨x21, x22, x23, x24, x25, x26, hRB, rfl⟩ := hw28
    have hP : PP G (xM G x xa ta a b ga ua la lb lc tg gg (upd xf 0 x4) tf (upd (upd (upd (upd (upd f 0 (x6 0)) 1 (x6 1)) 2 (x6 2)) 3 (x6 3)) 4 x21) (upd qf 3 x26) gf uf (upd (upd lf 0 (x6 0)) 1 (x6 1)) mf nf tr (up2 (up2 (up2 (up2 (up2 (up2 (up2 (up2 (up2 r 6 (x22 6)) 7 (x22 7)) 8 (x22 8)) 9 (x22 9)) 10 (x22 10)) 11 (x22 11)) 12 (x22 12)) 13 (x22 13)) 14 (x22 14)) (up2 (up2 (up2 q 0 x23) 1 x24) 2 x25) gr ur (up2 lr 2 x18) mr nr) H := hP rfl
    refine va_put (D := G.1) (ci := 6) (v := .int r27) (C := RX6) (T := TX6) (N := 10) hx hb hts inX6 tyX6 tyX6_ok nmX6 hown hK.1 hP (hDD _ _ _ _ _ _ _ _ _ _ _ _ _ _ _ _ _) hS 0 rfl rfl 7 (by decide) (hts _ mf_X6_50) (fun _ h9 => h9) rfl (tyX6_ok 7 (by decide)) (rfl) (rfl) (Nat.le_of_ble_eq_true rfl) dX6_witness_63 (fun H locs hP _ hS => ?_)
    have hP : PP G (xM G x xa ta a b ga ua la lb lc tg gg (upd (upd xf 0 x4) 7 r27) tf (upd (upd (upd (upd (upd f 0 (x6 0)) 1 (x6 1)) 2 (x6 2)) 3 (x6 3)) 4 x21) (upd qf 3 x26) gf uf (upd (upd lf 0 (x6 0)) 1 (x6 1)) mf nf tr (up2 (up2 (up2 (up2 (up2 (up2 (up2 (up2 (up2 r 6 (x22 6)) 7 (x22 7)) 8 (x22 8)) 9 (x22 9)) 10 (x22 10)) 11 (x22 11)) 12 (x22 12)) 13 (x22 13)) 14 (x22 14)) (up2 (up2 (up2 q 0 x23) 1 x24) 2 x25) gr ur (up2 lr 2 x18) mr nr) H := hP
    refine lv_aload_n hx hb dX6_witness_66 rfl (lv_at hl 0 rfl) ?_
    refine va_get (D := G.1) (ci := 6) (v := .ref (la 0)) (C := RX6) (T := TX6) (N := 10) hx hb hts inX6 hown hK.1 hP 0 rfl rfl 5 (by decide) (hts _ mf_X6_43) (fun _ h9 => h9) rfl dX6_witness_67 ?_
    refine lv_iload_n hx hb dX6_witness_70 rfl (lv_at hl 2 rfl) ?_
    refine lv_iload_n hx hb dX6_witness_71 rfl (lv_at hl 3 rfl) ?_
    obtain ⟨k0, hk0, ek0⟩ := hL0
    obtain ⟨k1, hk1, ek1⟩ := hL1
    have hL0 : nL 12 (x6 0) := ⟨k0, hk0, ek0⟩
    have hL1 : nL 12 (x6 1) := ⟨k1, hk1, ek1⟩
    refine rdV (rest := []) (q0 := 0) ⟨hx, hb, hml, hown, hts⟩ (c_X1_at l G la x18 k0 k1 hk0 hk1 (nI i) (nI k)) mi_yX1_at mv_yX1_at ml_X6_206 ⟨rfl, rfl, Nat.le_of_ble_eq_true rfl, Nat.le_of_ble_eq_true rfl⟩ hK (leaf_w (hP.sub (ws' := lW G la (x6 0) (x6 1) x18) [42, 43] rfl) ek0 ek1) rfl rfl rfl hl.1 rfl (Nat.le_of_ble_eq_true rfl) dX6_witness_72 ⟨Nat.zero_le _, Nat.zero_le _⟩ hS hA hP (fun r29 H locs hr29 hP hS => ?_)
    exact wr_iret hx hb hr hlocks hS hP ⟨(x6 0), (x6 1), (x6 2), (x6 3), x21, (x6 0), (x6 1), x18, x23, x24, x25, x26, (x22 6), (x22 7), (x22 8), (x22 9), (x22 10), (x22 11), (x22 12), (x22 13), (x22 14), x4, r27, rfl, hRB, hL0, hL1⟩ dX6_witness_75
  · have b11 := bF hw3r c5
    refine lv_iconst (v := -1) hx hb dX6_witness_14 (by decide) ?_
    exact wr_iret hx hb hr hlocks hS hP ⟨(f 0), (f 1), (f 2), (f 3), (f 4), (lf 0), (lf 1), (lr 2), (q 0), (q 1), (q 2), (qf 3), (r 6), (r 7), (r 8), (r 9), (r 10), (r 11), (r 12), (r 13), (r 14), x4, (xf 7), rfl, hRB, hL0, hL1⟩ dX6_witness_15
set_option maxHeartbeats 4000000 in
set_option maxRecDepth 100000 in
theorem x_seen (l : Launch) (G : GG) (x : Nat) (xa ta a b ga ua la lb lc : Nat → Nat) (tg gg : Nat → Option Nat) (xf tf f qf gf uf lf mf nf : Nat → Int32) (tr r q gr ur lr mr nr : Nat → Nat → Int32) (row : Int32) (col : Int32) (hL0 : nL 12 (lf 0)) (hL1 : nL 12 (lf 1)) : RdI l yX6_seen cX6_seen 3 (some .int) ({ frames := 2, cells := 0, slots := 0, locals := 44 }) G (xM G x xa ta a b ga ua la lb lc tg gg xf tf f qf gf uf lf mf nf tr r q gr ur lr mr nr) [.ref x, .int row, .int col] (fun q => True) := by
  refine rd_entry (by decide +kernel) (Nat.le_of_ble_eq_true rfl) ?_
  intro p e s m below meth c C0 hP hK ls hl
  have hS : va_S (fun q => s.heap.size ≤ q) s.heap s.heap [] := va_S.rf
  have hA : ∀ q, s.heap.size ≤ q → (fun q => s.heap.size ≤ q) q := fun _ h => h
  obtain ⟨hx, hb, hml, hown, hts, hr, hlocks, hin⟩ := C0
  have hown : s.vm.findClass RX6 = some m.cls := hown
  have hl : lv_has ls 3 [(0, .ref x), (1, .int row), (2, .int col)] := hl
  refine lv_aload_n hx hb dX6_seen_0 rfl (lv_at hl 0 rfl) ?_
  refine va_get (D := G.1) (ci := 6) (v := .ref (la 0)) (C := RX6) (T := TX6) (N := 10) hx hb hts inX6 hown hK.1 hP 0 rfl rfl 5 (by decide) (hts _ mf_X6_43) (fun _ h9 => h9) rfl dX6_seen_1 ?_
  refine lv_iload_n hx hb dX6_seen_4 rfl (lv_at hl 1 rfl) ?_
  refine lv_iload_n hx hb dX6_seen_5 rfl (lv_at hl 2 rfl) ?_
  obtain ⟨k0, hk0, ek0⟩ := hL0
  obtain ⟨k1, hk1, ek1⟩ := hL1
  have hL0 : nL 12 (lf 0) := ⟨k0, hk0, ek0⟩
  have hL1 : nL 12 (lf 1) := ⟨k1, hk1, ek1⟩
  refine rdV (rest := []) (q0 := 0) ⟨hx, hb, hml, hown, hts⟩ (c_X1_at l G la (lr 2) k0 k1 hk0 hk1 row col) mi_yX1_at mv_yX1_at ml_X6_206 ⟨rfl, rfl, Nat.le_of_ble_eq_true rfl, Nat.le_of_ble_eq_true rfl⟩ hK (leaf_w (hP.sub (ws' := lW G la (lf 0) (lf 1) (lr 2)) [42, 43] rfl) ek0 ek1) rfl rfl rfl hl.1 rfl (Nat.le_of_ble_eq_true rfl) dX6_seen_6 ⟨Nat.zero_le _, Nat.zero_le _⟩ hS hA hP (fun r1 H locs hr1 hP hS => ?_)
  exact rd_iret hx hb hr hlocks hS (trivial) dX6_seen_9
set_option maxHeartbeats 4000000 in
set_option maxRecDepth 100000 in
theorem x_rounded (l : Launch) (G : GG) (x : Nat) (xa ta a b ga ua la lb lc : Nat → Nat) (tg gg : Nat → Option Nat) (xf tf f qf gf uf lf mf nf : Nat → Int32) (tr r q gr ur lr mr nr : Nat → Nat → Int32) (row : Int32) (col : Int32) (hM0 : nL 12 (mf 0)) (hM1 : nL 12 (mf 1)) : RdI l yX6_rounded cX6_rounded 3 (some .int) ({ frames := 2, cells := 0, slots := 0, locals := 44 }) G (xM G x xa ta a b ga ua la lb lc tg gg xf tf f qf gf uf lf mf nf tr r q gr ur lr mr nr) [.ref x, .int row, .int col] (fun q => True) := by
  refine rd_entry (by decide +kernel) (Nat.le_of_ble_eq_true rfl) ?_
  intro p e s m below meth c C0 hP hK ls hl
  have hS : va_S (fun q => s.heap.size ≤ q) s.heap s.heap [] := va_S.rf
  have hA : ∀ q, s.heap.size ≤ q → (fun q => s.heap.size ≤ q) q := fun _ h => h
  obtain ⟨hx, hb, hml, hown, hts, hr, hlocks, hin⟩ := C0
  have hown : s.vm.findClass RX6 = some m.cls := hown
  have hl : lv_has ls 3 [(0, .ref x), (1, .int row), (2, .int col)] := hl
  refine lv_aload_n hx hb dX6_rounded_0 rfl (lv_at hl 0 rfl) ?_
  refine va_get (D := G.1) (ci := 6) (v := .ref (lb 0)) (C := RX6) (T := TX6) (N := 10) hx hb hts inX6 hown hK.1 hP 0 rfl rfl 6 (by decide) (hts _ mf_X6_47) (fun _ h9 => h9) rfl dX6_rounded_1 ?_
  refine lv_iload_n hx hb dX6_rounded_4 rfl (lv_at hl 1 rfl) ?_
  refine lv_iload_n hx hb dX6_rounded_5 rfl (lv_at hl 2 rfl) ?_
  obtain ⟨k0, hk0, ek0⟩ := hM0
  obtain ⟨k1, hk1, ek1⟩ := hM1
  have hM0 : nL 12 (mf 0) := ⟨k0, hk0, ek0⟩
  have hM1 : nL 12 (mf 1) := ⟨k1, hk1, ek1⟩
  refine rdV (rest := []) (q0 := 0) ⟨hx, hb, hml, hown, hts⟩ (c_X1_at l G lb (mr 2) k0 k1 hk0 hk1 row col) mi_yX1_at mv_yX1_at ml_X6_206 ⟨rfl, rfl, Nat.le_of_ble_eq_true rfl, Nat.le_of_ble_eq_true rfl⟩ hK (leaf_w (hP.sub (ws' := lW G lb (mf 0) (mf 1) (mr 2)) [44, 45] rfl) ek0 ek1) rfl rfl rfl hl.1 rfl (Nat.le_of_ble_eq_true rfl) dX6_rounded_6 ⟨Nat.zero_le _, Nat.zero_le _⟩ hS hA hP (fun r1 H locs hr1 hP hS => ?_)
  exact rd_iret hx hb hr hlocks hS (trivial) dX6_rounded_9
set_option maxHeartbeats 4000000 in
set_option maxRecDepth 100000 in
theorem x_cut (l : Launch) (G : GG) (x : Nat) (xa ta a b ga ua la lb lc : Nat → Nat) (tg gg : Nat → Option Nat) (xf tf f qf gf uf lf mf nf : Nat → Int32) (tr r q gr ur lr mr nr : Nat → Nat → Int32) (rs : Int32) (kx : Int32) : RdI l yX6_cut cX6_cut 4 (some .int) ({ frames := 0, cells := 0, slots := 0, locals := 0 }) G (xM G x xa ta a b ga ua la lb lc tg gg xf tf f qf gf uf lf mf nf tr r q gr ur lr mr nr) [.ref x, .int rs, .int kx] (fun q => True) := by
  refine rd_entry (by decide +kernel) (Nat.le_of_ble_eq_true rfl) ?_
  intro p e s m below meth c C0 hP hK ls hl
  have hS : va_S (fun q => s.heap.size ≤ q) s.heap s.heap [] := va_S.rf
  have hA : ∀ q, s.heap.size ≤ q → (fun q => s.heap.size ≤ q) q := fun _ h => h
  obtain ⟨hx, hb, hml, hown, hts, hr, hlocks, hin⟩ := C0
  have hown : s.vm.findClass RX6 = some m.cls := hown
  have hl : lv_has ls 4 [(0, .ref x), (1, .int rs), (2, .int kx)] := hl
  refine lv_iload_n hx hb dX6_cut_0 rfl (lv_at hl 1 rfl) ?_
  have j21_1 : ∀ (z1 : Int32) (H : Heap) (locs : List Loc) (ls : Array Slot), PP G (xM G x xa ta a b ga ua la lb lc tg gg xf tf f qf gf uf lf mf nf tr r q gr ur lr mr nr) H → va_S (fun q => s.heap.size ≤ q) s.heap H locs → lv_has ls 4 [(0, .ref x), (1, .int rs), (2, .int kx)] → W p l e ({ frames := 0, cells := 0, slots := 0, locals := 0 }) s m ([.ref x, .int rs, .int kx] : List Value).toArray below meth c H locs 0 0 (MQ below (QrI (fun q => True) (fun q => s.heap.size ≤ q)) ([.ref x, .int rs, .int kx] : List Value).toArray s 0 0 (fun q => s.heap.size ≤ q)) (F0 m 21 ls [.int z1]) := by
    intro z1  H locs ls hP hS hl
    refine lv_istore_n (lv' := [(3, .int z1), (0, .ref x), (1, .int rs), (2, .int kx)]) hx hb dX6_cut_21 rfl hl (by decide) rfl (fun ls hl => ?_)
    refine lv_iload_n hx hb dX6_cut_22 rfl (lv_at hl 3 rfl) ?_
    refine lv_if_lt (tgt := 31) hx hb dX6_cut_23 (by decide) (fun c2 => ?_) (fun c2 => ?_)
    · refine lv_iconst (v := -1) hx hb dX6_cut_31 (by decide) ?_
      exact rd_iret hx hb hr hlocks hS (trivial) dX6_cut_32
    · refine lv_iload_n hx hb dX6_cut_26 rfl (lv_at hl 3 rfl) ?_
      refine lv_iload_n hx hb dX6_cut_27 rfl (lv_at hl 0 rfl) ?_
      refine lv_icmp_lt (tgt := 33) hx hb dX6_cut_28 (by decide) (fun c3 => ?_) (fun c3 => ?_)
      · refine lv_aload_n hx hb dX6_cut_33 rfl (lv_at hl 1 rfl) ?_
        refine va_get (D := G.1) (ci := 6) (v := .int (xf 7)) (C := RX6) (T := TX6) (N := 10) hx hb hts inX6 hown hK.1 hP 0 rfl rfl 7 (by decide) (hts _ mf_X6_50) (fun _ h9 => h9) rfl dX6_cut_34 ?_
        refine lv_iload_n hx hb dX6_cut_37 rfl (lv_at hl 2 rfl) ?_
        have j49_4 : ∀ (z4 : Int32) (H : Heap) (locs : List Loc) (ls : Array Slot), PP G (xM G x xa ta a b ga ua la lb lc tg gg xf tf f qf gf uf lf mf nf tr r q gr ur lr mr nr) H → va_S (fun q => s.heap.size ≤ q) s.heap H locs → lv_has ls 4 [] → W p l e ({ frames := 0, cells := 0, slots := 0, locals := 0 }) s m ([.ref x, .int rs, .int kx] : List Value).toArray below meth c H locs 0 0 (MQ below (QrI (fun q => True) (fun q => s.heap.size ≤ q)) ([.ref x, .int rs, .int kx] : List Value).toArray s 0 0 (fun q => s.heap.size ≤ q)) (F0 m 49 ls [.int z4, .int (xf 7)]) := by
          intro z4  H locs ls hP hS hl
          refine lv_ishr hx hb dX6_cut_49 ?_
          refine lv_topi (fun v5 ev5 => ?_)
          refine lv_iconst (v := 1) hx hb dX6_cut_50 (by decide) ?_
          refine lv_iand hx hb dX6_cut_51 ?_
          refine lv_topi (fun v6 ev6 => ?_)
          exact rd_iret hx hb hr hlocks hS (trivial) dX6_cut_52
        refine lv_if_eq (tgt := 45) hx hb dX6_cut_38 (by decide) (fun c7 => ?_) (fun c7 => ?_)
        · refine lv_bipush (v := 12) hx hb dX6_cut_45 (by decide) ?_
          refine lv_iload_n hx hb dX6_cut_47 rfl (lv_at hl 3 rfl) ?_
          refine lv_iadd hx hb dX6_cut_48 ?_
          refine lv_topi (fun v8 ev8 => ?_)
          exact j49_4 v8 _ _ _ hP hS (lv_sub hl [] rfl)
        · refine lv_iload_n hx hb dX6_cut_41 rfl (lv_at hl 3 rfl) ?_
          refine lv_goto (tgt := 49) hx hb dX6_cut_42 (by decide) ?_
          exact j49_4 kx _ _ _ hP hS (lv_sub hl [] rfl)
      · refine lv_iconst (v := -1) hx hb dX6_cut_31 (by decide) ?_
        exact rd_iret hx hb hr hlocks hS (trivial) dX6_cut_32
  refine lv_if_eq (tgt := 14) hx hb dX6_cut_1 (by decide) (fun c9 => ?_) (fun c9 => ?_)
  · refine lv_aload_n hx hb dX6_cut_14 rfl (lv_at hl 0 rfl) ?_
    refine va_get (D := G.1) (ci := 6) (v := .ref (la 0)) (C := RX6) (T := TX6) (N := 10) hx hb hts inX6 hown hK.1 hP 0 rfl rfl 5 (by decide) (hts _ mf_X6_43) (fun _ h9 => h9) rfl dX6_cut_15 ?_
    refine va_get (D := G.1) (ci := 1) (v := .int (lf 1)) (C := RX1) (T := TX1) (N := 3) hx hb hts inX1 hown hK.1 hP 42 rfl rfl 1 (by decide) (hts _ mf_X6_210) (fun _ h9 => h9) rfl dX6_cut_18 ?_
    exact j21_1 (lf 1) _ _ _ hP hS (lv_sub hl [0, 1, 2] rfl)
  · refine lv_aload_n hx hb dX6_cut_4 rfl (lv_at hl 0 rfl) ?_
    refine va_get (D := G.1) (ci := 6) (v := .ref (la 0)) (C := RX6) (T := TX6) (N := 10) hx hb hts inX6 hown hK.1 hP 0 rfl rfl 5 (by decide) (hts _ mf_X6_43) (fun _ h9 => h9) rfl dX6_cut_5 ?_
    refine va_get (D := G.1) (ci := 1) (v := .int (lf 0)) (C := RX1) (T := TX1) (N := 3) hx hb hts inX1 hown hK.1 hP 42 rfl rfl 0 (by decide) (hts _ mf_X6_209) (fun _ h9 => h9) rfl dX6_cut_8 ?_
    refine lv_goto (tgt := 21) hx hb dX6_cut_11 (by decide) ?_
    exact j21_1 (lf 0) _ _ _ hP hS (lv_sub hl [0, 1, 2] rfl)
set_option maxHeartbeats 4000000 in
set_option maxRecDepth 100000 in
theorem x_plan (l : Launch) (G : GG) (x : Nat) (xa ta a b ga ua la lb lc : Nat → Nat) (tg gg : Nat → Option Nat) (xf tf f qf gf uf lf mf nf : Nat → Int32) (tr r q gr ur lr mr nr : Nat → Nat → Int32) (tb : Int32) (j : Nat) (hj : j < 6) (hjt : tbJ tb j) (htg : tg j = some (ta 0)) (hT1 : nL 12 (tf 1)) (hT2 : nL 12 (tf 2)) (hT3 : nL 12 (tf 3)) (hT4 : nOK 12 12 (tr 4)) (hRB : RB adjR (q 0)) : WrI l yX6_plan cX6_plan 3 (some .int) ({ frames := 6, cells := 0, slots := 0, locals := 161 }) G (xM G x xa ta a b ga ua la lb lc tg gg xf tf f qf gf uf lf mf nf tr r q gr ur lr mr nr) [.ref x, .int tb] (fun q w => ∃ (n_f_0 : Int32) (n_f_1 : Int32) (n_f_2 : Int32) (n_f_3 : Int32) (n_f_4 : Int32) (n_gf_7 : Int32) (n_gf_8 : Int32) (n_gr_0 : Nat → Int32) (n_q_0 : Nat → Int32) (n_q_1 : Nat → Int32) (n_q_2 : Nat → Int32) (n_qf_3 : Int32) (n_r_6 : Nat → Int32) (n_r_7 : Nat → Int32) (n_r_8 : Nat → Int32) (n_r_9 : Nat → Int32) (n_r_10 : Nat → Int32) (n_r_11 : Nat → Int32) (n_r_12 : Nat → Int32) (n_r_13 : Nat → Int32) (n_r_14 : Nat → Int32) (n_tr_7 : Nat → Int32) (n_xf_0 : Int32), w = xM G x xa ta a b ga ua la lb lc tg gg (upd xf 0 n_xf_0) tf (upd (upd (upd (upd (upd f 0 n_f_0) 1 n_f_1) 2 n_f_2) 3 n_f_3) 4 n_f_4) (upd qf 3 n_qf_3) (upd (upd gf 7 n_gf_7) 8 n_gf_8) uf lf mf nf (up2 tr 7 n_tr_7) (up2 (up2 (up2 (up2 (up2 (up2 (up2 (up2 (up2 r 6 n_r_6) 7 n_r_7) 8 n_r_8) 9 n_r_9) 10 n_r_10) 11 n_r_11) 12 n_r_12) 13 n_r_13) 14 n_r_14) (up2 (up2 (up2 q 0 n_q_0) 1 n_q_1) 2 n_q_2) (up2 gr 0 n_gr_0) ur lr mr nr ∧ (RB adjR n_q_0)) := by
  refine wr_entryI (by decide +kernel) (Nat.le_of_ble_eq_true rfl) ?_
  intro p e s m below meth c A C0 hP hK hD hA ls hl
  have hS : va_S A s.heap s.heap [] := va_S.rf
  obtain ⟨hx, hb, hml, hown, hts, hr, hlocks, hin⟩ := C0
  have hown : s.vm.findClass RX6 = some m.cls := hown
  have hDD : ∀ xf' tf' f' qf' gf' uf' lf' mf' nf' tr' r' q' gr' ur' lr' mr' nr', va_D A (xM G x xa ta a b ga ua la lb lc tg gg xf' tf' f' qf' gf' uf' lf' mf' nf' tr' r' q' gr' ur' lr' mr' nr') := fun xf' tf' f' qf' gf' uf' lf' mf' nf' tr' r' q' gr' ur' lr' mr' nr' => D_same hD rfl
  have hl : lv_has ls 3 [(0, .ref x), (1, .int tb)] := hl
  refine lv_aload_n hx hb dX6_plan_0 rfl (lv_at hl 0 rfl) ?_
  refine lv_aload_n hx hb dX6_plan_1 rfl (lv_at hl 0 rfl) ?_
  refine lv_iload_n hx hb dX6_plan_2 rfl (lv_at hl 1 rfl) ?_
  refine rdV (rest := [.ref x]) (q0 := 0) ⟨hx, hb, hml, hown, hts⟩ (x_tableStatus l G x xa ta a b ga ua la lb lc tg gg xf tf f qf gf uf lf mf nf tr r q gr ur lr mr nr tb j (by omega) hjt htg) mi_yX6_tableStatus mv_yX6_tableStatus ml_X6_73 ⟨rfl, rfl, Nat.le_of_ble_eq_true rfl, Nat.le_of_ble_eq_true rfl⟩ hK (hP) rfl rfl rfl hl.1 rfl (Nat.le_of_ble_eq_true rfl) dX6_plan_3 ⟨Nat.zero_le _, Nat.zero_le _⟩ hS hA hP (fun r1 H locs hr1 hP hS => ?_)
  have hr1 : ((r1 = 0 ∧ tbO tb j (tf 0)) ∨ (r1 = 1 ∧ ¬ tbO tb j (tf 0))) := hr1
  refine wrVIa (rest := []) (q0 := 0) ⟨hx, hb, hml, hown, hts⟩ (x_settled l G x xa ta a b ga ua la lb lc tg gg xf tf f qf gf uf lf mf nf tr r q gr ur lr mr nr r1  ) mi_yX6_settled mv_yX6_settled ml_X6_65 ⟨rfl, rfl, Nat.le_of_ble_eq_true rfl, Nat.le_of_ble_eq_true rfl⟩ hK hP (hDD _ _ _ _ _ _ _ _ _ _ _ _ _ _ _ _ _) rfl rfl rfl hl.1 rfl (Nat.le_of_ble_eq_true rfl) dX6_plan_6 ⟨Nat.zero_le _, Nat.zero_le _⟩ hS hA (fun r2 w3 H locs hw3 hP hS => ?_)
  obtain ⟨x4, rfl, hw3r⟩ := hw3
  have hP : PP G (xM G x xa ta a b ga ua la lb lc tg gg (upd xf 0 x4) tf f qf gf uf lf mf nf tr r q gr ur lr mr nr) H := hP
  have hw3r : ((r2 = 1 ∧ (r1 = 0)) ∨ (r2 = 0 ∧ ¬ (r1 = 0))) := hw3r
  refine lv_if_ne (tgt := 14) hx hb dX6_plan_9 (by decide) (fun c5 => ?_) (fun c5 => ?_)
  · have b9 := bT hw3r c5
    obtain ⟨ej, ho⟩ := st0 hr1 b9
    subst ej
    obtain ⟨rw, hrw, t1⟩ := hT1
    obtain ⟨cl, hcl, t2⟩ := hT2
    obtain ⟨bk, hbk, t3⟩ := hT3
    have hT1 : nL 12 (tf 1) := ⟨rw, hrw, t1⟩
    have hT2 : nL 12 (tf 2) := ⟨cl, hcl, t2⟩
    have hT3 : nL 12 (tf 3) := ⟨bk, hbk, t3⟩
    refine lv_aload_n hx hb dX6_plan_14 rfl (lv_at hl 0 rfl) ?_
    refine va_get (D := G.1) (ci := 6) (v := .ref (a 15)) (C := RX6) (T := TX6) (N := 10) hx hb hts inX6 hown hK.1 hP 0 rfl rfl 2 (by decide) (hts _ mf_X6_22) (fun _ h9 => h9) rfl dX6_plan_15 ?_
    refine lv_aload_n hx hb dX6_plan_18 rfl (lv_at hl 0 rfl) ?_
    refine va_get (D := G.1) (ci := 6) (v := .ref (xa 1)) (C := RX6) (T := TX6) (N := 10) hx hb hts inX6 hown hK.1 hP 0 rfl rfl 1 (by decide) (hts _ mf_X6_15) (fun _ h9 => h9) rfl dX6_plan_19 ?_
    refine lv_iload_n hx hb dX6_plan_22 rfl (lv_at hl 1 rfl) ?_
    refine xaldT hx hb hK hP 1 (j) (b := (ta 0)) rfl (by omega) (by decide) rfl (htg) dX6_plan_23 ?_
    refine wrVV (rest := []) (q0 := 0) ⟨hx, hb, hml, hown, hts⟩ (c_X2_load l G a b f r ta tf tr rw cl bk hrw hcl hbk t1 t2 t3) mi_yX2_load mv_yX2_load ml_X6_184 ⟨rfl, rfl, Nat.le_of_ble_eq_true rfl, Nat.le_of_ble_eq_true rfl⟩ hK hP (hDD _ _ _ _ _ _ _ _ _ _ _ _ _ _ _ _ _) [11, 12, 13, 14, 15, 16, 17, 18, 19, 20, 2, 3, 4, 5, 6, 7, 8, 9, 10] rfl (by decide) rfl rfl rfl hl.1 rfl (Nat.le_of_ble_eq_true rfl) dX6_plan_24 ⟨Nat.zero_le _, Nat.zero_le _⟩ hS hA (fun w9 H locs hw9 hP hS => ?_)
    obtain ⟨x6, x7, h0, h1, rfl⟩ := hw9
    have hP : PP G (xM G x xa ta a b ga ua la lb lc tg gg (upd xf 0 x4) tf (upd (upd (upd (upd (upd f 0 (x6 0)) 1 (x6 1)) 2 (x6 2)) 3 (x6 3)) 4 (x6 4)) qf gf uf lf mf nf tr (up2 (up2 (up2 (up2 (up2 (up2 (up2 (up2 (up2 r 6 (x7 6)) 7 (x7 7)) 8 (x7 8)) 9 (x7 9)) 10 (x7 10)) 11 (x7 11)) 12 (x7 12)) 13 (x7 13)) 14 (x7 14)) q gr ur lr mr nr) H := hP rfl
    refine lv_aload_n hx hb dX6_plan_27 rfl (lv_at hl 0 rfl) ?_
    refine va_get (D := G.1) (ci := 6) (v := .ref (ga 9)) (C := RX6) (T := TX6) (N := 10) hx hb hts inX6 hown hK.1 hP 0 rfl rfl 3 (by decide) (hts _ mf_X6_29) (fun _ h9 => h9) rfl dX6_plan_28 ?_
    refine lv_aload_n hx hb dX6_plan_31 rfl (lv_at hl 0 rfl) ?_
    refine va_get (D := G.1) (ci := 6) (v := .ref (xa 1)) (C := RX6) (T := TX6) (N := 10) hx hb hts inX6 hown hK.1 hP 0 rfl rfl 1 (by decide) (hts _ mf_X6_15) (fun _ h9 => h9) rfl dX6_plan_32 ?_
    refine lv_iload_n hx hb dX6_plan_35 rfl (lv_at hl 1 rfl) ?_
    refine xaldT hx hb hK hP 1 (j) (b := (ta 0)) rfl (by omega) (by decide) rfl (htg) dX6_plan_36 ?_
    refine lv_aload_n hx hb dX6_plan_37 rfl (lv_at hl 0 rfl) ?_
    refine va_get (D := G.1) (ci := 6) (v := .ref (a 15)) (C := RX6) (T := TX6) (N := 10) hx hb hts inX6 hown hK.1 hP 0 rfl rfl 2 (by decide) (hts _ mf_X6_22) (fun _ h9 => h9) rfl dX6_plan_38 ?_
    refine wrVIa (rest := []) (q0 := 25) ⟨hx, hb, hml, hown, hts⟩ (x_X0_followPlan l G x xa ta a b ga ua la lb lc tg gg (upd xf 0 x4) tf (upd (upd (upd (upd (upd f 0 (x6 0)) 1 (x6 1)) 2 (x6 2)) 3 (x6 3)) 4 (x6 4)) qf gf uf lf mf nf tr (up2 (up2 (up2 (up2 (up2 (up2 (up2 (up2 (up2 r 6 (x7 6)) 7 (x7 7)) 8 (x7 8)) 9 (x7 9)) 10 (x7 10)) 11 (x7 11)) 12 (x7 12)) 13 (x7 13)) 14 (x7 14)) q gr ur lr mr nr  rw cl (by omega) (by omega) h0 h1 hRB) mi_yX0_followPlan mv_yX0_followPlan ml_X6_211 ⟨rfl, rfl, Nat.le_of_ble_eq_true rfl, Nat.le_of_ble_eq_true rfl⟩ hK hP (hDD _ _ _ _ _ _ _ _ _ _ _ _ _ _ _ _ _) rfl rfl rfl hl.1 rfl (Nat.le_of_ble_eq_true rfl) dX6_plan_41 ⟨Nat.zero_le _, Nat.zero_le _⟩ hS hA (fun r10 w11 H locs hw11 hP hS => ?_)
    obtain ⟨x12, x13, x14, x15, x16, x17, x18, x19, x20, x21, x22, x23, x24, x25, x26, x27, x28, x29, rfl, hRB⟩ := hw11
    have hP : PP G (xM G x xa ta a b ga ua la lb lc tg gg (upd xf 0 x4) tf (upd (upd (upd (upd (upd f 0 (x6 0)) 1 (x6 1)) 2 (x6 2)) 3 (x6 3)) 4 x12) (upd qf 3 x19) (upd (upd gf 7 x13) 8 x14) uf lf mf nf (up2 tr 7 x29) (up2 (up2 (up2 (up2 (up2 (up2 (up2 (up2 (up2 r 6 x20) 7 x21) 8 x22) 9 x23) 10 x24) 11 x25) 12 x26) 13 x27) 14 x28) (up2 (up2 (up2 q 0 x16) 1 x17) 2 x18) (up2 gr 0 x15) ur lr mr nr) H := hP
    have hRB : RB adjR x16 := hRB
    refine lv_istore_n (lv' := [(2, .int r10), (0, .ref x), (1, .int (nI j))]) hx hb dX6_plan_44 rfl hl (by decide) rfl (fun ls hl => ?_)
    refine lv_iload_n hx hb dX6_plan_45 rfl (lv_at hl 0 rfl) ?_
    refine lv_iconst (v := -1) hx hb dX6_plan_46 (by decide) ?_
    refine lv_icmp_ne (tgt := 59) hx hb dX6_plan_47 (by decide) (fun c30 => ?_) (fun c30 => ?_)
    · refine lv_iload_n hx hb dX6_plan_59 rfl (lv_at hl 0 rfl) ?_
      exact wr_iret hx hb hr hlocks hS hP ⟨(x6 0), (x6 1), (x6 2), (x6 3), x12, x13, x14, x15, x16, x17, x18, x19, x20, x21, x22, x23, x24, x25, x26, x27, x28, x29, x4, rfl, hRB⟩ dX6_plan_60
    · refine lv_aload_n hx hb dX6_plan_50 rfl (lv_at hl 1 rfl) ?_
      refine lv_bipush (v := 10) hx hb dX6_plan_51 (by decide) ?_
      refine wrVIa (rest := []) (q0 := 0) ⟨hx, hb, hml, hown, hts⟩ (x_refused l G x xa ta a b ga ua la lb lc tg gg (upd xf 0 x4) tf (upd (upd (upd (upd (upd f 0 (x6 0)) 1 (x6 1)) 2 (x6 2)) 3 (x6 3)) 4 x12) (upd qf 3 x19) (upd (upd gf 7 x13) 8 x14) uf lf mf nf (up2 tr 7 x29) (up2 (up2 (up2 (up2 (up2 (up2 (up2 (up2 (up2 r 6 x20) 7 x21) 8 x22) 9 x23) 10 x24) 11 x25) 12 x26) 13 x27) 14 x28) (up2 (up2 (up2 q 0 x16) 1 x17) 2 x18) (up2 gr 0 x15) ur lr mr nr 10  ) mi_yX6_refused mv_yX6_refused ml_X6_122 ⟨rfl, rfl, Nat.le_of_ble_eq_true rfl, Nat.le_of_ble_eq_true rfl⟩ hK hP (hDD _ _ _ _ _ _ _ _ _ _ _ _ _ _ _ _ _) rfl rfl rfl hl.1 rfl (Nat.le_of_ble_eq_true rfl) dX6_plan_53 ⟨Nat.zero_le _, Nat.zero_le _⟩ hS hA (fun r31 w32 H locs hw32 hP hS => ?_)
      obtain ⟨x33, rfl⟩ := hw32
      have hP : PP G (xM G x xa ta a b ga ua la lb lc tg gg (upd xf 0 x33) tf (upd (upd (upd (upd (upd f 0 (x6 0)) 1 (x6 1)) 2 (x6 2)) 3 (x6 3)) 4 x12) (upd qf 3 x19) (upd (upd gf 7 x13) 8 x14) uf lf mf nf (up2 tr 7 x29) (up2 (up2 (up2 (up2 (up2 (up2 (up2 (up2 (up2 r 6 x20) 7 x21) 8 x22) 9 x23) 10 x24) 11 x25) 12 x26) 13 x27) 14 x28) (up2 (up2 (up2 q 0 x16) 1 x17) 2 x18) (up2 gr 0 x15) ur lr mr nr) H := hP
      refine lv_goto (tgt := 60) hx hb dX6_plan_56 (by decide) ?_
      exact wr_iret hx hb hr hlocks hS hP ⟨(x6 0), (x6 1), (x6 2), (x6 3), x12, x13, x14, x15, x16, x17, x18, x19, x20, x21, x22, x23, x24, x25, x26, x27, x28, x29, x33, rfl, hRB⟩ dX6_plan_60
  · have b9 := bF hw3r c5
    refine lv_iconst (v := -1) hx hb dX6_plan_12 (by decide) ?_
    exact wr_iret hx hb hr hlocks hS hP ⟨(f 0), (f 1), (f 2), (f 3), (f 4), (gf 7), (gf 8), (gr 0), (q 0), (q 1), (q 2), (qf 3), (r 6), (r 7), (r 8), (r 9), (r 10), (r 11), (r 12), (r 13), (r 14), (tr 7), x4, rfl, hRB⟩ dX6_plan_13
set_option maxHeartbeats 4000000 in
set_option maxRecDepth 100000 in
theorem x_fewest (l : Launch) (G : GG) (x : Nat) (xa ta a b ga ua la lb lc : Nat → Nat) (tg gg : Nat → Option Nat) (xf tf f qf gf uf lf mf nf : Nat → Int32) (tr r q gr ur lr mr nr : Nat → Nat → Int32) (tb : Int32) (j : Nat) (hj : j < 6) (hjt : tbJ tb j) (htg : tg j = some (ta 0)) (hT1 : nL 12 (tf 1)) (hT2 : nL 12 (tf 2)) (hT3 : nL 12 (tf 3)) (hT4 : nOK 12 12 (tr 4)) (hRB : RB adjR (q 0)) : WrI l yX6_fewest cX6_fewest 3 (some .int) ({ frames := 7, cells := 0, slots := 0, locals := 182 }) G (xM G x xa ta a b ga ua la lb lc tg gg xf tf f qf gf uf lf mf nf tr r q gr ur lr mr nr) [.ref x, .int tb] (fun q w => ∃ (n_f_0 : Int32) (n_f_1 : Int32) (n_f_2 : Int32) (n_f_3 : Int32) (n_f_4 : Int32) (n_gf_4 : Int32) (n_gf_5 : Int32) (n_gf_6 : Int32) (n_gr_1 : Nat → Int32) (n_gr_2 : Nat → Int32) (n_gr_3 : Nat → Int32) (n_q_0 : Nat → Int32) (n_q_1 : Nat → Int32) (n_q_2 : Nat → Int32) (n_qf_3 : Int32) (n_r_6 : Nat → Int32) (n_r_7 : Nat → Int32) (n_r_8 : Nat → Int32) (n_r_9 : Nat → Int32) (n_r_10 : Nat → Int32) (n_r_11 : Nat → Int32) (n_r_12 : Nat → Int32) (n_r_13 : Nat → Int32) (n_r_14 : Nat → Int32) (n_tr_7 : Nat → Int32) (n_xf_0 : Int32), w = xM G x xa ta a b ga ua la lb lc tg gg (upd xf 0 n_xf_0) tf (upd (upd (upd (upd (upd f 0 n_f_0) 1 n_f_1) 2 n_f_2) 3 n_f_3) 4 n_f_4) (upd qf 3 n_qf_3) (upd (upd (upd gf 4 n_gf_4) 5 n_gf_5) 6 n_gf_6) uf lf mf nf (up2 tr 7 n_tr_7) (up2 (up2 (up2 (up2 (up2 (up2 (up2 (up2 (up2 r 6 n_r_6) 7 n_r_7) 8 n_r_8) 9 n_r_9) 10 n_r_10) 11 n_r_11) 12 n_r_12) 13 n_r_13) 14 n_r_14) (up2 (up2 (up2 q 0 n_q_0) 1 n_q_1) 2 n_q_2) (up2 (up2 (up2 gr 1 n_gr_1) 2 n_gr_2) 3 n_gr_3) ur lr mr nr ∧ (RB adjR n_q_0)) := by
  refine wr_entryI (by decide +kernel) (Nat.le_of_ble_eq_true rfl) ?_
  intro p e s m below meth c A C0 hP hK hD hA ls hl
  have hS : va_S A s.heap s.heap [] := va_S.rf
  obtain ⟨hx, hb, hml, hown, hts, hr, hlocks, hin⟩ := C0
  have hown : s.vm.findClass RX6 = some m.cls := hown
  have hDD : ∀ xf' tf' f' qf' gf' uf' lf' mf' nf' tr' r' q' gr' ur' lr' mr' nr', va_D A (xM G x xa ta a b ga ua la lb lc tg gg xf' tf' f' qf' gf' uf' lf' mf' nf' tr' r' q' gr' ur' lr' mr' nr') := fun xf' tf' f' qf' gf' uf' lf' mf' nf' tr' r' q' gr' ur' lr' mr' nr' => D_same hD rfl
  have hl : lv_has ls 3 [(0, .ref x), (1, .int tb)] := hl
  refine lv_aload_n hx hb dX6_fewest_0 rfl (lv_at hl 0 rfl) ?_
  refine lv_aload_n hx hb dX6_fewest_1 rfl (lv_at hl 0 rfl) ?_
  refine lv_iload_n hx hb dX6_fewest_2 rfl (lv_at hl 1 rfl) ?_
  refine rdV (rest := [.ref x]) (q0 := 0) ⟨hx, hb, hml, hown, hts⟩ (x_tableStatus l G x xa ta a b ga ua la lb lc tg gg xf tf f qf gf uf lf mf nf tr r q gr ur lr mr nr tb j (by omega) hjt htg) mi_yX6_tableStatus mv_yX6_tableStatus ml_X6_73 ⟨rfl, rfl, Nat.le_of_ble_eq_true rfl, Nat.le_of_ble_eq_true rfl⟩ hK (hP) rfl rfl rfl hl.1 rfl (Nat.le_of_ble_eq_true rfl) dX6_fewest_3 ⟨Nat.zero_le _, Nat.zero_le _⟩ hS hA hP (fun r1 H locs hr1 hP hS => ?_)
  have hr1 : ((r1 = 0 ∧ tbO tb j (tf 0)) ∨ (r1 = 1 ∧ ¬ tbO tb j (tf 0))) := hr1
  refine wrVIa (rest := []) (q0 := 0) ⟨hx, hb, hml, hown, hts⟩ (x_settled l G x xa ta a b ga ua la lb lc tg gg xf tf f qf gf uf lf mf nf tr r q gr ur lr mr nr r1  ) mi_yX6_settled mv_yX6_settled ml_X6_65 ⟨rfl, rfl, Nat.le_of_ble_eq_true rfl, Nat.le_of_ble_eq_true rfl⟩ hK hP (hDD _ _ _ _ _ _ _ _ _ _ _ _ _ _ _ _ _) rfl rfl rfl hl.1 rfl (Nat.le_of_ble_eq_true rfl) dX6_fewest_6 ⟨Nat.zero_le _, Nat.zero_le _⟩ hS hA (fun r2 w3 H locs hw3 hP hS => ?_)
  obtain ⟨x4, rfl, hw3r⟩ := hw3
  have hP : PP G (xM G x xa ta a b ga ua la lb lc tg gg (upd xf 0 x4) tf f qf gf uf lf mf nf tr r q gr ur lr mr nr) H := hP
  have hw3r : ((r2 = 1 ∧ (r1 = 0)) ∨ (r2 = 0 ∧ ¬ (r1 = 0))) := hw3r
  refine lv_if_ne (tgt := 14) hx hb dX6_fewest_9 (by decide) (fun c5 => ?_) (fun c5 => ?_)
  · have b9 := bT hw3r c5
    obtain ⟨ej, ho⟩ := st0 hr1 b9
    subst ej
    obtain ⟨rw, hrw, t1⟩ := hT1
    obtain ⟨cl, hcl, t2⟩ := hT2
    obtain ⟨bk, hbk, t3⟩ := hT3
    have hT1 : nL 12 (tf 1) := ⟨rw, hrw, t1⟩
    have hT2 : nL 12 (tf 2) := ⟨cl, hcl, t2⟩
    have hT3 : nL 12 (tf 3) := ⟨bk, hbk, t3⟩
    refine lv_aload_n hx hb dX6_fewest_14 rfl (lv_at hl 0 rfl) ?_
    refine va_get (D := G.1) (ci := 6) (v := .ref (a 15)) (C := RX6) (T := TX6) (N := 10) hx hb hts inX6 hown hK.1 hP 0 rfl rfl 2 (by decide) (hts _ mf_X6_22) (fun _ h9 => h9) rfl dX6_fewest_15 ?_
    refine lv_aload_n hx hb dX6_fewest_18 rfl (lv_at hl 0 rfl) ?_
    refine va_get (D := G.1) (ci := 6) (v := .ref (xa 1)) (C := RX6) (T := TX6) (N := 10) hx hb hts inX6 hown hK.1 hP 0 rfl rfl 1 (by decide) (hts _ mf_X6_15) (fun _ h9 => h9) rfl dX6_fewest_19 ?_
    refine lv_iload_n hx hb dX6_fewest_22 rfl (lv_at hl 1 rfl) ?_
    refine xaldT hx hb hK hP 1 (j) (b := (ta 0)) rfl (by omega) (by decide) rfl (htg) dX6_fewest_23 ?_
    refine wrVV (rest := []) (q0 := 0) ⟨hx, hb, hml, hown, hts⟩ (c_X2_load l G a b f r ta tf tr rw cl bk hrw hcl hbk t1 t2 t3) mi_yX2_load mv_yX2_load ml_X6_184 ⟨rfl, rfl, Nat.le_of_ble_eq_true rfl, Nat.le_of_ble_eq_true rfl⟩ hK hP (hDD _ _ _ _ _ _ _ _ _ _ _ _ _ _ _ _ _) [11, 12, 13, 14, 15, 16, 17, 18, 19, 20, 2, 3, 4, 5, 6, 7, 8, 9, 10] rfl (by decide) rfl rfl rfl hl.1 rfl (Nat.le_of_ble_eq_true rfl) dX6_fewest_24 ⟨Nat.zero_le _, Nat.zero_le _⟩ hS hA (fun w9 H locs hw9 hP hS => ?_)
    obtain ⟨x6, x7, h0, h1, rfl⟩ := hw9
    have hP : PP G (xM G x xa ta a b ga ua la lb lc tg gg (upd xf 0 x4) tf (upd (upd (upd (upd (upd f 0 (x6 0)) 1 (x6 1)) 2 (x6 2)) 3 (x6 3)) 4 (x6 4)) qf gf uf lf mf nf tr (up2 (up2 (up2 (up2 (up2 (up2 (up2 (up2 (up2 r 6 (x7 6)) 7 (x7 7)) 8 (x7 8)) 9 (x7 9)) 10 (x7 10)) 11 (x7 11)) 12 (x7 12)) 13 (x7 13)) 14 (x7 14)) q gr ur lr mr nr) H := hP rfl
    refine lv_aload_n hx hb dX6_fewest_27 rfl (lv_at hl 0 rfl) ?_
    refine va_get (D := G.1) (ci := 6) (v := .ref (ga 9)) (C := RX6) (T := TX6) (N := 10) hx hb hts inX6 hown hK.1 hP 0 rfl rfl 3 (by decide) (hts _ mf_X6_29) (fun _ h9 => h9) rfl dX6_fewest_28 ?_
    refine lv_aload_n hx hb dX6_fewest_31 rfl (lv_at hl 0 rfl) ?_
    refine va_get (D := G.1) (ci := 6) (v := .ref (xa 1)) (C := RX6) (T := TX6) (N := 10) hx hb hts inX6 hown hK.1 hP 0 rfl rfl 1 (by decide) (hts _ mf_X6_15) (fun _ h9 => h9) rfl dX6_fewest_32 ?_
    refine lv_iload_n hx hb dX6_fewest_35 rfl (lv_at hl 1 rfl) ?_
    refine xaldT hx hb hK hP 1 (j) (b := (ta 0)) rfl (by omega) (by decide) rfl (htg) dX6_fewest_36 ?_
    refine lv_aload_n hx hb dX6_fewest_37 rfl (lv_at hl 0 rfl) ?_
    refine va_get (D := G.1) (ci := 6) (v := .ref (a 15)) (C := RX6) (T := TX6) (N := 10) hx hb hts inX6 hown hK.1 hP 0 rfl rfl 2 (by decide) (hts _ mf_X6_22) (fun _ h9 => h9) rfl dX6_fewest_38 ?_
    refine wrVV (rest := []) (q0 := 0) ⟨hx, hb, hml, hown, hts⟩ (c_X0_gather l G ga gf gr a b (upd (upd (upd (upd (upd f 0 (x6 0)) 1 (x6 1)) 2 (x6 2)) 3 (x6 3)) 4 (x6 4)) (up2 (up2 (up2 (up2 (up2 (up2 (up2 (up2 (up2 r 6 (x7 6)) 7 (x7 7)) 8 (x7 8)) 9 (x7 9)) 10 (x7 10)) 11 (x7 11)) 12 (x7 12)) 13 (x7 13)) 14 (x7 14)) ta tf tr rw cl hrw hcl h0 h1) mi_yX0_gather mv_yX0_gather ml_X6_215 ⟨rfl, rfl, Nat.le_of_ble_eq_true rfl, Nat.le_of_ble_eq_true rfl⟩ hK hP (hDD _ _ _ _ _ _ _ _ _ _ _ _ _ _ _ _ _) [25, 26, 27, 28, 29, 11, 12, 13, 14, 15, 16, 17, 18, 19, 20, 2, 3, 4, 5, 6, 7, 8, 9, 10] rfl (by decide) rfl rfl rfl hl.1 rfl (Nat.le_of_ble_eq_true rfl) dX6_fewest_41 ⟨Nat.zero_le _, Nat.zero_le _⟩ hS hA (fun w13 H locs hw13 hP hS => ?_)
    obtain ⟨ch, x10, x11, hch, hcp, rfl⟩ := hw13
    have hP : PP G (xM G x xa ta a b ga ua la lb lc tg gg (upd xf 0 x4) tf (upd (upd (upd (upd (upd f 0 (x6 0)) 1 (x6 1)) 2 (x6 2)) 3 (x6 3)) 4 (x6 4)) qf (upd gf 4 (nI ch)) uf lf mf nf tr (up2 (up2 (up2 (up2 (up2 (up2 (up2 (up2 (up2 r 6 (x7 6)) 7 (x7 7)) 8 (x7 8)) 9 (x7 9)) 10 (x7 10)) 11 (x7 11)) 12 (x7 12)) 13 (x7 13)) 14 (x7 14)) q (up2 (up2 gr 1 x10) 2 x11) ur lr mr nr) H := hP rfl
    refine lv_aload_n hx hb dX6_fewest_44 rfl (lv_at hl 0 rfl) ?_
    refine va_get (D := G.1) (ci := 6) (v := .ref (ga 9)) (C := RX6) (T := TX6) (N := 10) hx hb hts inX6 hown hK.1 hP 0 rfl rfl 3 (by decide) (hts _ mf_X6_29) (fun _ h9 => h9) rfl dX6_fewest_45 ?_
    refine va_get (D := G.1) (ci := 0) (v := .int (nI ch)) (C := RX0) (T := TX0) (N := 9) hx hb hts inX0 hown hK.1 hP 25 rfl rfl 4 (by decide) (hts _ mf_X6_219) (fun _ h9 => h9) rfl dX6_fewest_48 ?_
    refine lv_bipush (v := 8) hx hb dX6_fewest_51 (by decide) ?_
    refine lv_icmp_le (tgt := 63) hx hb dX6_fewest_53 (by decide) (fun c14 => ?_) (fun c14 => ?_)
    · have b53 := qle_t (a := ch) (b := 8) (by omega) (by omega) c14
      refine lv_aload_n hx hb dX6_fewest_63 rfl (lv_at hl 0 rfl) ?_
      refine va_get (D := G.1) (ci := 6) (v := .ref (ga 9)) (C := RX6) (T := TX6) (N := 10) hx hb hts inX6 hown hK.1 hP 0 rfl rfl 3 (by decide) (hts _ mf_X6_29) (fun _ h9 => h9) rfl dX6_fewest_64 ?_
      refine lv_aload_n hx hb dX6_fewest_67 rfl (lv_at hl 0 rfl) ?_
      refine va_get (D := G.1) (ci := 6) (v := .ref (a 15)) (C := RX6) (T := TX6) (N := 10) hx hb hts inX6 hown hK.1 hP 0 rfl rfl 2 (by decide) (hts _ mf_X6_22) (fun _ h9 => h9) rfl dX6_fewest_68 ?_
      refine wrVI (rest := []) (q0 := 0) ⟨hx, hb, hml, hown, hts⟩ (c_X0_cheapest l G ga (upd gf 4 (nI ch)) (up2 (up2 gr 1 x10) 2 x11) a b (upd (upd (upd (upd (upd f 0 (x6 0)) 1 (x6 1)) 2 (x6 2)) 3 (x6 3)) 4 (x6 4)) (up2 (up2 (up2 (up2 (up2 (up2 (up2 (up2 (up2 r 6 (x7 6)) 7 (x7 7)) 8 (x7 8)) 9 (x7 9)) 10 (x7 10)) 11 (x7 11)) 12 (x7 12)) 13 (x7 13)) 14 (x7 14)) q (qf 3) rw cl hrw hcl h0 h1 ch (by omega) rfl (chP_m hcp (by omega)) hRB) mi_yX0_cheapest mv_yX0_cheapest ml_X6_222 ⟨rfl, rfl, Nat.le_of_ble_eq_true rfl, Nat.le_of_ble_eq_true rfl⟩ hK hP (hDD _ _ _ _ _ _ _ _ _ _ _ _ _ _ _ _ _) [25, 26, 27, 28, 29, 11, 12, 13, 14, 15, 16, 17, 18, 19, 20, 21, 22, 23, 24] rfl (by decide) rfl rfl rfl hl.1 rfl (Nat.le_of_ble_eq_true rfl) dX6_fewest_71 ⟨Nat.zero_le _, Nat.zero_le _⟩ hS hA (fun r24 w25 H locs hw25 hP hS => ?_)
      obtain ⟨hor, x15, x16, x17, x18, x19, x20, x21, x22, x23, hRB, rfl⟩ := hw25
      have hP : PP G (xM G x xa ta a b ga ua la lb lc tg gg (upd xf 0 x4) tf (upd (upd (upd (upd (upd f 0 (x6 0)) 1 (x6 1)) 2 (x6 2)) 3 (x6 3)) 4 x18) (upd qf 3 x23) (upd (upd (upd gf 4 (nI ch)) 5 x15) 6 x16) uf lf mf nf tr (up2 (up2 (up2 (up2 (up2 (up2 (up2 (up2 (up2 r 6 (x19 6)) 7 (x19 7)) 8 (x19 8)) 9 (x19 9)) 10 (x19 10)) 11 (x19 11)) 12 (x19 12)) 13 (x19 13)) 14 (x19 14)) (up2 (up2 (up2 q 0 x20) 1 x21) 2 x22) (up2 (up2 (up2 gr 1 x10) 2 x11) 3 x17) ur lr mr nr) H := hP rfl
      refine lv_istore_n (lv' := [(2, .int r24), (0, .ref x), (1, .int (nI j))]) hx hb dX6_fewest_74 rfl hl (by decide) rfl (fun ls hl => ?_)
      refine lv_iload_n hx hb dX6_fewest_75 rfl (lv_at hl 0 rfl) ?_
      refine lv_iconst (v := -1) hx hb dX6_fewest_76 (by decide) ?_
      refine lv_icmp_ne (tgt := 87) hx hb dX6_fewest_77 (by decide) (fun c26 => ?_) (fun c26 => ?_)
      · obtain ⟨zs, hzs, ezs⟩ := hor.resolve_left c26
        subst ezs
        refine lv_aload_n hx hb dX6_fewest_87 rfl (lv_at hl 1 rfl) ?_
        refine va_get (D := G.1) (ci := 6) (v := .ref (ga 9)) (C := RX6) (T := TX6) (N := 10) hx hb hts inX6 hown hK.1 hP 0 rfl rfl 3 (by decide) (hts _ mf_X6_29) (fun _ h9 => h9) rfl dX6_fewest_88 ?_
        refine lv_aload_n hx hb dX6_fewest_91 rfl (lv_at hl 1 rfl) ?_
        refine va_get (D := G.1) (ci := 6) (v := .ref (xa 1)) (C := RX6) (T := TX6) (N := 10) hx hb hts inX6 hown hK.1 hP 0 rfl rfl 1 (by decide) (hts _ mf_X6_15) (fun _ h9 => h9) rfl dX6_fewest_92 ?_
        refine lv_iload_n hx hb dX6_fewest_95 rfl (lv_at hl 2 rfl) ?_
        refine xaldT hx hb hK hP 1 (j) (b := (ta 0)) rfl (by omega) (by decide) rfl (htg) dX6_fewest_96 ?_
        refine lv_iload_n hx hb dX6_fewest_97 rfl (lv_at hl 0 rfl) ?_
        refine wrVV (rest := []) (q0 := 0) ⟨hx, hb, hml, hown, hts⟩ (c_X0_tell l G ga (upd (upd (upd gf 4 (nI ch)) 5 x15) 6 x16) (up2 (up2 (up2 gr 1 x10) 2 x11) 3 x17) ta tf tr ch (by omega) rfl (chP_m hcp (by omega)) (nI zs)) mi_yX0_tell mv_yX0_tell ml_X6_226 ⟨rfl, rfl, Nat.le_of_ble_eq_true rfl, Nat.le_of_ble_eq_true rfl⟩ hK hP (hDD _ _ _ _ _ _ _ _ _ _ _ _ _ _ _ _ _) [25, 26, 27, 28, 29, 2, 3, 4, 5, 6, 7, 8, 9, 10] rfl (by decide) rfl rfl rfl hl.1 rfl (Nat.le_of_ble_eq_true rfl) dX6_fewest_98 ⟨Nat.zero_le _, Nat.zero_le _⟩ hS hA (fun w29 H locs hw29 hP hS => ?_)
        obtain ⟨x27, hb1_, rfl⟩ := hw29
        have hP : PP G (xM G x xa ta a b ga ua la lb lc tg gg (upd xf 0 x4) tf (upd (upd (upd (upd (upd f 0 (x6 0)) 1 (x6 1)) 2 (x6 2)) 3 (x6 3)) 4 x18) (upd qf 3 x23) (upd (upd (upd gf 4 (nI ch)) 5 x15) 6 x16) uf lf mf nf (up2 tr 7 x27) (up2 (up2 (up2 (up2 (up2 (up2 (up2 (up2 (up2 r 6 (x19 6)) 7 (x19 7)) 8 (x19 8)) 9 (x19 9)) 10 (x19 10)) 11 (x19 11)) 12 (x19 12)) 13 (x19 13)) 14 (x19 14)) (up2 (up2 (up2 q 0 x20) 1 x21) 2 x22) (up2 (up2 (up2 gr 1 x10) 2 x11) 3 x17) ur lr mr nr) H := hP rfl
        refine lv_aload_n hx hb dX6_fewest_101 rfl (lv_at hl 1 rfl) ?_
        refine va_get (D := G.1) (ci := 6) (v := .ref (ga 9)) (C := RX6) (T := TX6) (N := 10) hx hb hts inX6 hown hK.1 hP 0 rfl rfl 3 (by decide) (hts _ mf_X6_29) (fun _ h9 => h9) rfl dX6_fewest_102 ?_
        refine va_get (D := G.1) (ci := 0) (v := .ref (ga 3)) (C := RX0) (T := TX0) (N := 9) hx hb hts inX0 hown hK.1 hP 25 rfl rfl 3 (by decide) (hts _ mf_X6_229) (fun _ h9 => h9) rfl dX6_fewest_105 ?_
        refine lv_iload_n hx hb dX6_fewest_108 rfl (lv_at hl 0 rfl) ?_
        refine xiald (f := x17) hx hb hK hP 29 (zs) (rfl) (by omega) (by decide) rfl dX6_fewest_109 ?_
        refine lv_topi (fun v30 ev30 => ?_)
        exact wr_iret hx hb hr hlocks hS hP ⟨(x6 0), (x6 1), (x6 2), (x6 3), x18, (nI ch), x15, x16, x10, x11, x17, x20, x21, x22, x23, (x19 6), (x19 7), (x19 8), (x19 9), (x19 10), (x19 11), (x19 12), (x19 13), (x19 14), x27, x4, rfl, hRB⟩ dX6_fewest_110
      · refine lv_aload_n hx hb dX6_fewest_80 rfl (lv_at hl 1 rfl) ?_
        refine lv_bipush (v := 10) hx hb dX6_fewest_81 (by decide) ?_
        refine wrVIa (rest := []) (q0 := 0) ⟨hx, hb, hml, hown, hts⟩ (x_refused l G x xa ta a b ga ua la lb lc tg gg (upd xf 0 x4) tf (upd (upd (upd (upd (upd f 0 (x6 0)) 1 (x6 1)) 2 (x6 2)) 3 (x6 3)) 4 x18) (upd qf 3 x23) (upd (upd (upd gf 4 (nI ch)) 5 x15) 6 x16) uf lf mf nf tr (up2 (up2 (up2 (up2 (up2 (up2 (up2 (up2 (up2 r 6 (x19 6)) 7 (x19 7)) 8 (x19 8)) 9 (x19 9)) 10 (x19 10)) 11 (x19 11)) 12 (x19 12)) 13 (x19 13)) 14 (x19 14)) (up2 (up2 (up2 q 0 x20) 1 x21) 2 x22) (up2 (up2 (up2 gr 1 x10) 2 x11) 3 x17) ur lr mr nr 10  ) mi_yX6_refused mv_yX6_refused ml_X6_122 ⟨rfl, rfl, Nat.le_of_ble_eq_true rfl, Nat.le_of_ble_eq_true rfl⟩ hK hP (hDD _ _ _ _ _ _ _ _ _ _ _ _ _ _ _ _ _) rfl rfl rfl hl.1 rfl (Nat.le_of_ble_eq_true rfl) dX6_fewest_83 ⟨Nat.zero_le _, Nat.zero_le _⟩ hS hA (fun r31 w32 H locs hw32 hP hS => ?_)
        obtain ⟨x33, rfl⟩ := hw32
        have hP : PP G (xM G x xa ta a b ga ua la lb lc tg gg (upd xf 0 x33) tf (upd (upd (upd (upd (upd f 0 (x6 0)) 1 (x6 1)) 2 (x6 2)) 3 (x6 3)) 4 x18) (upd qf 3 x23) (upd (upd (upd gf 4 (nI ch)) 5 x15) 6 x16) uf lf mf nf tr (up2 (up2 (up2 (up2 (up2 (up2 (up2 (up2 (up2 r 6 (x19 6)) 7 (x19 7)) 8 (x19 8)) 9 (x19 9)) 10 (x19 10)) 11 (x19 11)) 12 (x19 12)) 13 (x19 13)) 14 (x19 14)) (up2 (up2 (up2 q 0 x20) 1 x21) 2 x22) (up2 (up2 (up2 gr 1 x10) 2 x11) 3 x17) ur lr mr nr) H := hP
        exact wr_iret hx hb hr hlocks hS hP ⟨(x6 0), (x6 1), (x6 2), (x6 3), x18, (nI ch), x15, x16, x10, x11, x17, x20, x21, x22, x23, (x19 6), (x19 7), (x19 8), (x19 9), (x19 10), (x19 11), (x19 12), (x19 13), (x19 14), (tr 7), x33, rfl, hRB⟩ dX6_fewest_86
    · have b53 := qle_f (a := ch) (b := 8) (by omega) (by omega) c14
      refine lv_aload_n hx hb dX6_fewest_56 rfl (lv_at hl 0 rfl) ?_
      refine lv_bipush (v := 8) hx hb dX6_fewest_57 (by decide) ?_
      refine wrVIa (rest := []) (q0 := 0) ⟨hx, hb, hml, hown, hts⟩ (x_refused l G x xa ta a b ga ua la lb lc tg gg (upd xf 0 x4) tf (upd (upd (upd (upd (upd f 0 (x6 0)) 1 (x6 1)) 2 (x6 2)) 3 (x6 3)) 4 (x6 4)) qf (upd gf 4 (nI ch)) uf lf mf nf tr (up2 (up2 (up2 (up2 (up2 (up2 (up2 (up2 (up2 r 6 (x7 6)) 7 (x7 7)) 8 (x7 8)) 9 (x7 9)) 10 (x7 10)) 11 (x7 11)) 12 (x7 12)) 13 (x7 13)) 14 (x7 14)) q (up2 (up2 gr 1 x10) 2 x11) ur lr mr nr 8  ) mi_yX6_refused mv_yX6_refused ml_X6_122 ⟨rfl, rfl, Nat.le_of_ble_eq_true rfl, Nat.le_of_ble_eq_true rfl⟩ hK hP (hDD _ _ _ _ _ _ _ _ _ _ _ _ _ _ _ _ _) rfl rfl rfl hl.1 rfl (Nat.le_of_ble_eq_true rfl) dX6_fewest_59 ⟨Nat.zero_le _, Nat.zero_le _⟩ hS hA (fun r34 w35 H locs hw35 hP hS => ?_)
      obtain ⟨x36, rfl⟩ := hw35
      have hP : PP G (xM G x xa ta a b ga ua la lb lc tg gg (upd xf 0 x36) tf (upd (upd (upd (upd (upd f 0 (x6 0)) 1 (x6 1)) 2 (x6 2)) 3 (x6 3)) 4 (x6 4)) qf (upd gf 4 (nI ch)) uf lf mf nf tr (up2 (up2 (up2 (up2 (up2 (up2 (up2 (up2 (up2 r 6 (x7 6)) 7 (x7 7)) 8 (x7 8)) 9 (x7 9)) 10 (x7 10)) 11 (x7 11)) 12 (x7 12)) 13 (x7 13)) 14 (x7 14)) q (up2 (up2 gr 1 x10) 2 x11) ur lr mr nr) H := hP
      exact wr_iret hx hb hr hlocks hS hP ⟨(x6 0), (x6 1), (x6 2), (x6 3), (x6 4), (nI ch), (gf 5), (gf 6), x10, x11, (gr 3), (q 0), (q 1), (q 2), (qf 3), (x7 6), (x7 7), (x7 8), (x7 9), (x7 10), (x7 11), (x7 12), (x7 13), (x7 14), (tr 7), x36, rfl, hRB⟩ dX6_fewest_62
  · have b9 := bF hw3r c5
    refine lv_iconst (v := -1) hx hb dX6_fewest_12 (by decide) ?_
    exact wr_iret hx hb hr hlocks hS hP ⟨(f 0), (f 1), (f 2), (f 3), (f 4), (gf 4), (gf 5), (gf 6), (gr 1), (gr 2), (gr 3), (q 0), (q 1), (q 2), (qf 3), (r 6), (r 7), (r 8), (r 9), (r 10), (r 11), (r 12), (r 13), (r 14), (tr 7), x4, rfl, hRB⟩ dX6_fewest_13
set_option maxHeartbeats 4000000 in
set_option maxRecDepth 100000 in
theorem x_cost (l : Launch) (G : GG) (x : Nat) (xa ta a b ga ua la lb lc : Nat → Nat) (tg gg : Nat → Option Nat) (xf tf f qf gf uf lf mf nf : Nat → Int32) (tr r q gr ur lr mr nr : Nat → Nat → Int32) (tb : Int32) (j : Nat) (hj : j < 6) (hjt : tbJ tb j) (htg : tg j = some (ta 0)) (hT1 : nL 12 (tf 1)) (hT2 : nL 12 (tf 2)) (hT3 : nL 12 (tf 3)) (hT4 : nOK 12 12 (tr 4)) : WrI l yX6_cost cX6_cost 2 (some .int) ({ frames := 3, cells := 0, slots := 0, locals := 73 }) G (xM G x xa ta a b ga ua la lb lc tg gg xf tf f qf gf uf lf mf nf tr r q gr ur lr mr nr) [.ref x, .int tb] (fun q w => ∃ (n_xf_0 : Int32), w = xM G x xa ta a b ga ua la lb lc tg gg (upd xf 0 n_xf_0) tf f qf gf uf lf mf nf tr r q gr ur lr mr nr) := by
  refine wr_entryI (by decide +kernel) (Nat.le_of_ble_eq_true rfl) ?_
  intro p e s m below meth c A C0 hP hK hD hA ls hl
  have hS : va_S A s.heap s.heap [] := va_S.rf
  obtain ⟨hx, hb, hml, hown, hts, hr, hlocks, hin⟩ := C0
  have hown : s.vm.findClass RX6 = some m.cls := hown
  have hDD : ∀ xf' tf' f' qf' gf' uf' lf' mf' nf' tr' r' q' gr' ur' lr' mr' nr', va_D A (xM G x xa ta a b ga ua la lb lc tg gg xf' tf' f' qf' gf' uf' lf' mf' nf' tr' r' q' gr' ur' lr' mr' nr') := fun xf' tf' f' qf' gf' uf' lf' mf' nf' tr' r' q' gr' ur' lr' mr' nr' => D_same hD rfl
  have hl : lv_has ls 2 [(0, .ref x), (1, .int tb)] := hl
  refine lv_aload_n hx hb dX6_cost_0 rfl (lv_at hl 0 rfl) ?_
  refine lv_aload_n hx hb dX6_cost_1 rfl (lv_at hl 0 rfl) ?_
  refine lv_iload_n hx hb dX6_cost_2 rfl (lv_at hl 1 rfl) ?_
  refine rdV (rest := [.ref x]) (q0 := 0) ⟨hx, hb, hml, hown, hts⟩ (x_tableStatus l G x xa ta a b ga ua la lb lc tg gg xf tf f qf gf uf lf mf nf tr r q gr ur lr mr nr tb j (by omega) hjt htg) mi_yX6_tableStatus mv_yX6_tableStatus ml_X6_73 ⟨rfl, rfl, Nat.le_of_ble_eq_true rfl, Nat.le_of_ble_eq_true rfl⟩ hK (hP) rfl rfl rfl hl.1 rfl (Nat.le_of_ble_eq_true rfl) dX6_cost_3 ⟨Nat.zero_le _, Nat.zero_le _⟩ hS hA hP (fun r1 H locs hr1 hP hS => ?_)
  have hr1 : ((r1 = 0 ∧ tbO tb j (tf 0)) ∨ (r1 = 1 ∧ ¬ tbO tb j (tf 0))) := hr1
  refine wrVIa (rest := []) (q0 := 0) ⟨hx, hb, hml, hown, hts⟩ (x_settled l G x xa ta a b ga ua la lb lc tg gg xf tf f qf gf uf lf mf nf tr r q gr ur lr mr nr r1  ) mi_yX6_settled mv_yX6_settled ml_X6_65 ⟨rfl, rfl, Nat.le_of_ble_eq_true rfl, Nat.le_of_ble_eq_true rfl⟩ hK hP (hDD _ _ _ _ _ _ _ _ _ _ _ _ _ _ _ _ _) rfl rfl rfl hl.1 rfl (Nat.le_of_ble_eq_true rfl) dX6_cost_6 ⟨Nat.zero_le _, Nat.zero_le _⟩ hS hA (fun r2 w3 H locs hw3 hP hS => ?_)
  obtain ⟨x4, rfl, hw3r⟩ := hw3
  have hP : PP G (xM G x xa ta a b ga ua la lb lc tg gg (upd xf 0 x4) tf f qf gf uf lf mf nf tr r q gr ur lr mr nr) H := hP
  have hw3r : ((r2 = 1 ∧ (r1 = 0)) ∨ (r2 = 0 ∧ ¬ (r1 = 0))) := hw3r
  refine lv_if_ne (tgt := 14) hx hb dX6_cost_9 (by decide) (fun c5 => ?_) (fun c5 => ?_)
  · have b9 := bT hw3r c5
    obtain ⟨ej, ho⟩ := st0 hr1 b9
    subst ej
    obtain ⟨rw, hrw, t1⟩ := hT1
    obtain ⟨cl, hcl, t2⟩ := hT2
    obtain ⟨bk, hbk, t3⟩ := hT3
    have hT1 : nL 12 (tf 1) := ⟨rw, hrw, t1⟩
    have hT2 : nL 12 (tf 2) := ⟨cl, hcl, t2⟩
    have hT3 : nL 12 (tf 3) := ⟨bk, hbk, t3⟩
    refine lv_aload_n hx hb dX6_cost_14 rfl (lv_at hl 0 rfl) ?_
    refine va_get (D := G.1) (ci := 6) (v := .ref (xa 1)) (C := RX6) (T := TX6) (N := 10) hx hb hts inX6 hown hK.1 hP 0 rfl rfl 1 (by decide) (hts _ mf_X6_15) (fun _ h9 => h9) rfl dX6_cost_15 ?_
    refine lv_iload_n hx hb dX6_cost_18 rfl (lv_at hl 1 rfl) ?_
    refine xaldT hx hb hK hP 1 (j) (b := (ta 0)) rfl (by omega) (by decide) rfl (htg) dX6_cost_19 ?_
    refine rdV (rest := []) (q0 := 0) ⟨hx, hb, hml, hown, hts⟩ (c_X4_priceOfKept l G ta tf tr rw cl bk hrw hcl hbk t1 t2 t3) mi_yX4_priceOfKept mv_yX4_priceOfKept ml_X6_232 ⟨rfl, rfl, Nat.le_of_ble_eq_true rfl, Nat.le_of_ble_eq_true rfl⟩ hK (hP.sub (ws' := tW G ta tf tr) [2, 3, 4, 5, 6, 7, 8, 9, 10] rfl) rfl rfl rfl hl.1 rfl (Nat.le_of_ble_eq_true rfl) dX6_cost_20 ⟨Nat.zero_le _, Nat.zero_le _⟩ hS hA hP (fun r6 H locs hr6 hP hS => ?_)
    exact wr_iret hx hb hr hlocks hS hP ⟨x4, rfl⟩ dX6_cost_23
  · have b9 := bF hw3r c5
    refine lv_iconst (v := -1) hx hb dX6_cost_12 (by decide) ?_
    exact wr_iret hx hb hr hlocks hS hP ⟨x4, rfl⟩ dX6_cost_13
set_option maxHeartbeats 4000000 in
set_option maxRecDepth 100000 in
theorem x_round (l : Launch) (G : GG) (x : Nat) (xa ta a b ga ua la lb lc : Nat → Nat) (tg gg : Nat → Option Nat) (xf tf f qf gf uf lf mf nf : Nat → Int32) (tr r q gr ur lr mr nr : Nat → Nat → Int32) (tb : Int32) (ba : Int32) (j : Nat) (hj : j < 6) (hjt : tbJ tb j) (htg : tg j = some (ta 0)) (hT1 : nL 12 (tf 1)) (hT2 : nL 12 (tf 2)) (hT3 : nL 12 (tf 3)) (hT4 : nOK 12 12 (tr 4)) (hM0 : nL 12 (mf 0)) (hM1 : nL 12 (mf 1)) : WrI l yX6_round cX6_round 3 (some .int) ({ frames := 7, cells := 0, slots := 0, locals := 171 }) G (xM G x xa ta a b ga ua la lb lc tg gg xf tf f qf gf uf lf mf nf tr r q gr ur lr mr nr) [.ref x, .int tb, .int ba] (fun q w => ∃ (n_f_0 : Int32) (n_f_1 : Int32) (n_f_2 : Int32) (n_f_3 : Int32) (n_f_4 : Int32) (n_mf_0 : Int32) (n_mf_1 : Int32) (n_mr_2 : Nat → Int32) (n_r_6 : Nat → Int32) (n_r_7 : Nat → Int32) (n_r_8 : Nat → Int32) (n_r_9 : Nat → Int32) (n_r_10 : Nat → Int32) (n_r_11 : Nat → Int32) (n_r_12 : Nat → Int32) (n_r_13 : Nat → Int32) (n_r_14 : Nat → Int32) (n_uf_3 : Int32) (n_ur_1 : Nat → Int32) (n_ur_2 : Nat → Int32) (n_ur_3 : Nat → Int32) (n_ur_4 : Nat → Int32) (n_ur_5 : Nat → Int32) (n_ur_6 : Nat → Int32) (n_ur_7 : Nat → Int32) (n_ur_20 : Nat → Int32) (n_ur_21 : Nat → Int32) (n_ur_22 : Nat → Int32) (n_xf_0 : Int32), w = xM G x xa ta a b ga ua la lb lc tg gg (upd xf 0 n_xf_0) tf (upd (upd (upd (upd (upd f 0 n_f_0) 1 n_f_1) 2 n_f_2) 3 n_f_3) 4 n_f_4) qf gf (upd uf 3 n_uf_3) lf (upd (upd mf 0 n_mf_0) 1 n_mf_1) nf tr (up2 (up2 (up2 (up2 (up2 (up2 (up2 (up2 (up2 r 6 n_r_6) 7 n_r_7) 8 n_r_8) 9 n_r_9) 10 n_r_10) 11 n_r_11) 12 n_r_12) 13 n_r_13) 14 n_r_14) q gr (up2 (up2 (up2 (up2 (up2 (up2 (up2 (up2 (up2 (up2 ur 1 n_ur_1) 2 n_ur_2) 3 n_ur_3) 4 n_ur_4) 5 n_ur_5) 6 n_ur_6) 7 n_ur_7) 20 n_ur_20) 21 n_ur_21) 22 n_ur_22) lr (up2 mr 2 n_mr_2) nr ∧ (nL 12 n_mf_0) ∧ (nL 12 n_mf_1)) := by
  refine wr_entryI (by decide +kernel) (Nat.le_of_ble_eq_true rfl) ?_
  intro p e s m below meth c A C0 hP hK hD hA ls hl
  have hS : va_S A s.heap s.heap [] := va_S.rf
  obtain ⟨hx, hb, hml, hown, hts, hr, hlocks, hin⟩ := C0
  have hown : s.vm.findClass RX6 = some m.cls := hown
  have hDD : ∀ xf' tf' f' qf' gf' uf' lf' mf' nf' tr' r' q' gr' ur' lr' mr' nr', va_D A (xM G x xa ta a b ga ua la lb lc tg gg xf' tf' f' qf' gf' uf' lf' mf' nf' tr' r' q' gr' ur' lr' mr' nr') := fun xf' tf' f' qf' gf' uf' lf' mf' nf' tr' r' q' gr' ur' lr' mr' nr' => D_same hD rfl
  have hl : lv_has ls 3 [(0, .ref x), (1, .int tb), (2, .int ba)] := hl
  refine lv_aload_n hx hb dX6_round_0 rfl (lv_at hl 0 rfl) ?_
  refine lv_aload_n hx hb dX6_round_1 rfl (lv_at hl 0 rfl) ?_
  refine lv_iload_n hx hb dX6_round_2 rfl (lv_at hl 1 rfl) ?_
  refine rdV (rest := [.ref x]) (q0 := 0) ⟨hx, hb, hml, hown, hts⟩ (x_tableStatus l G x xa ta a b ga ua la lb lc tg gg xf tf f qf gf uf lf mf nf tr r q gr ur lr mr nr tb j (by omega) hjt htg) mi_yX6_tableStatus mv_yX6_tableStatus ml_X6_73 ⟨rfl, rfl, Nat.le_of_ble_eq_true rfl, Nat.le_of_ble_eq_true rfl⟩ hK (hP) rfl rfl rfl hl.1 rfl (Nat.le_of_ble_eq_true rfl) dX6_round_3 ⟨Nat.zero_le _, Nat.zero_le _⟩ hS hA hP (fun r1 H locs hr1 hP hS => ?_)
  have hr1 : ((r1 = 0 ∧ tbO tb j (tf 0)) ∨ (r1 = 1 ∧ ¬ tbO tb j (tf 0))) := hr1
  refine wrVIa (rest := []) (q0 := 0) ⟨hx, hb, hml, hown, hts⟩ (x_settled l G x xa ta a b ga ua la lb lc tg gg xf tf f qf gf uf lf mf nf tr r q gr ur lr mr nr r1  ) mi_yX6_settled mv_yX6_settled ml_X6_65 ⟨rfl, rfl, Nat.le_of_ble_eq_true rfl, Nat.le_of_ble_eq_true rfl⟩ hK hP (hDD _ _ _ _ _ _ _ _ _ _ _ _ _ _ _ _ _) rfl rfl rfl hl.1 rfl (Nat.le_of_ble_eq_true rfl) dX6_round_6 ⟨Nat.zero_le _, Nat.zero_le _⟩ hS hA (fun r2 w3 H locs hw3 hP hS => ?_)
  obtain ⟨x4, rfl, hw3r⟩ := hw3
  have hP : PP G (xM G x xa ta a b ga ua la lb lc tg gg (upd xf 0 x4) tf f qf gf uf lf mf nf tr r q gr ur lr mr nr) H := hP
  have hw3r : ((r2 = 1 ∧ (r1 = 0)) ∨ (r2 = 0 ∧ ¬ (r1 = 0))) := hw3r
  refine lv_if_ne (tgt := 14) hx hb dX6_round_9 (by decide) (fun c5 => ?_) (fun c5 => ?_)
  · have b9 := bT hw3r c5
    obtain ⟨ej, ho⟩ := st0 hr1 b9
    subst ej
    obtain ⟨rw, hrw, t1⟩ := hT1
    obtain ⟨cl, hcl, t2⟩ := hT2
    obtain ⟨bk, hbk, t3⟩ := hT3
    have hT1 : nL 12 (tf 1) := ⟨rw, hrw, t1⟩
    have hT2 : nL 12 (tf 2) := ⟨cl, hcl, t2⟩
    have hT3 : nL 12 (tf 3) := ⟨bk, hbk, t3⟩
    refine lv_iload_n hx hb dX6_round_14 rfl (lv_at hl 2 rfl) ?_
    refine lv_iconst (v := 2) hx hb dX6_round_15 (by decide) ?_
    refine lv_icmp_lt (tgt := 26) hx hb dX6_round_16 (by decide) (fun c6 => ?_) (fun c6 => ?_)
    · refine lv_aload_n hx hb dX6_round_26 rfl (lv_at hl 0 rfl) ?_
      refine lv_bipush (v := 7) hx hb dX6_round_27 (by decide) ?_
      refine wrVIa (rest := []) (q0 := 0) ⟨hx, hb, hml, hown, hts⟩ (x_refused l G x xa ta a b ga ua la lb lc tg gg (upd xf 0 x4) tf f qf gf uf lf mf nf tr r q gr ur lr mr nr 7  ) mi_yX6_refused mv_yX6_refused ml_X6_122 ⟨rfl, rfl, Nat.le_of_ble_eq_true rfl, Nat.le_of_ble_eq_true rfl⟩ hK hP (hDD _ _ _ _ _ _ _ _ _ _ _ _ _ _ _ _ _) rfl rfl rfl hl.1 rfl (Nat.le_of_ble_eq_true rfl) dX6_round_29 ⟨Nat.zero_le _, Nat.zero_le _⟩ hS hA (fun r7 w8 H locs hw8 hP hS => ?_)
      obtain ⟨x9, rfl⟩ := hw8
      have hP : PP G (xM G x xa ta a b ga ua la lb lc tg gg (upd xf 0 x9) tf f qf gf uf lf mf nf tr r q gr ur lr mr nr) H := hP
      exact wr_iret hx hb hr hlocks hS hP ⟨(f 0), (f 1), (f 2), (f 3), (f 4), (mf 0), (mf 1), (mr 2), (r 6), (r 7), (r 8), (r 9), (r 10), (r 11), (r 12), (r 13), (r 14), (uf 3), (ur 1), (ur 2), (ur 3), (ur 4), (ur 5), (ur 6), (ur 7), (ur 20), (ur 21), (ur 22), x9, rfl, hM0, hM1⟩ dX6_round_32
    · refine lv_iload_n hx hb dX6_round_19 rfl (lv_at hl 2 rfl) ?_
      refine lv_sipush (v := 1000) hx hb dX6_round_20 (by decide) ?_
      refine lv_icmp_le (tgt := 33) hx hb dX6_round_23 (by decide) (fun c10 => ?_) (fun c10 => ?_)
      · refine lv_aload_n hx hb dX6_round_33 rfl (lv_at hl 0 rfl) ?_
        refine va_get (D := G.1) (ci := 6) (v := .ref (a 15)) (C := RX6) (T := TX6) (N := 10) hx hb hts inX6 hown hK.1 hP 0 rfl rfl 2 (by decide) (hts _ mf_X6_22) (fun _ h9 => h9) rfl dX6_round_34 ?_
        refine lv_aload_n hx hb dX6_round_37 rfl (lv_at hl 0 rfl) ?_
        refine va_get (D := G.1) (ci := 6) (v := .ref (xa 1)) (C := RX6) (T := TX6) (N := 10) hx hb hts inX6 hown hK.1 hP 0 rfl rfl 1 (by decide) (hts _ mf_X6_15) (fun _ h9 => h9) rfl dX6_round_38 ?_
        refine lv_iload_n hx hb dX6_round_41 rfl (lv_at hl 1 rfl) ?_
        refine xaldT hx hb hK hP 1 (j) (b := (ta 0)) rfl (by omega) (by decide) rfl (htg) dX6_round_42 ?_
        refine wrVV (rest := []) (q0 := 0) ⟨hx, hb, hml, hown, hts⟩ (c_X2_load l G a b f r ta tf tr rw cl bk hrw hcl hbk t1 t2 t3) mi_yX2_load mv_yX2_load ml_X6_184 ⟨rfl, rfl, Nat.le_of_ble_eq_true rfl, Nat.le_of_ble_eq_true rfl⟩ hK hP (hDD _ _ _ _ _ _ _ _ _ _ _ _ _ _ _ _ _) [11, 12, 13, 14, 15, 16, 17, 18, 19, 20, 2, 3, 4, 5, 6, 7, 8, 9, 10] rfl (by decide) rfl rfl rfl hl.1 rfl (Nat.le_of_ble_eq_true rfl) dX6_round_43 ⟨Nat.zero_le _, Nat.zero_le _⟩ hS hA (fun w14 H locs hw14 hP hS => ?_)
        obtain ⟨x11, x12, h0, h1, rfl⟩ := hw14
        have hP : PP G (xM G x xa ta a b ga ua la lb lc tg gg (upd xf 0 x4) tf (upd (upd (upd (upd (upd f 0 (x11 0)) 1 (x11 1)) 2 (x11 2)) 3 (x11 3)) 4 (x11 4)) qf gf uf lf mf nf tr (up2 (up2 (up2 (up2 (up2 (up2 (up2 (up2 (up2 r 6 (x12 6)) 7 (x12 7)) 8 (x12 8)) 9 (x12 9)) 10 (x12 10)) 11 (x12 11)) 12 (x12 12)) 13 (x12 13)) 14 (x12 14)) q gr ur lr mr nr) H := hP rfl
        refine lv_aload_n hx hb dX6_round_46 rfl (lv_at hl 0 rfl) ?_
        refine va_get (D := G.1) (ci := 6) (v := .ref (ua 0)) (C := RX6) (T := TX6) (N := 10) hx hb hts inX6 hown hK.1 hP 0 rfl rfl 4 (by decide) (hts _ mf_X6_36) (fun _ h9 => h9) rfl dX6_round_47 ?_
        refine lv_aload_n hx hb dX6_round_50 rfl (lv_at hl 0 rfl) ?_
        refine va_get (D := G.1) (ci := 6) (v := .ref (a 15)) (C := RX6) (T := TX6) (N := 10) hx hb hts inX6 hown hK.1 hP 0 rfl rfl 2 (by decide) (hts _ mf_X6_22) (fun _ h9 => h9) rfl dX6_round_51 ?_
        refine lv_iload_n hx hb dX6_round_54 rfl (lv_at hl 2 rfl) ?_
        refine lv_aload_n hx hb dX6_round_55 rfl (lv_at hl 0 rfl) ?_
        refine va_get (D := G.1) (ci := 6) (v := .ref (lb 0)) (C := RX6) (T := TX6) (N := 10) hx hb hts inX6 hown hK.1 hP 0 rfl rfl 6 (by decide) (hts _ mf_X6_47) (fun _ h9 => h9) rfl dX6_round_56 ?_
        refine wrVI (rest := []) (q0 := 0) ⟨hx, hb, hml, hown, hts⟩ (c_X3_fill l G ua a b lb uf (upd (upd (upd (upd (upd f 0 (x11 0)) 1 (x11 1)) 2 (x11 2)) 3 (x11 3)) 4 (x11 4)) mf ur (up2 (up2 (up2 (up2 (up2 (up2 (up2 (up2 (up2 r 6 (x12 6)) 7 (x12 7)) 8 (x12 8)) 9 (x12 9)) 10 (x12 10)) 11 (x12 11)) 12 (x12 12)) 13 (x12 13)) 14 (x12 14)) mr ba rw cl hrw hcl h0 h1) mi_yX3_fill mv_yX3_fill ml_X6_235 ⟨rfl, rfl, Nat.le_of_ble_eq_true rfl, Nat.le_of_ble_eq_true rfl⟩ hK hP (hDD _ _ _ _ _ _ _ _ _ _ _ _ _ _ _ _ _) [30, 31, 32, 33, 34, 35, 36, 37, 38, 39, 40, 41, 11, 12, 13, 15, 44, 45] rfl (by decide) rfl rfl rfl hl.1 rfl (Nat.le_of_ble_eq_true rfl) dX6_round_59 ⟨Nat.zero_le _, Nat.zero_le _⟩ hS hA (fun r29 w30 H locs hw30 hP hS => ?_)
        obtain ⟨x15, x16, x17, x18, x19, x20, x21, x22, x23, x24, x25, x26, x27, x28, rfl, hl0, hl1⟩ := hw30
        have hP : PP G (xM G x xa ta a b ga ua la lb lc tg gg (upd xf 0 x4) tf (upd (upd (upd (upd (upd f 0 (x11 0)) 1 (x11 1)) 2 (x11 2)) 3 (x11 3)) 4 (x11 4)) qf gf (upd uf 3 x18) lf (upd (upd mf 0 x15) 1 x16) nf tr (up2 (up2 (up2 (up2 (up2 (up2 (up2 (up2 (up2 r 6 (x12 6)) 7 (x12 7)) 8 (x12 8)) 9 (x12 9)) 10 (x12 10)) 11 (x12 11)) 12 (x12 12)) 13 (x12 13)) 14 (x12 14)) q gr (up2 (up2 (up2 (up2 (up2 (up2 (up2 (up2 (up2 (up2 ur 1 x19) 2 x20) 3 x21) 4 x22) 5 x23) 6 x24) 7 x25) 20 x26) 21 x27) 22 x28) lr (up2 mr 2 x17) nr) H := hP rfl
        have hM0 : nL 12 x15 := ⟨rw, hrw, hl0⟩
        have hM1 : nL 12 x16 := ⟨cl, hcl, hl1⟩
        exact wr_iret hx hb hr hlocks hS hP ⟨(x11 0), (x11 1), (x11 2), (x11 3), (x11 4), x15, x16, x17, (x12 6), (x12 7), (x12 8), (x12 9), (x12 10), (x12 11), (x12 12), (x12 13), (x12 14), x18, x19, x20, x21, x22, x23, x24, x25, x26, x27, x28, x4, rfl, hM0, hM1⟩ dX6_round_62
      · refine lv_aload_n hx hb dX6_round_26 rfl (lv_at hl 0 rfl) ?_
        refine lv_bipush (v := 7) hx hb dX6_round_27 (by decide) ?_
        refine wrVIa (rest := []) (q0 := 0) ⟨hx, hb, hml, hown, hts⟩ (x_refused l G x xa ta a b ga ua la lb lc tg gg (upd xf 0 x4) tf f qf gf uf lf mf nf tr r q gr ur lr mr nr 7  ) mi_yX6_refused mv_yX6_refused ml_X6_122 ⟨rfl, rfl, Nat.le_of_ble_eq_true rfl, Nat.le_of_ble_eq_true rfl⟩ hK hP (hDD _ _ _ _ _ _ _ _ _ _ _ _ _ _ _ _ _) rfl rfl rfl hl.1 rfl (Nat.le_of_ble_eq_true rfl) dX6_round_29 ⟨Nat.zero_le _, Nat.zero_le _⟩ hS hA (fun r31 w32 H locs hw32 hP hS => ?_)
        obtain ⟨x33, rfl⟩ := hw32
        have hP : PP G (xM G x xa ta a b ga ua la lb lc tg gg (upd xf 0 x33) tf f qf gf uf lf mf nf tr r q gr ur lr mr nr) H := hP
        exact wr_iret hx hb hr hlocks hS hP ⟨(f 0), (f 1), (f 2), (f 3), (f 4), (mf 0), (mf 1), (mr 2), (r 6), (r 7), (r 8), (r 9), (r 10), (r 11), (r 12), (r 13), (r 14), (uf 3), (ur 1), (ur 2), (ur 3), (ur 4), (ur 5), (ur 6), (ur 7), (ur 20), (ur 21), (ur 22), x33, rfl, hM0, hM1⟩ dX6_round_32
  · have b9 := bF hw3r c5
    refine lv_iconst (v := -1) hx hb dX6_round_12 (by decide) ?_
    exact wr_iret hx hb hr hlocks hS hP ⟨(f 0), (f 1), (f 2), (f 3), (f 4), (mf 0), (mf 1), (mr 2), (r 6), (r 7), (r 8), (r 9), (r 10), (r 11), (r 12), (r 13), (r 14), (uf 3), (ur 1), (ur 2), (ur 3), (ur 4), (ur 5), (ur 6), (ur 7), (ur 20), (ur 21), (ur 22), x4, rfl, hM0, hM1⟩ dX6_round_13
set_option maxHeartbeats 4000000 in
set_option maxRecDepth 100000 in
theorem x_give (l : Launch) (G : GG) (x : Nat) (xa ta a b ga ua la lb lc : Nat → Nat) (tg gg : Nat → Option Nat) (xf tf f qf gf uf lf mf nf : Nat → Int32) (tr r q gr ur lr mr nr : Nat → Nat → Int32) (tb : Int32) (j : Nat) (gk : Nat) (hj : j < 6) (hjt : tbJ tb j) (htg : tg j = some (ta 0)) (hT1 : nL 12 (tf 1)) (hT2 : nL 12 (tf 2)) (hT3 : nL 12 (tf 3)) (hT4 : nOK 12 12 (tr 4)) (hRB : RB adjR (q 0)) (hgk16 : gk ≤ 16) (hgk : gk < 16 → gg gk = some (lc 0)) (h9v : (xf 9) = nI gk) (hN0 : nL 12 (nf 0)) (hN1 : nL 12 (nf 1)) : WrI l yX6_give cX6_give 2 (some .int) ({ frames := 6, cells := 0, slots := 0, locals := 157 }) G (xM G x xa ta a b ga ua la lb lc tg gg xf tf f qf gf uf lf mf nf tr r q gr ur lr mr nr) [.ref x, .int tb] (fun q w => ∃ (n_f_0 : Int32) (n_f_1 : Int32) (n_f_2 : Int32) (n_f_3 : Int32) (n_f_4 : Int32) (n_nf_0 : Int32) (n_nf_1 : Int32) (n_nr_2 : Nat → Int32) (n_q_0 : Nat → Int32) (n_q_1 : Nat → Int32) (n_q_2 : Nat → Int32) (n_qf_3 : Int32) (n_r_6 : Nat → Int32) (n_r_7 : Nat → Int32) (n_r_8 : Nat → Int32) (n_r_9 : Nat → Int32) (n_r_10 : Nat → Int32) (n_r_11 : Nat → Int32) (n_r_12 : Nat → Int32) (n_r_13 : Nat → Int32) (n_r_14 : Nat → Int32) (n_xf_0 : Int32) (n_xf_9 : Int32), w = xM G x xa ta a b ga ua la lb lc tg gg (upd (upd xf 0 n_xf_0) 9 n_xf_9) tf (upd (upd (upd (upd (upd f 0 n_f_0) 1 n_f_1) 2 n_f_2) 3 n_f_3) 4 n_f_4) (upd qf 3 n_qf_3) gf uf lf mf (upd (upd nf 0 n_nf_0) 1 n_nf_1) tr (up2 (up2 (up2 (up2 (up2 (up2 (up2 (up2 (up2 r 6 n_r_6) 7 n_r_7) 8 n_r_8) 9 n_r_9) 10 n_r_10) 11 n_r_11) 12 n_r_12) 13 n_r_13) 14 n_r_14) (up2 (up2 (up2 q 0 n_q_0) 1 n_q_1) 2 n_q_2) gr ur lr mr (up2 nr 2 n_nr_2) ∧ (RB adjR n_q_0) ∧ (nL 12 n_nf_0) ∧ (nL 12 n_nf_1) ∧ (nL 16 n_xf_9)) := by
  refine wr_entryI (by decide +kernel) (Nat.le_of_ble_eq_true rfl) ?_
  intro p e s m below meth c A C0 hP hK hD hA ls hl
  have hS : va_S A s.heap s.heap [] := va_S.rf
  obtain ⟨hx, hb, hml, hown, hts, hr, hlocks, hin⟩ := C0
  have hown : s.vm.findClass RX6 = some m.cls := hown
  have hDD : ∀ xf' tf' f' qf' gf' uf' lf' mf' nf' tr' r' q' gr' ur' lr' mr' nr', va_D A (xM G x xa ta a b ga ua la lb lc tg gg xf' tf' f' qf' gf' uf' lf' mf' nf' tr' r' q' gr' ur' lr' mr' nr') := fun xf' tf' f' qf' gf' uf' lf' mf' nf' tr' r' q' gr' ur' lr' mr' nr' => D_same hD rfl
  have hl : lv_has ls 2 [(0, .ref x), (1, .int tb)] := hl
  have hg9 : nL 16 (xf 9) := ⟨gk, hgk16, h9v⟩
  refine lv_aload_n hx hb dX6_give_0 rfl (lv_at hl 0 rfl) ?_
  refine lv_aload_n hx hb dX6_give_1 rfl (lv_at hl 0 rfl) ?_
  refine lv_iload_n hx hb dX6_give_2 rfl (lv_at hl 1 rfl) ?_
  refine rdV (rest := [.ref x]) (q0 := 0) ⟨hx, hb, hml, hown, hts⟩ (x_tableStatus l G x xa ta a b ga ua la lb lc tg gg xf tf f qf gf uf lf mf nf tr r q gr ur lr mr nr tb j (by omega) hjt htg) mi_yX6_tableStatus mv_yX6_tableStatus ml_X6_73 ⟨rfl, rfl, Nat.le_of_ble_eq_true rfl, Nat.le_of_ble_eq_true rfl⟩ hK (hP) rfl rfl rfl hl.1 rfl (Nat.le_of_ble_eq_true rfl) dX6_give_3 ⟨Nat.zero_le _, Nat.zero_le _⟩ hS hA hP (fun r1 H locs hr1 hP hS => ?_)
  have hr1 : ((r1 = 0 ∧ tbO tb j (tf 0)) ∨ (r1 = 1 ∧ ¬ tbO tb j (tf 0))) := hr1
  refine wrVIa (rest := []) (q0 := 0) ⟨hx, hb, hml, hown, hts⟩ (x_settled l G x xa ta a b ga ua la lb lc tg gg xf tf f qf gf uf lf mf nf tr r q gr ur lr mr nr r1  ) mi_yX6_settled mv_yX6_settled ml_X6_65 ⟨rfl, rfl, Nat.le_of_ble_eq_true rfl, Nat.le_of_ble_eq_true rfl⟩ hK hP (hDD _ _ _ _ _ _ _ _ _ _ _ _ _ _ _ _ _) rfl rfl rfl hl.1 rfl (Nat.le_of_ble_eq_true rfl) dX6_give_6 ⟨Nat.zero_le _, Nat.zero_le _⟩ hS hA (fun r2 w3 H locs hw3 hP hS => ?_)
  obtain ⟨x4, rfl, hw3r⟩ := hw3
  have hP : PP G (xM G x xa ta a b ga ua la lb lc tg gg (upd xf 0 x4) tf f qf gf uf lf mf nf tr r q gr ur lr mr nr) H := hP
  have hw3r : ((r2 = 1 ∧ (r1 = 0)) ∨ (r2 = 0 ∧ ¬ (r1 = 0))) := hw3r
  refine lv_if_ne (tgt := 14) hx hb dX6_give_9 (by decide) (fun c5 => ?_) (fun c5 => ?_)
  · have b9 := bT hw3r c5
    obtain ⟨ej, ho⟩ := st0 hr1 b9
    subst ej
    obtain ⟨rw, hrw, t1⟩ := hT1
    obtain ⟨cl, hcl, t2⟩ := hT2
    obtain ⟨bk, hbk, t3⟩ := hT3
    have hT1 : nL 12 (tf 1) := ⟨rw, hrw, t1⟩
    have hT2 : nL 12 (tf 2) := ⟨cl, hcl, t2⟩
    have hT3 : nL 12 (tf 3) := ⟨bk, hbk, t3⟩
    refine lv_aload_n hx hb dX6_give_14 rfl (lv_at hl 0 rfl) ?_
    refine va_get (D := G.1) (ci := 6) (v := .int (xf 9)) (C := RX6) (T := TX6) (N := 10) hx hb hts inX6 hown hK.1 hP 0 rfl rfl 9 (by decide) (hts _ mf_X6_57) (fun _ h9 => h9) rfl dX6_give_15 ?_
    rw [show (xf 9) = nI (gk) from h9v]
    refine lv_bipush (v := 16) hx hb dX6_give_18 (by decide) ?_
    refine lv_icmp_lt (tgt := 30) hx hb dX6_give_20 (by decide) (fun c6 => ?_) (fun c6 => ?_)
    · have b20 := qlt_t (a := (gk)) (b := 16) (by omega) (by omega) c6
      refine lv_aload_n hx hb dX6_give_30 rfl (lv_at hl 0 rfl) ?_
      refine va_get (D := G.1) (ci := 6) (v := .ref (a 15)) (C := RX6) (T := TX6) (N := 10) hx hb hts inX6 hown hK.1 hP 0 rfl rfl 2 (by decide) (hts _ mf_X6_22) (fun _ h9 => h9) rfl dX6_give_31 ?_
      refine lv_aload_n hx hb dX6_give_34 rfl (lv_at hl 0 rfl) ?_
      refine va_get (D := G.1) (ci := 6) (v := .ref (xa 1)) (C := RX6) (T := TX6) (N := 10) hx hb hts inX6 hown hK.1 hP 0 rfl rfl 1 (by decide) (hts _ mf_X6_15) (fun _ h9 => h9) rfl dX6_give_35 ?_
      refine lv_iload_n hx hb dX6_give_38 rfl (lv_at hl 1 rfl) ?_
      refine xaldT hx hb hK hP 1 (j) (b := (ta 0)) rfl (by omega) (by decide) rfl (htg) dX6_give_39 ?_
      refine wrVV (rest := []) (q0 := 0) ⟨hx, hb, hml, hown, hts⟩ (c_X2_load l G a b f r ta tf tr rw cl bk hrw hcl hbk t1 t2 t3) mi_yX2_load mv_yX2_load ml_X6_184 ⟨rfl, rfl, Nat.le_of_ble_eq_true rfl, Nat.le_of_ble_eq_true rfl⟩ hK hP (hDD _ _ _ _ _ _ _ _ _ _ _ _ _ _ _ _ _) [11, 12, 13, 14, 15, 16, 17, 18, 19, 20, 2, 3, 4, 5, 6, 7, 8, 9, 10] rfl (by decide) rfl rfl rfl hl.1 rfl (Nat.le_of_ble_eq_true rfl) dX6_give_40 ⟨Nat.zero_le _, Nat.zero_le _⟩ hS hA (fun w10 H locs hw10 hP hS => ?_)
      obtain ⟨x7, x8, h0, h1, rfl⟩ := hw10
      have hP : PP G (xM G x xa ta a b ga ua la lb lc tg gg (upd xf 0 x4) tf (upd (upd (upd (upd (upd f 0 (x7 0)) 1 (x7 1)) 2 (x7 2)) 3 (x7 3)) 4 (x7 4)) qf gf uf lf mf nf tr (up2 (up2 (up2 (up2 (up2 (up2 (up2 (up2 (up2 r 6 (x8 6)) 7 (x8 7)) 8 (x8 8)) 9 (x8 9)) 10 (x8 10)) 11 (x8 11)) 12 (x8 12)) 13 (x8 13)) 14 (x8 14)) q gr ur lr mr nr) H := hP rfl
      refine lv_aload_n hx hb dX6_give_43 rfl (lv_at hl 0 rfl) ?_
      refine va_get (D := G.1) (ci := 6) (v := .ref (a 15)) (C := RX6) (T := TX6) (N := 10) hx hb hts inX6 hown hK.1 hP 0 rfl rfl 2 (by decide) (hts _ mf_X6_22) (fun _ h9 => h9) rfl dX6_give_44 ?_
      refine wrVI (rest := []) (q0 := 0) ⟨hx, hb, hml, hown, hts⟩ (c_X2_countUnsafe l G a b (upd (upd (upd (upd (upd f 0 (x7 0)) 1 (x7 1)) 2 (x7 2)) 3 (x7 3)) 4 (x7 4)) (up2 (up2 (up2 (up2 (up2 (up2 (up2 (up2 (up2 r 6 (x8 6)) 7 (x8 7)) 8 (x8 8)) 9 (x8 9)) 10 (x8 10)) 11 (x8 11)) 12 (x8 12)) 13 (x8 13)) 14 (x8 14)) q (qf 3) rw cl hrw hcl h0 h1  hRB) mi_yX2_countUnsafe mv_yX2_countUnsafe ml_X6_191 ⟨rfl, rfl, Nat.le_of_ble_eq_true rfl, Nat.le_of_ble_eq_true rfl⟩ hK hP (hDD _ _ _ _ _ _ _ _ _ _ _ _ _ _ _ _ _) [11, 12, 13, 14, 15, 16, 17, 18, 19, 20, 21, 22, 23, 24] rfl (by decide) rfl rfl rfl hl.1 rfl (Nat.le_of_ble_eq_true rfl) dX6_give_47 ⟨Nat.zero_le _, Nat.zero_le _⟩ hS hA (fun r17 w18 H locs hw18 hP hS => ?_)
      obtain ⟨x11, x12, x13, x14, x15, x16, hRB, rfl⟩ := hw18
      have hP : PP G (xM G x xa ta a b ga ua la lb lc tg gg (upd xf 0 x4) tf (upd (upd (upd (upd (upd f 0 (x7 0)) 1 (x7 1)) 2 (x7 2)) 3 (x7 3)) 4 x11) (upd qf 3 x16) gf uf lf mf nf tr (up2 (up2 (up2 (up2 (up2 (up2 (up2 (up2 (up2 r 6 (x12 6)) 7 (x12 7)) 8 (x12 8)) 9 (x12 9)) 10 (x12 10)) 11 (x12 11)) 12 (x12 12)) 13 (x12 13)) 14 (x12 14)) (up2 (up2 (up2 q 0 x13) 1 x14) 2 x15) gr ur lr mr nr) H := hP rfl
      refine lv_if_le (tgt := 60) hx hb dX6_give_50 (by decide) (fun c19 => ?_) (fun c19 => ?_)
      · refine lv_aload_n hx hb dX6_give_60 rfl (lv_at hl 0 rfl) ?_
        refine va_get (D := G.1) (ci := 6) (v := .ref (a 15)) (C := RX6) (T := TX6) (N := 10) hx hb hts inX6 hown hK.1 hP 0 rfl rfl 2 (by decide) (hts _ mf_X6_22) (fun _ h9 => h9) rfl dX6_give_61 ?_
        refine lv_aload_n hx hb dX6_give_64 rfl (lv_at hl 0 rfl) ?_
        refine va_get (D := G.1) (ci := 6) (v := .ref (xa 8)) (C := RX6) (T := TX6) (N := 10) hx hb hts inX6 hown hK.1 hP 0 rfl rfl 8 (by decide) (hts _ mf_X6_53) (fun _ h9 => h9) rfl dX6_give_65 ?_
        refine lv_aload_n hx hb dX6_give_68 rfl (lv_at hl 0 rfl) ?_
        refine va_get (D := G.1) (ci := 6) (v := .int (xf 9)) (C := RX6) (T := TX6) (N := 10) hx hb hts inX6 hown hK.1 hP 0 rfl rfl 9 (by decide) (hts _ mf_X6_57) (fun _ h9 => h9) rfl dX6_give_69 ?_
        rw [show (xf 9) = nI (gk) from h9v]
        refine xaldL hx hb hK hP 46 ((gk)) (b := (lc 0)) rfl (by omega) (by decide) rfl (hgk (by omega)) dX6_give_72 ?_
        refine wrVV (rest := []) (q0 := 0) ⟨hx, hb, hml, hown, hts⟩ (c_X2_showOpenly l G a b (upd (upd (upd (upd (upd f 0 (x7 0)) 1 (x7 1)) 2 (x7 2)) 3 (x7 3)) 4 x11) (up2 (up2 (up2 (up2 (up2 (up2 (up2 (up2 (up2 r 6 (x12 6)) 7 (x12 7)) 8 (x12 8)) 9 (x12 9)) 10 (x12 10)) 11 (x12 11)) 12 (x12 12)) 13 (x12 13)) 14 (x12 14)) lc (nf 0) (nf 1) (nr 2) rw cl hrw hcl h0 h1) mi_yX2_showOpenly mv_yX2_showOpenly ml_X6_239 ⟨rfl, rfl, Nat.le_of_ble_eq_true rfl, Nat.le_of_ble_eq_true rfl⟩ hK hP (hDD _ _ _ _ _ _ _ _ _ _ _ _ _ _ _ _ _) [11, 12, 13, 14, 15, 16, 17, 18, 19, 20, 47, 48] rfl (by decide) rfl rfl rfl hl.1 rfl (Nat.le_of_ble_eq_true rfl) dX6_give_73 ⟨Nat.zero_le _, Nat.zero_le _⟩ hS hA (fun w22 H locs hw22 hP hS => ?_)
        obtain ⟨x20, rfl⟩ := hw22
        have hP : PP G (xM G x xa ta a b ga ua la lb lc tg gg (upd xf 0 x4) tf (upd (upd (upd (upd (upd f 0 (x7 0)) 1 (x7 1)) 2 (x7 2)) 3 (x7 3)) 4 x11) (upd qf 3 x16) gf uf lf mf (upd (upd nf 0 (x7 0)) 1 (x7 1)) tr (up2 (up2 (up2 (up2 (up2 (up2 (up2 (up2 (up2 r 6 (x12 6)) 7 (x12 7)) 8 (x12 8)) 9 (x12 9)) 10 (x12 10)) 11 (x12 11)) 12 (x12 12)) 13 (x12 13)) 14 (x12 14)) (up2 (up2 (up2 q 0 x13) 1 x14) 2 x15) gr ur lr mr (up2 nr 2 x20)) H := hP rfl
        have hN0 : nL 12 (x7 0) := ⟨rw, hrw, h0⟩
        have hN1 : nL 12 (x7 1) := ⟨cl, hcl, h1⟩
        refine lv_aload_n hx hb dX6_give_76 rfl (lv_at hl 0 rfl) ?_
        refine lv_dup hx hb dX6_give_77 rfl ?_
        refine va_get (D := G.1) (ci := 6) (v := .int (xf 9)) (C := RX6) (T := TX6) (N := 10) hx hb hts inX6 hown hK.1 hP 0 rfl rfl 9 (by decide) (hts _ mf_X6_57) (fun _ h9 => h9) rfl dX6_give_78 ?_
        rw [show (xf 9) = nI (gk) from h9v]
        refine lv_iconst (v := 1) hx hb dX6_give_81 (by decide) ?_
        refine lv_iadd hx hb dX6_give_82 ?_
        refine lv_topi (fun v23 ev23 => ?_)
        obtain rfl : v23 = nI ((gk) + 1) := nI_plus ev23 rfl rfl
        refine va_put (D := G.1) (ci := 6) (v := .int (nI ((gk) + 1))) (C := RX6) (T := TX6) (N := 10) hx hb hts inX6 tyX6 tyX6_ok nmX6 hown hK.1 hP (hDD _ _ _ _ _ _ _ _ _ _ _ _ _ _ _ _ _) hS 0 rfl rfl 9 (by decide) (hts _ mf_X6_57) (fun _ h9 => h9) rfl (tyX6_ok 9 (by decide)) (rfl) (rfl) (Nat.le_of_ble_eq_true rfl) dX6_give_83 (fun H locs hP _ hS => ?_)
        have hP : PP G (xM G x xa ta a b ga ua la lb lc tg gg (upd (upd xf 0 x4) 9 (nI ((gk) + 1))) tf (upd (upd (upd (upd (upd f 0 (x7 0)) 1 (x7 1)) 2 (x7 2)) 3 (x7 3)) 4 x11) (upd qf 3 x16) gf uf lf mf (upd (upd nf 0 (x7 0)) 1 (x7 1)) tr (up2 (up2 (up2 (up2 (up2 (up2 (up2 (up2 (up2 r 6 (x12 6)) 7 (x12 7)) 8 (x12 8)) 9 (x12 9)) 10 (x12 10)) 11 (x12 11)) 12 (x12 12)) 13 (x12 13)) 14 (x12 14)) (up2 (up2 (up2 q 0 x13) 1 x14) 2 x15) gr ur lr mr (up2 nr 2 x20)) H := hP
        have hg9 : nL 16 (nI ((gk) + 1)) := ⟨gk + 1, by omega, rfl⟩
        refine lv_aload_n hx hb dX6_give_86 rfl (lv_at hl 0 rfl) ?_
        refine va_get (D := G.1) (ci := 6) (v := .int (nI ((gk) + 1))) (C := RX6) (T := TX6) (N := 10) hx hb hts inX6 hown hK.1 hP 0 rfl rfl 9 (by decide) (hts _ mf_X6_57) (fun _ h9 => h9) rfl dX6_give_87 ?_
        refine lv_iconst (v := 1) hx hb dX6_give_90 (by decide) ?_
        refine lv_isub hx hb dX6_give_91 ?_
        refine lv_topi (fun v24 ev24 => ?_)
        exact wr_iret hx hb hr hlocks hS hP ⟨(x7 0), (x7 1), (x7 2), (x7 3), x11, (x7 0), (x7 1), x20, x13, x14, x15, x16, (x12 6), (x12 7), (x12 8), (x12 9), (x12 10), (x12 11), (x12 12), (x12 13), (x12 14), x4, (nI ((gk) + 1)), rfl, hRB, hN0, hN1, hg9⟩ dX6_give_92
      · refine lv_aload_n hx hb dX6_give_53 rfl (lv_at hl 0 rfl) ?_
        refine lv_bipush (v := 10) hx hb dX6_give_54 (by decide) ?_
        refine wrVIa (rest := []) (q0 := 0) ⟨hx, hb, hml, hown, hts⟩ (x_refused l G x xa ta a b ga ua la lb lc tg gg (upd xf 0 x4) tf (upd (upd (upd (upd (upd f 0 (x7 0)) 1 (x7 1)) 2 (x7 2)) 3 (x7 3)) 4 x11) (upd qf 3 x16) gf uf lf mf nf tr (up2 (up2 (up2 (up2 (up2 (up2 (up2 (up2 (up2 r 6 (x12 6)) 7 (x12 7)) 8 (x12 8)) 9 (x12 9)) 10 (x12 10)) 11 (x12 11)) 12 (x12 12)) 13 (x12 13)) 14 (x12 14)) (up2 (up2 (up2 q 0 x13) 1 x14) 2 x15) gr ur lr mr nr 10  ) mi_yX6_refused mv_yX6_refused ml_X6_122 ⟨rfl, rfl, Nat.le_of_ble_eq_true rfl, Nat.le_of_ble_eq_true rfl⟩ hK hP (hDD _ _ _ _ _ _ _ _ _ _ _ _ _ _ _ _ _) rfl rfl rfl hl.1 rfl (Nat.le_of_ble_eq_true rfl) dX6_give_56 ⟨Nat.zero_le _, Nat.zero_le _⟩ hS hA (fun r25 w26 H locs hw26 hP hS => ?_)
        obtain ⟨x27, rfl⟩ := hw26
        have hP : PP G (xM G x xa ta a b ga ua la lb lc tg gg (upd xf 0 x27) tf (upd (upd (upd (upd (upd f 0 (x7 0)) 1 (x7 1)) 2 (x7 2)) 3 (x7 3)) 4 x11) (upd qf 3 x16) gf uf lf mf nf tr (up2 (up2 (up2 (up2 (up2 (up2 (up2 (up2 (up2 r 6 (x12 6)) 7 (x12 7)) 8 (x12 8)) 9 (x12 9)) 10 (x12 10)) 11 (x12 11)) 12 (x12 12)) 13 (x12 13)) 14 (x12 14)) (up2 (up2 (up2 q 0 x13) 1 x14) 2 x15) gr ur lr mr nr) H := hP
        exact wr_iret hx hb hr hlocks hS hP ⟨(x7 0), (x7 1), (x7 2), (x7 3), x11, (nf 0), (nf 1), (nr 2), x13, x14, x15, x16, (x12 6), (x12 7), (x12 8), (x12 9), (x12 10), (x12 11), (x12 12), (x12 13), (x12 14), x27, (xf 9), rfl, hRB, hN0, hN1, hg9⟩ dX6_give_59
    · have b20 := qlt_f (a := (gk)) (b := 16) (by omega) (by omega) c6
      refine lv_aload_n hx hb dX6_give_23 rfl (lv_at hl 0 rfl) ?_
      refine lv_bipush (v := 8) hx hb dX6_give_24 (by decide) ?_
      refine wrVIa (rest := []) (q0 := 0) ⟨hx, hb, hml, hown, hts⟩ (x_refused l G x xa ta a b ga ua la lb lc tg gg (upd xf 0 x4) tf f qf gf uf lf mf nf tr r q gr ur lr mr nr 8  ) mi_yX6_refused mv_yX6_refused ml_X6_122 ⟨rfl, rfl, Nat.le_of_ble_eq_true rfl, Nat.le_of_ble_eq_true rfl⟩ hK hP (hDD _ _ _ _ _ _ _ _ _ _ _ _ _ _ _ _ _) rfl rfl rfl hl.1 rfl (Nat.le_of_ble_eq_true rfl) dX6_give_26 ⟨Nat.zero_le _, Nat.zero_le _⟩ hS hA (fun r28 w29 H locs hw29 hP hS => ?_)
      obtain ⟨x30, rfl⟩ := hw29
      have hP : PP G (xM G x xa ta a b ga ua la lb lc tg gg (upd xf 0 x30) tf f qf gf uf lf mf nf tr r q gr ur lr mr nr) H := hP
      exact wr_iret hx hb hr hlocks hS hP ⟨(f 0), (f 1), (f 2), (f 3), (f 4), (nf 0), (nf 1), (nr 2), (q 0), (q 1), (q 2), (qf 3), (r 6), (r 7), (r 8), (r 9), (r 10), (r 11), (r 12), (r 13), (r 14), x30, (xf 9), rfl, hRB, hN0, hN1, hg9⟩ dX6_give_29
  · have b9 := bF hw3r c5
    refine lv_iconst (v := -1) hx hb dX6_give_12 (by decide) ?_
    exact wr_iret hx hb hr hlocks hS hP ⟨(f 0), (f 1), (f 2), (f 3), (f 4), (nf 0), (nf 1), (nr 2), (q 0), (q 1), (q 2), (qf 3), (r 6), (r 7), (r 8), (r 9), (r 10), (r 11), (r 12), (r 13), (r 14), x4, (xf 9), rfl, hRB, hN0, hN1, hg9⟩ dX6_give_13
set_option maxHeartbeats 4000000 in
set_option maxRecDepth 100000 in
theorem x_isGift (l : Launch) (G : GG) (x : Nat) (xa ta a b ga ua la lb lc : Nat → Nat) (tg gg : Nat → Option Nat) (xf tf f qf gf uf lf mf nf : Nat → Int32) (tr r q gr ur lr mr nr : Nat → Nat → Int32) (kx : Int32) : RdI l yX6_isGift cX6_isGift 2 (some .boolean) ({ frames := 0, cells := 0, slots := 0, locals := 0 }) G (xM G x xa ta a b ga ua la lb lc tg gg xf tf f qf gf uf lf mf nf tr r q gr ur lr mr nr) [.ref x, .int kx] (fun q => ((q = 1 ∧ (inR (xf 9) kx)) ∨ (q = 0 ∧ ¬ (inR (xf 9) kx)))) := by
  refine rd_entry (by decide +kernel) (Nat.le_of_ble_eq_true rfl) ?_
  intro p e s m below meth c C0 hP hK ls hl
  have hS : va_S (fun q => s.heap.size ≤ q) s.heap s.heap [] := va_S.rf
  have hA : ∀ q, s.heap.size ≤ q → (fun q => s.heap.size ≤ q) q := fun _ h => h
  obtain ⟨hx, hb, hml, hown, hts, hr, hlocks, hin⟩ := C0
  have hown : s.vm.findClass RX6 = some m.cls := hown
  have hl : lv_has ls 2 [(0, .ref x), (1, .int kx)] := hl
  refine lv_iload_n hx hb dX6_isGift_0 rfl (lv_at hl 1 rfl) ?_
  refine lv_if_lt (tgt := 16) hx hb dX6_isGift_1 (by decide) (fun c1 => ?_) (fun c1 => ?_)
  · refine lv_iconst (v := 0) hx hb dX6_isGift_16 (by decide) ?_
    exact rd_zret hx hb hr hlocks (Or.inl rfl) hS (Or.inr ⟨rfl, fun h => h.1 c1⟩) dX6_isGift_17
  · refine lv_iload_n hx hb dX6_isGift_4 rfl (lv_at hl 1 rfl) ?_
    refine lv_aload_n hx hb dX6_isGift_5 rfl (lv_at hl 0 rfl) ?_
    refine va_get (D := G.1) (ci := 6) (v := .int (xf 9)) (C := RX6) (T := TX6) (N := 10) hx hb hts inX6 hown hK.1 hP 0 rfl rfl 9 (by decide) (hts _ mf_X6_57) (fun _ h9 => h9) rfl dX6_isGift_6 ?_
    refine lv_icmp_ge (tgt := 16) hx hb dX6_isGift_9 (by decide) (fun c2 => ?_) (fun c2 => ?_)
    · refine lv_iconst (v := 0) hx hb dX6_isGift_16 (by decide) ?_
      exact rd_zret hx hb hr hlocks (Or.inl rfl) hS (Or.inr ⟨rfl, fun h => h.2 c2⟩) dX6_isGift_17
    · refine lv_iconst (v := 1) hx hb dX6_isGift_12 (by decide) ?_
      refine lv_goto (tgt := 17) hx hb dX6_isGift_13 (by decide) ?_
      exact rd_zret hx hb hr hlocks (Or.inr rfl) hS (Or.inl ⟨rfl, c1, c2⟩) dX6_isGift_17
def gfJ (x : Int32) (k : Nat) : Prop := ∀ n, n < 16 → x = nI n → n = k
theorem gf_j {g x : Int32} {k : Nat} (h9 : nL 16 g) (hJ : gfJ x k) (h : inR g x) : k < 16 ∧ x = nI k := by
  obtain ⟨n, hn, rfl⟩ := h9
  obtain ⟨i, hi, e⟩ := inR_n (by omega) h
  have := hJ i (by omega) e
  subst this
  exact ⟨by omega, e⟩
set_option maxHeartbeats 4000000 in
set_option maxRecDepth 100000 in
theorem x_gift (l : Launch) (G : GG) (x : Nat) (xa ta a b ga ua la lb lc : Nat → Nat) (tg gg : Nat → Option Nat) (xf tf f qf gf uf lf mf nf : Nat → Int32) (tr r q gr ur lr mr nr : Nat → Nat → Int32) (kx : Int32) (row : Int32) (col : Int32) (gk : Nat) (hg9 : nL 16 (xf 9)) (hgJ : gfJ kx gk) (hgk : gk < 16 → gg gk = some (lc 0)) (hN0 : nL 12 (nf 0)) (hN1 : nL 12 (nf 1)) : RdI l yX6_gift cX6_gift 4 (some .int) ({ frames := 2, cells := 0, slots := 0, locals := 44 }) G (xM G x xa ta a b ga ua la lb lc tg gg xf tf f qf gf uf lf mf nf tr r q gr ur lr mr nr) [.ref x, .int kx, .int row, .int col] (fun q => True) := by
  refine rd_entry (by decide +kernel) (Nat.le_of_ble_eq_true rfl) ?_
  intro p e s m below meth c C0 hP hK ls hl
  have hS : va_S (fun q => s.heap.size ≤ q) s.heap s.heap [] := va_S.rf
  have hA : ∀ q, s.heap.size ≤ q → (fun q => s.heap.size ≤ q) q := fun _ h => h
  obtain ⟨hx, hb, hml, hown, hts, hr, hlocks, hin⟩ := C0
  have hown : s.vm.findClass RX6 = some m.cls := hown
  have hl : lv_has ls 4 [(0, .ref x), (1, .int kx), (2, .int row), (3, .int col)] := hl
  refine lv_aload_n hx hb dX6_gift_0 rfl (lv_at hl 0 rfl) ?_
  refine lv_iload_n hx hb dX6_gift_1 rfl (lv_at hl 1 rfl) ?_
  refine rdV (rest := []) (q0 := 0) ⟨hx, hb, hml, hown, hts⟩ (x_isGift l G x xa ta a b ga ua la lb lc tg gg xf tf f qf gf uf lf mf nf tr r q gr ur lr mr nr kx  ) mi_yX6_isGift mv_yX6_isGift ml_X6_242 ⟨rfl, rfl, Nat.le_of_ble_eq_true rfl, Nat.le_of_ble_eq_true rfl⟩ hK (hP) rfl rfl rfl hl.1 rfl (Nat.le_of_ble_eq_true rfl) dX6_gift_2 ⟨Nat.zero_le _, Nat.zero_le _⟩ hS hA hP (fun r1 H locs hr1 hP hS => ?_)
  have hr1 : ((r1 = 1 ∧ (inR (xf 9) kx)) ∨ (r1 = 0 ∧ ¬ (inR (xf 9) kx))) := hr1
  refine lv_if_eq (tgt := 22) hx hb dX6_gift_5 (by decide) (fun c2 => ?_) (fun c2 => ?_)
  · have b5 := bF hr1 c2
    refine lv_iconst (v := -1) hx hb dX6_gift_22 (by decide) ?_
    exact rd_iret hx hb hr hlocks hS (trivial) dX6_gift_23
  · have b5 := bT hr1 c2
    obtain ⟨hk16, ekx⟩ := gf_j hg9 hgJ b5
    subst ekx
    refine lv_aload_n hx hb dX6_gift_8 rfl (lv_at hl 0 rfl) ?_
    refine va_get (D := G.1) (ci := 6) (v := .ref (xa 8)) (C := RX6) (T := TX6) (N := 10) hx hb hts inX6 hown hK.1 hP 0 rfl rfl 8 (by decide) (hts _ mf_X6_53) (fun _ h9 => h9) rfl dX6_gift_9 ?_
    refine lv_iload_n hx hb dX6_gift_12 rfl (lv_at hl 1 rfl) ?_
    refine xaldL hx hb hK hP 46 (gk) (b := (lc 0)) rfl (by omega) (by decide) rfl (hgk (by omega)) dX6_gift_13 ?_
    refine lv_iload_n hx hb dX6_gift_14 rfl (lv_at hl 2 rfl) ?_
    refine lv_iload_n hx hb dX6_gift_15 rfl (lv_at hl 3 rfl) ?_
    obtain ⟨k0, hk0, ek0⟩ := hN0
    obtain ⟨k1, hk1, ek1⟩ := hN1
    have hN0 : nL 12 (nf 0) := ⟨k0, hk0, ek0⟩
    have hN1 : nL 12 (nf 1) := ⟨k1, hk1, ek1⟩
    refine rdV (rest := []) (q0 := 0) ⟨hx, hb, hml, hown, hts⟩ (c_X1_at l G lc (nr 2) k0 k1 hk0 hk1 row col) mi_yX1_at mv_yX1_at ml_X6_206 ⟨rfl, rfl, Nat.le_of_ble_eq_true rfl, Nat.le_of_ble_eq_true rfl⟩ hK (leaf_w (hP.sub (ws' := lW G lc (nf 0) (nf 1) (nr 2)) [47, 48] rfl) ek0 ek1) rfl rfl rfl hl.1 rfl (Nat.le_of_ble_eq_true rfl) dX6_gift_16 ⟨Nat.zero_le _, Nat.zero_le _⟩ hS hA hP (fun r3 H locs hr3 hP hS => ?_)
    refine lv_goto (tgt := 23) hx hb dX6_gift_19 (by decide) ?_
    exact rd_iret hx hb hr hlocks hS (trivial) dX6_gift_23
abbrev aM (G : GG) (x : Nat) (xa a ga ua la lb lc ld : Nat → Nat) (gg : Nat → Option Nat) (xf nf wf : Nat → Int32) (nr wr : Nat → Nat → Int32) : va_W := [(x, .inr (6, [.int (xf 0), .ref (xa 1), .ref (a 15), .ref (ga 9), .ref (ua 0), .ref (la 0), .ref (lb 0), .int (xf 7), .ref (xa 8), .int (xf 9)])), ((xa 8), .inl (G.2.2.2.2, 16, .inr (.inr (.inr (.inr gg))))), ((lc 0), .inr (1, [.int (nf 0), .int (nf 1), .ref (lc 1)])), ((lc 1), .inl (G.2.1, 144, .inl (nr 2))), ((ld 0), .inr (1, [.int (wf 0), .int (wf 1), .ref (ld 1)])), ((ld 1), .inl (G.2.1, 144, .inl (wr 2)))]
set_option maxHeartbeats 4000000 in
set_option maxRecDepth 100000 in
theorem x_isGiftA (l : Launch) (G : GG) (x : Nat) (xa a ga ua la lb lc ld : Nat → Nat) (gg : Nat → Option Nat) (xf nf wf : Nat → Int32) (nr wr : Nat → Nat → Int32) (kx : Int32) : RdI l yX6_isGift cX6_isGift 2 (some .boolean) ({ frames := 0, cells := 0, slots := 0, locals := 0 }) G (aM G x xa a ga ua la lb lc ld gg xf nf wf nr wr) [.ref x, .int kx] (fun q => ((q = 1 ∧ (inR (xf 9) kx)) ∨ (q = 0 ∧ ¬ (inR (xf 9) kx)))) := by
  refine rd_entry (by decide +kernel) (Nat.le_of_ble_eq_true rfl) ?_
  intro p e s m below meth c C0 hP hK ls hl
  have hS : va_S (fun q => s.heap.size ≤ q) s.heap s.heap [] := va_S.rf
  have hA : ∀ q, s.heap.size ≤ q → (fun q => s.heap.size ≤ q) q := fun _ h => h
  obtain ⟨hx, hb, hml, hown, hts, hr, hlocks, hin⟩ := C0
  have hown : s.vm.findClass RX6 = some m.cls := hown
  have hl : lv_has ls 2 [(0, .ref x), (1, .int kx)] := hl
  refine lv_iload_n hx hb dX6_isGift_0 rfl (lv_at hl 1 rfl) ?_
  refine lv_if_lt (tgt := 16) hx hb dX6_isGift_1 (by decide) (fun c1 => ?_) (fun c1 => ?_)
  · refine lv_iconst (v := 0) hx hb dX6_isGift_16 (by decide) ?_
    exact rd_zret hx hb hr hlocks (Or.inl rfl) hS (Or.inr ⟨rfl, fun h => h.1 c1⟩) dX6_isGift_17
  · refine lv_iload_n hx hb dX6_isGift_4 rfl (lv_at hl 1 rfl) ?_
    refine lv_aload_n hx hb dX6_isGift_5 rfl (lv_at hl 0 rfl) ?_
    refine va_get (D := G.1) (ci := 6) (v := .int (xf 9)) (C := RX6) (T := TX6) (N := 10) hx hb hts inX6 hown hK.1 hP 0 rfl rfl 9 (by decide) (hts _ mf_X6_57) (fun _ h9 => h9) rfl dX6_isGift_6 ?_
    refine lv_icmp_ge (tgt := 16) hx hb dX6_isGift_9 (by decide) (fun c2 => ?_) (fun c2 => ?_)
    · refine lv_iconst (v := 0) hx hb dX6_isGift_16 (by decide) ?_
      exact rd_zret hx hb hr hlocks (Or.inl rfl) hS (Or.inr ⟨rfl, fun h => h.2 c2⟩) dX6_isGift_17
    · refine lv_iconst (v := 1) hx hb dX6_isGift_12 (by decide) ?_
      refine lv_goto (tgt := 17) hx hb dX6_isGift_13 (by decide) ?_
      exact rd_zret hx hb hr hlocks (Or.inr rfl) hS (Or.inl ⟨rfl, c1, c2⟩) dX6_isGift_17
set_option maxHeartbeats 4000000 in
set_option maxRecDepth 100000 in
theorem x_agree (l : Launch) (G : GG) (x : Nat) (xa a ga ua la lb lc ld : Nat → Nat) (gg : Nat → Option Nat) (xf nf wf : Nat → Int32) (nr wr : Nat → Nat → Int32) (xa_ : Int32) (xb_ : Int32) (ka : Nat) (kb : Nat) (hg9 : nL 16 (xf 9)) (hJa : gfJ xa_ ka) (hJb : gfJ xb_ kb) (hka : ka < 16 → gg ka = some (lc 0)) (hkb : kb < 16 → gg kb = some (ld 0)) (hN0 : nL 12 (nf 0)) (hN1 : nL 12 (nf 1)) (hO0 : nL 12 (wf 0)) (hO1 : nL 12 (wf 1)) : RdI l yX6_agree cX6_agree 3 (some .int) ({ frames := 2, cells := 0, slots := 0, locals := 48 }) G (aM G x xa a ga ua la lb lc ld gg xf nf wf nr wr) [.ref x, .int xa_, .int xb_] (fun q => True) := by
  refine rd_entry (by decide +kernel) (Nat.le_of_ble_eq_true rfl) ?_
  intro p e s m below meth c C0 hP hK ls hl
  have hS : va_S (fun q => s.heap.size ≤ q) s.heap s.heap [] := va_S.rf
  have hA : ∀ q, s.heap.size ≤ q → (fun q => s.heap.size ≤ q) q := fun _ h => h
  obtain ⟨hx, hb, hml, hown, hts, hr, hlocks, hin⟩ := C0
  have hown : s.vm.findClass RX6 = some m.cls := hown
  have hl : lv_has ls 3 [(0, .ref x), (1, .int xa_), (2, .int xb_)] := hl
  refine lv_aload_n hx hb dX6_agree_0 rfl (lv_at hl 0 rfl) ?_
  refine lv_iload_n hx hb dX6_agree_1 rfl (lv_at hl 1 rfl) ?_
  refine rdV (rest := []) (q0 := 0) ⟨hx, hb, hml, hown, hts⟩ (x_isGiftA l G x xa a ga ua la lb lc ld gg xf nf wf nr wr xa_  ) mi_yX6_isGift mv_yX6_isGift ml_X6_242 ⟨rfl, rfl, Nat.le_of_ble_eq_true rfl, Nat.le_of_ble_eq_true rfl⟩ hK (hP) rfl rfl rfl hl.1 rfl (Nat.le_of_ble_eq_true rfl) dX6_agree_2 ⟨Nat.zero_le _, Nat.zero_le _⟩ hS hA hP (fun r1 H locs hr1 hP hS => ?_)
  have hr1 : ((r1 = 1 ∧ (inR (xf 9) xa_)) ∨ (r1 = 0 ∧ ¬ (inR (xf 9) xa_))) := hr1
  refine lv_if_eq (tgt := 34) hx hb dX6_agree_5 (by decide) (fun c2 => ?_) (fun c2 => ?_)
  · have b5 := bF hr1 c2
    refine lv_iconst (v := -1) hx hb dX6_agree_34 (by decide) ?_
    exact rd_iret hx hb hr hlocks hS (trivial) dX6_agree_35
  · have b5 := bT hr1 c2
    obtain ⟨hka16, eka⟩ := gf_j hg9 hJa b5
    subst eka
    refine lv_aload_n hx hb dX6_agree_8 rfl (lv_at hl 0 rfl) ?_
    refine lv_iload_n hx hb dX6_agree_9 rfl (lv_at hl 2 rfl) ?_
    refine rdV (rest := []) (q0 := 0) ⟨hx, hb, hml, hown, hts⟩ (x_isGiftA l G x xa a ga ua la lb lc ld gg xf nf wf nr wr xb_  ) mi_yX6_isGift mv_yX6_isGift ml_X6_242 ⟨rfl, rfl, Nat.le_of_ble_eq_true rfl, Nat.le_of_ble_eq_true rfl⟩ hK (hP) rfl rfl rfl hl.1 rfl (Nat.le_of_ble_eq_true rfl) dX6_agree_10 ⟨Nat.zero_le _, Nat.zero_le _⟩ hS hA hP (fun r3 H locs hr3 hP hS => ?_)
    have hr3 : ((r3 = 1 ∧ (inR (xf 9) xb_)) ∨ (r3 = 0 ∧ ¬ (inR (xf 9) xb_))) := hr3
    refine lv_if_eq (tgt := 34) hx hb dX6_agree_13 (by decide) (fun c4 => ?_) (fun c4 => ?_)
    · have b13 := bF hr3 c4
      refine lv_iconst (v := -1) hx hb dX6_agree_34 (by decide) ?_
      exact rd_iret hx hb hr hlocks hS (trivial) dX6_agree_35
    · have b13 := bT hr3 c4
      obtain ⟨hkb16, ekb⟩ := gf_j hg9 hJb b13
      subst ekb
      refine lv_aload_n hx hb dX6_agree_16 rfl (lv_at hl 0 rfl) ?_
      refine va_get (D := G.1) (ci := 6) (v := .ref (xa 8)) (C := RX6) (T := TX6) (N := 10) hx hb hts inX6 hown hK.1 hP 0 rfl rfl 8 (by decide) (hts _ mf_X6_53) (fun _ h9 => h9) rfl dX6_agree_17 ?_
      refine lv_iload_n hx hb dX6_agree_20 rfl (lv_at hl 1 rfl) ?_
      refine xaldL hx hb hK hP 1 (ka) (b := (lc 0)) rfl (by omega) (by decide) rfl (hka hka16) dX6_agree_21 ?_
      refine lv_aload_n hx hb dX6_agree_22 rfl (lv_at hl 0 rfl) ?_
      refine va_get (D := G.1) (ci := 6) (v := .ref (xa 8)) (C := RX6) (T := TX6) (N := 10) hx hb hts inX6 hown hK.1 hP 0 rfl rfl 8 (by decide) (hts _ mf_X6_53) (fun _ h9 => h9) rfl dX6_agree_23 ?_
      refine lv_iload_n hx hb dX6_agree_26 rfl (lv_at hl 2 rfl) ?_
      refine xaldL hx hb hK hP 1 (kb) (b := (ld 0)) rfl (by omega) (by decide) rfl (hkb hkb16) dX6_agree_27 ?_
      refine rdV (rest := []) (q0 := 0) ⟨hx, hb, hml, hown, hts⟩ (c_X1_firstUnlike l G lc ld nf wf nr wr hN0 hN1 hO0 hO1) mi_yX1_firstUnlike mv_yX1_firstUnlike ml_X6_245 ⟨rfl, rfl, Nat.le_of_ble_eq_true rfl, Nat.le_of_ble_eq_true rfl⟩ hK (hP.sub (ws' := l2M G lc ld nf wf nr wr) [2, 3, 4, 5] rfl) rfl rfl rfl hl.1 rfl (Nat.le_of_ble_eq_true rfl) dX6_agree_28 ⟨Nat.zero_le _, Nat.zero_le _⟩ hS hA hP (fun r5 H locs hr5 hP hS => ?_)
      refine lv_goto (tgt := 35) hx hb dX6_agree_31 (by decide) ?_
      exact rd_iret hx hb hr hlocks hS (trivial) dX6_agree_35
