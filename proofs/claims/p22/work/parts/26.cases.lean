theorem ml_L_13 : Cond.methodLink RL 13 yX6_status ∈ TB := TB_t2 53 rfl rfl
theorem mcode_yX6_status : Cond.code yX6_status cX6_status 1 (some .int) ∈ TB := TB_t2 56 rfl rfl
theorem mi_yX6_status : MI yX6_status cX6_status 1 (some .int) 0 := ⟨mz_RX6, mcode_yX6_status, by decide +kernel, by decide +kernel, by decide +kernel⟩
theorem mim_yX6_status : Cond.instanceMethod yX6_status ∈ TB := TB_t2 54 rfl rfl
theorem msel_yX6_status : Cond.selects yX6_status.cls yX6_status yX6_status ∈ TB := TB_t2 55 rfl rfl
theorem mv_yX6_status : Cond.instanceMethod yX6_status ∈ TB ∧ Cond.selects yX6_status.cls yX6_status yX6_status ∈ TB := ⟨mim_yX6_status, msel_yX6_status⟩
theorem ml_L_17 : Cond.methodLink RL 17 yX7_status ∈ TB := TB_t4 230 rfl rfl
theorem mcode_yX7_status : Cond.code yX7_status cX7_status 1 (some .int) ∈ TB := TB_t4 233 rfl rfl
theorem mi_yX7_status : MI yX7_status cX7_status 1 (some .int) 0 := ⟨mz_RX7, mcode_yX7_status, by decide +kernel, by decide +kernel, by decide +kernel⟩
theorem mim_yX7_status : Cond.instanceMethod yX7_status ∈ TB := TB_t4 231 rfl rfl
theorem msel_yX7_status : Cond.selects yX7_status.cls yX7_status yX7_status ∈ TB := TB_t4 232 rfl rfl
theorem mv_yX7_status : Cond.instanceMethod yX7_status ∈ TB ∧ Cond.selects yX7_status.cls yX7_status yX7_status ∈ TB := ⟨mim_yX7_status, msel_yX7_status⟩
theorem ml_L_18 : Cond.methodLink RL 18 yX6_open ∈ TB := TB_t2 57 rfl rfl
theorem mcode_yX6_open : Cond.code yX6_open cX6_open 4 (some .boolean) ∈ TB := TB_t2 60 rfl rfl
theorem mi_yX6_open : MI yX6_open cX6_open 4 (some .boolean) 3 := ⟨mz_RX6, mcode_yX6_open, by decide +kernel, by decide +kernel, by decide +kernel⟩
theorem mim_yX6_open : Cond.instanceMethod yX6_open ∈ TB := TB_t2 58 rfl rfl
theorem msel_yX6_open : Cond.selects yX6_open.cls yX6_open yX6_open ∈ TB := TB_t2 59 rfl rfl
theorem mv_yX6_open : Cond.instanceMethod yX6_open ∈ TB ∧ Cond.selects yX6_open.cls yX6_open yX6_open ∈ TB := ⟨mim_yX6_open, msel_yX6_open⟩
theorem ml_L_22 : Cond.methodLink RL 22 yX7_open ∈ TB := TB_t4 234 rfl rfl
theorem mcode_yX7_open : Cond.code yX7_open cX7_open 5 (some .boolean) ∈ TB := TB_t4 237 rfl rfl
theorem mi_yX7_open : MI yX7_open cX7_open 5 (some .boolean) 3 := ⟨mz_RX7, mcode_yX7_open, by decide +kernel, by decide +kernel, by decide +kernel⟩
theorem mim_yX7_open : Cond.instanceMethod yX7_open ∈ TB := TB_t4 235 rfl rfl
theorem msel_yX7_open : Cond.selects yX7_open.cls yX7_open yX7_open ∈ TB := TB_t4 236 rfl rfl
theorem mv_yX7_open : Cond.instanceMethod yX7_open ∈ TB ∧ Cond.selects yX7_open.cls yX7_open yX7_open ∈ TB := ⟨mim_yX7_open, msel_yX7_open⟩
theorem ml_L_23 : Cond.methodLink RL 23 yX6_close ∈ TB := TB_t2 82 rfl rfl
theorem mcode_yX6_close : Cond.code yX6_close cX6_close 2 (some .boolean) ∈ TB := TB_t2 85 rfl rfl
theorem mi_yX6_close : MI yX6_close cX6_close 2 (some .boolean) 1 := ⟨mz_RX6, mcode_yX6_close, by decide +kernel, by decide +kernel, by decide +kernel⟩
theorem mim_yX6_close : Cond.instanceMethod yX6_close ∈ TB := TB_t2 83 rfl rfl
theorem msel_yX6_close : Cond.selects yX6_close.cls yX6_close yX6_close ∈ TB := TB_t2 84 rfl rfl
theorem mv_yX6_close : Cond.instanceMethod yX6_close ∈ TB ∧ Cond.selects yX6_close.cls yX6_close yX6_close ∈ TB := ⟨mim_yX6_close, msel_yX6_close⟩
theorem ml_L_27 : Cond.methodLink RL 27 yX7_close ∈ TB := TB_t5 10 rfl rfl
theorem mcode_yX7_close : Cond.code yX7_close cX7_close 2 (some .boolean) ∈ TB := TB_t5 13 rfl rfl
theorem mi_yX7_close : MI yX7_close cX7_close 2 (some .boolean) 1 := ⟨mz_RX7, mcode_yX7_close, by decide +kernel, by decide +kernel, by decide +kernel⟩
theorem mim_yX7_close : Cond.instanceMethod yX7_close ∈ TB := TB_t5 11 rfl rfl
theorem msel_yX7_close : Cond.selects yX7_close.cls yX7_close yX7_close ∈ TB := TB_t5 12 rfl rfl
theorem mv_yX7_close : Cond.instanceMethod yX7_close ∈ TB ∧ Cond.selects yX7_close.cls yX7_close yX7_close ∈ TB := ⟨mim_yX7_close, msel_yX7_close⟩
theorem ml_L_28 : Cond.methodLink RL 28 yX6_rule ∈ TB := TB_t2 90 rfl rfl
theorem mcode_yX6_rule : Cond.code yX6_rule cX6_rule 4 (some .boolean) ∈ TB := TB_t2 93 rfl rfl
theorem mi_yX6_rule : MI yX6_rule cX6_rule 4 (some .boolean) 3 := ⟨mz_RX6, mcode_yX6_rule, by decide +kernel, by decide +kernel, by decide +kernel⟩
theorem mim_yX6_rule : Cond.instanceMethod yX6_rule ∈ TB := TB_t2 91 rfl rfl
theorem msel_yX6_rule : Cond.selects yX6_rule.cls yX6_rule yX6_rule ∈ TB := TB_t2 92 rfl rfl
theorem mv_yX6_rule : Cond.instanceMethod yX6_rule ∈ TB ∧ Cond.selects yX6_rule.cls yX6_rule yX6_rule ∈ TB := ⟨mim_yX6_rule, msel_yX6_rule⟩
theorem ml_L_31 : Cond.methodLink RL 31 yX7_rule ∈ TB := TB_t5 18 rfl rfl
theorem mcode_yX7_rule : Cond.code yX7_rule cX7_rule 5 (some .boolean) ∈ TB := TB_t5 21 rfl rfl
theorem mi_yX7_rule : MI yX7_rule cX7_rule 5 (some .boolean) 3 := ⟨mz_RX7, mcode_yX7_rule, by decide +kernel, by decide +kernel, by decide +kernel⟩
theorem mim_yX7_rule : Cond.instanceMethod yX7_rule ∈ TB := TB_t5 19 rfl rfl
theorem msel_yX7_rule : Cond.selects yX7_rule.cls yX7_rule yX7_rule ∈ TB := TB_t5 20 rfl rfl
theorem mv_yX7_rule : Cond.instanceMethod yX7_rule ∈ TB ∧ Cond.selects yX7_rule.cls yX7_rule yX7_rule ∈ TB := ⟨mim_yX7_rule, msel_yX7_rule⟩
theorem ml_L_32 : Cond.methodLink RL 32 yX6_cell ∈ TB := TB_t2 96 rfl rfl
theorem mcode_yX6_cell : Cond.code yX6_cell cX6_cell 6 (some .boolean) ∈ TB := TB_t2 99 rfl rfl
theorem mi_yX6_cell : MI yX6_cell cX6_cell 6 (some .boolean) 5 := ⟨mz_RX6, mcode_yX6_cell, by decide +kernel, by decide +kernel, by decide +kernel⟩
theorem mim_yX6_cell : Cond.instanceMethod yX6_cell ∈ TB := TB_t2 97 rfl rfl
theorem msel_yX6_cell : Cond.selects yX6_cell.cls yX6_cell yX6_cell ∈ TB := TB_t2 98 rfl rfl
theorem mv_yX6_cell : Cond.instanceMethod yX6_cell ∈ TB ∧ Cond.selects yX6_cell.cls yX6_cell yX6_cell ∈ TB := ⟨mim_yX6_cell, msel_yX6_cell⟩
theorem ml_L_36 : Cond.methodLink RL 36 yX7_cell ∈ TB := TB_t5 23 rfl rfl
theorem mcode_yX7_cell : Cond.code yX7_cell cX7_cell 10 (some .boolean) ∈ TB := TB_t5 26 rfl rfl
theorem mi_yX7_cell : MI yX7_cell cX7_cell 10 (some .boolean) 5 := ⟨mz_RX7, mcode_yX7_cell, by decide +kernel, by decide +kernel, by decide +kernel⟩
theorem mim_yX7_cell : Cond.instanceMethod yX7_cell ∈ TB := TB_t5 24 rfl rfl
theorem msel_yX7_cell : Cond.selects yX7_cell.cls yX7_cell yX7_cell ∈ TB := TB_t5 25 rfl rfl
theorem mv_yX7_cell : Cond.instanceMethod yX7_cell ∈ TB ∧ Cond.selects yX7_cell.cls yX7_cell yX7_cell ∈ TB := ⟨mim_yX7_cell, msel_yX7_cell⟩
theorem ml_L_37 : Cond.methodLink RL 37 yX6_giver ∈ TB := TB_t2 114 rfl rfl
theorem mcode_yX6_giver : Cond.code yX6_giver cX6_giver 5 (some .boolean) ∈ TB := TB_t2 117 rfl rfl
theorem mi_yX6_giver : MI yX6_giver cX6_giver 5 (some .boolean) 4 := ⟨mz_RX6, mcode_yX6_giver, by decide +kernel, by decide +kernel, by decide +kernel⟩
theorem mim_yX6_giver : Cond.instanceMethod yX6_giver ∈ TB := TB_t2 115 rfl rfl
theorem msel_yX6_giver : Cond.selects yX6_giver.cls yX6_giver yX6_giver ∈ TB := TB_t2 116 rfl rfl
theorem mv_yX6_giver : Cond.instanceMethod yX6_giver ∈ TB ∧ Cond.selects yX6_giver.cls yX6_giver yX6_giver ∈ TB := ⟨mim_yX6_giver, msel_yX6_giver⟩
theorem ml_L_41 : Cond.methodLink RL 41 yX7_giver ∈ TB := TB_t5 42 rfl rfl
theorem mcode_yX7_giver : Cond.code yX7_giver cX7_giver 7 (some .boolean) ∈ TB := TB_t5 45 rfl rfl
theorem mi_yX7_giver : MI yX7_giver cX7_giver 7 (some .boolean) 4 := ⟨mz_RX7, mcode_yX7_giver, by decide +kernel, by decide +kernel, by decide +kernel⟩
theorem mim_yX7_giver : Cond.instanceMethod yX7_giver ∈ TB := TB_t5 43 rfl rfl
theorem msel_yX7_giver : Cond.selects yX7_giver.cls yX7_giver yX7_giver ∈ TB := TB_t5 44 rfl rfl
theorem mv_yX7_giver : Cond.instanceMethod yX7_giver ∈ TB ∧ Cond.selects yX7_giver.cls yX7_giver yX7_giver ∈ TB := ⟨mim_yX7_giver, msel_yX7_giver⟩
theorem ml_L_42 : Cond.methodLink RL 42 yX6_clear ∈ TB := TB_t2 135 rfl rfl
theorem mcode_yX6_clear : Cond.code yX6_clear cX6_clear 4 (some .boolean) ∈ TB := TB_t2 138 rfl rfl
theorem mi_yX6_clear : MI yX6_clear cX6_clear 4 (some .boolean) 3 := ⟨mz_RX6, mcode_yX6_clear, by decide +kernel, by decide +kernel, by decide +kernel⟩
theorem mim_yX6_clear : Cond.instanceMethod yX6_clear ∈ TB := TB_t2 136 rfl rfl
theorem msel_yX6_clear : Cond.selects yX6_clear.cls yX6_clear yX6_clear ∈ TB := TB_t2 137 rfl rfl
theorem mv_yX6_clear : Cond.instanceMethod yX6_clear ∈ TB ∧ Cond.selects yX6_clear.cls yX6_clear yX6_clear ∈ TB := ⟨mim_yX6_clear, msel_yX6_clear⟩
theorem ml_L_45 : Cond.methodLink RL 45 yX7_clear ∈ TB := TB_t5 47 rfl rfl
theorem mcode_yX7_clear : Cond.code yX7_clear cX7_clear 6 (some .boolean) ∈ TB := TB_t5 50 rfl rfl
theorem mi_yX7_clear : MI yX7_clear cX7_clear 6 (some .boolean) 3 := ⟨mz_RX7, mcode_yX7_clear, by decide +kernel, by decide +kernel, by decide +kernel⟩
theorem mim_yX7_clear : Cond.instanceMethod yX7_clear ∈ TB := TB_t5 48 rfl rfl
theorem msel_yX7_clear : Cond.selects yX7_clear.cls yX7_clear yX7_clear ∈ TB := TB_t5 49 rfl rfl
theorem mv_yX7_clear : Cond.instanceMethod yX7_clear ∈ TB ∧ Cond.selects yX7_clear.cls yX7_clear yX7_clear ∈ TB := ⟨mim_yX7_clear, msel_yX7_clear⟩
theorem ml_L_46 : Cond.methodLink RL 46 yX6_tear ∈ TB := TB_t2 139 rfl rfl
theorem mcode_yX6_tear : Cond.code yX6_tear cX6_tear 5 (some .boolean) ∈ TB := TB_t2 142 rfl rfl
theorem mi_yX6_tear : MI yX6_tear cX6_tear 5 (some .boolean) 3 := ⟨mz_RX6, mcode_yX6_tear, by decide +kernel, by decide +kernel, by decide +kernel⟩
theorem mim_yX6_tear : Cond.instanceMethod yX6_tear ∈ TB := TB_t2 140 rfl rfl
theorem msel_yX6_tear : Cond.selects yX6_tear.cls yX6_tear yX6_tear ∈ TB := TB_t2 141 rfl rfl
theorem mv_yX6_tear : Cond.instanceMethod yX6_tear ∈ TB ∧ Cond.selects yX6_tear.cls yX6_tear yX6_tear ∈ TB := ⟨mim_yX6_tear, msel_yX6_tear⟩
theorem ml_L_49 : Cond.methodLink RL 49 yX7_tear ∈ TB := TB_t5 51 rfl rfl
theorem mcode_yX7_tear : Cond.code yX7_tear cX7_tear 6 (some .boolean) ∈ TB := TB_t5 54 rfl rfl
theorem mi_yX7_tear : MI yX7_tear cX7_tear 6 (some .boolean) 3 := ⟨mz_RX7, mcode_yX7_tear, by decide +kernel, by decide +kernel, by decide +kernel⟩
theorem mim_yX7_tear : Cond.instanceMethod yX7_tear ∈ TB := TB_t5 52 rfl rfl
theorem msel_yX7_tear : Cond.selects yX7_tear.cls yX7_tear yX7_tear ∈ TB := TB_t5 53 rfl rfl
theorem mv_yX7_tear : Cond.instanceMethod yX7_tear ∈ TB ∧ Cond.selects yX7_tear.cls yX7_tear yX7_tear ∈ TB := ⟨mim_yX7_tear, msel_yX7_tear⟩
theorem ml_L_50 : Cond.methodLink RL 50 yX6_block ∈ TB := TB_t2 147 rfl rfl
theorem mcode_yX6_block : Cond.code yX6_block cX6_block 5 (some .int) ∈ TB := TB_t2 150 rfl rfl
theorem mi_yX6_block : MI yX6_block cX6_block 5 (some .int) 3 := ⟨mz_RX6, mcode_yX6_block, by decide +kernel, by decide +kernel, by decide +kernel⟩
theorem mim_yX6_block : Cond.instanceMethod yX6_block ∈ TB := TB_t2 148 rfl rfl
theorem msel_yX6_block : Cond.selects yX6_block.cls yX6_block yX6_block ∈ TB := TB_t2 149 rfl rfl
theorem mv_yX6_block : Cond.instanceMethod yX6_block ∈ TB ∧ Cond.selects yX6_block.cls yX6_block yX6_block ∈ TB := ⟨mim_yX6_block, msel_yX6_block⟩
theorem ml_L_54 : Cond.methodLink RL 54 yX7_block ∈ TB := TB_t5 55 rfl rfl
theorem mcode_yX7_block : Cond.code yX7_block cX7_block 6 (some .int) ∈ TB := TB_t5 58 rfl rfl
theorem mi_yX7_block : MI yX7_block cX7_block 6 (some .int) 3 := ⟨mz_RX7, mcode_yX7_block, by decide +kernel, by decide +kernel, by decide +kernel⟩
theorem mim_yX7_block : Cond.instanceMethod yX7_block ∈ TB := TB_t5 56 rfl rfl
theorem msel_yX7_block : Cond.selects yX7_block.cls yX7_block yX7_block ∈ TB := TB_t5 57 rfl rfl
theorem mv_yX7_block : Cond.instanceMethod yX7_block ∈ TB ∧ Cond.selects yX7_block.cls yX7_block yX7_block ∈ TB := ⟨mim_yX7_block, msel_yX7_block⟩
theorem ml_L_55 : Cond.methodLink RL 55 yX6_kind ∈ TB := TB_t2 163 rfl rfl
theorem mcode_yX6_kind : Cond.code yX6_kind cX6_kind 4 (some .int) ∈ TB := TB_t2 166 rfl rfl
theorem mi_yX6_kind : MI yX6_kind cX6_kind 4 (some .int) 3 := ⟨mz_RX6, mcode_yX6_kind, by decide +kernel, by decide +kernel, by decide +kernel⟩
theorem mim_yX6_kind : Cond.instanceMethod yX6_kind ∈ TB := TB_t2 164 rfl rfl
theorem msel_yX6_kind : Cond.selects yX6_kind.cls yX6_kind yX6_kind ∈ TB := TB_t2 165 rfl rfl
theorem mv_yX6_kind : Cond.instanceMethod yX6_kind ∈ TB ∧ Cond.selects yX6_kind.cls yX6_kind yX6_kind ∈ TB := ⟨mim_yX6_kind, msel_yX6_kind⟩
theorem ml_L_58 : Cond.methodLink RL 58 yX7_kind ∈ TB := TB_t5 63 rfl rfl
theorem mcode_yX7_kind : Cond.code yX7_kind cX7_kind 4 (some .int) ∈ TB := TB_t5 66 rfl rfl
theorem mi_yX7_kind : MI yX7_kind cX7_kind 4 (some .int) 3 := ⟨mz_RX7, mcode_yX7_kind, by decide +kernel, by decide +kernel, by decide +kernel⟩
theorem mim_yX7_kind : Cond.instanceMethod yX7_kind ∈ TB := TB_t5 64 rfl rfl
theorem msel_yX7_kind : Cond.selects yX7_kind.cls yX7_kind yX7_kind ∈ TB := TB_t5 65 rfl rfl
theorem mv_yX7_kind : Cond.instanceMethod yX7_kind ∈ TB ∧ Cond.selects yX7_kind.cls yX7_kind yX7_kind ∈ TB := ⟨mim_yX7_kind, msel_yX7_kind⟩
theorem ml_L_59 : Cond.methodLink RL 59 yX6_number ∈ TB := TB_t2 167 rfl rfl
theorem mcode_yX6_number : Cond.code yX6_number cX6_number 4 (some .int) ∈ TB := TB_t2 170 rfl rfl
theorem mi_yX6_number : MI yX6_number cX6_number 4 (some .int) 3 := ⟨mz_RX6, mcode_yX6_number, by decide +kernel, by decide +kernel, by decide +kernel⟩
theorem mim_yX6_number : Cond.instanceMethod yX6_number ∈ TB := TB_t2 168 rfl rfl
theorem msel_yX6_number : Cond.selects yX6_number.cls yX6_number yX6_number ∈ TB := TB_t2 169 rfl rfl
theorem mv_yX6_number : Cond.instanceMethod yX6_number ∈ TB ∧ Cond.selects yX6_number.cls yX6_number yX6_number ∈ TB := ⟨mim_yX6_number, msel_yX6_number⟩
theorem ml_L_62 : Cond.methodLink RL 62 yX7_number ∈ TB := TB_t5 67 rfl rfl
theorem mcode_yX7_number : Cond.code yX7_number cX7_number 4 (some .int) ∈ TB := TB_t5 70 rfl rfl
theorem mi_yX7_number : MI yX7_number cX7_number 4 (some .int) 3 := ⟨mz_RX7, mcode_yX7_number, by decide +kernel, by decide +kernel, by decide +kernel⟩
theorem mim_yX7_number : Cond.instanceMethod yX7_number ∈ TB := TB_t5 68 rfl rfl
theorem msel_yX7_number : Cond.selects yX7_number.cls yX7_number yX7_number ∈ TB := TB_t5 69 rfl rfl
theorem mv_yX7_number : Cond.instanceMethod yX7_number ∈ TB ∧ Cond.selects yX7_number.cls yX7_number yX7_number ∈ TB := ⟨mim_yX7_number, msel_yX7_number⟩
theorem ml_L_63 : Cond.methodLink RL 63 yX6_givers ∈ TB := TB_t2 171 rfl rfl
theorem mcode_yX6_givers : Cond.code yX6_givers cX6_givers 4 (some .int) ∈ TB := TB_t2 174 rfl rfl
theorem mi_yX6_givers : MI yX6_givers cX6_givers 4 (some .int) 3 := ⟨mz_RX6, mcode_yX6_givers, by decide +kernel, by decide +kernel, by decide +kernel⟩
theorem mim_yX6_givers : Cond.instanceMethod yX6_givers ∈ TB := TB_t2 172 rfl rfl
theorem msel_yX6_givers : Cond.selects yX6_givers.cls yX6_givers yX6_givers ∈ TB := TB_t2 173 rfl rfl
theorem mv_yX6_givers : Cond.instanceMethod yX6_givers ∈ TB ∧ Cond.selects yX6_givers.cls yX6_givers yX6_givers ∈ TB := ⟨mim_yX6_givers, msel_yX6_givers⟩
theorem ml_L_66 : Cond.methodLink RL 66 yX7_givers ∈ TB := TB_t5 71 rfl rfl
theorem mcode_yX7_givers : Cond.code yX7_givers cX7_givers 4 (some .int) ∈ TB := TB_t5 74 rfl rfl
theorem mi_yX7_givers : MI yX7_givers cX7_givers 4 (some .int) 3 := ⟨mz_RX7, mcode_yX7_givers, by decide +kernel, by decide +kernel, by decide +kernel⟩
theorem mim_yX7_givers : Cond.instanceMethod yX7_givers ∈ TB := TB_t5 72 rfl rfl
theorem msel_yX7_givers : Cond.selects yX7_givers.cls yX7_givers yX7_givers ∈ TB := TB_t5 73 rfl rfl
theorem mv_yX7_givers : Cond.instanceMethod yX7_givers ∈ TB ∧ Cond.selects yX7_givers.cls yX7_givers yX7_givers ∈ TB := ⟨mim_yX7_givers, msel_yX7_givers⟩
theorem ml_L_67 : Cond.methodLink RL 67 yX6_part ∈ TB := TB_t2 176 rfl rfl
theorem mcode_yX6_part : Cond.code yX6_part cX6_part 6 (some .int) ∈ TB := TB_t2 179 rfl rfl
theorem mi_yX6_part : MI yX6_part cX6_part 6 (some .int) 4 := ⟨mz_RX6, mcode_yX6_part, by decide +kernel, by decide +kernel, by decide +kernel⟩
theorem mim_yX6_part : Cond.instanceMethod yX6_part ∈ TB := TB_t2 177 rfl rfl
theorem msel_yX6_part : Cond.selects yX6_part.cls yX6_part yX6_part ∈ TB := TB_t2 178 rfl rfl
theorem mv_yX6_part : Cond.instanceMethod yX6_part ∈ TB ∧ Cond.selects yX6_part.cls yX6_part yX6_part ∈ TB := ⟨mim_yX6_part, msel_yX6_part⟩
theorem ml_L_71 : Cond.methodLink RL 71 yX7_part ∈ TB := TB_t5 79 rfl rfl
theorem mcode_yX7_part : Cond.code yX7_part cX7_part 5 (some .int) ∈ TB := TB_t5 82 rfl rfl
theorem mi_yX7_part : MI yX7_part cX7_part 5 (some .int) 4 := ⟨mz_RX7, mcode_yX7_part, by decide +kernel, by decide +kernel, by decide +kernel⟩
theorem mim_yX7_part : Cond.instanceMethod yX7_part ∈ TB := TB_t5 80 rfl rfl
theorem msel_yX7_part : Cond.selects yX7_part.cls yX7_part yX7_part ∈ TB := TB_t5 81 rfl rfl
theorem mv_yX7_part : Cond.instanceMethod yX7_part ∈ TB ∧ Cond.selects yX7_part.cls yX7_part yX7_part ∈ TB := ⟨mim_yX7_part, msel_yX7_part⟩
theorem ml_L_72 : Cond.methodLink RL 72 yX6_hand ∈ TB := TB_t2 180 rfl rfl
theorem mcode_yX6_hand : Cond.code yX6_hand cX6_hand 5 (some .boolean) ∈ TB := TB_t2 183 rfl rfl
theorem mi_yX6_hand : MI yX6_hand cX6_hand 5 (some .boolean) 4 := ⟨mz_RX6, mcode_yX6_hand, by decide +kernel, by decide +kernel, by decide +kernel⟩
theorem mim_yX6_hand : Cond.instanceMethod yX6_hand ∈ TB := TB_t2 181 rfl rfl
theorem msel_yX6_hand : Cond.selects yX6_hand.cls yX6_hand yX6_hand ∈ TB := TB_t2 182 rfl rfl
theorem mv_yX6_hand : Cond.instanceMethod yX6_hand ∈ TB ∧ Cond.selects yX6_hand.cls yX6_hand yX6_hand ∈ TB := ⟨mim_yX6_hand, msel_yX6_hand⟩
theorem ml_L_76 : Cond.methodLink RL 76 yX7_hand ∈ TB := TB_t5 83 rfl rfl
theorem mcode_yX7_hand : Cond.code yX7_hand cX7_hand 5 (some .boolean) ∈ TB := TB_t5 86 rfl rfl
theorem mi_yX7_hand : MI yX7_hand cX7_hand 5 (some .boolean) 4 := ⟨mz_RX7, mcode_yX7_hand, by decide +kernel, by decide +kernel, by decide +kernel⟩
theorem mim_yX7_hand : Cond.instanceMethod yX7_hand ∈ TB := TB_t5 84 rfl rfl
theorem msel_yX7_hand : Cond.selects yX7_hand.cls yX7_hand yX7_hand ∈ TB := TB_t5 85 rfl rfl
theorem mv_yX7_hand : Cond.instanceMethod yX7_hand ∈ TB ∧ Cond.selects yX7_hand.cls yX7_hand yX7_hand ∈ TB := ⟨mim_yX7_hand, msel_yX7_hand⟩
theorem ml_L_77 : Cond.methodLink RL 77 yX6_keep ∈ TB := TB_t2 196 rfl rfl
theorem mcode_yX6_keep : Cond.code yX6_keep cX6_keep 5 (some .boolean) ∈ TB := TB_t2 199 rfl rfl
theorem mi_yX6_keep : MI yX6_keep cX6_keep 5 (some .boolean) 4 := ⟨mz_RX6, mcode_yX6_keep, by decide +kernel, by decide +kernel, by decide +kernel⟩
theorem mim_yX6_keep : Cond.instanceMethod yX6_keep ∈ TB := TB_t2 197 rfl rfl
theorem msel_yX6_keep : Cond.selects yX6_keep.cls yX6_keep yX6_keep ∈ TB := TB_t2 198 rfl rfl
theorem mv_yX6_keep : Cond.instanceMethod yX6_keep ∈ TB ∧ Cond.selects yX6_keep.cls yX6_keep yX6_keep ∈ TB := ⟨mim_yX6_keep, msel_yX6_keep⟩
theorem ml_L_80 : Cond.methodLink RL 80 yX7_keep ∈ TB := TB_t5 91 rfl rfl
theorem mcode_yX7_keep : Cond.code yX7_keep cX7_keep 5 (some .boolean) ∈ TB := TB_t5 94 rfl rfl
theorem mi_yX7_keep : MI yX7_keep cX7_keep 5 (some .boolean) 4 := ⟨mz_RX7, mcode_yX7_keep, by decide +kernel, by decide +kernel, by decide +kernel⟩
theorem mim_yX7_keep : Cond.instanceMethod yX7_keep ∈ TB := TB_t5 92 rfl rfl
theorem msel_yX7_keep : Cond.selects yX7_keep.cls yX7_keep yX7_keep ∈ TB := TB_t5 93 rfl rfl
theorem mv_yX7_keep : Cond.instanceMethod yX7_keep ∈ TB ∧ Cond.selects yX7_keep.cls yX7_keep yX7_keep ∈ TB := ⟨mim_yX7_keep, msel_yX7_keep⟩
theorem ml_L_81 : Cond.methodLink RL 81 yX6_sound ∈ TB := TB_t2 200 rfl rfl
theorem mcode_yX6_sound : Cond.code yX6_sound cX6_sound 3 (some .int) ∈ TB := TB_t2 203 rfl rfl
theorem mi_yX6_sound : MI yX6_sound cX6_sound 3 (some .int) 2 := ⟨mz_RX6, mcode_yX6_sound, by decide +kernel, by decide +kernel, by decide +kernel⟩
theorem mim_yX6_sound : Cond.instanceMethod yX6_sound ∈ TB := TB_t2 201 rfl rfl
theorem msel_yX6_sound : Cond.selects yX6_sound.cls yX6_sound yX6_sound ∈ TB := TB_t2 202 rfl rfl
theorem mv_yX6_sound : Cond.instanceMethod yX6_sound ∈ TB ∧ Cond.selects yX6_sound.cls yX6_sound yX6_sound ∈ TB := ⟨mim_yX6_sound, msel_yX6_sound⟩
theorem ml_L_85 : Cond.methodLink RL 85 yX7_sound ∈ TB := TB_t5 95 rfl rfl
theorem mcode_yX7_sound : Cond.code yX7_sound cX7_sound 3 (some .int) ∈ TB := TB_t5 98 rfl rfl
theorem mi_yX7_sound : MI yX7_sound cX7_sound 3 (some .int) 2 := ⟨mz_RX7, mcode_yX7_sound, by decide +kernel, by decide +kernel, by decide +kernel⟩
theorem mim_yX7_sound : Cond.instanceMethod yX7_sound ∈ TB := TB_t5 96 rfl rfl
theorem msel_yX7_sound : Cond.selects yX7_sound.cls yX7_sound yX7_sound ∈ TB := TB_t5 97 rfl rfl
theorem mv_yX7_sound : Cond.instanceMethod yX7_sound ∈ TB ∧ Cond.selects yX7_sound.cls yX7_sound yX7_sound ∈ TB := ⟨mim_yX7_sound, msel_yX7_sound⟩
theorem ml_L_86 : Cond.methodLink RL 86 yX6_sum ∈ TB := TB_t2 208 rfl rfl
theorem mcode_yX6_sum : Cond.code yX6_sum cX6_sum 3 (some .int) ∈ TB := TB_t2 211 rfl rfl
theorem mi_yX6_sum : MI yX6_sum cX6_sum 3 (some .int) 2 := ⟨mz_RX6, mcode_yX6_sum, by decide +kernel, by decide +kernel, by decide +kernel⟩
theorem mim_yX6_sum : Cond.instanceMethod yX6_sum ∈ TB := TB_t2 209 rfl rfl
theorem msel_yX6_sum : Cond.selects yX6_sum.cls yX6_sum yX6_sum ∈ TB := TB_t2 210 rfl rfl
theorem mv_yX6_sum : Cond.instanceMethod yX6_sum ∈ TB ∧ Cond.selects yX6_sum.cls yX6_sum yX6_sum ∈ TB := ⟨mim_yX6_sum, msel_yX6_sum⟩
theorem ml_L_89 : Cond.methodLink RL 89 yX7_sum ∈ TB := TB_t5 103 rfl rfl
theorem mcode_yX7_sum : Cond.code yX7_sum cX7_sum 3 (some .int) ∈ TB := TB_t5 106 rfl rfl
theorem mi_yX7_sum : MI yX7_sum cX7_sum 3 (some .int) 2 := ⟨mz_RX7, mcode_yX7_sum, by decide +kernel, by decide +kernel, by decide +kernel⟩
theorem mim_yX7_sum : Cond.instanceMethod yX7_sum ∈ TB := TB_t5 104 rfl rfl
theorem msel_yX7_sum : Cond.selects yX7_sum.cls yX7_sum yX7_sum ∈ TB := TB_t5 105 rfl rfl
theorem mv_yX7_sum : Cond.instanceMethod yX7_sum ∈ TB ∧ Cond.selects yX7_sum.cls yX7_sum yX7_sum ∈ TB := ⟨mim_yX7_sum, msel_yX7_sum⟩
theorem ml_L_90 : Cond.methodLink RL 90 yX6_total ∈ TB := TB_t2 216 rfl rfl
theorem mcode_yX6_total : Cond.code yX6_total cX6_total 4 (some .int) ∈ TB := TB_t2 219 rfl rfl
theorem mi_yX6_total : MI yX6_total cX6_total 4 (some .int) 3 := ⟨mz_RX6, mcode_yX6_total, by decide +kernel, by decide +kernel, by decide +kernel⟩
theorem mim_yX6_total : Cond.instanceMethod yX6_total ∈ TB := TB_t2 217 rfl rfl
theorem msel_yX6_total : Cond.selects yX6_total.cls yX6_total yX6_total ∈ TB := TB_t2 218 rfl rfl
theorem mv_yX6_total : Cond.instanceMethod yX6_total ∈ TB ∧ Cond.selects yX6_total.cls yX6_total yX6_total ∈ TB := ⟨mim_yX6_total, msel_yX6_total⟩
theorem ml_L_93 : Cond.methodLink RL 93 yX7_total ∈ TB := TB_t5 111 rfl rfl
theorem mcode_yX7_total : Cond.code yX7_total cX7_total 7 (some .int) ∈ TB := TB_t5 114 rfl rfl
theorem mi_yX7_total : MI yX7_total cX7_total 7 (some .int) 3 := ⟨mz_RX7, mcode_yX7_total, by decide +kernel, by decide +kernel, by decide +kernel⟩
theorem mim_yX7_total : Cond.instanceMethod yX7_total ∈ TB := TB_t5 112 rfl rfl
theorem msel_yX7_total : Cond.selects yX7_total.cls yX7_total yX7_total ∈ TB := TB_t5 113 rfl rfl
theorem mv_yX7_total : Cond.instanceMethod yX7_total ∈ TB ∧ Cond.selects yX7_total.cls yX7_total yX7_total ∈ TB := ⟨mim_yX7_total, msel_yX7_total⟩
theorem ml_L_94 : Cond.methodLink RL 94 yX6_secret ∈ TB := TB_t2 229 rfl rfl
theorem mcode_yX6_secret : Cond.code yX6_secret cX6_secret 4 (some .int) ∈ TB := TB_t2 232 rfl rfl
theorem mi_yX6_secret : MI yX6_secret cX6_secret 4 (some .int) 3 := ⟨mz_RX6, mcode_yX6_secret, by decide +kernel, by decide +kernel, by decide +kernel⟩
theorem mim_yX6_secret : Cond.instanceMethod yX6_secret ∈ TB := TB_t2 230 rfl rfl
theorem msel_yX6_secret : Cond.selects yX6_secret.cls yX6_secret yX6_secret ∈ TB := TB_t2 231 rfl rfl
theorem mv_yX6_secret : Cond.instanceMethod yX6_secret ∈ TB ∧ Cond.selects yX6_secret.cls yX6_secret yX6_secret ∈ TB := ⟨mim_yX6_secret, msel_yX6_secret⟩
theorem ml_L_97 : Cond.methodLink RL 97 yX7_secret ∈ TB := TB_t5 119 rfl rfl
theorem mcode_yX7_secret : Cond.code yX7_secret cX7_secret 4 (some .int) ∈ TB := TB_t5 122 rfl rfl
theorem mi_yX7_secret : MI yX7_secret cX7_secret 4 (some .int) 3 := ⟨mz_RX7, mcode_yX7_secret, by decide +kernel, by decide +kernel, by decide +kernel⟩
theorem mim_yX7_secret : Cond.instanceMethod yX7_secret ∈ TB := TB_t5 120 rfl rfl
theorem msel_yX7_secret : Cond.selects yX7_secret.cls yX7_secret yX7_secret ∈ TB := TB_t5 121 rfl rfl
theorem mv_yX7_secret : Cond.instanceMethod yX7_secret ∈ TB ∧ Cond.selects yX7_secret.cls yX7_secret yX7_secret ∈ TB := ⟨mim_yX7_secret, msel_yX7_secret⟩
theorem ml_L_98 : Cond.methodLink RL 98 yX6_kept ∈ TB := TB_t3 9 rfl rfl
theorem mcode_yX6_kept : Cond.code yX6_kept cX6_kept 4 (some .int) ∈ TB := TB_t3 12 rfl rfl
theorem mi_yX6_kept : MI yX6_kept cX6_kept 4 (some .int) 3 := ⟨mz_RX6, mcode_yX6_kept, by decide +kernel, by decide +kernel, by decide +kernel⟩
theorem mim_yX6_kept : Cond.instanceMethod yX6_kept ∈ TB := TB_t3 10 rfl rfl
theorem msel_yX6_kept : Cond.selects yX6_kept.cls yX6_kept yX6_kept ∈ TB := TB_t3 11 rfl rfl
theorem mv_yX6_kept : Cond.instanceMethod yX6_kept ∈ TB ∧ Cond.selects yX6_kept.cls yX6_kept yX6_kept ∈ TB := ⟨mim_yX6_kept, msel_yX6_kept⟩
theorem ml_L_101 : Cond.methodLink RL 101 yX7_kept ∈ TB := TB_t5 135 rfl rfl
theorem mcode_yX7_kept : Cond.code yX7_kept cX7_kept 4 (some .int) ∈ TB := TB_t5 138 rfl rfl
theorem mi_yX7_kept : MI yX7_kept cX7_kept 4 (some .int) 3 := ⟨mz_RX7, mcode_yX7_kept, by decide +kernel, by decide +kernel, by decide +kernel⟩
theorem mim_yX7_kept : Cond.instanceMethod yX7_kept ∈ TB := TB_t5 136 rfl rfl
theorem msel_yX7_kept : Cond.selects yX7_kept.cls yX7_kept yX7_kept ∈ TB := TB_t5 137 rfl rfl
theorem mv_yX7_kept : Cond.instanceMethod yX7_kept ∈ TB ∧ Cond.selects yX7_kept.cls yX7_kept yX7_kept ∈ TB := ⟨mim_yX7_kept, msel_yX7_kept⟩
theorem ml_L_102 : Cond.methodLink RL 102 yX6_thousandths ∈ TB := TB_t3 18 rfl rfl
theorem mcode_yX6_thousandths : Cond.code yX6_thousandths cX6_thousandths 4 (some .int) ∈ TB := TB_t3 21 rfl rfl
theorem mi_yX6_thousandths : MI yX6_thousandths cX6_thousandths 4 (some .int) 3 := ⟨mz_RX6, mcode_yX6_thousandths, by decide +kernel, by decide +kernel, by decide +kernel⟩
theorem mim_yX6_thousandths : Cond.instanceMethod yX6_thousandths ∈ TB := TB_t3 19 rfl rfl
theorem msel_yX6_thousandths : Cond.selects yX6_thousandths.cls yX6_thousandths yX6_thousandths ∈ TB := TB_t3 20 rfl rfl
theorem mv_yX6_thousandths : Cond.instanceMethod yX6_thousandths ∈ TB ∧ Cond.selects yX6_thousandths.cls yX6_thousandths yX6_thousandths ∈ TB := ⟨mim_yX6_thousandths, msel_yX6_thousandths⟩
theorem ml_L_105 : Cond.methodLink RL 105 yX7_thousandths ∈ TB := TB_t5 143 rfl rfl
theorem mcode_yX7_thousandths : Cond.code yX7_thousandths cX7_thousandths 5 (some .int) ∈ TB := TB_t5 146 rfl rfl
theorem mi_yX7_thousandths : MI yX7_thousandths cX7_thousandths 5 (some .int) 3 := ⟨mz_RX7, mcode_yX7_thousandths, by decide +kernel, by decide +kernel, by decide +kernel⟩
theorem mim_yX7_thousandths : Cond.instanceMethod yX7_thousandths ∈ TB := TB_t5 144 rfl rfl
theorem msel_yX7_thousandths : Cond.selects yX7_thousandths.cls yX7_thousandths yX7_thousandths ∈ TB := TB_t5 145 rfl rfl
theorem mv_yX7_thousandths : Cond.instanceMethod yX7_thousandths ∈ TB ∧ Cond.selects yX7_thousandths.cls yX7_thousandths yX7_thousandths ∈ TB := ⟨mim_yX7_thousandths, msel_yX7_thousandths⟩
theorem ml_L_106 : Cond.methodLink RL 106 yX6_least ∈ TB := TB_t3 26 rfl rfl
theorem mcode_yX6_least : Cond.code yX6_least cX6_least 4 (some .int) ∈ TB := TB_t3 29 rfl rfl
theorem mi_yX6_least : MI yX6_least cX6_least 4 (some .int) 3 := ⟨mz_RX6, mcode_yX6_least, by decide +kernel, by decide +kernel, by decide +kernel⟩
theorem mim_yX6_least : Cond.instanceMethod yX6_least ∈ TB := TB_t3 27 rfl rfl
theorem msel_yX6_least : Cond.selects yX6_least.cls yX6_least yX6_least ∈ TB := TB_t3 28 rfl rfl
theorem mv_yX6_least : Cond.instanceMethod yX6_least ∈ TB ∧ Cond.selects yX6_least.cls yX6_least yX6_least ∈ TB := ⟨mim_yX6_least, msel_yX6_least⟩
theorem ml_L_109 : Cond.methodLink RL 109 yX7_least ∈ TB := TB_t5 152 rfl rfl
theorem mcode_yX7_least : Cond.code yX7_least cX7_least 4 (some .int) ∈ TB := TB_t5 155 rfl rfl
theorem mi_yX7_least : MI yX7_least cX7_least 4 (some .int) 3 := ⟨mz_RX7, mcode_yX7_least, by decide +kernel, by decide +kernel, by decide +kernel⟩
theorem mim_yX7_least : Cond.instanceMethod yX7_least ∈ TB := TB_t5 153 rfl rfl
theorem msel_yX7_least : Cond.selects yX7_least.cls yX7_least yX7_least ∈ TB := TB_t5 154 rfl rfl
theorem mv_yX7_least : Cond.instanceMethod yX7_least ∈ TB ∧ Cond.selects yX7_least.cls yX7_least yX7_least ∈ TB := ⟨mim_yX7_least, msel_yX7_least⟩
theorem ml_L_110 : Cond.methodLink RL 110 yX6_greatest ∈ TB := TB_t3 104 rfl rfl
theorem mcode_yX6_greatest : Cond.code yX6_greatest cX6_greatest 4 (some .int) ∈ TB := TB_t3 107 rfl rfl
theorem mi_yX6_greatest : MI yX6_greatest cX6_greatest 4 (some .int) 3 := ⟨mz_RX6, mcode_yX6_greatest, by decide +kernel, by decide +kernel, by decide +kernel⟩
theorem mim_yX6_greatest : Cond.instanceMethod yX6_greatest ∈ TB := TB_t3 105 rfl rfl
theorem msel_yX6_greatest : Cond.selects yX6_greatest.cls yX6_greatest yX6_greatest ∈ TB := TB_t3 106 rfl rfl
theorem mv_yX6_greatest : Cond.instanceMethod yX6_greatest ∈ TB ∧ Cond.selects yX6_greatest.cls yX6_greatest yX6_greatest ∈ TB := ⟨mim_yX6_greatest, msel_yX6_greatest⟩
theorem ml_L_113 : Cond.methodLink RL 113 yX7_greatest ∈ TB := TB_t5 187 rfl rfl
theorem mcode_yX7_greatest : Cond.code yX7_greatest cX7_greatest 4 (some .int) ∈ TB := TB_t5 190 rfl rfl
theorem mi_yX7_greatest : MI yX7_greatest cX7_greatest 4 (some .int) 3 := ⟨mz_RX7, mcode_yX7_greatest, by decide +kernel, by decide +kernel, by decide +kernel⟩
theorem mim_yX7_greatest : Cond.instanceMethod yX7_greatest ∈ TB := TB_t5 188 rfl rfl
theorem msel_yX7_greatest : Cond.selects yX7_greatest.cls yX7_greatest yX7_greatest ∈ TB := TB_t5 189 rfl rfl
theorem mv_yX7_greatest : Cond.instanceMethod yX7_greatest ∈ TB ∧ Cond.selects yX7_greatest.cls yX7_greatest yX7_greatest ∈ TB := ⟨mim_yX7_greatest, msel_yX7_greatest⟩
theorem ml_L_114 : Cond.methodLink RL 114 yX6_safe ∈ TB := TB_t3 108 rfl rfl
theorem mcode_yX6_safe : Cond.code yX6_safe cX6_safe 4 (some .int) ∈ TB := TB_t3 111 rfl rfl
theorem mi_yX6_safe : MI yX6_safe cX6_safe 4 (some .int) 3 := ⟨mz_RX6, mcode_yX6_safe, by decide +kernel, by decide +kernel, by decide +kernel⟩
theorem mim_yX6_safe : Cond.instanceMethod yX6_safe ∈ TB := TB_t3 109 rfl rfl
theorem msel_yX6_safe : Cond.selects yX6_safe.cls yX6_safe yX6_safe ∈ TB := TB_t3 110 rfl rfl
theorem mv_yX6_safe : Cond.instanceMethod yX6_safe ∈ TB ∧ Cond.selects yX6_safe.cls yX6_safe yX6_safe ∈ TB := ⟨mim_yX6_safe, msel_yX6_safe⟩
theorem ml_L_117 : Cond.methodLink RL 117 yX7_safe ∈ TB := TB_t5 191 rfl rfl
theorem mcode_yX7_safe : Cond.code yX7_safe cX7_safe 4 (some .int) ∈ TB := TB_t5 194 rfl rfl
theorem mi_yX7_safe : MI yX7_safe cX7_safe 4 (some .int) 3 := ⟨mz_RX7, mcode_yX7_safe, by decide +kernel, by decide +kernel, by decide +kernel⟩
theorem mim_yX7_safe : Cond.instanceMethod yX7_safe ∈ TB := TB_t5 192 rfl rfl
theorem msel_yX7_safe : Cond.selects yX7_safe.cls yX7_safe yX7_safe ∈ TB := TB_t5 193 rfl rfl
theorem mv_yX7_safe : Cond.instanceMethod yX7_safe ∈ TB ∧ Cond.selects yX7_safe.cls yX7_safe yX7_safe ∈ TB := ⟨mim_yX7_safe, msel_yX7_safe⟩
theorem ml_L_118 : Cond.methodLink RL 118 yX6_unsafe ∈ TB := TB_t3 119 rfl rfl
theorem mcode_yX6_unsafe : Cond.code yX6_unsafe cX6_unsafe 2 (some .int) ∈ TB := TB_t3 122 rfl rfl
theorem mi_yX6_unsafe : MI yX6_unsafe cX6_unsafe 2 (some .int) 1 := ⟨mz_RX6, mcode_yX6_unsafe, by decide +kernel, by decide +kernel, by decide +kernel⟩
theorem mim_yX6_unsafe : Cond.instanceMethod yX6_unsafe ∈ TB := TB_t3 120 rfl rfl
theorem msel_yX6_unsafe : Cond.selects yX6_unsafe.cls yX6_unsafe yX6_unsafe ∈ TB := TB_t3 121 rfl rfl
theorem mv_yX6_unsafe : Cond.instanceMethod yX6_unsafe ∈ TB ∧ Cond.selects yX6_unsafe.cls yX6_unsafe yX6_unsafe ∈ TB := ⟨mim_yX6_unsafe, msel_yX6_unsafe⟩
theorem ml_L_122 : Cond.methodLink RL 122 yX7_unsafe ∈ TB := TB_t5 199 rfl rfl
theorem mcode_yX7_unsafe : Cond.code yX7_unsafe cX7_unsafe 4 (some .int) ∈ TB := TB_t5 202 rfl rfl
theorem mi_yX7_unsafe : MI yX7_unsafe cX7_unsafe 4 (some .int) 1 := ⟨mz_RX7, mcode_yX7_unsafe, by decide +kernel, by decide +kernel, by decide +kernel⟩
theorem mim_yX7_unsafe : Cond.instanceMethod yX7_unsafe ∈ TB := TB_t5 200 rfl rfl
theorem msel_yX7_unsafe : Cond.selects yX7_unsafe.cls yX7_unsafe yX7_unsafe ∈ TB := TB_t5 201 rfl rfl
theorem mv_yX7_unsafe : Cond.instanceMethod yX7_unsafe ∈ TB ∧ Cond.selects yX7_unsafe.cls yX7_unsafe yX7_unsafe ∈ TB := ⟨mim_yX7_unsafe, msel_yX7_unsafe⟩
theorem ml_L_123 : Cond.methodLink RL 123 yX6_witness ∈ TB := TB_t3 128 rfl rfl
theorem mcode_yX6_witness : Cond.code yX6_witness cX6_witness 5 (some .int) ∈ TB := TB_t3 131 rfl rfl
theorem mi_yX6_witness : MI yX6_witness cX6_witness 5 (some .int) 4 := ⟨mz_RX6, mcode_yX6_witness, by decide +kernel, by decide +kernel, by decide +kernel⟩
theorem mim_yX6_witness : Cond.instanceMethod yX6_witness ∈ TB := TB_t3 129 rfl rfl
theorem msel_yX6_witness : Cond.selects yX6_witness.cls yX6_witness yX6_witness ∈ TB := TB_t3 130 rfl rfl
theorem mv_yX6_witness : Cond.instanceMethod yX6_witness ∈ TB ∧ Cond.selects yX6_witness.cls yX6_witness yX6_witness ∈ TB := ⟨mim_yX6_witness, msel_yX6_witness⟩
theorem ml_L_127 : Cond.methodLink RL 127 yX7_witness ∈ TB := TB_t5 207 rfl rfl
theorem mcode_yX7_witness : Cond.code yX7_witness cX7_witness 11 (some .int) ∈ TB := TB_t5 210 rfl rfl
theorem mi_yX7_witness : MI yX7_witness cX7_witness 11 (some .int) 4 := ⟨mz_RX7, mcode_yX7_witness, by decide +kernel, by decide +kernel, by decide +kernel⟩
theorem mim_yX7_witness : Cond.instanceMethod yX7_witness ∈ TB := TB_t5 208 rfl rfl
theorem msel_yX7_witness : Cond.selects yX7_witness.cls yX7_witness yX7_witness ∈ TB := TB_t5 209 rfl rfl
theorem mv_yX7_witness : Cond.instanceMethod yX7_witness ∈ TB ∧ Cond.selects yX7_witness.cls yX7_witness yX7_witness ∈ TB := ⟨mim_yX7_witness, msel_yX7_witness⟩
theorem ml_L_128 : Cond.methodLink RL 128 yX6_seen ∈ TB := TB_t3 155 rfl rfl
theorem mcode_yX6_seen : Cond.code yX6_seen cX6_seen 3 (some .int) ∈ TB := TB_t3 158 rfl rfl
theorem mi_yX6_seen : MI yX6_seen cX6_seen 3 (some .int) 2 := ⟨mz_RX6, mcode_yX6_seen, by decide +kernel, by decide +kernel, by decide +kernel⟩
theorem mim_yX6_seen : Cond.instanceMethod yX6_seen ∈ TB := TB_t3 156 rfl rfl
theorem msel_yX6_seen : Cond.selects yX6_seen.cls yX6_seen yX6_seen ∈ TB := TB_t3 157 rfl rfl
theorem mv_yX6_seen : Cond.instanceMethod yX6_seen ∈ TB ∧ Cond.selects yX6_seen.cls yX6_seen yX6_seen ∈ TB := ⟨mim_yX6_seen, msel_yX6_seen⟩
theorem ml_L_131 : Cond.methodLink RL 131 yX7_seen ∈ TB := TB_t5 211 rfl rfl
theorem mcode_yX7_seen : Cond.code yX7_seen cX7_seen 3 (some .int) ∈ TB := TB_t5 214 rfl rfl
theorem mi_yX7_seen : MI yX7_seen cX7_seen 3 (some .int) 2 := ⟨mz_RX7, mcode_yX7_seen, by decide +kernel, by decide +kernel, by decide +kernel⟩
theorem mim_yX7_seen : Cond.instanceMethod yX7_seen ∈ TB := TB_t5 212 rfl rfl
theorem msel_yX7_seen : Cond.selects yX7_seen.cls yX7_seen yX7_seen ∈ TB := TB_t5 213 rfl rfl
theorem mv_yX7_seen : Cond.instanceMethod yX7_seen ∈ TB ∧ Cond.selects yX7_seen.cls yX7_seen yX7_seen ∈ TB := ⟨mim_yX7_seen, msel_yX7_seen⟩
theorem ml_L_132 : Cond.methodLink RL 132 yX6_cut ∈ TB := TB_t3 159 rfl rfl
theorem mcode_yX6_cut : Cond.code yX6_cut cX6_cut 4 (some .int) ∈ TB := TB_t3 162 rfl rfl
theorem mi_yX6_cut : MI yX6_cut cX6_cut 4 (some .int) 2 := ⟨mz_RX6, mcode_yX6_cut, by decide +kernel, by decide +kernel, by decide +kernel⟩
theorem mim_yX6_cut : Cond.instanceMethod yX6_cut ∈ TB := TB_t3 160 rfl rfl
theorem msel_yX6_cut : Cond.selects yX6_cut.cls yX6_cut yX6_cut ∈ TB := TB_t3 161 rfl rfl
theorem mv_yX6_cut : Cond.instanceMethod yX6_cut ∈ TB ∧ Cond.selects yX6_cut.cls yX6_cut yX6_cut ∈ TB := ⟨mim_yX6_cut, msel_yX6_cut⟩
theorem ml_L_136 : Cond.methodLink RL 136 yX7_cut ∈ TB := TB_t5 215 rfl rfl
theorem mcode_yX7_cut : Cond.code yX7_cut cX7_cut 3 (some .int) ∈ TB := TB_t5 218 rfl rfl
theorem mi_yX7_cut : MI yX7_cut cX7_cut 3 (some .int) 2 := ⟨mz_RX7, mcode_yX7_cut, by decide +kernel, by decide +kernel, by decide +kernel⟩
theorem mim_yX7_cut : Cond.instanceMethod yX7_cut ∈ TB := TB_t5 216 rfl rfl
theorem msel_yX7_cut : Cond.selects yX7_cut.cls yX7_cut yX7_cut ∈ TB := TB_t5 217 rfl rfl
theorem mv_yX7_cut : Cond.instanceMethod yX7_cut ∈ TB ∧ Cond.selects yX7_cut.cls yX7_cut yX7_cut ∈ TB := ⟨mim_yX7_cut, msel_yX7_cut⟩
theorem ml_L_137 : Cond.methodLink RL 137 yX6_plan ∈ TB := TB_t3 163 rfl rfl
theorem mcode_yX6_plan : Cond.code yX6_plan cX6_plan 3 (some .int) ∈ TB := TB_t3 166 rfl rfl
theorem mi_yX6_plan : MI yX6_plan cX6_plan 3 (some .int) 1 := ⟨mz_RX6, mcode_yX6_plan, by decide +kernel, by decide +kernel, by decide +kernel⟩
theorem mim_yX6_plan : Cond.instanceMethod yX6_plan ∈ TB := TB_t3 164 rfl rfl
theorem msel_yX6_plan : Cond.selects yX6_plan.cls yX6_plan yX6_plan ∈ TB := TB_t3 165 rfl rfl
theorem mv_yX6_plan : Cond.instanceMethod yX6_plan ∈ TB ∧ Cond.selects yX6_plan.cls yX6_plan yX6_plan ∈ TB := ⟨mim_yX6_plan, msel_yX6_plan⟩
theorem ml_L_140 : Cond.methodLink RL 140 yX7_plan ∈ TB := TB_t5 219 rfl rfl
theorem mcode_yX7_plan : Cond.code yX7_plan cX7_plan 6 (some .int) ∈ TB := TB_t5 222 rfl rfl
theorem mi_yX7_plan : MI yX7_plan cX7_plan 6 (some .int) 1 := ⟨mz_RX7, mcode_yX7_plan, by decide +kernel, by decide +kernel, by decide +kernel⟩
theorem mim_yX7_plan : Cond.instanceMethod yX7_plan ∈ TB := TB_t5 220 rfl rfl
theorem msel_yX7_plan : Cond.selects yX7_plan.cls yX7_plan yX7_plan ∈ TB := TB_t5 221 rfl rfl
theorem mv_yX7_plan : Cond.instanceMethod yX7_plan ∈ TB ∧ Cond.selects yX7_plan.cls yX7_plan yX7_plan ∈ TB := ⟨mim_yX7_plan, msel_yX7_plan⟩
theorem ml_L_141 : Cond.methodLink RL 141 yX6_fewest ∈ TB := TB_t3 207 rfl rfl
theorem mcode_yX6_fewest : Cond.code yX6_fewest cX6_fewest 3 (some .int) ∈ TB := TB_t3 210 rfl rfl
theorem mi_yX6_fewest : MI yX6_fewest cX6_fewest 3 (some .int) 1 := ⟨mz_RX6, mcode_yX6_fewest, by decide +kernel, by decide +kernel, by decide +kernel⟩
theorem mim_yX6_fewest : Cond.instanceMethod yX6_fewest ∈ TB := TB_t3 208 rfl rfl
theorem msel_yX6_fewest : Cond.selects yX6_fewest.cls yX6_fewest yX6_fewest ∈ TB := TB_t3 209 rfl rfl
theorem mv_yX6_fewest : Cond.instanceMethod yX6_fewest ∈ TB ∧ Cond.selects yX6_fewest.cls yX6_fewest yX6_fewest ∈ TB := ⟨mim_yX6_fewest, msel_yX6_fewest⟩
theorem ml_L_144 : Cond.methodLink RL 144 yX7_fewest ∈ TB := TB_t5 235 rfl rfl
theorem mcode_yX7_fewest : Cond.code yX7_fewest cX7_fewest 6 (some .int) ∈ TB := TB_t5 238 rfl rfl
theorem mi_yX7_fewest : MI yX7_fewest cX7_fewest 6 (some .int) 1 := ⟨mz_RX7, mcode_yX7_fewest, by decide +kernel, by decide +kernel, by decide +kernel⟩
theorem mim_yX7_fewest : Cond.instanceMethod yX7_fewest ∈ TB := TB_t5 236 rfl rfl
theorem msel_yX7_fewest : Cond.selects yX7_fewest.cls yX7_fewest yX7_fewest ∈ TB := TB_t5 237 rfl rfl
theorem mv_yX7_fewest : Cond.instanceMethod yX7_fewest ∈ TB ∧ Cond.selects yX7_fewest.cls yX7_fewest yX7_fewest ∈ TB := ⟨mim_yX7_fewest, msel_yX7_fewest⟩
theorem ml_L_145 : Cond.methodLink RL 145 yX6_cost ∈ TB := TB_t4 7 rfl rfl
theorem mcode_yX6_cost : Cond.code yX6_cost cX6_cost 2 (some .int) ∈ TB := TB_t4 10 rfl rfl
theorem mi_yX6_cost : MI yX6_cost cX6_cost 2 (some .int) 1 := ⟨mz_RX6, mcode_yX6_cost, by decide +kernel, by decide +kernel, by decide +kernel⟩
theorem mim_yX6_cost : Cond.instanceMethod yX6_cost ∈ TB := TB_t4 8 rfl rfl
theorem msel_yX6_cost : Cond.selects yX6_cost.cls yX6_cost yX6_cost ∈ TB := TB_t4 9 rfl rfl
theorem mv_yX6_cost : Cond.instanceMethod yX6_cost ∈ TB ∧ Cond.selects yX6_cost.cls yX6_cost yX6_cost ∈ TB := ⟨mim_yX6_cost, msel_yX6_cost⟩
theorem ml_L_148 : Cond.methodLink RL 148 yX7_cost ∈ TB := TB_t6 7 rfl rfl
theorem mcode_yX7_cost : Cond.code yX7_cost cX7_cost 6 (some .int) ∈ TB := TB_t6 10 rfl rfl
theorem mi_yX7_cost : MI yX7_cost cX7_cost 6 (some .int) 1 := ⟨mz_RX7, mcode_yX7_cost, by decide +kernel, by decide +kernel, by decide +kernel⟩
theorem mim_yX7_cost : Cond.instanceMethod yX7_cost ∈ TB := TB_t6 8 rfl rfl
theorem msel_yX7_cost : Cond.selects yX7_cost.cls yX7_cost yX7_cost ∈ TB := TB_t6 9 rfl rfl
theorem mv_yX7_cost : Cond.instanceMethod yX7_cost ∈ TB ∧ Cond.selects yX7_cost.cls yX7_cost yX7_cost ∈ TB := ⟨mim_yX7_cost, msel_yX7_cost⟩
theorem ml_L_149 : Cond.methodLink RL 149 yX6_round ∈ TB := TB_t4 16 rfl rfl
theorem mcode_yX6_round : Cond.code yX6_round cX6_round 3 (some .int) ∈ TB := TB_t4 19 rfl rfl
theorem mi_yX6_round : MI yX6_round cX6_round 3 (some .int) 2 := ⟨mz_RX6, mcode_yX6_round, by decide +kernel, by decide +kernel, by decide +kernel⟩
theorem mim_yX6_round : Cond.instanceMethod yX6_round ∈ TB := TB_t4 17 rfl rfl
theorem msel_yX6_round : Cond.selects yX6_round.cls yX6_round yX6_round ∈ TB := TB_t4 18 rfl rfl
theorem mv_yX6_round : Cond.instanceMethod yX6_round ∈ TB ∧ Cond.selects yX6_round.cls yX6_round yX6_round ∈ TB := ⟨mim_yX6_round, msel_yX6_round⟩
theorem ml_L_152 : Cond.methodLink RL 152 yX7_round ∈ TB := TB_t6 11 rfl rfl
theorem mcode_yX7_round : Cond.code yX7_round cX7_round 7 (some .int) ∈ TB := TB_t6 14 rfl rfl
theorem mi_yX7_round : MI yX7_round cX7_round 7 (some .int) 2 := ⟨mz_RX7, mcode_yX7_round, by decide +kernel, by decide +kernel, by decide +kernel⟩
theorem mim_yX7_round : Cond.instanceMethod yX7_round ∈ TB := TB_t6 12 rfl rfl
theorem msel_yX7_round : Cond.selects yX7_round.cls yX7_round yX7_round ∈ TB := TB_t6 13 rfl rfl
theorem mv_yX7_round : Cond.instanceMethod yX7_round ∈ TB ∧ Cond.selects yX7_round.cls yX7_round yX7_round ∈ TB := ⟨mim_yX7_round, msel_yX7_round⟩
theorem ml_L_153 : Cond.methodLink RL 153 yX6_rounded ∈ TB := TB_t4 65 rfl rfl
theorem mcode_yX6_rounded : Cond.code yX6_rounded cX6_rounded 3 (some .int) ∈ TB := TB_t4 68 rfl rfl
theorem mi_yX6_rounded : MI yX6_rounded cX6_rounded 3 (some .int) 2 := ⟨mz_RX6, mcode_yX6_rounded, by decide +kernel, by decide +kernel, by decide +kernel⟩
theorem mim_yX6_rounded : Cond.instanceMethod yX6_rounded ∈ TB := TB_t4 66 rfl rfl
theorem msel_yX6_rounded : Cond.selects yX6_rounded.cls yX6_rounded yX6_rounded ∈ TB := TB_t4 67 rfl rfl
theorem mv_yX6_rounded : Cond.instanceMethod yX6_rounded ∈ TB ∧ Cond.selects yX6_rounded.cls yX6_rounded yX6_rounded ∈ TB := ⟨mim_yX6_rounded, msel_yX6_rounded⟩
theorem ml_L_156 : Cond.methodLink RL 156 yX7_rounded ∈ TB := TB_t6 28 rfl rfl
theorem mcode_yX7_rounded : Cond.code yX7_rounded cX7_rounded 3 (some .int) ∈ TB := TB_t6 31 rfl rfl
theorem mi_yX7_rounded : MI yX7_rounded cX7_rounded 3 (some .int) 2 := ⟨mz_RX7, mcode_yX7_rounded, by decide +kernel, by decide +kernel, by decide +kernel⟩
theorem mim_yX7_rounded : Cond.instanceMethod yX7_rounded ∈ TB := TB_t6 29 rfl rfl
theorem msel_yX7_rounded : Cond.selects yX7_rounded.cls yX7_rounded yX7_rounded ∈ TB := TB_t6 30 rfl rfl
theorem mv_yX7_rounded : Cond.instanceMethod yX7_rounded ∈ TB ∧ Cond.selects yX7_rounded.cls yX7_rounded yX7_rounded ∈ TB := ⟨mim_yX7_rounded, msel_yX7_rounded⟩
theorem ml_L_157 : Cond.methodLink RL 157 yX6_give ∈ TB := TB_t4 69 rfl rfl
theorem mcode_yX6_give : Cond.code yX6_give cX6_give 2 (some .int) ∈ TB := TB_t4 72 rfl rfl
theorem mi_yX6_give : MI yX6_give cX6_give 2 (some .int) 1 := ⟨mz_RX6, mcode_yX6_give, by decide +kernel, by decide +kernel, by decide +kernel⟩
theorem mim_yX6_give : Cond.instanceMethod yX6_give ∈ TB := TB_t4 70 rfl rfl
theorem msel_yX6_give : Cond.selects yX6_give.cls yX6_give yX6_give ∈ TB := TB_t4 71 rfl rfl
theorem mv_yX6_give : Cond.instanceMethod yX6_give ∈ TB ∧ Cond.selects yX6_give.cls yX6_give yX6_give ∈ TB := ⟨mim_yX6_give, msel_yX6_give⟩
theorem ml_L_160 : Cond.methodLink RL 160 yX7_give ∈ TB := TB_t6 32 rfl rfl
theorem mcode_yX7_give : Cond.code yX7_give cX7_give 6 (some .int) ∈ TB := TB_t6 35 rfl rfl
theorem mi_yX7_give : MI yX7_give cX7_give 6 (some .int) 1 := ⟨mz_RX7, mcode_yX7_give, by decide +kernel, by decide +kernel, by decide +kernel⟩
theorem mim_yX7_give : Cond.instanceMethod yX7_give ∈ TB := TB_t6 33 rfl rfl
theorem msel_yX7_give : Cond.selects yX7_give.cls yX7_give yX7_give ∈ TB := TB_t6 34 rfl rfl
theorem mv_yX7_give : Cond.instanceMethod yX7_give ∈ TB ∧ Cond.selects yX7_give.cls yX7_give yX7_give ∈ TB := ⟨mim_yX7_give, msel_yX7_give⟩
theorem ml_L_161 : Cond.methodLink RL 161 yX6_gift ∈ TB := TB_t4 77 rfl rfl
theorem mcode_yX6_gift : Cond.code yX6_gift cX6_gift 4 (some .int) ∈ TB := TB_t4 80 rfl rfl
theorem mi_yX6_gift : MI yX6_gift cX6_gift 4 (some .int) 3 := ⟨mz_RX6, mcode_yX6_gift, by decide +kernel, by decide +kernel, by decide +kernel⟩
theorem mim_yX6_gift : Cond.instanceMethod yX6_gift ∈ TB := TB_t4 78 rfl rfl
theorem msel_yX6_gift : Cond.selects yX6_gift.cls yX6_gift yX6_gift ∈ TB := TB_t4 79 rfl rfl
theorem mv_yX6_gift : Cond.instanceMethod yX6_gift ∈ TB ∧ Cond.selects yX6_gift.cls yX6_gift yX6_gift ∈ TB := ⟨mim_yX6_gift, msel_yX6_gift⟩
theorem ml_L_164 : Cond.methodLink RL 164 yX7_gift ∈ TB := TB_t6 36 rfl rfl
theorem mcode_yX7_gift : Cond.code yX7_gift cX7_gift 4 (some .int) ∈ TB := TB_t6 39 rfl rfl
theorem mi_yX7_gift : MI yX7_gift cX7_gift 4 (some .int) 3 := ⟨mz_RX7, mcode_yX7_gift, by decide +kernel, by decide +kernel, by decide +kernel⟩
theorem mim_yX7_gift : Cond.instanceMethod yX7_gift ∈ TB := TB_t6 37 rfl rfl
theorem msel_yX7_gift : Cond.selects yX7_gift.cls yX7_gift yX7_gift ∈ TB := TB_t6 38 rfl rfl
theorem mv_yX7_gift : Cond.instanceMethod yX7_gift ∈ TB ∧ Cond.selects yX7_gift.cls yX7_gift yX7_gift ∈ TB := ⟨mim_yX7_gift, msel_yX7_gift⟩
theorem ml_L_165 : Cond.methodLink RL 165 yX6_agree ∈ TB := TB_t4 85 rfl rfl
theorem mcode_yX6_agree : Cond.code yX6_agree cX6_agree 3 (some .int) ∈ TB := TB_t4 88 rfl rfl
theorem mi_yX6_agree : MI yX6_agree cX6_agree 3 (some .int) 2 := ⟨mz_RX6, mcode_yX6_agree, by decide +kernel, by decide +kernel, by decide +kernel⟩
theorem mim_yX6_agree : Cond.instanceMethod yX6_agree ∈ TB := TB_t4 86 rfl rfl
theorem msel_yX6_agree : Cond.selects yX6_agree.cls yX6_agree yX6_agree ∈ TB := TB_t4 87 rfl rfl
theorem mv_yX6_agree : Cond.instanceMethod yX6_agree ∈ TB ∧ Cond.selects yX6_agree.cls yX6_agree yX6_agree ∈ TB := ⟨mim_yX6_agree, msel_yX6_agree⟩
theorem ml_L_168 : Cond.methodLink RL 168 yX7_agree ∈ TB := TB_t6 44 rfl rfl
theorem mcode_yX7_agree : Cond.code yX7_agree cX7_agree 7 (some .int) ∈ TB := TB_t6 47 rfl rfl
theorem mi_yX7_agree : MI yX7_agree cX7_agree 7 (some .int) 2 := ⟨mz_RX7, mcode_yX7_agree, by decide +kernel, by decide +kernel, by decide +kernel⟩
theorem mim_yX7_agree : Cond.instanceMethod yX7_agree ∈ TB := TB_t6 45 rfl rfl
theorem msel_yX7_agree : Cond.selects yX7_agree.cls yX7_agree yX7_agree ∈ TB := TB_t6 46 rfl rfl
theorem mv_yX7_agree : Cond.instanceMethod yX7_agree ∈ TB ∧ Cond.selects yX7_agree.cls yX7_agree yX7_agree ∈ TB := ⟨mim_yX7_agree, msel_yX7_agree⟩
theorem kcL_law_3 : CHb cL_law 192 [43, 182, 0, 13, 87, 44, 182, 0, 17, 87, 167, 5, 172, 43, 42, 29, 4, 96, 46, 42, 29, 5, 96, 46, 42, 29, 6, 96, 46, 182, 0, 18, 87, 44, 42, 29, 4, 96, 46, 42, 29, 5, 96, 46, 42, 29, 6, 96, 46, 182, 0, 22, 87, 167, 5, 129, 43, 42, 29, 4, 96, 46, 182, 0] := CHb_of (by decide +kernel)
theorem dL_law_192 : decode cL_law 192 = .ok (.aload_n 1, 1) := dw_43 (kcL_law_3 0 43 rfl)
theorem dL_law_193 : decode cL_law 193 = .ok (.invokevirtual 13, 3) := dw_182 (kcL_law_3 1 182 rfl) (kcL_law_3 2 0 rfl) (kcL_law_3 3 13 rfl) rfl
theorem dL_law_196 : decode cL_law 196 = .ok (.pop, 1) := dw_87 (kcL_law_3 4 87 rfl)
theorem dL_law_197 : decode cL_law 197 = .ok (.aload_n 2, 1) := dw_44 (kcL_law_3 5 44 rfl)
theorem dL_law_198 : decode cL_law 198 = .ok (.invokevirtual 17, 3) := dw_182 (kcL_law_3 6 182 rfl) (kcL_law_3 7 0 rfl) (kcL_law_3 8 17 rfl) rfl
theorem dL_law_201 : decode cL_law 201 = .ok (.pop, 1) := dw_87 (kcL_law_3 9 87 rfl)
theorem dL_law_202 : decode cL_law 202 = .ok (.goto 1452, 3) := dw_167 (kcL_law_3 10 167 rfl) (kcL_law_3 11 5 rfl) (kcL_law_3 12 172 rfl) rfl
theorem dL_law_205 : decode cL_law 205 = .ok (.aload_n 1, 1) := dw_43 (kcL_law_3 13 43 rfl)
theorem dL_law_206 : decode cL_law 206 = .ok (.aload_n 0, 1) := dw_42 (kcL_law_3 14 42 rfl)
theorem dL_law_207 : decode cL_law 207 = .ok (.iload_n 3, 1) := dw_29 (kcL_law_3 15 29 rfl)
theorem dL_law_208 : decode cL_law 208 = .ok (.iconst 1, 1) := dw_4 (kcL_law_3 16 4 rfl)
theorem dL_law_209 : decode cL_law 209 = .ok (.iadd, 1) := dw_96 (kcL_law_3 17 96 rfl)
theorem dL_law_210 : decode cL_law 210 = .ok (.iaload, 1) := dw_46 (kcL_law_3 18 46 rfl)
theorem dL_law_211 : decode cL_law 211 = .ok (.aload_n 0, 1) := dw_42 (kcL_law_3 19 42 rfl)
theorem dL_law_212 : decode cL_law 212 = .ok (.iload_n 3, 1) := dw_29 (kcL_law_3 20 29 rfl)
theorem dL_law_213 : decode cL_law 213 = .ok (.iconst 2, 1) := dw_5 (kcL_law_3 21 5 rfl)
theorem dL_law_214 : decode cL_law 214 = .ok (.iadd, 1) := dw_96 (kcL_law_3 22 96 rfl)
theorem dL_law_215 : decode cL_law 215 = .ok (.iaload, 1) := dw_46 (kcL_law_3 23 46 rfl)
theorem dL_law_216 : decode cL_law 216 = .ok (.aload_n 0, 1) := dw_42 (kcL_law_3 24 42 rfl)
theorem dL_law_217 : decode cL_law 217 = .ok (.iload_n 3, 1) := dw_29 (kcL_law_3 25 29 rfl)
theorem dL_law_218 : decode cL_law 218 = .ok (.iconst 3, 1) := dw_6 (kcL_law_3 26 6 rfl)
theorem dL_law_219 : decode cL_law 219 = .ok (.iadd, 1) := dw_96 (kcL_law_3 27 96 rfl)
theorem dL_law_220 : decode cL_law 220 = .ok (.iaload, 1) := dw_46 (kcL_law_3 28 46 rfl)
theorem dL_law_221 : decode cL_law 221 = .ok (.invokevirtual 18, 3) := dw_182 (kcL_law_3 29 182 rfl) (kcL_law_3 30 0 rfl) (kcL_law_3 31 18 rfl) rfl
theorem dL_law_224 : decode cL_law 224 = .ok (.pop, 1) := dw_87 (kcL_law_3 32 87 rfl)
theorem dL_law_225 : decode cL_law 225 = .ok (.aload_n 2, 1) := dw_44 (kcL_law_3 33 44 rfl)
theorem dL_law_226 : decode cL_law 226 = .ok (.aload_n 0, 1) := dw_42 (kcL_law_3 34 42 rfl)
theorem dL_law_227 : decode cL_law 227 = .ok (.iload_n 3, 1) := dw_29 (kcL_law_3 35 29 rfl)
theorem dL_law_228 : decode cL_law 228 = .ok (.iconst 1, 1) := dw_4 (kcL_law_3 36 4 rfl)
theorem dL_law_229 : decode cL_law 229 = .ok (.iadd, 1) := dw_96 (kcL_law_3 37 96 rfl)
theorem dL_law_230 : decode cL_law 230 = .ok (.iaload, 1) := dw_46 (kcL_law_3 38 46 rfl)
theorem dL_law_231 : decode cL_law 231 = .ok (.aload_n 0, 1) := dw_42 (kcL_law_3 39 42 rfl)
theorem dL_law_232 : decode cL_law 232 = .ok (.iload_n 3, 1) := dw_29 (kcL_law_3 40 29 rfl)
theorem dL_law_233 : decode cL_law 233 = .ok (.iconst 2, 1) := dw_5 (kcL_law_3 41 5 rfl)
theorem dL_law_234 : decode cL_law 234 = .ok (.iadd, 1) := dw_96 (kcL_law_3 42 96 rfl)
theorem dL_law_235 : decode cL_law 235 = .ok (.iaload, 1) := dw_46 (kcL_law_3 43 46 rfl)
theorem dL_law_236 : decode cL_law 236 = .ok (.aload_n 0, 1) := dw_42 (kcL_law_3 44 42 rfl)
theorem dL_law_237 : decode cL_law 237 = .ok (.iload_n 3, 1) := dw_29 (kcL_law_3 45 29 rfl)
theorem dL_law_238 : decode cL_law 238 = .ok (.iconst 3, 1) := dw_6 (kcL_law_3 46 6 rfl)
theorem dL_law_239 : decode cL_law 239 = .ok (.iadd, 1) := dw_96 (kcL_law_3 47 96 rfl)
theorem dL_law_240 : decode cL_law 240 = .ok (.iaload, 1) := dw_46 (kcL_law_3 48 46 rfl)
theorem dL_law_241 : decode cL_law 241 = .ok (.invokevirtual 22, 3) := dw_182 (kcL_law_3 49 182 rfl) (kcL_law_3 50 0 rfl) (kcL_law_3 51 22 rfl) rfl
theorem dL_law_244 : decode cL_law 244 = .ok (.pop, 1) := dw_87 (kcL_law_3 52 87 rfl)
theorem dL_law_245 : decode cL_law 245 = .ok (.goto 1409, 3) := dw_167 (kcL_law_3 53 167 rfl) (kcL_law_3 54 5 rfl) (kcL_law_3 55 129 rfl) rfl
theorem dL_law_248 : decode cL_law 248 = .ok (.aload_n 1, 1) := dw_43 (kcL_law_3 56 43 rfl)
theorem dL_law_249 : decode cL_law 249 = .ok (.aload_n 0, 1) := dw_42 (kcL_law_3 57 42 rfl)
theorem dL_law_250 : decode cL_law 250 = .ok (.iload_n 3, 1) := dw_29 (kcL_law_3 58 29 rfl)
theorem dL_law_251 : decode cL_law 251 = .ok (.iconst 1, 1) := dw_4 (kcL_law_3 59 4 rfl)
theorem dL_law_252 : decode cL_law 252 = .ok (.iadd, 1) := dw_96 (kcL_law_3 60 96 rfl)
theorem dL_law_253 : decode cL_law 253 = .ok (.iaload, 1) := dw_46 (kcL_law_3 61 46 rfl)
theorem kcL_law_4 : CHb cL_law 256 [23, 87, 44, 42, 29, 4, 96, 46, 182, 0, 27, 87, 167, 5, 106, 43, 42, 29, 4, 96, 46, 42, 29, 5, 96, 46, 42, 29, 6, 96, 46, 182, 0, 28, 87, 44, 42, 29, 4, 96, 46, 42, 29, 5, 96, 46, 42, 29, 6, 96, 46, 182, 0, 31, 87, 167, 5, 63, 43, 42, 29, 4, 96, 46] := CHb_of (by decide +kernel)
theorem dL_law_254 : decode cL_law 254 = .ok (.invokevirtual 23, 3) := dw_182 (kcL_law_3 62 182 rfl) (kcL_law_3 63 0 rfl) (kcL_law_4 0 23 rfl) rfl
theorem dL_law_257 : decode cL_law 257 = .ok (.pop, 1) := dw_87 (kcL_law_4 1 87 rfl)
theorem dL_law_258 : decode cL_law 258 = .ok (.aload_n 2, 1) := dw_44 (kcL_law_4 2 44 rfl)
theorem dL_law_259 : decode cL_law 259 = .ok (.aload_n 0, 1) := dw_42 (kcL_law_4 3 42 rfl)
theorem dL_law_260 : decode cL_law 260 = .ok (.iload_n 3, 1) := dw_29 (kcL_law_4 4 29 rfl)
theorem dL_law_261 : decode cL_law 261 = .ok (.iconst 1, 1) := dw_4 (kcL_law_4 5 4 rfl)
theorem dL_law_262 : decode cL_law 262 = .ok (.iadd, 1) := dw_96 (kcL_law_4 6 96 rfl)
theorem dL_law_263 : decode cL_law 263 = .ok (.iaload, 1) := dw_46 (kcL_law_4 7 46 rfl)
theorem dL_law_264 : decode cL_law 264 = .ok (.invokevirtual 27, 3) := dw_182 (kcL_law_4 8 182 rfl) (kcL_law_4 9 0 rfl) (kcL_law_4 10 27 rfl) rfl
theorem dL_law_267 : decode cL_law 267 = .ok (.pop, 1) := dw_87 (kcL_law_4 11 87 rfl)
theorem dL_law_268 : decode cL_law 268 = .ok (.goto 1386, 3) := dw_167 (kcL_law_4 12 167 rfl) (kcL_law_4 13 5 rfl) (kcL_law_4 14 106 rfl) rfl
theorem dL_law_271 : decode cL_law 271 = .ok (.aload_n 1, 1) := dw_43 (kcL_law_4 15 43 rfl)
theorem dL_law_272 : decode cL_law 272 = .ok (.aload_n 0, 1) := dw_42 (kcL_law_4 16 42 rfl)
theorem dL_law_273 : decode cL_law 273 = .ok (.iload_n 3, 1) := dw_29 (kcL_law_4 17 29 rfl)
theorem dL_law_274 : decode cL_law 274 = .ok (.iconst 1, 1) := dw_4 (kcL_law_4 18 4 rfl)
theorem dL_law_275 : decode cL_law 275 = .ok (.iadd, 1) := dw_96 (kcL_law_4 19 96 rfl)
theorem dL_law_276 : decode cL_law 276 = .ok (.iaload, 1) := dw_46 (kcL_law_4 20 46 rfl)
theorem dL_law_277 : decode cL_law 277 = .ok (.aload_n 0, 1) := dw_42 (kcL_law_4 21 42 rfl)
theorem dL_law_278 : decode cL_law 278 = .ok (.iload_n 3, 1) := dw_29 (kcL_law_4 22 29 rfl)
theorem dL_law_279 : decode cL_law 279 = .ok (.iconst 2, 1) := dw_5 (kcL_law_4 23 5 rfl)
theorem dL_law_280 : decode cL_law 280 = .ok (.iadd, 1) := dw_96 (kcL_law_4 24 96 rfl)
theorem dL_law_281 : decode cL_law 281 = .ok (.iaload, 1) := dw_46 (kcL_law_4 25 46 rfl)
theorem dL_law_282 : decode cL_law 282 = .ok (.aload_n 0, 1) := dw_42 (kcL_law_4 26 42 rfl)
theorem dL_law_283 : decode cL_law 283 = .ok (.iload_n 3, 1) := dw_29 (kcL_law_4 27 29 rfl)
theorem dL_law_284 : decode cL_law 284 = .ok (.iconst 3, 1) := dw_6 (kcL_law_4 28 6 rfl)
theorem dL_law_285 : decode cL_law 285 = .ok (.iadd, 1) := dw_96 (kcL_law_4 29 96 rfl)
theorem dL_law_286 : decode cL_law 286 = .ok (.iaload, 1) := dw_46 (kcL_law_4 30 46 rfl)
theorem dL_law_287 : decode cL_law 287 = .ok (.invokevirtual 28, 3) := dw_182 (kcL_law_4 31 182 rfl) (kcL_law_4 32 0 rfl) (kcL_law_4 33 28 rfl) rfl
theorem dL_law_290 : decode cL_law 290 = .ok (.pop, 1) := dw_87 (kcL_law_4 34 87 rfl)
theorem dL_law_291 : decode cL_law 291 = .ok (.aload_n 2, 1) := dw_44 (kcL_law_4 35 44 rfl)
theorem dL_law_292 : decode cL_law 292 = .ok (.aload_n 0, 1) := dw_42 (kcL_law_4 36 42 rfl)
theorem dL_law_293 : decode cL_law 293 = .ok (.iload_n 3, 1) := dw_29 (kcL_law_4 37 29 rfl)
theorem dL_law_294 : decode cL_law 294 = .ok (.iconst 1, 1) := dw_4 (kcL_law_4 38 4 rfl)
theorem dL_law_295 : decode cL_law 295 = .ok (.iadd, 1) := dw_96 (kcL_law_4 39 96 rfl)
theorem dL_law_296 : decode cL_law 296 = .ok (.iaload, 1) := dw_46 (kcL_law_4 40 46 rfl)
theorem dL_law_297 : decode cL_law 297 = .ok (.aload_n 0, 1) := dw_42 (kcL_law_4 41 42 rfl)
theorem dL_law_298 : decode cL_law 298 = .ok (.iload_n 3, 1) := dw_29 (kcL_law_4 42 29 rfl)
theorem dL_law_299 : decode cL_law 299 = .ok (.iconst 2, 1) := dw_5 (kcL_law_4 43 5 rfl)
theorem dL_law_300 : decode cL_law 300 = .ok (.iadd, 1) := dw_96 (kcL_law_4 44 96 rfl)
theorem dL_law_301 : decode cL_law 301 = .ok (.iaload, 1) := dw_46 (kcL_law_4 45 46 rfl)
theorem dL_law_302 : decode cL_law 302 = .ok (.aload_n 0, 1) := dw_42 (kcL_law_4 46 42 rfl)
theorem dL_law_303 : decode cL_law 303 = .ok (.iload_n 3, 1) := dw_29 (kcL_law_4 47 29 rfl)
theorem dL_law_304 : decode cL_law 304 = .ok (.iconst 3, 1) := dw_6 (kcL_law_4 48 6 rfl)
theorem dL_law_305 : decode cL_law 305 = .ok (.iadd, 1) := dw_96 (kcL_law_4 49 96 rfl)
theorem dL_law_306 : decode cL_law 306 = .ok (.iaload, 1) := dw_46 (kcL_law_4 50 46 rfl)
theorem dL_law_307 : decode cL_law 307 = .ok (.invokevirtual 31, 3) := dw_182 (kcL_law_4 51 182 rfl) (kcL_law_4 52 0 rfl) (kcL_law_4 53 31 rfl) rfl
theorem dL_law_310 : decode cL_law 310 = .ok (.pop, 1) := dw_87 (kcL_law_4 54 87 rfl)
theorem dL_law_311 : decode cL_law 311 = .ok (.goto 1343, 3) := dw_167 (kcL_law_4 55 167 rfl) (kcL_law_4 56 5 rfl) (kcL_law_4 57 63 rfl) rfl
theorem dL_law_314 : decode cL_law 314 = .ok (.aload_n 1, 1) := dw_43 (kcL_law_4 58 43 rfl)
theorem dL_law_315 : decode cL_law 315 = .ok (.aload_n 0, 1) := dw_42 (kcL_law_4 59 42 rfl)
theorem dL_law_316 : decode cL_law 316 = .ok (.iload_n 3, 1) := dw_29 (kcL_law_4 60 29 rfl)
theorem dL_law_317 : decode cL_law 317 = .ok (.iconst 1, 1) := dw_4 (kcL_law_4 61 4 rfl)
theorem dL_law_318 : decode cL_law 318 = .ok (.iadd, 1) := dw_96 (kcL_law_4 62 96 rfl)
theorem dL_law_319 : decode cL_law 319 = .ok (.iaload, 1) := dw_46 (kcL_law_4 63 46 rfl)
theorem kcL_law_5 : CHb cL_law 320 [42, 29, 5, 96, 46, 42, 29, 6, 96, 46, 42, 29, 7, 96, 46, 42, 29, 8, 96, 46, 182, 0, 32, 87, 44, 42, 29, 4, 96, 46, 42, 29, 5, 96, 46, 42, 29, 6, 96, 46, 42, 29, 7, 96, 46, 42, 29, 8, 96, 46, 182, 0, 36, 87, 167, 5, 0, 43, 42, 29, 4, 96, 46, 42] := CHb_of (by decide +kernel)
theorem dL_law_320 : decode cL_law 320 = .ok (.aload_n 0, 1) := dw_42 (kcL_law_5 0 42 rfl)
theorem dL_law_321 : decode cL_law 321 = .ok (.iload_n 3, 1) := dw_29 (kcL_law_5 1 29 rfl)
theorem dL_law_322 : decode cL_law 322 = .ok (.iconst 2, 1) := dw_5 (kcL_law_5 2 5 rfl)
theorem dL_law_323 : decode cL_law 323 = .ok (.iadd, 1) := dw_96 (kcL_law_5 3 96 rfl)
theorem dL_law_324 : decode cL_law 324 = .ok (.iaload, 1) := dw_46 (kcL_law_5 4 46 rfl)
theorem dL_law_325 : decode cL_law 325 = .ok (.aload_n 0, 1) := dw_42 (kcL_law_5 5 42 rfl)
theorem dL_law_326 : decode cL_law 326 = .ok (.iload_n 3, 1) := dw_29 (kcL_law_5 6 29 rfl)
theorem dL_law_327 : decode cL_law 327 = .ok (.iconst 3, 1) := dw_6 (kcL_law_5 7 6 rfl)
theorem dL_law_328 : decode cL_law 328 = .ok (.iadd, 1) := dw_96 (kcL_law_5 8 96 rfl)
theorem dL_law_329 : decode cL_law 329 = .ok (.iaload, 1) := dw_46 (kcL_law_5 9 46 rfl)
theorem dL_law_330 : decode cL_law 330 = .ok (.aload_n 0, 1) := dw_42 (kcL_law_5 10 42 rfl)
theorem dL_law_331 : decode cL_law 331 = .ok (.iload_n 3, 1) := dw_29 (kcL_law_5 11 29 rfl)
theorem dL_law_332 : decode cL_law 332 = .ok (.iconst 4, 1) := dw_7 (kcL_law_5 12 7 rfl)
theorem dL_law_333 : decode cL_law 333 = .ok (.iadd, 1) := dw_96 (kcL_law_5 13 96 rfl)
theorem dL_law_334 : decode cL_law 334 = .ok (.iaload, 1) := dw_46 (kcL_law_5 14 46 rfl)
theorem dL_law_335 : decode cL_law 335 = .ok (.aload_n 0, 1) := dw_42 (kcL_law_5 15 42 rfl)
theorem dL_law_336 : decode cL_law 336 = .ok (.iload_n 3, 1) := dw_29 (kcL_law_5 16 29 rfl)
theorem dL_law_337 : decode cL_law 337 = .ok (.iconst 5, 1) := dw_8 (kcL_law_5 17 8 rfl)
theorem dL_law_338 : decode cL_law 338 = .ok (.iadd, 1) := dw_96 (kcL_law_5 18 96 rfl)
theorem dL_law_339 : decode cL_law 339 = .ok (.iaload, 1) := dw_46 (kcL_law_5 19 46 rfl)
theorem dL_law_340 : decode cL_law 340 = .ok (.invokevirtual 32, 3) := dw_182 (kcL_law_5 20 182 rfl) (kcL_law_5 21 0 rfl) (kcL_law_5 22 32 rfl) rfl
theorem dL_law_343 : decode cL_law 343 = .ok (.pop, 1) := dw_87 (kcL_law_5 23 87 rfl)
theorem dL_law_344 : decode cL_law 344 = .ok (.aload_n 2, 1) := dw_44 (kcL_law_5 24 44 rfl)
theorem dL_law_345 : decode cL_law 345 = .ok (.aload_n 0, 1) := dw_42 (kcL_law_5 25 42 rfl)
theorem dL_law_346 : decode cL_law 346 = .ok (.iload_n 3, 1) := dw_29 (kcL_law_5 26 29 rfl)
theorem dL_law_347 : decode cL_law 347 = .ok (.iconst 1, 1) := dw_4 (kcL_law_5 27 4 rfl)
theorem dL_law_348 : decode cL_law 348 = .ok (.iadd, 1) := dw_96 (kcL_law_5 28 96 rfl)
theorem dL_law_349 : decode cL_law 349 = .ok (.iaload, 1) := dw_46 (kcL_law_5 29 46 rfl)
theorem dL_law_350 : decode cL_law 350 = .ok (.aload_n 0, 1) := dw_42 (kcL_law_5 30 42 rfl)
theorem dL_law_351 : decode cL_law 351 = .ok (.iload_n 3, 1) := dw_29 (kcL_law_5 31 29 rfl)
theorem dL_law_352 : decode cL_law 352 = .ok (.iconst 2, 1) := dw_5 (kcL_law_5 32 5 rfl)
theorem dL_law_353 : decode cL_law 353 = .ok (.iadd, 1) := dw_96 (kcL_law_5 33 96 rfl)
theorem dL_law_354 : decode cL_law 354 = .ok (.iaload, 1) := dw_46 (kcL_law_5 34 46 rfl)
theorem dL_law_355 : decode cL_law 355 = .ok (.aload_n 0, 1) := dw_42 (kcL_law_5 35 42 rfl)
theorem dL_law_356 : decode cL_law 356 = .ok (.iload_n 3, 1) := dw_29 (kcL_law_5 36 29 rfl)
theorem dL_law_357 : decode cL_law 357 = .ok (.iconst 3, 1) := dw_6 (kcL_law_5 37 6 rfl)
theorem dL_law_358 : decode cL_law 358 = .ok (.iadd, 1) := dw_96 (kcL_law_5 38 96 rfl)
theorem dL_law_359 : decode cL_law 359 = .ok (.iaload, 1) := dw_46 (kcL_law_5 39 46 rfl)
theorem dL_law_360 : decode cL_law 360 = .ok (.aload_n 0, 1) := dw_42 (kcL_law_5 40 42 rfl)
theorem dL_law_361 : decode cL_law 361 = .ok (.iload_n 3, 1) := dw_29 (kcL_law_5 41 29 rfl)
theorem dL_law_362 : decode cL_law 362 = .ok (.iconst 4, 1) := dw_7 (kcL_law_5 42 7 rfl)
theorem dL_law_363 : decode cL_law 363 = .ok (.iadd, 1) := dw_96 (kcL_law_5 43 96 rfl)
theorem dL_law_364 : decode cL_law 364 = .ok (.iaload, 1) := dw_46 (kcL_law_5 44 46 rfl)
theorem dL_law_365 : decode cL_law 365 = .ok (.aload_n 0, 1) := dw_42 (kcL_law_5 45 42 rfl)
theorem dL_law_366 : decode cL_law 366 = .ok (.iload_n 3, 1) := dw_29 (kcL_law_5 46 29 rfl)
theorem dL_law_367 : decode cL_law 367 = .ok (.iconst 5, 1) := dw_8 (kcL_law_5 47 8 rfl)
theorem dL_law_368 : decode cL_law 368 = .ok (.iadd, 1) := dw_96 (kcL_law_5 48 96 rfl)
theorem dL_law_369 : decode cL_law 369 = .ok (.iaload, 1) := dw_46 (kcL_law_5 49 46 rfl)
theorem dL_law_370 : decode cL_law 370 = .ok (.invokevirtual 36, 3) := dw_182 (kcL_law_5 50 182 rfl) (kcL_law_5 51 0 rfl) (kcL_law_5 52 36 rfl) rfl
theorem dL_law_373 : decode cL_law 373 = .ok (.pop, 1) := dw_87 (kcL_law_5 53 87 rfl)
theorem dL_law_374 : decode cL_law 374 = .ok (.goto 1280, 3) := dw_167 (kcL_law_5 54 167 rfl) (kcL_law_5 55 5 rfl) (kcL_law_5 56 0 rfl) rfl
theorem dL_law_377 : decode cL_law 377 = .ok (.aload_n 1, 1) := dw_43 (kcL_law_5 57 43 rfl)
theorem dL_law_378 : decode cL_law 378 = .ok (.aload_n 0, 1) := dw_42 (kcL_law_5 58 42 rfl)
theorem dL_law_379 : decode cL_law 379 = .ok (.iload_n 3, 1) := dw_29 (kcL_law_5 59 29 rfl)
theorem dL_law_380 : decode cL_law 380 = .ok (.iconst 1, 1) := dw_4 (kcL_law_5 60 4 rfl)
theorem dL_law_381 : decode cL_law 381 = .ok (.iadd, 1) := dw_96 (kcL_law_5 61 96 rfl)
theorem dL_law_382 : decode cL_law 382 = .ok (.iaload, 1) := dw_46 (kcL_law_5 62 46 rfl)
theorem dL_law_383 : decode cL_law 383 = .ok (.aload_n 0, 1) := dw_42 (kcL_law_5 63 42 rfl)
theorem kcL_law_6 : CHb cL_law 384 [29, 5, 96, 46, 42, 29, 6, 96, 46, 42, 29, 7, 96, 46, 182, 0, 37, 87, 44, 42, 29, 4, 96, 46, 42, 29, 5, 96, 46, 42, 29, 6, 96, 46, 42, 29, 7, 96, 46, 182, 0, 41, 87, 167, 4, 203, 43, 42, 29, 4, 96, 46, 42, 29, 5, 96, 46, 42, 29, 6, 96, 46, 182, 0] := CHb_of (by decide +kernel)
theorem dL_law_384 : decode cL_law 384 = .ok (.iload_n 3, 1) := dw_29 (kcL_law_6 0 29 rfl)
theorem dL_law_385 : decode cL_law 385 = .ok (.iconst 2, 1) := dw_5 (kcL_law_6 1 5 rfl)
theorem dL_law_386 : decode cL_law 386 = .ok (.iadd, 1) := dw_96 (kcL_law_6 2 96 rfl)
theorem dL_law_387 : decode cL_law 387 = .ok (.iaload, 1) := dw_46 (kcL_law_6 3 46 rfl)
theorem dL_law_388 : decode cL_law 388 = .ok (.aload_n 0, 1) := dw_42 (kcL_law_6 4 42 rfl)
theorem dL_law_389 : decode cL_law 389 = .ok (.iload_n 3, 1) := dw_29 (kcL_law_6 5 29 rfl)
theorem dL_law_390 : decode cL_law 390 = .ok (.iconst 3, 1) := dw_6 (kcL_law_6 6 6 rfl)
theorem dL_law_391 : decode cL_law 391 = .ok (.iadd, 1) := dw_96 (kcL_law_6 7 96 rfl)
theorem dL_law_392 : decode cL_law 392 = .ok (.iaload, 1) := dw_46 (kcL_law_6 8 46 rfl)
theorem dL_law_393 : decode cL_law 393 = .ok (.aload_n 0, 1) := dw_42 (kcL_law_6 9 42 rfl)
theorem dL_law_394 : decode cL_law 394 = .ok (.iload_n 3, 1) := dw_29 (kcL_law_6 10 29 rfl)
theorem dL_law_395 : decode cL_law 395 = .ok (.iconst 4, 1) := dw_7 (kcL_law_6 11 7 rfl)
theorem dL_law_396 : decode cL_law 396 = .ok (.iadd, 1) := dw_96 (kcL_law_6 12 96 rfl)
theorem dL_law_397 : decode cL_law 397 = .ok (.iaload, 1) := dw_46 (kcL_law_6 13 46 rfl)
theorem dL_law_398 : decode cL_law 398 = .ok (.invokevirtual 37, 3) := dw_182 (kcL_law_6 14 182 rfl) (kcL_law_6 15 0 rfl) (kcL_law_6 16 37 rfl) rfl
theorem dL_law_401 : decode cL_law 401 = .ok (.pop, 1) := dw_87 (kcL_law_6 17 87 rfl)
theorem dL_law_402 : decode cL_law 402 = .ok (.aload_n 2, 1) := dw_44 (kcL_law_6 18 44 rfl)
theorem dL_law_403 : decode cL_law 403 = .ok (.aload_n 0, 1) := dw_42 (kcL_law_6 19 42 rfl)
theorem dL_law_404 : decode cL_law 404 = .ok (.iload_n 3, 1) := dw_29 (kcL_law_6 20 29 rfl)
theorem dL_law_405 : decode cL_law 405 = .ok (.iconst 1, 1) := dw_4 (kcL_law_6 21 4 rfl)
theorem dL_law_406 : decode cL_law 406 = .ok (.iadd, 1) := dw_96 (kcL_law_6 22 96 rfl)
theorem dL_law_407 : decode cL_law 407 = .ok (.iaload, 1) := dw_46 (kcL_law_6 23 46 rfl)
theorem dL_law_408 : decode cL_law 408 = .ok (.aload_n 0, 1) := dw_42 (kcL_law_6 24 42 rfl)
theorem dL_law_409 : decode cL_law 409 = .ok (.iload_n 3, 1) := dw_29 (kcL_law_6 25 29 rfl)
theorem dL_law_410 : decode cL_law 410 = .ok (.iconst 2, 1) := dw_5 (kcL_law_6 26 5 rfl)
theorem dL_law_411 : decode cL_law 411 = .ok (.iadd, 1) := dw_96 (kcL_law_6 27 96 rfl)
theorem dL_law_412 : decode cL_law 412 = .ok (.iaload, 1) := dw_46 (kcL_law_6 28 46 rfl)
theorem dL_law_413 : decode cL_law 413 = .ok (.aload_n 0, 1) := dw_42 (kcL_law_6 29 42 rfl)
theorem dL_law_414 : decode cL_law 414 = .ok (.iload_n 3, 1) := dw_29 (kcL_law_6 30 29 rfl)
theorem dL_law_415 : decode cL_law 415 = .ok (.iconst 3, 1) := dw_6 (kcL_law_6 31 6 rfl)
theorem dL_law_416 : decode cL_law 416 = .ok (.iadd, 1) := dw_96 (kcL_law_6 32 96 rfl)
theorem dL_law_417 : decode cL_law 417 = .ok (.iaload, 1) := dw_46 (kcL_law_6 33 46 rfl)
theorem dL_law_418 : decode cL_law 418 = .ok (.aload_n 0, 1) := dw_42 (kcL_law_6 34 42 rfl)
theorem dL_law_419 : decode cL_law 419 = .ok (.iload_n 3, 1) := dw_29 (kcL_law_6 35 29 rfl)
theorem dL_law_420 : decode cL_law 420 = .ok (.iconst 4, 1) := dw_7 (kcL_law_6 36 7 rfl)
theorem dL_law_421 : decode cL_law 421 = .ok (.iadd, 1) := dw_96 (kcL_law_6 37 96 rfl)
theorem dL_law_422 : decode cL_law 422 = .ok (.iaload, 1) := dw_46 (kcL_law_6 38 46 rfl)
theorem dL_law_423 : decode cL_law 423 = .ok (.invokevirtual 41, 3) := dw_182 (kcL_law_6 39 182 rfl) (kcL_law_6 40 0 rfl) (kcL_law_6 41 41 rfl) rfl
theorem dL_law_426 : decode cL_law 426 = .ok (.pop, 1) := dw_87 (kcL_law_6 42 87 rfl)
theorem dL_law_427 : decode cL_law 427 = .ok (.goto 1227, 3) := dw_167 (kcL_law_6 43 167 rfl) (kcL_law_6 44 4 rfl) (kcL_law_6 45 203 rfl) rfl
theorem dL_law_430 : decode cL_law 430 = .ok (.aload_n 1, 1) := dw_43 (kcL_law_6 46 43 rfl)
theorem dL_law_431 : decode cL_law 431 = .ok (.aload_n 0, 1) := dw_42 (kcL_law_6 47 42 rfl)
theorem dL_law_432 : decode cL_law 432 = .ok (.iload_n 3, 1) := dw_29 (kcL_law_6 48 29 rfl)
theorem dL_law_433 : decode cL_law 433 = .ok (.iconst 1, 1) := dw_4 (kcL_law_6 49 4 rfl)
theorem dL_law_434 : decode cL_law 434 = .ok (.iadd, 1) := dw_96 (kcL_law_6 50 96 rfl)
theorem dL_law_435 : decode cL_law 435 = .ok (.iaload, 1) := dw_46 (kcL_law_6 51 46 rfl)
theorem dL_law_436 : decode cL_law 436 = .ok (.aload_n 0, 1) := dw_42 (kcL_law_6 52 42 rfl)
theorem dL_law_437 : decode cL_law 437 = .ok (.iload_n 3, 1) := dw_29 (kcL_law_6 53 29 rfl)
theorem dL_law_438 : decode cL_law 438 = .ok (.iconst 2, 1) := dw_5 (kcL_law_6 54 5 rfl)
theorem dL_law_439 : decode cL_law 439 = .ok (.iadd, 1) := dw_96 (kcL_law_6 55 96 rfl)
theorem dL_law_440 : decode cL_law 440 = .ok (.iaload, 1) := dw_46 (kcL_law_6 56 46 rfl)
theorem dL_law_441 : decode cL_law 441 = .ok (.aload_n 0, 1) := dw_42 (kcL_law_6 57 42 rfl)
theorem dL_law_442 : decode cL_law 442 = .ok (.iload_n 3, 1) := dw_29 (kcL_law_6 58 29 rfl)
theorem dL_law_443 : decode cL_law 443 = .ok (.iconst 3, 1) := dw_6 (kcL_law_6 59 6 rfl)
theorem dL_law_444 : decode cL_law 444 = .ok (.iadd, 1) := dw_96 (kcL_law_6 60 96 rfl)
theorem dL_law_445 : decode cL_law 445 = .ok (.iaload, 1) := dw_46 (kcL_law_6 61 46 rfl)
theorem kcL_law_7 : CHb cL_law 448 [42, 87, 44, 42, 29, 4, 96, 46, 42, 29, 5, 96, 46, 42, 29, 6, 96, 46, 182, 0, 45, 87, 167, 4, 160, 43, 42, 29, 4, 96, 46, 42, 29, 5, 96, 46, 42, 29, 6, 96, 46, 182, 0, 46, 87, 44, 42, 29, 4, 96, 46, 42, 29, 5, 96, 46, 42, 29, 6, 96, 46, 182, 0, 49] := CHb_of (by decide +kernel)
theorem dL_law_446 : decode cL_law 446 = .ok (.invokevirtual 42, 3) := dw_182 (kcL_law_6 62 182 rfl) (kcL_law_6 63 0 rfl) (kcL_law_7 0 42 rfl) rfl
theorem dL_law_449 : decode cL_law 449 = .ok (.pop, 1) := dw_87 (kcL_law_7 1 87 rfl)
theorem dL_law_450 : decode cL_law 450 = .ok (.aload_n 2, 1) := dw_44 (kcL_law_7 2 44 rfl)
theorem dL_law_451 : decode cL_law 451 = .ok (.aload_n 0, 1) := dw_42 (kcL_law_7 3 42 rfl)
theorem dL_law_452 : decode cL_law 452 = .ok (.iload_n 3, 1) := dw_29 (kcL_law_7 4 29 rfl)
theorem dL_law_453 : decode cL_law 453 = .ok (.iconst 1, 1) := dw_4 (kcL_law_7 5 4 rfl)
theorem dL_law_454 : decode cL_law 454 = .ok (.iadd, 1) := dw_96 (kcL_law_7 6 96 rfl)
theorem dL_law_455 : decode cL_law 455 = .ok (.iaload, 1) := dw_46 (kcL_law_7 7 46 rfl)
theorem dL_law_456 : decode cL_law 456 = .ok (.aload_n 0, 1) := dw_42 (kcL_law_7 8 42 rfl)
theorem dL_law_457 : decode cL_law 457 = .ok (.iload_n 3, 1) := dw_29 (kcL_law_7 9 29 rfl)
theorem dL_law_458 : decode cL_law 458 = .ok (.iconst 2, 1) := dw_5 (kcL_law_7 10 5 rfl)
theorem dL_law_459 : decode cL_law 459 = .ok (.iadd, 1) := dw_96 (kcL_law_7 11 96 rfl)
theorem dL_law_460 : decode cL_law 460 = .ok (.iaload, 1) := dw_46 (kcL_law_7 12 46 rfl)
theorem dL_law_461 : decode cL_law 461 = .ok (.aload_n 0, 1) := dw_42 (kcL_law_7 13 42 rfl)
theorem dL_law_462 : decode cL_law 462 = .ok (.iload_n 3, 1) := dw_29 (kcL_law_7 14 29 rfl)
theorem dL_law_463 : decode cL_law 463 = .ok (.iconst 3, 1) := dw_6 (kcL_law_7 15 6 rfl)
theorem dL_law_464 : decode cL_law 464 = .ok (.iadd, 1) := dw_96 (kcL_law_7 16 96 rfl)
theorem dL_law_465 : decode cL_law 465 = .ok (.iaload, 1) := dw_46 (kcL_law_7 17 46 rfl)
theorem dL_law_466 : decode cL_law 466 = .ok (.invokevirtual 45, 3) := dw_182 (kcL_law_7 18 182 rfl) (kcL_law_7 19 0 rfl) (kcL_law_7 20 45 rfl) rfl
theorem dL_law_469 : decode cL_law 469 = .ok (.pop, 1) := dw_87 (kcL_law_7 21 87 rfl)
theorem dL_law_470 : decode cL_law 470 = .ok (.goto 1184, 3) := dw_167 (kcL_law_7 22 167 rfl) (kcL_law_7 23 4 rfl) (kcL_law_7 24 160 rfl) rfl
theorem dL_law_473 : decode cL_law 473 = .ok (.aload_n 1, 1) := dw_43 (kcL_law_7 25 43 rfl)
theorem dL_law_474 : decode cL_law 474 = .ok (.aload_n 0, 1) := dw_42 (kcL_law_7 26 42 rfl)
theorem dL_law_475 : decode cL_law 475 = .ok (.iload_n 3, 1) := dw_29 (kcL_law_7 27 29 rfl)
theorem dL_law_476 : decode cL_law 476 = .ok (.iconst 1, 1) := dw_4 (kcL_law_7 28 4 rfl)
theorem dL_law_477 : decode cL_law 477 = .ok (.iadd, 1) := dw_96 (kcL_law_7 29 96 rfl)
theorem dL_law_478 : decode cL_law 478 = .ok (.iaload, 1) := dw_46 (kcL_law_7 30 46 rfl)
theorem dL_law_479 : decode cL_law 479 = .ok (.aload_n 0, 1) := dw_42 (kcL_law_7 31 42 rfl)
theorem dL_law_480 : decode cL_law 480 = .ok (.iload_n 3, 1) := dw_29 (kcL_law_7 32 29 rfl)
theorem dL_law_481 : decode cL_law 481 = .ok (.iconst 2, 1) := dw_5 (kcL_law_7 33 5 rfl)
theorem dL_law_482 : decode cL_law 482 = .ok (.iadd, 1) := dw_96 (kcL_law_7 34 96 rfl)
theorem dL_law_483 : decode cL_law 483 = .ok (.iaload, 1) := dw_46 (kcL_law_7 35 46 rfl)
theorem dL_law_484 : decode cL_law 484 = .ok (.aload_n 0, 1) := dw_42 (kcL_law_7 36 42 rfl)
theorem dL_law_485 : decode cL_law 485 = .ok (.iload_n 3, 1) := dw_29 (kcL_law_7 37 29 rfl)
theorem dL_law_486 : decode cL_law 486 = .ok (.iconst 3, 1) := dw_6 (kcL_law_7 38 6 rfl)
theorem dL_law_487 : decode cL_law 487 = .ok (.iadd, 1) := dw_96 (kcL_law_7 39 96 rfl)
theorem dL_law_488 : decode cL_law 488 = .ok (.iaload, 1) := dw_46 (kcL_law_7 40 46 rfl)
theorem dL_law_489 : decode cL_law 489 = .ok (.invokevirtual 46, 3) := dw_182 (kcL_law_7 41 182 rfl) (kcL_law_7 42 0 rfl) (kcL_law_7 43 46 rfl) rfl
theorem dL_law_492 : decode cL_law 492 = .ok (.pop, 1) := dw_87 (kcL_law_7 44 87 rfl)
theorem dL_law_493 : decode cL_law 493 = .ok (.aload_n 2, 1) := dw_44 (kcL_law_7 45 44 rfl)
theorem dL_law_494 : decode cL_law 494 = .ok (.aload_n 0, 1) := dw_42 (kcL_law_7 46 42 rfl)
theorem dL_law_495 : decode cL_law 495 = .ok (.iload_n 3, 1) := dw_29 (kcL_law_7 47 29 rfl)
theorem dL_law_496 : decode cL_law 496 = .ok (.iconst 1, 1) := dw_4 (kcL_law_7 48 4 rfl)
theorem dL_law_497 : decode cL_law 497 = .ok (.iadd, 1) := dw_96 (kcL_law_7 49 96 rfl)
theorem dL_law_498 : decode cL_law 498 = .ok (.iaload, 1) := dw_46 (kcL_law_7 50 46 rfl)
theorem dL_law_499 : decode cL_law 499 = .ok (.aload_n 0, 1) := dw_42 (kcL_law_7 51 42 rfl)
theorem dL_law_500 : decode cL_law 500 = .ok (.iload_n 3, 1) := dw_29 (kcL_law_7 52 29 rfl)
theorem dL_law_501 : decode cL_law 501 = .ok (.iconst 2, 1) := dw_5 (kcL_law_7 53 5 rfl)
theorem dL_law_502 : decode cL_law 502 = .ok (.iadd, 1) := dw_96 (kcL_law_7 54 96 rfl)
theorem dL_law_503 : decode cL_law 503 = .ok (.iaload, 1) := dw_46 (kcL_law_7 55 46 rfl)
theorem dL_law_504 : decode cL_law 504 = .ok (.aload_n 0, 1) := dw_42 (kcL_law_7 56 42 rfl)
theorem dL_law_505 : decode cL_law 505 = .ok (.iload_n 3, 1) := dw_29 (kcL_law_7 57 29 rfl)
theorem dL_law_506 : decode cL_law 506 = .ok (.iconst 3, 1) := dw_6 (kcL_law_7 58 6 rfl)
theorem dL_law_507 : decode cL_law 507 = .ok (.iadd, 1) := dw_96 (kcL_law_7 59 96 rfl)
theorem dL_law_508 : decode cL_law 508 = .ok (.iaload, 1) := dw_46 (kcL_law_7 60 46 rfl)
theorem dL_law_509 : decode cL_law 509 = .ok (.invokevirtual 49, 3) := dw_182 (kcL_law_7 61 182 rfl) (kcL_law_7 62 0 rfl) (kcL_law_7 63 49 rfl) rfl
theorem kcL_law_8 : CHb cL_law 512 [87, 167, 4, 117, 43, 42, 29, 4, 96, 46, 42, 29, 5, 96, 46, 42, 29, 6, 96, 46, 182, 0, 50, 87, 44, 42, 29, 4, 96, 46, 42, 29, 5, 96, 46, 42, 29, 6, 96, 46, 182, 0, 54, 87, 167, 4, 74, 43, 42, 29, 4, 96, 46, 42, 29, 5, 96, 46, 42, 29, 6, 96, 46, 182] := CHb_of (by decide +kernel)
theorem dL_law_512 : decode cL_law 512 = .ok (.pop, 1) := dw_87 (kcL_law_8 0 87 rfl)
theorem dL_law_513 : decode cL_law 513 = .ok (.goto 1141, 3) := dw_167 (kcL_law_8 1 167 rfl) (kcL_law_8 2 4 rfl) (kcL_law_8 3 117 rfl) rfl
theorem dL_law_516 : decode cL_law 516 = .ok (.aload_n 1, 1) := dw_43 (kcL_law_8 4 43 rfl)
theorem dL_law_517 : decode cL_law 517 = .ok (.aload_n 0, 1) := dw_42 (kcL_law_8 5 42 rfl)
theorem dL_law_518 : decode cL_law 518 = .ok (.iload_n 3, 1) := dw_29 (kcL_law_8 6 29 rfl)
theorem dL_law_519 : decode cL_law 519 = .ok (.iconst 1, 1) := dw_4 (kcL_law_8 7 4 rfl)
theorem dL_law_520 : decode cL_law 520 = .ok (.iadd, 1) := dw_96 (kcL_law_8 8 96 rfl)
theorem dL_law_521 : decode cL_law 521 = .ok (.iaload, 1) := dw_46 (kcL_law_8 9 46 rfl)
theorem dL_law_522 : decode cL_law 522 = .ok (.aload_n 0, 1) := dw_42 (kcL_law_8 10 42 rfl)
theorem dL_law_523 : decode cL_law 523 = .ok (.iload_n 3, 1) := dw_29 (kcL_law_8 11 29 rfl)
theorem dL_law_524 : decode cL_law 524 = .ok (.iconst 2, 1) := dw_5 (kcL_law_8 12 5 rfl)
theorem dL_law_525 : decode cL_law 525 = .ok (.iadd, 1) := dw_96 (kcL_law_8 13 96 rfl)
theorem dL_law_526 : decode cL_law 526 = .ok (.iaload, 1) := dw_46 (kcL_law_8 14 46 rfl)
theorem dL_law_527 : decode cL_law 527 = .ok (.aload_n 0, 1) := dw_42 (kcL_law_8 15 42 rfl)
theorem dL_law_528 : decode cL_law 528 = .ok (.iload_n 3, 1) := dw_29 (kcL_law_8 16 29 rfl)
theorem dL_law_529 : decode cL_law 529 = .ok (.iconst 3, 1) := dw_6 (kcL_law_8 17 6 rfl)
theorem dL_law_530 : decode cL_law 530 = .ok (.iadd, 1) := dw_96 (kcL_law_8 18 96 rfl)
theorem dL_law_531 : decode cL_law 531 = .ok (.iaload, 1) := dw_46 (kcL_law_8 19 46 rfl)
theorem dL_law_532 : decode cL_law 532 = .ok (.invokevirtual 50, 3) := dw_182 (kcL_law_8 20 182 rfl) (kcL_law_8 21 0 rfl) (kcL_law_8 22 50 rfl) rfl
theorem dL_law_535 : decode cL_law 535 = .ok (.pop, 1) := dw_87 (kcL_law_8 23 87 rfl)
theorem dL_law_536 : decode cL_law 536 = .ok (.aload_n 2, 1) := dw_44 (kcL_law_8 24 44 rfl)
theorem dL_law_537 : decode cL_law 537 = .ok (.aload_n 0, 1) := dw_42 (kcL_law_8 25 42 rfl)
theorem dL_law_538 : decode cL_law 538 = .ok (.iload_n 3, 1) := dw_29 (kcL_law_8 26 29 rfl)
theorem dL_law_539 : decode cL_law 539 = .ok (.iconst 1, 1) := dw_4 (kcL_law_8 27 4 rfl)
theorem dL_law_540 : decode cL_law 540 = .ok (.iadd, 1) := dw_96 (kcL_law_8 28 96 rfl)
theorem dL_law_541 : decode cL_law 541 = .ok (.iaload, 1) := dw_46 (kcL_law_8 29 46 rfl)
theorem dL_law_542 : decode cL_law 542 = .ok (.aload_n 0, 1) := dw_42 (kcL_law_8 30 42 rfl)
theorem dL_law_543 : decode cL_law 543 = .ok (.iload_n 3, 1) := dw_29 (kcL_law_8 31 29 rfl)
theorem dL_law_544 : decode cL_law 544 = .ok (.iconst 2, 1) := dw_5 (kcL_law_8 32 5 rfl)
theorem dL_law_545 : decode cL_law 545 = .ok (.iadd, 1) := dw_96 (kcL_law_8 33 96 rfl)
theorem dL_law_546 : decode cL_law 546 = .ok (.iaload, 1) := dw_46 (kcL_law_8 34 46 rfl)
theorem dL_law_547 : decode cL_law 547 = .ok (.aload_n 0, 1) := dw_42 (kcL_law_8 35 42 rfl)
theorem dL_law_548 : decode cL_law 548 = .ok (.iload_n 3, 1) := dw_29 (kcL_law_8 36 29 rfl)
theorem dL_law_549 : decode cL_law 549 = .ok (.iconst 3, 1) := dw_6 (kcL_law_8 37 6 rfl)
theorem dL_law_550 : decode cL_law 550 = .ok (.iadd, 1) := dw_96 (kcL_law_8 38 96 rfl)
theorem dL_law_551 : decode cL_law 551 = .ok (.iaload, 1) := dw_46 (kcL_law_8 39 46 rfl)
theorem dL_law_552 : decode cL_law 552 = .ok (.invokevirtual 54, 3) := dw_182 (kcL_law_8 40 182 rfl) (kcL_law_8 41 0 rfl) (kcL_law_8 42 54 rfl) rfl
theorem dL_law_555 : decode cL_law 555 = .ok (.pop, 1) := dw_87 (kcL_law_8 43 87 rfl)
theorem dL_law_556 : decode cL_law 556 = .ok (.goto 1098, 3) := dw_167 (kcL_law_8 44 167 rfl) (kcL_law_8 45 4 rfl) (kcL_law_8 46 74 rfl) rfl
theorem dL_law_559 : decode cL_law 559 = .ok (.aload_n 1, 1) := dw_43 (kcL_law_8 47 43 rfl)
theorem dL_law_560 : decode cL_law 560 = .ok (.aload_n 0, 1) := dw_42 (kcL_law_8 48 42 rfl)
theorem dL_law_561 : decode cL_law 561 = .ok (.iload_n 3, 1) := dw_29 (kcL_law_8 49 29 rfl)
theorem dL_law_562 : decode cL_law 562 = .ok (.iconst 1, 1) := dw_4 (kcL_law_8 50 4 rfl)
theorem dL_law_563 : decode cL_law 563 = .ok (.iadd, 1) := dw_96 (kcL_law_8 51 96 rfl)
theorem dL_law_564 : decode cL_law 564 = .ok (.iaload, 1) := dw_46 (kcL_law_8 52 46 rfl)
theorem dL_law_565 : decode cL_law 565 = .ok (.aload_n 0, 1) := dw_42 (kcL_law_8 53 42 rfl)
theorem dL_law_566 : decode cL_law 566 = .ok (.iload_n 3, 1) := dw_29 (kcL_law_8 54 29 rfl)
theorem dL_law_567 : decode cL_law 567 = .ok (.iconst 2, 1) := dw_5 (kcL_law_8 55 5 rfl)
theorem dL_law_568 : decode cL_law 568 = .ok (.iadd, 1) := dw_96 (kcL_law_8 56 96 rfl)
theorem dL_law_569 : decode cL_law 569 = .ok (.iaload, 1) := dw_46 (kcL_law_8 57 46 rfl)
theorem dL_law_570 : decode cL_law 570 = .ok (.aload_n 0, 1) := dw_42 (kcL_law_8 58 42 rfl)
theorem dL_law_571 : decode cL_law 571 = .ok (.iload_n 3, 1) := dw_29 (kcL_law_8 59 29 rfl)
theorem dL_law_572 : decode cL_law 572 = .ok (.iconst 3, 1) := dw_6 (kcL_law_8 60 6 rfl)
theorem dL_law_573 : decode cL_law 573 = .ok (.iadd, 1) := dw_96 (kcL_law_8 61 96 rfl)
theorem dL_law_574 : decode cL_law 574 = .ok (.iaload, 1) := dw_46 (kcL_law_8 62 46 rfl)
theorem kcL_law_9 : CHb cL_law 576 [0, 55, 87, 44, 42, 29, 4, 96, 46, 42, 29, 5, 96, 46, 42, 29, 6, 96, 46, 182, 0, 58, 87, 167, 4, 31, 43, 42, 29, 4, 96, 46, 42, 29, 5, 96, 46, 42, 29, 6, 96, 46, 182, 0, 59, 87, 44, 42, 29, 4, 96, 46, 42, 29, 5, 96, 46, 42, 29, 6, 96, 46, 182, 0] := CHb_of (by decide +kernel)
theorem dL_law_575 : decode cL_law 575 = .ok (.invokevirtual 55, 3) := dw_182 (kcL_law_8 63 182 rfl) (kcL_law_9 0 0 rfl) (kcL_law_9 1 55 rfl) rfl
theorem dL_law_578 : decode cL_law 578 = .ok (.pop, 1) := dw_87 (kcL_law_9 2 87 rfl)
theorem dL_law_579 : decode cL_law 579 = .ok (.aload_n 2, 1) := dw_44 (kcL_law_9 3 44 rfl)
theorem dL_law_580 : decode cL_law 580 = .ok (.aload_n 0, 1) := dw_42 (kcL_law_9 4 42 rfl)
theorem dL_law_581 : decode cL_law 581 = .ok (.iload_n 3, 1) := dw_29 (kcL_law_9 5 29 rfl)
theorem dL_law_582 : decode cL_law 582 = .ok (.iconst 1, 1) := dw_4 (kcL_law_9 6 4 rfl)
theorem dL_law_583 : decode cL_law 583 = .ok (.iadd, 1) := dw_96 (kcL_law_9 7 96 rfl)
theorem dL_law_584 : decode cL_law 584 = .ok (.iaload, 1) := dw_46 (kcL_law_9 8 46 rfl)
theorem dL_law_585 : decode cL_law 585 = .ok (.aload_n 0, 1) := dw_42 (kcL_law_9 9 42 rfl)
theorem dL_law_586 : decode cL_law 586 = .ok (.iload_n 3, 1) := dw_29 (kcL_law_9 10 29 rfl)
theorem dL_law_587 : decode cL_law 587 = .ok (.iconst 2, 1) := dw_5 (kcL_law_9 11 5 rfl)
theorem dL_law_588 : decode cL_law 588 = .ok (.iadd, 1) := dw_96 (kcL_law_9 12 96 rfl)
theorem dL_law_589 : decode cL_law 589 = .ok (.iaload, 1) := dw_46 (kcL_law_9 13 46 rfl)
theorem dL_law_590 : decode cL_law 590 = .ok (.aload_n 0, 1) := dw_42 (kcL_law_9 14 42 rfl)
theorem dL_law_591 : decode cL_law 591 = .ok (.iload_n 3, 1) := dw_29 (kcL_law_9 15 29 rfl)
theorem dL_law_592 : decode cL_law 592 = .ok (.iconst 3, 1) := dw_6 (kcL_law_9 16 6 rfl)
theorem dL_law_593 : decode cL_law 593 = .ok (.iadd, 1) := dw_96 (kcL_law_9 17 96 rfl)
theorem dL_law_594 : decode cL_law 594 = .ok (.iaload, 1) := dw_46 (kcL_law_9 18 46 rfl)
theorem dL_law_595 : decode cL_law 595 = .ok (.invokevirtual 58, 3) := dw_182 (kcL_law_9 19 182 rfl) (kcL_law_9 20 0 rfl) (kcL_law_9 21 58 rfl) rfl
theorem dL_law_598 : decode cL_law 598 = .ok (.pop, 1) := dw_87 (kcL_law_9 22 87 rfl)
theorem dL_law_599 : decode cL_law 599 = .ok (.goto 1055, 3) := dw_167 (kcL_law_9 23 167 rfl) (kcL_law_9 24 4 rfl) (kcL_law_9 25 31 rfl) rfl
theorem dL_law_602 : decode cL_law 602 = .ok (.aload_n 1, 1) := dw_43 (kcL_law_9 26 43 rfl)
theorem dL_law_603 : decode cL_law 603 = .ok (.aload_n 0, 1) := dw_42 (kcL_law_9 27 42 rfl)
theorem dL_law_604 : decode cL_law 604 = .ok (.iload_n 3, 1) := dw_29 (kcL_law_9 28 29 rfl)
theorem dL_law_605 : decode cL_law 605 = .ok (.iconst 1, 1) := dw_4 (kcL_law_9 29 4 rfl)
theorem dL_law_606 : decode cL_law 606 = .ok (.iadd, 1) := dw_96 (kcL_law_9 30 96 rfl)
theorem dL_law_607 : decode cL_law 607 = .ok (.iaload, 1) := dw_46 (kcL_law_9 31 46 rfl)
theorem dL_law_608 : decode cL_law 608 = .ok (.aload_n 0, 1) := dw_42 (kcL_law_9 32 42 rfl)
theorem dL_law_609 : decode cL_law 609 = .ok (.iload_n 3, 1) := dw_29 (kcL_law_9 33 29 rfl)
theorem dL_law_610 : decode cL_law 610 = .ok (.iconst 2, 1) := dw_5 (kcL_law_9 34 5 rfl)
theorem dL_law_611 : decode cL_law 611 = .ok (.iadd, 1) := dw_96 (kcL_law_9 35 96 rfl)
theorem dL_law_612 : decode cL_law 612 = .ok (.iaload, 1) := dw_46 (kcL_law_9 36 46 rfl)
theorem dL_law_613 : decode cL_law 613 = .ok (.aload_n 0, 1) := dw_42 (kcL_law_9 37 42 rfl)
theorem dL_law_614 : decode cL_law 614 = .ok (.iload_n 3, 1) := dw_29 (kcL_law_9 38 29 rfl)
theorem dL_law_615 : decode cL_law 615 = .ok (.iconst 3, 1) := dw_6 (kcL_law_9 39 6 rfl)
theorem dL_law_616 : decode cL_law 616 = .ok (.iadd, 1) := dw_96 (kcL_law_9 40 96 rfl)
theorem dL_law_617 : decode cL_law 617 = .ok (.iaload, 1) := dw_46 (kcL_law_9 41 46 rfl)
theorem dL_law_618 : decode cL_law 618 = .ok (.invokevirtual 59, 3) := dw_182 (kcL_law_9 42 182 rfl) (kcL_law_9 43 0 rfl) (kcL_law_9 44 59 rfl) rfl
theorem dL_law_621 : decode cL_law 621 = .ok (.pop, 1) := dw_87 (kcL_law_9 45 87 rfl)
theorem dL_law_622 : decode cL_law 622 = .ok (.aload_n 2, 1) := dw_44 (kcL_law_9 46 44 rfl)
theorem dL_law_623 : decode cL_law 623 = .ok (.aload_n 0, 1) := dw_42 (kcL_law_9 47 42 rfl)
theorem dL_law_624 : decode cL_law 624 = .ok (.iload_n 3, 1) := dw_29 (kcL_law_9 48 29 rfl)
theorem dL_law_625 : decode cL_law 625 = .ok (.iconst 1, 1) := dw_4 (kcL_law_9 49 4 rfl)
theorem dL_law_626 : decode cL_law 626 = .ok (.iadd, 1) := dw_96 (kcL_law_9 50 96 rfl)
theorem dL_law_627 : decode cL_law 627 = .ok (.iaload, 1) := dw_46 (kcL_law_9 51 46 rfl)
theorem dL_law_628 : decode cL_law 628 = .ok (.aload_n 0, 1) := dw_42 (kcL_law_9 52 42 rfl)
theorem dL_law_629 : decode cL_law 629 = .ok (.iload_n 3, 1) := dw_29 (kcL_law_9 53 29 rfl)
theorem dL_law_630 : decode cL_law 630 = .ok (.iconst 2, 1) := dw_5 (kcL_law_9 54 5 rfl)
theorem dL_law_631 : decode cL_law 631 = .ok (.iadd, 1) := dw_96 (kcL_law_9 55 96 rfl)
theorem dL_law_632 : decode cL_law 632 = .ok (.iaload, 1) := dw_46 (kcL_law_9 56 46 rfl)
theorem dL_law_633 : decode cL_law 633 = .ok (.aload_n 0, 1) := dw_42 (kcL_law_9 57 42 rfl)
theorem dL_law_634 : decode cL_law 634 = .ok (.iload_n 3, 1) := dw_29 (kcL_law_9 58 29 rfl)
theorem dL_law_635 : decode cL_law 635 = .ok (.iconst 3, 1) := dw_6 (kcL_law_9 59 6 rfl)
theorem dL_law_636 : decode cL_law 636 = .ok (.iadd, 1) := dw_96 (kcL_law_9 60 96 rfl)
theorem dL_law_637 : decode cL_law 637 = .ok (.iaload, 1) := dw_46 (kcL_law_9 61 46 rfl)
theorem kcL_law_10 : CHb cL_law 640 [62, 87, 167, 3, 244, 43, 42, 29, 4, 96, 46, 42, 29, 5, 96, 46, 42, 29, 6, 96, 46, 182, 0, 63, 87, 44, 42, 29, 4, 96, 46, 42, 29, 5, 96, 46, 42, 29, 6, 96, 46, 182, 0, 66, 87, 167, 3, 201, 43, 42, 29, 4, 96, 46, 42, 29, 5, 96, 46, 42, 29, 6, 96, 46] := CHb_of (by decide +kernel)
theorem dL_law_638 : decode cL_law 638 = .ok (.invokevirtual 62, 3) := dw_182 (kcL_law_9 62 182 rfl) (kcL_law_9 63 0 rfl) (kcL_law_10 0 62 rfl) rfl
theorem dL_law_641 : decode cL_law 641 = .ok (.pop, 1) := dw_87 (kcL_law_10 1 87 rfl)
theorem dL_law_642 : decode cL_law 642 = .ok (.goto 1012, 3) := dw_167 (kcL_law_10 2 167 rfl) (kcL_law_10 3 3 rfl) (kcL_law_10 4 244 rfl) rfl
theorem dL_law_645 : decode cL_law 645 = .ok (.aload_n 1, 1) := dw_43 (kcL_law_10 5 43 rfl)
theorem dL_law_646 : decode cL_law 646 = .ok (.aload_n 0, 1) := dw_42 (kcL_law_10 6 42 rfl)
theorem dL_law_647 : decode cL_law 647 = .ok (.iload_n 3, 1) := dw_29 (kcL_law_10 7 29 rfl)
theorem dL_law_648 : decode cL_law 648 = .ok (.iconst 1, 1) := dw_4 (kcL_law_10 8 4 rfl)
theorem dL_law_649 : decode cL_law 649 = .ok (.iadd, 1) := dw_96 (kcL_law_10 9 96 rfl)
theorem dL_law_650 : decode cL_law 650 = .ok (.iaload, 1) := dw_46 (kcL_law_10 10 46 rfl)
theorem dL_law_651 : decode cL_law 651 = .ok (.aload_n 0, 1) := dw_42 (kcL_law_10 11 42 rfl)
theorem dL_law_652 : decode cL_law 652 = .ok (.iload_n 3, 1) := dw_29 (kcL_law_10 12 29 rfl)
theorem dL_law_653 : decode cL_law 653 = .ok (.iconst 2, 1) := dw_5 (kcL_law_10 13 5 rfl)
theorem dL_law_654 : decode cL_law 654 = .ok (.iadd, 1) := dw_96 (kcL_law_10 14 96 rfl)
theorem dL_law_655 : decode cL_law 655 = .ok (.iaload, 1) := dw_46 (kcL_law_10 15 46 rfl)
theorem dL_law_656 : decode cL_law 656 = .ok (.aload_n 0, 1) := dw_42 (kcL_law_10 16 42 rfl)
theorem dL_law_657 : decode cL_law 657 = .ok (.iload_n 3, 1) := dw_29 (kcL_law_10 17 29 rfl)
theorem dL_law_658 : decode cL_law 658 = .ok (.iconst 3, 1) := dw_6 (kcL_law_10 18 6 rfl)
theorem dL_law_659 : decode cL_law 659 = .ok (.iadd, 1) := dw_96 (kcL_law_10 19 96 rfl)
theorem dL_law_660 : decode cL_law 660 = .ok (.iaload, 1) := dw_46 (kcL_law_10 20 46 rfl)
theorem dL_law_661 : decode cL_law 661 = .ok (.invokevirtual 63, 3) := dw_182 (kcL_law_10 21 182 rfl) (kcL_law_10 22 0 rfl) (kcL_law_10 23 63 rfl) rfl
theorem dL_law_664 : decode cL_law 664 = .ok (.pop, 1) := dw_87 (kcL_law_10 24 87 rfl)
theorem dL_law_665 : decode cL_law 665 = .ok (.aload_n 2, 1) := dw_44 (kcL_law_10 25 44 rfl)
theorem dL_law_666 : decode cL_law 666 = .ok (.aload_n 0, 1) := dw_42 (kcL_law_10 26 42 rfl)
theorem dL_law_667 : decode cL_law 667 = .ok (.iload_n 3, 1) := dw_29 (kcL_law_10 27 29 rfl)
theorem dL_law_668 : decode cL_law 668 = .ok (.iconst 1, 1) := dw_4 (kcL_law_10 28 4 rfl)
theorem dL_law_669 : decode cL_law 669 = .ok (.iadd, 1) := dw_96 (kcL_law_10 29 96 rfl)
theorem dL_law_670 : decode cL_law 670 = .ok (.iaload, 1) := dw_46 (kcL_law_10 30 46 rfl)
theorem dL_law_671 : decode cL_law 671 = .ok (.aload_n 0, 1) := dw_42 (kcL_law_10 31 42 rfl)
theorem dL_law_672 : decode cL_law 672 = .ok (.iload_n 3, 1) := dw_29 (kcL_law_10 32 29 rfl)
theorem dL_law_673 : decode cL_law 673 = .ok (.iconst 2, 1) := dw_5 (kcL_law_10 33 5 rfl)
theorem dL_law_674 : decode cL_law 674 = .ok (.iadd, 1) := dw_96 (kcL_law_10 34 96 rfl)
theorem dL_law_675 : decode cL_law 675 = .ok (.iaload, 1) := dw_46 (kcL_law_10 35 46 rfl)
theorem dL_law_676 : decode cL_law 676 = .ok (.aload_n 0, 1) := dw_42 (kcL_law_10 36 42 rfl)
theorem dL_law_677 : decode cL_law 677 = .ok (.iload_n 3, 1) := dw_29 (kcL_law_10 37 29 rfl)
theorem dL_law_678 : decode cL_law 678 = .ok (.iconst 3, 1) := dw_6 (kcL_law_10 38 6 rfl)
theorem dL_law_679 : decode cL_law 679 = .ok (.iadd, 1) := dw_96 (kcL_law_10 39 96 rfl)
theorem dL_law_680 : decode cL_law 680 = .ok (.iaload, 1) := dw_46 (kcL_law_10 40 46 rfl)
theorem dL_law_681 : decode cL_law 681 = .ok (.invokevirtual 66, 3) := dw_182 (kcL_law_10 41 182 rfl) (kcL_law_10 42 0 rfl) (kcL_law_10 43 66 rfl) rfl
theorem dL_law_684 : decode cL_law 684 = .ok (.pop, 1) := dw_87 (kcL_law_10 44 87 rfl)
theorem dL_law_685 : decode cL_law 685 = .ok (.goto 969, 3) := dw_167 (kcL_law_10 45 167 rfl) (kcL_law_10 46 3 rfl) (kcL_law_10 47 201 rfl) rfl
theorem dL_law_688 : decode cL_law 688 = .ok (.aload_n 1, 1) := dw_43 (kcL_law_10 48 43 rfl)
theorem dL_law_689 : decode cL_law 689 = .ok (.aload_n 0, 1) := dw_42 (kcL_law_10 49 42 rfl)
theorem dL_law_690 : decode cL_law 690 = .ok (.iload_n 3, 1) := dw_29 (kcL_law_10 50 29 rfl)
theorem dL_law_691 : decode cL_law 691 = .ok (.iconst 1, 1) := dw_4 (kcL_law_10 51 4 rfl)
theorem dL_law_692 : decode cL_law 692 = .ok (.iadd, 1) := dw_96 (kcL_law_10 52 96 rfl)
theorem dL_law_693 : decode cL_law 693 = .ok (.iaload, 1) := dw_46 (kcL_law_10 53 46 rfl)
theorem dL_law_694 : decode cL_law 694 = .ok (.aload_n 0, 1) := dw_42 (kcL_law_10 54 42 rfl)
theorem dL_law_695 : decode cL_law 695 = .ok (.iload_n 3, 1) := dw_29 (kcL_law_10 55 29 rfl)
theorem dL_law_696 : decode cL_law 696 = .ok (.iconst 2, 1) := dw_5 (kcL_law_10 56 5 rfl)
theorem dL_law_697 : decode cL_law 697 = .ok (.iadd, 1) := dw_96 (kcL_law_10 57 96 rfl)
theorem dL_law_698 : decode cL_law 698 = .ok (.iaload, 1) := dw_46 (kcL_law_10 58 46 rfl)
theorem dL_law_699 : decode cL_law 699 = .ok (.aload_n 0, 1) := dw_42 (kcL_law_10 59 42 rfl)
theorem dL_law_700 : decode cL_law 700 = .ok (.iload_n 3, 1) := dw_29 (kcL_law_10 60 29 rfl)
theorem dL_law_701 : decode cL_law 701 = .ok (.iconst 3, 1) := dw_6 (kcL_law_10 61 6 rfl)
theorem dL_law_702 : decode cL_law 702 = .ok (.iadd, 1) := dw_96 (kcL_law_10 62 96 rfl)
theorem dL_law_703 : decode cL_law 703 = .ok (.iaload, 1) := dw_46 (kcL_law_10 63 46 rfl)
theorem kcL_law_11 : CHb cL_law 704 [42, 29, 7, 96, 46, 182, 0, 67, 87, 44, 42, 29, 4, 96, 46, 42, 29, 5, 96, 46, 42, 29, 6, 96, 46, 42, 29, 7, 96, 46, 182, 0, 71, 87, 167, 3, 148, 43, 42, 29, 4, 96, 46, 42, 29, 5, 96, 46, 42, 29, 6, 96, 46, 42, 29, 7, 96, 46, 153, 0, 7, 4, 167, 0] := CHb_of (by decide +kernel)
theorem dL_law_704 : decode cL_law 704 = .ok (.aload_n 0, 1) := dw_42 (kcL_law_11 0 42 rfl)
theorem dL_law_705 : decode cL_law 705 = .ok (.iload_n 3, 1) := dw_29 (kcL_law_11 1 29 rfl)
theorem dL_law_706 : decode cL_law 706 = .ok (.iconst 4, 1) := dw_7 (kcL_law_11 2 7 rfl)
theorem dL_law_707 : decode cL_law 707 = .ok (.iadd, 1) := dw_96 (kcL_law_11 3 96 rfl)
theorem dL_law_708 : decode cL_law 708 = .ok (.iaload, 1) := dw_46 (kcL_law_11 4 46 rfl)
theorem dL_law_709 : decode cL_law 709 = .ok (.invokevirtual 67, 3) := dw_182 (kcL_law_11 5 182 rfl) (kcL_law_11 6 0 rfl) (kcL_law_11 7 67 rfl) rfl
theorem dL_law_712 : decode cL_law 712 = .ok (.pop, 1) := dw_87 (kcL_law_11 8 87 rfl)
theorem dL_law_713 : decode cL_law 713 = .ok (.aload_n 2, 1) := dw_44 (kcL_law_11 9 44 rfl)
theorem dL_law_714 : decode cL_law 714 = .ok (.aload_n 0, 1) := dw_42 (kcL_law_11 10 42 rfl)
theorem dL_law_715 : decode cL_law 715 = .ok (.iload_n 3, 1) := dw_29 (kcL_law_11 11 29 rfl)
theorem dL_law_716 : decode cL_law 716 = .ok (.iconst 1, 1) := dw_4 (kcL_law_11 12 4 rfl)
theorem dL_law_717 : decode cL_law 717 = .ok (.iadd, 1) := dw_96 (kcL_law_11 13 96 rfl)
theorem dL_law_718 : decode cL_law 718 = .ok (.iaload, 1) := dw_46 (kcL_law_11 14 46 rfl)
theorem dL_law_719 : decode cL_law 719 = .ok (.aload_n 0, 1) := dw_42 (kcL_law_11 15 42 rfl)
theorem dL_law_720 : decode cL_law 720 = .ok (.iload_n 3, 1) := dw_29 (kcL_law_11 16 29 rfl)
theorem dL_law_721 : decode cL_law 721 = .ok (.iconst 2, 1) := dw_5 (kcL_law_11 17 5 rfl)
theorem dL_law_722 : decode cL_law 722 = .ok (.iadd, 1) := dw_96 (kcL_law_11 18 96 rfl)
theorem dL_law_723 : decode cL_law 723 = .ok (.iaload, 1) := dw_46 (kcL_law_11 19 46 rfl)
theorem dL_law_724 : decode cL_law 724 = .ok (.aload_n 0, 1) := dw_42 (kcL_law_11 20 42 rfl)
theorem dL_law_725 : decode cL_law 725 = .ok (.iload_n 3, 1) := dw_29 (kcL_law_11 21 29 rfl)
theorem dL_law_726 : decode cL_law 726 = .ok (.iconst 3, 1) := dw_6 (kcL_law_11 22 6 rfl)
theorem dL_law_727 : decode cL_law 727 = .ok (.iadd, 1) := dw_96 (kcL_law_11 23 96 rfl)
theorem dL_law_728 : decode cL_law 728 = .ok (.iaload, 1) := dw_46 (kcL_law_11 24 46 rfl)
theorem dL_law_729 : decode cL_law 729 = .ok (.aload_n 0, 1) := dw_42 (kcL_law_11 25 42 rfl)
theorem dL_law_730 : decode cL_law 730 = .ok (.iload_n 3, 1) := dw_29 (kcL_law_11 26 29 rfl)
theorem dL_law_731 : decode cL_law 731 = .ok (.iconst 4, 1) := dw_7 (kcL_law_11 27 7 rfl)
theorem dL_law_732 : decode cL_law 732 = .ok (.iadd, 1) := dw_96 (kcL_law_11 28 96 rfl)
theorem dL_law_733 : decode cL_law 733 = .ok (.iaload, 1) := dw_46 (kcL_law_11 29 46 rfl)
theorem dL_law_734 : decode cL_law 734 = .ok (.invokevirtual 71, 3) := dw_182 (kcL_law_11 30 182 rfl) (kcL_law_11 31 0 rfl) (kcL_law_11 32 71 rfl) rfl
theorem dL_law_737 : decode cL_law 737 = .ok (.pop, 1) := dw_87 (kcL_law_11 33 87 rfl)
theorem dL_law_738 : decode cL_law 738 = .ok (.goto 916, 3) := dw_167 (kcL_law_11 34 167 rfl) (kcL_law_11 35 3 rfl) (kcL_law_11 36 148 rfl) rfl
theorem dL_law_741 : decode cL_law 741 = .ok (.aload_n 1, 1) := dw_43 (kcL_law_11 37 43 rfl)
theorem dL_law_742 : decode cL_law 742 = .ok (.aload_n 0, 1) := dw_42 (kcL_law_11 38 42 rfl)
theorem dL_law_743 : decode cL_law 743 = .ok (.iload_n 3, 1) := dw_29 (kcL_law_11 39 29 rfl)
theorem dL_law_744 : decode cL_law 744 = .ok (.iconst 1, 1) := dw_4 (kcL_law_11 40 4 rfl)
theorem dL_law_745 : decode cL_law 745 = .ok (.iadd, 1) := dw_96 (kcL_law_11 41 96 rfl)
theorem dL_law_746 : decode cL_law 746 = .ok (.iaload, 1) := dw_46 (kcL_law_11 42 46 rfl)
theorem dL_law_747 : decode cL_law 747 = .ok (.aload_n 0, 1) := dw_42 (kcL_law_11 43 42 rfl)
theorem dL_law_748 : decode cL_law 748 = .ok (.iload_n 3, 1) := dw_29 (kcL_law_11 44 29 rfl)
theorem dL_law_749 : decode cL_law 749 = .ok (.iconst 2, 1) := dw_5 (kcL_law_11 45 5 rfl)
theorem dL_law_750 : decode cL_law 750 = .ok (.iadd, 1) := dw_96 (kcL_law_11 46 96 rfl)
theorem dL_law_751 : decode cL_law 751 = .ok (.iaload, 1) := dw_46 (kcL_law_11 47 46 rfl)
theorem dL_law_752 : decode cL_law 752 = .ok (.aload_n 0, 1) := dw_42 (kcL_law_11 48 42 rfl)
theorem dL_law_753 : decode cL_law 753 = .ok (.iload_n 3, 1) := dw_29 (kcL_law_11 49 29 rfl)
theorem dL_law_754 : decode cL_law 754 = .ok (.iconst 3, 1) := dw_6 (kcL_law_11 50 6 rfl)
theorem dL_law_755 : decode cL_law 755 = .ok (.iadd, 1) := dw_96 (kcL_law_11 51 96 rfl)
theorem dL_law_756 : decode cL_law 756 = .ok (.iaload, 1) := dw_46 (kcL_law_11 52 46 rfl)
theorem dL_law_757 : decode cL_law 757 = .ok (.aload_n 0, 1) := dw_42 (kcL_law_11 53 42 rfl)
theorem dL_law_758 : decode cL_law 758 = .ok (.iload_n 3, 1) := dw_29 (kcL_law_11 54 29 rfl)
theorem dL_law_759 : decode cL_law 759 = .ok (.iconst 4, 1) := dw_7 (kcL_law_11 55 7 rfl)
theorem dL_law_760 : decode cL_law 760 = .ok (.iadd, 1) := dw_96 (kcL_law_11 56 96 rfl)
theorem dL_law_761 : decode cL_law 761 = .ok (.iaload, 1) := dw_46 (kcL_law_11 57 46 rfl)
theorem dL_law_762 : decode cL_law 762 = .ok (.ifCond .eq 7, 3) := dw_153 (kcL_law_11 58 153 rfl) (kcL_law_11 59 0 rfl) (kcL_law_11 60 7 rfl) rfl
theorem kcL_law_12 : CHb cL_law 768 [4, 3, 182, 0, 72, 87, 44, 42, 29, 4, 96, 46, 42, 29, 5, 96, 46, 42, 29, 6, 96, 46, 42, 29, 7, 96, 46, 153, 0, 7, 4, 167, 0, 4, 3, 182, 0, 76, 87, 167, 3, 79, 43, 42, 29, 4, 96, 46, 42, 29, 5, 96, 46, 42, 29, 6, 96, 46, 42, 29, 7, 96, 46, 153] := CHb_of (by decide +kernel)
theorem dL_law_769 : decode cL_law 769 = .ok (.iconst 0, 1) := dw_3 (kcL_law_12 1 3 rfl)
theorem dL_law_770 : decode cL_law 770 = .ok (.invokevirtual 72, 3) := dw_182 (kcL_law_12 2 182 rfl) (kcL_law_12 3 0 rfl) (kcL_law_12 4 72 rfl) rfl
theorem dL_law_773 : decode cL_law 773 = .ok (.pop, 1) := dw_87 (kcL_law_12 5 87 rfl)
theorem dL_law_774 : decode cL_law 774 = .ok (.aload_n 2, 1) := dw_44 (kcL_law_12 6 44 rfl)
theorem dL_law_775 : decode cL_law 775 = .ok (.aload_n 0, 1) := dw_42 (kcL_law_12 7 42 rfl)
theorem dL_law_776 : decode cL_law 776 = .ok (.iload_n 3, 1) := dw_29 (kcL_law_12 8 29 rfl)
theorem dL_law_777 : decode cL_law 777 = .ok (.iconst 1, 1) := dw_4 (kcL_law_12 9 4 rfl)
theorem dL_law_778 : decode cL_law 778 = .ok (.iadd, 1) := dw_96 (kcL_law_12 10 96 rfl)
theorem dL_law_779 : decode cL_law 779 = .ok (.iaload, 1) := dw_46 (kcL_law_12 11 46 rfl)
theorem dL_law_780 : decode cL_law 780 = .ok (.aload_n 0, 1) := dw_42 (kcL_law_12 12 42 rfl)
theorem dL_law_781 : decode cL_law 781 = .ok (.iload_n 3, 1) := dw_29 (kcL_law_12 13 29 rfl)
theorem dL_law_782 : decode cL_law 782 = .ok (.iconst 2, 1) := dw_5 (kcL_law_12 14 5 rfl)
theorem dL_law_783 : decode cL_law 783 = .ok (.iadd, 1) := dw_96 (kcL_law_12 15 96 rfl)
theorem dL_law_784 : decode cL_law 784 = .ok (.iaload, 1) := dw_46 (kcL_law_12 16 46 rfl)
theorem dL_law_785 : decode cL_law 785 = .ok (.aload_n 0, 1) := dw_42 (kcL_law_12 17 42 rfl)
theorem dL_law_786 : decode cL_law 786 = .ok (.iload_n 3, 1) := dw_29 (kcL_law_12 18 29 rfl)
theorem dL_law_787 : decode cL_law 787 = .ok (.iconst 3, 1) := dw_6 (kcL_law_12 19 6 rfl)
theorem dL_law_788 : decode cL_law 788 = .ok (.iadd, 1) := dw_96 (kcL_law_12 20 96 rfl)
theorem dL_law_789 : decode cL_law 789 = .ok (.iaload, 1) := dw_46 (kcL_law_12 21 46 rfl)
theorem dL_law_790 : decode cL_law 790 = .ok (.aload_n 0, 1) := dw_42 (kcL_law_12 22 42 rfl)
theorem dL_law_791 : decode cL_law 791 = .ok (.iload_n 3, 1) := dw_29 (kcL_law_12 23 29 rfl)
theorem dL_law_792 : decode cL_law 792 = .ok (.iconst 4, 1) := dw_7 (kcL_law_12 24 7 rfl)
theorem dL_law_793 : decode cL_law 793 = .ok (.iadd, 1) := dw_96 (kcL_law_12 25 96 rfl)
theorem dL_law_794 : decode cL_law 794 = .ok (.iaload, 1) := dw_46 (kcL_law_12 26 46 rfl)
theorem dL_law_795 : decode cL_law 795 = .ok (.ifCond .eq 7, 3) := dw_153 (kcL_law_12 27 153 rfl) (kcL_law_12 28 0 rfl) (kcL_law_12 29 7 rfl) rfl
theorem dL_law_802 : decode cL_law 802 = .ok (.iconst 0, 1) := dw_3 (kcL_law_12 34 3 rfl)
theorem dL_law_803 : decode cL_law 803 = .ok (.invokevirtual 76, 3) := dw_182 (kcL_law_12 35 182 rfl) (kcL_law_12 36 0 rfl) (kcL_law_12 37 76 rfl) rfl
theorem dL_law_806 : decode cL_law 806 = .ok (.pop, 1) := dw_87 (kcL_law_12 38 87 rfl)
theorem dL_law_807 : decode cL_law 807 = .ok (.goto 847, 3) := dw_167 (kcL_law_12 39 167 rfl) (kcL_law_12 40 3 rfl) (kcL_law_12 41 79 rfl) rfl
theorem dL_law_765 : decode cL_law 765 = .ok (.iconst 1, 1) := dw_4 (kcL_law_11 61 4 rfl)
theorem dL_law_766 : decode cL_law 766 = .ok (.goto 4, 3) := dw_167 (kcL_law_11 62 167 rfl) (kcL_law_11 63 0 rfl) (kcL_law_12 0 4 rfl) rfl
theorem dL_law_798 : decode cL_law 798 = .ok (.iconst 1, 1) := dw_4 (kcL_law_12 30 4 rfl)
theorem dL_law_799 : decode cL_law 799 = .ok (.goto 4, 3) := dw_167 (kcL_law_12 31 167 rfl) (kcL_law_12 32 0 rfl) (kcL_law_12 33 4 rfl) rfl
theorem dL_law_810 : decode cL_law 810 = .ok (.aload_n 1, 1) := dw_43 (kcL_law_12 42 43 rfl)
theorem dL_law_811 : decode cL_law 811 = .ok (.aload_n 0, 1) := dw_42 (kcL_law_12 43 42 rfl)
theorem dL_law_812 : decode cL_law 812 = .ok (.iload_n 3, 1) := dw_29 (kcL_law_12 44 29 rfl)
theorem dL_law_813 : decode cL_law 813 = .ok (.iconst 1, 1) := dw_4 (kcL_law_12 45 4 rfl)
theorem dL_law_814 : decode cL_law 814 = .ok (.iadd, 1) := dw_96 (kcL_law_12 46 96 rfl)
theorem dL_law_815 : decode cL_law 815 = .ok (.iaload, 1) := dw_46 (kcL_law_12 47 46 rfl)
theorem dL_law_816 : decode cL_law 816 = .ok (.aload_n 0, 1) := dw_42 (kcL_law_12 48 42 rfl)
theorem dL_law_817 : decode cL_law 817 = .ok (.iload_n 3, 1) := dw_29 (kcL_law_12 49 29 rfl)
theorem dL_law_818 : decode cL_law 818 = .ok (.iconst 2, 1) := dw_5 (kcL_law_12 50 5 rfl)
theorem dL_law_819 : decode cL_law 819 = .ok (.iadd, 1) := dw_96 (kcL_law_12 51 96 rfl)
theorem dL_law_820 : decode cL_law 820 = .ok (.iaload, 1) := dw_46 (kcL_law_12 52 46 rfl)
theorem dL_law_821 : decode cL_law 821 = .ok (.aload_n 0, 1) := dw_42 (kcL_law_12 53 42 rfl)
theorem dL_law_822 : decode cL_law 822 = .ok (.iload_n 3, 1) := dw_29 (kcL_law_12 54 29 rfl)
theorem dL_law_823 : decode cL_law 823 = .ok (.iconst 3, 1) := dw_6 (kcL_law_12 55 6 rfl)
theorem dL_law_824 : decode cL_law 824 = .ok (.iadd, 1) := dw_96 (kcL_law_12 56 96 rfl)
theorem dL_law_825 : decode cL_law 825 = .ok (.iaload, 1) := dw_46 (kcL_law_12 57 46 rfl)
theorem dL_law_826 : decode cL_law 826 = .ok (.aload_n 0, 1) := dw_42 (kcL_law_12 58 42 rfl)
theorem dL_law_827 : decode cL_law 827 = .ok (.iload_n 3, 1) := dw_29 (kcL_law_12 59 29 rfl)
theorem dL_law_828 : decode cL_law 828 = .ok (.iconst 4, 1) := dw_7 (kcL_law_12 60 7 rfl)
theorem dL_law_829 : decode cL_law 829 = .ok (.iadd, 1) := dw_96 (kcL_law_12 61 96 rfl)
theorem dL_law_830 : decode cL_law 830 = .ok (.iaload, 1) := dw_46 (kcL_law_12 62 46 rfl)
theorem kcL_law_13 : CHb cL_law 832 [0, 7, 4, 167, 0, 4, 3, 182, 0, 77, 87, 44, 42, 29, 4, 96, 46, 42, 29, 5, 96, 46, 42, 29, 6, 96, 46, 42, 29, 7, 96, 46, 153, 0, 7, 4, 167, 0, 4, 3, 182, 0, 80, 87, 167, 3, 10, 43, 42, 29, 4, 96, 46, 42, 29, 5, 96, 46, 182, 0, 81, 87, 44, 42] := CHb_of (by decide +kernel)
theorem dL_law_831 : decode cL_law 831 = .ok (.ifCond .eq 7, 3) := dw_153 (kcL_law_12 63 153 rfl) (kcL_law_13 0 0 rfl) (kcL_law_13 1 7 rfl) rfl
theorem dL_law_838 : decode cL_law 838 = .ok (.iconst 0, 1) := dw_3 (kcL_law_13 6 3 rfl)
theorem dL_law_839 : decode cL_law 839 = .ok (.invokevirtual 77, 3) := dw_182 (kcL_law_13 7 182 rfl) (kcL_law_13 8 0 rfl) (kcL_law_13 9 77 rfl) rfl
theorem dL_law_842 : decode cL_law 842 = .ok (.pop, 1) := dw_87 (kcL_law_13 10 87 rfl)
theorem dL_law_843 : decode cL_law 843 = .ok (.aload_n 2, 1) := dw_44 (kcL_law_13 11 44 rfl)
theorem dL_law_844 : decode cL_law 844 = .ok (.aload_n 0, 1) := dw_42 (kcL_law_13 12 42 rfl)
theorem dL_law_845 : decode cL_law 845 = .ok (.iload_n 3, 1) := dw_29 (kcL_law_13 13 29 rfl)
theorem dL_law_846 : decode cL_law 846 = .ok (.iconst 1, 1) := dw_4 (kcL_law_13 14 4 rfl)
theorem dL_law_847 : decode cL_law 847 = .ok (.iadd, 1) := dw_96 (kcL_law_13 15 96 rfl)
theorem dL_law_848 : decode cL_law 848 = .ok (.iaload, 1) := dw_46 (kcL_law_13 16 46 rfl)
theorem dL_law_849 : decode cL_law 849 = .ok (.aload_n 0, 1) := dw_42 (kcL_law_13 17 42 rfl)
theorem dL_law_850 : decode cL_law 850 = .ok (.iload_n 3, 1) := dw_29 (kcL_law_13 18 29 rfl)
theorem dL_law_851 : decode cL_law 851 = .ok (.iconst 2, 1) := dw_5 (kcL_law_13 19 5 rfl)
theorem dL_law_852 : decode cL_law 852 = .ok (.iadd, 1) := dw_96 (kcL_law_13 20 96 rfl)
theorem dL_law_853 : decode cL_law 853 = .ok (.iaload, 1) := dw_46 (kcL_law_13 21 46 rfl)
theorem dL_law_854 : decode cL_law 854 = .ok (.aload_n 0, 1) := dw_42 (kcL_law_13 22 42 rfl)
theorem dL_law_855 : decode cL_law 855 = .ok (.iload_n 3, 1) := dw_29 (kcL_law_13 23 29 rfl)
theorem dL_law_856 : decode cL_law 856 = .ok (.iconst 3, 1) := dw_6 (kcL_law_13 24 6 rfl)
theorem dL_law_857 : decode cL_law 857 = .ok (.iadd, 1) := dw_96 (kcL_law_13 25 96 rfl)
theorem dL_law_858 : decode cL_law 858 = .ok (.iaload, 1) := dw_46 (kcL_law_13 26 46 rfl)
theorem dL_law_859 : decode cL_law 859 = .ok (.aload_n 0, 1) := dw_42 (kcL_law_13 27 42 rfl)
theorem dL_law_860 : decode cL_law 860 = .ok (.iload_n 3, 1) := dw_29 (kcL_law_13 28 29 rfl)
theorem dL_law_861 : decode cL_law 861 = .ok (.iconst 4, 1) := dw_7 (kcL_law_13 29 7 rfl)
theorem dL_law_862 : decode cL_law 862 = .ok (.iadd, 1) := dw_96 (kcL_law_13 30 96 rfl)
theorem dL_law_863 : decode cL_law 863 = .ok (.iaload, 1) := dw_46 (kcL_law_13 31 46 rfl)
theorem dL_law_864 : decode cL_law 864 = .ok (.ifCond .eq 7, 3) := dw_153 (kcL_law_13 32 153 rfl) (kcL_law_13 33 0 rfl) (kcL_law_13 34 7 rfl) rfl
theorem dL_law_871 : decode cL_law 871 = .ok (.iconst 0, 1) := dw_3 (kcL_law_13 39 3 rfl)
theorem dL_law_872 : decode cL_law 872 = .ok (.invokevirtual 80, 3) := dw_182 (kcL_law_13 40 182 rfl) (kcL_law_13 41 0 rfl) (kcL_law_13 42 80 rfl) rfl
theorem dL_law_875 : decode cL_law 875 = .ok (.pop, 1) := dw_87 (kcL_law_13 43 87 rfl)
theorem dL_law_876 : decode cL_law 876 = .ok (.goto 778, 3) := dw_167 (kcL_law_13 44 167 rfl) (kcL_law_13 45 3 rfl) (kcL_law_13 46 10 rfl) rfl
theorem dL_law_834 : decode cL_law 834 = .ok (.iconst 1, 1) := dw_4 (kcL_law_13 2 4 rfl)
theorem dL_law_835 : decode cL_law 835 = .ok (.goto 4, 3) := dw_167 (kcL_law_13 3 167 rfl) (kcL_law_13 4 0 rfl) (kcL_law_13 5 4 rfl) rfl
theorem dL_law_867 : decode cL_law 867 = .ok (.iconst 1, 1) := dw_4 (kcL_law_13 35 4 rfl)
theorem dL_law_868 : decode cL_law 868 = .ok (.goto 4, 3) := dw_167 (kcL_law_13 36 167 rfl) (kcL_law_13 37 0 rfl) (kcL_law_13 38 4 rfl) rfl
theorem dL_law_879 : decode cL_law 879 = .ok (.aload_n 1, 1) := dw_43 (kcL_law_13 47 43 rfl)
theorem dL_law_880 : decode cL_law 880 = .ok (.aload_n 0, 1) := dw_42 (kcL_law_13 48 42 rfl)
theorem dL_law_881 : decode cL_law 881 = .ok (.iload_n 3, 1) := dw_29 (kcL_law_13 49 29 rfl)
theorem dL_law_882 : decode cL_law 882 = .ok (.iconst 1, 1) := dw_4 (kcL_law_13 50 4 rfl)
theorem dL_law_883 : decode cL_law 883 = .ok (.iadd, 1) := dw_96 (kcL_law_13 51 96 rfl)
theorem dL_law_884 : decode cL_law 884 = .ok (.iaload, 1) := dw_46 (kcL_law_13 52 46 rfl)
theorem dL_law_885 : decode cL_law 885 = .ok (.aload_n 0, 1) := dw_42 (kcL_law_13 53 42 rfl)
theorem dL_law_886 : decode cL_law 886 = .ok (.iload_n 3, 1) := dw_29 (kcL_law_13 54 29 rfl)
theorem dL_law_887 : decode cL_law 887 = .ok (.iconst 2, 1) := dw_5 (kcL_law_13 55 5 rfl)
theorem dL_law_888 : decode cL_law 888 = .ok (.iadd, 1) := dw_96 (kcL_law_13 56 96 rfl)
theorem dL_law_889 : decode cL_law 889 = .ok (.iaload, 1) := dw_46 (kcL_law_13 57 46 rfl)
theorem dL_law_890 : decode cL_law 890 = .ok (.invokevirtual 81, 3) := dw_182 (kcL_law_13 58 182 rfl) (kcL_law_13 59 0 rfl) (kcL_law_13 60 81 rfl) rfl
theorem dL_law_893 : decode cL_law 893 = .ok (.pop, 1) := dw_87 (kcL_law_13 61 87 rfl)
theorem dL_law_894 : decode cL_law 894 = .ok (.aload_n 2, 1) := dw_44 (kcL_law_13 62 44 rfl)
theorem dL_law_895 : decode cL_law 895 = .ok (.aload_n 0, 1) := dw_42 (kcL_law_13 63 42 rfl)
theorem kcL_law_14 : CHb cL_law 896 [29, 4, 96, 46, 42, 29, 5, 96, 46, 182, 0, 85, 87, 167, 2, 233, 43, 42, 29, 4, 96, 46, 42, 29, 5, 96, 46, 182, 0, 86, 87, 44, 42, 29, 4, 96, 46, 42, 29, 5, 96, 46, 182, 0, 89, 87, 167, 2, 200, 43, 42, 29, 4, 96, 46, 42, 29, 5, 96, 46, 42, 29, 6, 96] := CHb_of (by decide +kernel)
theorem dL_law_896 : decode cL_law 896 = .ok (.iload_n 3, 1) := dw_29 (kcL_law_14 0 29 rfl)
theorem dL_law_897 : decode cL_law 897 = .ok (.iconst 1, 1) := dw_4 (kcL_law_14 1 4 rfl)
theorem dL_law_898 : decode cL_law 898 = .ok (.iadd, 1) := dw_96 (kcL_law_14 2 96 rfl)
theorem dL_law_899 : decode cL_law 899 = .ok (.iaload, 1) := dw_46 (kcL_law_14 3 46 rfl)
theorem dL_law_900 : decode cL_law 900 = .ok (.aload_n 0, 1) := dw_42 (kcL_law_14 4 42 rfl)
theorem dL_law_901 : decode cL_law 901 = .ok (.iload_n 3, 1) := dw_29 (kcL_law_14 5 29 rfl)
theorem dL_law_902 : decode cL_law 902 = .ok (.iconst 2, 1) := dw_5 (kcL_law_14 6 5 rfl)
theorem dL_law_903 : decode cL_law 903 = .ok (.iadd, 1) := dw_96 (kcL_law_14 7 96 rfl)
theorem dL_law_904 : decode cL_law 904 = .ok (.iaload, 1) := dw_46 (kcL_law_14 8 46 rfl)
theorem dL_law_905 : decode cL_law 905 = .ok (.invokevirtual 85, 3) := dw_182 (kcL_law_14 9 182 rfl) (kcL_law_14 10 0 rfl) (kcL_law_14 11 85 rfl) rfl
theorem dL_law_908 : decode cL_law 908 = .ok (.pop, 1) := dw_87 (kcL_law_14 12 87 rfl)
theorem dL_law_909 : decode cL_law 909 = .ok (.goto 745, 3) := dw_167 (kcL_law_14 13 167 rfl) (kcL_law_14 14 2 rfl) (kcL_law_14 15 233 rfl) rfl
theorem dL_law_912 : decode cL_law 912 = .ok (.aload_n 1, 1) := dw_43 (kcL_law_14 16 43 rfl)
theorem dL_law_913 : decode cL_law 913 = .ok (.aload_n 0, 1) := dw_42 (kcL_law_14 17 42 rfl)
theorem dL_law_914 : decode cL_law 914 = .ok (.iload_n 3, 1) := dw_29 (kcL_law_14 18 29 rfl)
theorem dL_law_915 : decode cL_law 915 = .ok (.iconst 1, 1) := dw_4 (kcL_law_14 19 4 rfl)
theorem dL_law_916 : decode cL_law 916 = .ok (.iadd, 1) := dw_96 (kcL_law_14 20 96 rfl)
theorem dL_law_917 : decode cL_law 917 = .ok (.iaload, 1) := dw_46 (kcL_law_14 21 46 rfl)
theorem dL_law_918 : decode cL_law 918 = .ok (.aload_n 0, 1) := dw_42 (kcL_law_14 22 42 rfl)
theorem dL_law_919 : decode cL_law 919 = .ok (.iload_n 3, 1) := dw_29 (kcL_law_14 23 29 rfl)
theorem dL_law_920 : decode cL_law 920 = .ok (.iconst 2, 1) := dw_5 (kcL_law_14 24 5 rfl)
theorem dL_law_921 : decode cL_law 921 = .ok (.iadd, 1) := dw_96 (kcL_law_14 25 96 rfl)
theorem dL_law_922 : decode cL_law 922 = .ok (.iaload, 1) := dw_46 (kcL_law_14 26 46 rfl)
theorem dL_law_923 : decode cL_law 923 = .ok (.invokevirtual 86, 3) := dw_182 (kcL_law_14 27 182 rfl) (kcL_law_14 28 0 rfl) (kcL_law_14 29 86 rfl) rfl
theorem dL_law_926 : decode cL_law 926 = .ok (.pop, 1) := dw_87 (kcL_law_14 30 87 rfl)
theorem dL_law_927 : decode cL_law 927 = .ok (.aload_n 2, 1) := dw_44 (kcL_law_14 31 44 rfl)
theorem dL_law_928 : decode cL_law 928 = .ok (.aload_n 0, 1) := dw_42 (kcL_law_14 32 42 rfl)
theorem dL_law_929 : decode cL_law 929 = .ok (.iload_n 3, 1) := dw_29 (kcL_law_14 33 29 rfl)
theorem dL_law_930 : decode cL_law 930 = .ok (.iconst 1, 1) := dw_4 (kcL_law_14 34 4 rfl)
theorem dL_law_931 : decode cL_law 931 = .ok (.iadd, 1) := dw_96 (kcL_law_14 35 96 rfl)
theorem dL_law_932 : decode cL_law 932 = .ok (.iaload, 1) := dw_46 (kcL_law_14 36 46 rfl)
theorem dL_law_933 : decode cL_law 933 = .ok (.aload_n 0, 1) := dw_42 (kcL_law_14 37 42 rfl)
theorem dL_law_934 : decode cL_law 934 = .ok (.iload_n 3, 1) := dw_29 (kcL_law_14 38 29 rfl)
theorem dL_law_935 : decode cL_law 935 = .ok (.iconst 2, 1) := dw_5 (kcL_law_14 39 5 rfl)
theorem dL_law_936 : decode cL_law 936 = .ok (.iadd, 1) := dw_96 (kcL_law_14 40 96 rfl)
theorem dL_law_937 : decode cL_law 937 = .ok (.iaload, 1) := dw_46 (kcL_law_14 41 46 rfl)
theorem dL_law_938 : decode cL_law 938 = .ok (.invokevirtual 89, 3) := dw_182 (kcL_law_14 42 182 rfl) (kcL_law_14 43 0 rfl) (kcL_law_14 44 89 rfl) rfl
theorem dL_law_941 : decode cL_law 941 = .ok (.pop, 1) := dw_87 (kcL_law_14 45 87 rfl)
theorem dL_law_942 : decode cL_law 942 = .ok (.goto 712, 3) := dw_167 (kcL_law_14 46 167 rfl) (kcL_law_14 47 2 rfl) (kcL_law_14 48 200 rfl) rfl
theorem dL_law_945 : decode cL_law 945 = .ok (.aload_n 1, 1) := dw_43 (kcL_law_14 49 43 rfl)
theorem dL_law_946 : decode cL_law 946 = .ok (.aload_n 0, 1) := dw_42 (kcL_law_14 50 42 rfl)
theorem dL_law_947 : decode cL_law 947 = .ok (.iload_n 3, 1) := dw_29 (kcL_law_14 51 29 rfl)
theorem dL_law_948 : decode cL_law 948 = .ok (.iconst 1, 1) := dw_4 (kcL_law_14 52 4 rfl)
theorem dL_law_949 : decode cL_law 949 = .ok (.iadd, 1) := dw_96 (kcL_law_14 53 96 rfl)
theorem dL_law_950 : decode cL_law 950 = .ok (.iaload, 1) := dw_46 (kcL_law_14 54 46 rfl)
theorem dL_law_951 : decode cL_law 951 = .ok (.aload_n 0, 1) := dw_42 (kcL_law_14 55 42 rfl)
theorem dL_law_952 : decode cL_law 952 = .ok (.iload_n 3, 1) := dw_29 (kcL_law_14 56 29 rfl)
theorem dL_law_953 : decode cL_law 953 = .ok (.iconst 2, 1) := dw_5 (kcL_law_14 57 5 rfl)
theorem dL_law_954 : decode cL_law 954 = .ok (.iadd, 1) := dw_96 (kcL_law_14 58 96 rfl)
theorem dL_law_955 : decode cL_law 955 = .ok (.iaload, 1) := dw_46 (kcL_law_14 59 46 rfl)
theorem dL_law_956 : decode cL_law 956 = .ok (.aload_n 0, 1) := dw_42 (kcL_law_14 60 42 rfl)
theorem dL_law_957 : decode cL_law 957 = .ok (.iload_n 3, 1) := dw_29 (kcL_law_14 61 29 rfl)
theorem dL_law_958 : decode cL_law 958 = .ok (.iconst 3, 1) := dw_6 (kcL_law_14 62 6 rfl)
theorem dL_law_959 : decode cL_law 959 = .ok (.iadd, 1) := dw_96 (kcL_law_14 63 96 rfl)
theorem kcL_law_15 : CHb cL_law 960 [46, 182, 0, 90, 87, 44, 42, 29, 4, 96, 46, 42, 29, 5, 96, 46, 42, 29, 6, 96, 46, 182, 0, 93, 87, 167, 2, 157, 43, 42, 29, 4, 96, 46, 42, 29, 5, 96, 46, 42, 29, 6, 96, 46, 182, 0, 94, 87, 44, 42, 29, 4, 96, 46, 42, 29, 5, 96, 46, 42, 29, 6, 96, 46] := CHb_of (by decide +kernel)
theorem dL_law_960 : decode cL_law 960 = .ok (.iaload, 1) := dw_46 (kcL_law_15 0 46 rfl)
theorem dL_law_961 : decode cL_law 961 = .ok (.invokevirtual 90, 3) := dw_182 (kcL_law_15 1 182 rfl) (kcL_law_15 2 0 rfl) (kcL_law_15 3 90 rfl) rfl
theorem dL_law_964 : decode cL_law 964 = .ok (.pop, 1) := dw_87 (kcL_law_15 4 87 rfl)
theorem dL_law_965 : decode cL_law 965 = .ok (.aload_n 2, 1) := dw_44 (kcL_law_15 5 44 rfl)
theorem dL_law_966 : decode cL_law 966 = .ok (.aload_n 0, 1) := dw_42 (kcL_law_15 6 42 rfl)
theorem dL_law_967 : decode cL_law 967 = .ok (.iload_n 3, 1) := dw_29 (kcL_law_15 7 29 rfl)
theorem dL_law_968 : decode cL_law 968 = .ok (.iconst 1, 1) := dw_4 (kcL_law_15 8 4 rfl)
theorem dL_law_969 : decode cL_law 969 = .ok (.iadd, 1) := dw_96 (kcL_law_15 9 96 rfl)
theorem dL_law_970 : decode cL_law 970 = .ok (.iaload, 1) := dw_46 (kcL_law_15 10 46 rfl)
theorem dL_law_971 : decode cL_law 971 = .ok (.aload_n 0, 1) := dw_42 (kcL_law_15 11 42 rfl)
theorem dL_law_972 : decode cL_law 972 = .ok (.iload_n 3, 1) := dw_29 (kcL_law_15 12 29 rfl)
theorem dL_law_973 : decode cL_law 973 = .ok (.iconst 2, 1) := dw_5 (kcL_law_15 13 5 rfl)
theorem dL_law_974 : decode cL_law 974 = .ok (.iadd, 1) := dw_96 (kcL_law_15 14 96 rfl)
theorem dL_law_975 : decode cL_law 975 = .ok (.iaload, 1) := dw_46 (kcL_law_15 15 46 rfl)
theorem dL_law_976 : decode cL_law 976 = .ok (.aload_n 0, 1) := dw_42 (kcL_law_15 16 42 rfl)
theorem dL_law_977 : decode cL_law 977 = .ok (.iload_n 3, 1) := dw_29 (kcL_law_15 17 29 rfl)
theorem dL_law_978 : decode cL_law 978 = .ok (.iconst 3, 1) := dw_6 (kcL_law_15 18 6 rfl)
theorem dL_law_979 : decode cL_law 979 = .ok (.iadd, 1) := dw_96 (kcL_law_15 19 96 rfl)
theorem dL_law_980 : decode cL_law 980 = .ok (.iaload, 1) := dw_46 (kcL_law_15 20 46 rfl)
theorem dL_law_981 : decode cL_law 981 = .ok (.invokevirtual 93, 3) := dw_182 (kcL_law_15 21 182 rfl) (kcL_law_15 22 0 rfl) (kcL_law_15 23 93 rfl) rfl
theorem dL_law_984 : decode cL_law 984 = .ok (.pop, 1) := dw_87 (kcL_law_15 24 87 rfl)
theorem dL_law_985 : decode cL_law 985 = .ok (.goto 669, 3) := dw_167 (kcL_law_15 25 167 rfl) (kcL_law_15 26 2 rfl) (kcL_law_15 27 157 rfl) rfl
theorem dL_law_988 : decode cL_law 988 = .ok (.aload_n 1, 1) := dw_43 (kcL_law_15 28 43 rfl)
theorem dL_law_989 : decode cL_law 989 = .ok (.aload_n 0, 1) := dw_42 (kcL_law_15 29 42 rfl)
theorem dL_law_990 : decode cL_law 990 = .ok (.iload_n 3, 1) := dw_29 (kcL_law_15 30 29 rfl)
theorem dL_law_991 : decode cL_law 991 = .ok (.iconst 1, 1) := dw_4 (kcL_law_15 31 4 rfl)
theorem dL_law_992 : decode cL_law 992 = .ok (.iadd, 1) := dw_96 (kcL_law_15 32 96 rfl)
theorem dL_law_993 : decode cL_law 993 = .ok (.iaload, 1) := dw_46 (kcL_law_15 33 46 rfl)
theorem dL_law_994 : decode cL_law 994 = .ok (.aload_n 0, 1) := dw_42 (kcL_law_15 34 42 rfl)
theorem dL_law_995 : decode cL_law 995 = .ok (.iload_n 3, 1) := dw_29 (kcL_law_15 35 29 rfl)
theorem dL_law_996 : decode cL_law 996 = .ok (.iconst 2, 1) := dw_5 (kcL_law_15 36 5 rfl)
theorem dL_law_997 : decode cL_law 997 = .ok (.iadd, 1) := dw_96 (kcL_law_15 37 96 rfl)
theorem dL_law_998 : decode cL_law 998 = .ok (.iaload, 1) := dw_46 (kcL_law_15 38 46 rfl)
theorem dL_law_999 : decode cL_law 999 = .ok (.aload_n 0, 1) := dw_42 (kcL_law_15 39 42 rfl)
theorem dL_law_1000 : decode cL_law 1000 = .ok (.iload_n 3, 1) := dw_29 (kcL_law_15 40 29 rfl)
theorem dL_law_1001 : decode cL_law 1001 = .ok (.iconst 3, 1) := dw_6 (kcL_law_15 41 6 rfl)
theorem dL_law_1002 : decode cL_law 1002 = .ok (.iadd, 1) := dw_96 (kcL_law_15 42 96 rfl)
theorem dL_law_1003 : decode cL_law 1003 = .ok (.iaload, 1) := dw_46 (kcL_law_15 43 46 rfl)
theorem dL_law_1004 : decode cL_law 1004 = .ok (.invokevirtual 94, 3) := dw_182 (kcL_law_15 44 182 rfl) (kcL_law_15 45 0 rfl) (kcL_law_15 46 94 rfl) rfl
theorem dL_law_1007 : decode cL_law 1007 = .ok (.pop, 1) := dw_87 (kcL_law_15 47 87 rfl)
theorem dL_law_1008 : decode cL_law 1008 = .ok (.aload_n 2, 1) := dw_44 (kcL_law_15 48 44 rfl)
theorem dL_law_1009 : decode cL_law 1009 = .ok (.aload_n 0, 1) := dw_42 (kcL_law_15 49 42 rfl)
theorem dL_law_1010 : decode cL_law 1010 = .ok (.iload_n 3, 1) := dw_29 (kcL_law_15 50 29 rfl)
theorem dL_law_1011 : decode cL_law 1011 = .ok (.iconst 1, 1) := dw_4 (kcL_law_15 51 4 rfl)
theorem dL_law_1012 : decode cL_law 1012 = .ok (.iadd, 1) := dw_96 (kcL_law_15 52 96 rfl)
theorem dL_law_1013 : decode cL_law 1013 = .ok (.iaload, 1) := dw_46 (kcL_law_15 53 46 rfl)
theorem dL_law_1014 : decode cL_law 1014 = .ok (.aload_n 0, 1) := dw_42 (kcL_law_15 54 42 rfl)
theorem dL_law_1015 : decode cL_law 1015 = .ok (.iload_n 3, 1) := dw_29 (kcL_law_15 55 29 rfl)
theorem dL_law_1016 : decode cL_law 1016 = .ok (.iconst 2, 1) := dw_5 (kcL_law_15 56 5 rfl)
theorem dL_law_1017 : decode cL_law 1017 = .ok (.iadd, 1) := dw_96 (kcL_law_15 57 96 rfl)
theorem dL_law_1018 : decode cL_law 1018 = .ok (.iaload, 1) := dw_46 (kcL_law_15 58 46 rfl)
theorem dL_law_1019 : decode cL_law 1019 = .ok (.aload_n 0, 1) := dw_42 (kcL_law_15 59 42 rfl)
theorem dL_law_1020 : decode cL_law 1020 = .ok (.iload_n 3, 1) := dw_29 (kcL_law_15 60 29 rfl)
theorem dL_law_1021 : decode cL_law 1021 = .ok (.iconst 3, 1) := dw_6 (kcL_law_15 61 6 rfl)
theorem dL_law_1022 : decode cL_law 1022 = .ok (.iadd, 1) := dw_96 (kcL_law_15 62 96 rfl)
theorem dL_law_1023 : decode cL_law 1023 = .ok (.iaload, 1) := dw_46 (kcL_law_15 63 46 rfl)
theorem kcL_law_16 : CHb cL_law 1024 [182, 0, 97, 87, 167, 2, 114, 43, 42, 29, 4, 96, 46, 42, 29, 5, 96, 46, 42, 29, 6, 96, 46, 182, 0, 98, 87, 44, 42, 29, 4, 96, 46, 42, 29, 5, 96, 46, 42, 29, 6, 96, 46, 182, 0, 101, 87, 167, 2, 71, 43, 42, 29, 4, 96, 46, 42, 29, 5, 96, 46, 42, 29, 6] := CHb_of (by decide +kernel)
theorem dL_law_1024 : decode cL_law 1024 = .ok (.invokevirtual 97, 3) := dw_182 (kcL_law_16 0 182 rfl) (kcL_law_16 1 0 rfl) (kcL_law_16 2 97 rfl) rfl
theorem dL_law_1027 : decode cL_law 1027 = .ok (.pop, 1) := dw_87 (kcL_law_16 3 87 rfl)
theorem dL_law_1028 : decode cL_law 1028 = .ok (.goto 626, 3) := dw_167 (kcL_law_16 4 167 rfl) (kcL_law_16 5 2 rfl) (kcL_law_16 6 114 rfl) rfl
theorem dL_law_1031 : decode cL_law 1031 = .ok (.aload_n 1, 1) := dw_43 (kcL_law_16 7 43 rfl)
theorem dL_law_1032 : decode cL_law 1032 = .ok (.aload_n 0, 1) := dw_42 (kcL_law_16 8 42 rfl)
theorem dL_law_1033 : decode cL_law 1033 = .ok (.iload_n 3, 1) := dw_29 (kcL_law_16 9 29 rfl)
theorem dL_law_1034 : decode cL_law 1034 = .ok (.iconst 1, 1) := dw_4 (kcL_law_16 10 4 rfl)
theorem dL_law_1035 : decode cL_law 1035 = .ok (.iadd, 1) := dw_96 (kcL_law_16 11 96 rfl)
theorem dL_law_1036 : decode cL_law 1036 = .ok (.iaload, 1) := dw_46 (kcL_law_16 12 46 rfl)
theorem dL_law_1037 : decode cL_law 1037 = .ok (.aload_n 0, 1) := dw_42 (kcL_law_16 13 42 rfl)
theorem dL_law_1038 : decode cL_law 1038 = .ok (.iload_n 3, 1) := dw_29 (kcL_law_16 14 29 rfl)
theorem dL_law_1039 : decode cL_law 1039 = .ok (.iconst 2, 1) := dw_5 (kcL_law_16 15 5 rfl)
theorem dL_law_1040 : decode cL_law 1040 = .ok (.iadd, 1) := dw_96 (kcL_law_16 16 96 rfl)
theorem dL_law_1041 : decode cL_law 1041 = .ok (.iaload, 1) := dw_46 (kcL_law_16 17 46 rfl)
theorem dL_law_1042 : decode cL_law 1042 = .ok (.aload_n 0, 1) := dw_42 (kcL_law_16 18 42 rfl)
theorem dL_law_1043 : decode cL_law 1043 = .ok (.iload_n 3, 1) := dw_29 (kcL_law_16 19 29 rfl)
theorem dL_law_1044 : decode cL_law 1044 = .ok (.iconst 3, 1) := dw_6 (kcL_law_16 20 6 rfl)
theorem dL_law_1045 : decode cL_law 1045 = .ok (.iadd, 1) := dw_96 (kcL_law_16 21 96 rfl)
theorem dL_law_1046 : decode cL_law 1046 = .ok (.iaload, 1) := dw_46 (kcL_law_16 22 46 rfl)
theorem dL_law_1047 : decode cL_law 1047 = .ok (.invokevirtual 98, 3) := dw_182 (kcL_law_16 23 182 rfl) (kcL_law_16 24 0 rfl) (kcL_law_16 25 98 rfl) rfl
theorem dL_law_1050 : decode cL_law 1050 = .ok (.pop, 1) := dw_87 (kcL_law_16 26 87 rfl)
theorem dL_law_1051 : decode cL_law 1051 = .ok (.aload_n 2, 1) := dw_44 (kcL_law_16 27 44 rfl)
theorem dL_law_1052 : decode cL_law 1052 = .ok (.aload_n 0, 1) := dw_42 (kcL_law_16 28 42 rfl)
theorem dL_law_1053 : decode cL_law 1053 = .ok (.iload_n 3, 1) := dw_29 (kcL_law_16 29 29 rfl)
theorem dL_law_1054 : decode cL_law 1054 = .ok (.iconst 1, 1) := dw_4 (kcL_law_16 30 4 rfl)
theorem dL_law_1055 : decode cL_law 1055 = .ok (.iadd, 1) := dw_96 (kcL_law_16 31 96 rfl)
theorem dL_law_1056 : decode cL_law 1056 = .ok (.iaload, 1) := dw_46 (kcL_law_16 32 46 rfl)
theorem dL_law_1057 : decode cL_law 1057 = .ok (.aload_n 0, 1) := dw_42 (kcL_law_16 33 42 rfl)
theorem dL_law_1058 : decode cL_law 1058 = .ok (.iload_n 3, 1) := dw_29 (kcL_law_16 34 29 rfl)
theorem dL_law_1059 : decode cL_law 1059 = .ok (.iconst 2, 1) := dw_5 (kcL_law_16 35 5 rfl)
theorem dL_law_1060 : decode cL_law 1060 = .ok (.iadd, 1) := dw_96 (kcL_law_16 36 96 rfl)
theorem dL_law_1061 : decode cL_law 1061 = .ok (.iaload, 1) := dw_46 (kcL_law_16 37 46 rfl)
theorem dL_law_1062 : decode cL_law 1062 = .ok (.aload_n 0, 1) := dw_42 (kcL_law_16 38 42 rfl)
theorem dL_law_1063 : decode cL_law 1063 = .ok (.iload_n 3, 1) := dw_29 (kcL_law_16 39 29 rfl)
theorem dL_law_1064 : decode cL_law 1064 = .ok (.iconst 3, 1) := dw_6 (kcL_law_16 40 6 rfl)
theorem dL_law_1065 : decode cL_law 1065 = .ok (.iadd, 1) := dw_96 (kcL_law_16 41 96 rfl)
theorem dL_law_1066 : decode cL_law 1066 = .ok (.iaload, 1) := dw_46 (kcL_law_16 42 46 rfl)
theorem dL_law_1067 : decode cL_law 1067 = .ok (.invokevirtual 101, 3) := dw_182 (kcL_law_16 43 182 rfl) (kcL_law_16 44 0 rfl) (kcL_law_16 45 101 rfl) rfl
theorem dL_law_1070 : decode cL_law 1070 = .ok (.pop, 1) := dw_87 (kcL_law_16 46 87 rfl)
theorem dL_law_1071 : decode cL_law 1071 = .ok (.goto 583, 3) := dw_167 (kcL_law_16 47 167 rfl) (kcL_law_16 48 2 rfl) (kcL_law_16 49 71 rfl) rfl
theorem dL_law_1074 : decode cL_law 1074 = .ok (.aload_n 1, 1) := dw_43 (kcL_law_16 50 43 rfl)
theorem dL_law_1075 : decode cL_law 1075 = .ok (.aload_n 0, 1) := dw_42 (kcL_law_16 51 42 rfl)
theorem dL_law_1076 : decode cL_law 1076 = .ok (.iload_n 3, 1) := dw_29 (kcL_law_16 52 29 rfl)
theorem dL_law_1077 : decode cL_law 1077 = .ok (.iconst 1, 1) := dw_4 (kcL_law_16 53 4 rfl)
theorem dL_law_1078 : decode cL_law 1078 = .ok (.iadd, 1) := dw_96 (kcL_law_16 54 96 rfl)
theorem dL_law_1079 : decode cL_law 1079 = .ok (.iaload, 1) := dw_46 (kcL_law_16 55 46 rfl)
theorem dL_law_1080 : decode cL_law 1080 = .ok (.aload_n 0, 1) := dw_42 (kcL_law_16 56 42 rfl)
theorem dL_law_1081 : decode cL_law 1081 = .ok (.iload_n 3, 1) := dw_29 (kcL_law_16 57 29 rfl)
theorem dL_law_1082 : decode cL_law 1082 = .ok (.iconst 2, 1) := dw_5 (kcL_law_16 58 5 rfl)
theorem dL_law_1083 : decode cL_law 1083 = .ok (.iadd, 1) := dw_96 (kcL_law_16 59 96 rfl)
theorem dL_law_1084 : decode cL_law 1084 = .ok (.iaload, 1) := dw_46 (kcL_law_16 60 46 rfl)
theorem dL_law_1085 : decode cL_law 1085 = .ok (.aload_n 0, 1) := dw_42 (kcL_law_16 61 42 rfl)
theorem dL_law_1086 : decode cL_law 1086 = .ok (.iload_n 3, 1) := dw_29 (kcL_law_16 62 29 rfl)
theorem dL_law_1087 : decode cL_law 1087 = .ok (.iconst 3, 1) := dw_6 (kcL_law_16 63 6 rfl)
theorem kcL_law_17 : CHb cL_law 1088 [96, 46, 182, 0, 102, 44, 42, 29, 4, 96, 46, 42, 29, 5, 96, 46, 42, 29, 6, 96, 46, 182, 0, 105, 159, 2, 30, 3, 172, 43, 42, 29, 4, 96, 46, 42, 29, 5, 96, 46, 42, 29, 6, 96, 46, 182, 0, 106, 87, 44, 42, 29, 4, 96, 46, 42, 29, 5, 96, 46, 42, 29, 6, 96] := CHb_of (by decide +kernel)
theorem dL_law_1088 : decode cL_law 1088 = .ok (.iadd, 1) := dw_96 (kcL_law_17 0 96 rfl)
theorem dL_law_1089 : decode cL_law 1089 = .ok (.iaload, 1) := dw_46 (kcL_law_17 1 46 rfl)
theorem dL_law_1090 : decode cL_law 1090 = .ok (.invokevirtual 102, 3) := dw_182 (kcL_law_17 2 182 rfl) (kcL_law_17 3 0 rfl) (kcL_law_17 4 102 rfl) rfl
theorem dL_law_1093 : decode cL_law 1093 = .ok (.aload_n 2, 1) := dw_44 (kcL_law_17 5 44 rfl)
theorem dL_law_1094 : decode cL_law 1094 = .ok (.aload_n 0, 1) := dw_42 (kcL_law_17 6 42 rfl)
theorem dL_law_1095 : decode cL_law 1095 = .ok (.iload_n 3, 1) := dw_29 (kcL_law_17 7 29 rfl)
theorem dL_law_1096 : decode cL_law 1096 = .ok (.iconst 1, 1) := dw_4 (kcL_law_17 8 4 rfl)
theorem dL_law_1097 : decode cL_law 1097 = .ok (.iadd, 1) := dw_96 (kcL_law_17 9 96 rfl)
theorem dL_law_1098 : decode cL_law 1098 = .ok (.iaload, 1) := dw_46 (kcL_law_17 10 46 rfl)
theorem dL_law_1099 : decode cL_law 1099 = .ok (.aload_n 0, 1) := dw_42 (kcL_law_17 11 42 rfl)
theorem dL_law_1100 : decode cL_law 1100 = .ok (.iload_n 3, 1) := dw_29 (kcL_law_17 12 29 rfl)
theorem dL_law_1101 : decode cL_law 1101 = .ok (.iconst 2, 1) := dw_5 (kcL_law_17 13 5 rfl)
theorem dL_law_1102 : decode cL_law 1102 = .ok (.iadd, 1) := dw_96 (kcL_law_17 14 96 rfl)
theorem dL_law_1103 : decode cL_law 1103 = .ok (.iaload, 1) := dw_46 (kcL_law_17 15 46 rfl)
theorem dL_law_1104 : decode cL_law 1104 = .ok (.aload_n 0, 1) := dw_42 (kcL_law_17 16 42 rfl)
theorem dL_law_1105 : decode cL_law 1105 = .ok (.iload_n 3, 1) := dw_29 (kcL_law_17 17 29 rfl)
theorem dL_law_1106 : decode cL_law 1106 = .ok (.iconst 3, 1) := dw_6 (kcL_law_17 18 6 rfl)
theorem dL_law_1107 : decode cL_law 1107 = .ok (.iadd, 1) := dw_96 (kcL_law_17 19 96 rfl)
theorem dL_law_1108 : decode cL_law 1108 = .ok (.iaload, 1) := dw_46 (kcL_law_17 20 46 rfl)
theorem dL_law_1109 : decode cL_law 1109 = .ok (.invokevirtual 105, 3) := dw_182 (kcL_law_17 21 182 rfl) (kcL_law_17 22 0 rfl) (kcL_law_17 23 105 rfl) rfl
theorem dL_law_1112 : decode cL_law 1112 = .ok (.if_icmp .eq 542, 3) := dw_159 (kcL_law_17 24 159 rfl) (kcL_law_17 25 2 rfl) (kcL_law_17 26 30 rfl) rfl
theorem dL_law_1117 : decode cL_law 1117 = .ok (.aload_n 1, 1) := dw_43 (kcL_law_17 29 43 rfl)
theorem dL_law_1118 : decode cL_law 1118 = .ok (.aload_n 0, 1) := dw_42 (kcL_law_17 30 42 rfl)
theorem dL_law_1119 : decode cL_law 1119 = .ok (.iload_n 3, 1) := dw_29 (kcL_law_17 31 29 rfl)
theorem dL_law_1120 : decode cL_law 1120 = .ok (.iconst 1, 1) := dw_4 (kcL_law_17 32 4 rfl)
theorem dL_law_1121 : decode cL_law 1121 = .ok (.iadd, 1) := dw_96 (kcL_law_17 33 96 rfl)
theorem dL_law_1122 : decode cL_law 1122 = .ok (.iaload, 1) := dw_46 (kcL_law_17 34 46 rfl)
theorem dL_law_1123 : decode cL_law 1123 = .ok (.aload_n 0, 1) := dw_42 (kcL_law_17 35 42 rfl)
theorem dL_law_1124 : decode cL_law 1124 = .ok (.iload_n 3, 1) := dw_29 (kcL_law_17 36 29 rfl)
theorem dL_law_1125 : decode cL_law 1125 = .ok (.iconst 2, 1) := dw_5 (kcL_law_17 37 5 rfl)
theorem dL_law_1126 : decode cL_law 1126 = .ok (.iadd, 1) := dw_96 (kcL_law_17 38 96 rfl)
theorem dL_law_1127 : decode cL_law 1127 = .ok (.iaload, 1) := dw_46 (kcL_law_17 39 46 rfl)
theorem dL_law_1128 : decode cL_law 1128 = .ok (.aload_n 0, 1) := dw_42 (kcL_law_17 40 42 rfl)
theorem dL_law_1129 : decode cL_law 1129 = .ok (.iload_n 3, 1) := dw_29 (kcL_law_17 41 29 rfl)
theorem dL_law_1130 : decode cL_law 1130 = .ok (.iconst 3, 1) := dw_6 (kcL_law_17 42 6 rfl)
theorem dL_law_1131 : decode cL_law 1131 = .ok (.iadd, 1) := dw_96 (kcL_law_17 43 96 rfl)
theorem dL_law_1132 : decode cL_law 1132 = .ok (.iaload, 1) := dw_46 (kcL_law_17 44 46 rfl)
theorem dL_law_1133 : decode cL_law 1133 = .ok (.invokevirtual 106, 3) := dw_182 (kcL_law_17 45 182 rfl) (kcL_law_17 46 0 rfl) (kcL_law_17 47 106 rfl) rfl
theorem dL_law_1136 : decode cL_law 1136 = .ok (.pop, 1) := dw_87 (kcL_law_17 48 87 rfl)
theorem dL_law_1137 : decode cL_law 1137 = .ok (.aload_n 2, 1) := dw_44 (kcL_law_17 49 44 rfl)
theorem dL_law_1138 : decode cL_law 1138 = .ok (.aload_n 0, 1) := dw_42 (kcL_law_17 50 42 rfl)
theorem dL_law_1139 : decode cL_law 1139 = .ok (.iload_n 3, 1) := dw_29 (kcL_law_17 51 29 rfl)
theorem dL_law_1140 : decode cL_law 1140 = .ok (.iconst 1, 1) := dw_4 (kcL_law_17 52 4 rfl)
theorem dL_law_1141 : decode cL_law 1141 = .ok (.iadd, 1) := dw_96 (kcL_law_17 53 96 rfl)
theorem dL_law_1142 : decode cL_law 1142 = .ok (.iaload, 1) := dw_46 (kcL_law_17 54 46 rfl)
theorem dL_law_1143 : decode cL_law 1143 = .ok (.aload_n 0, 1) := dw_42 (kcL_law_17 55 42 rfl)
theorem dL_law_1144 : decode cL_law 1144 = .ok (.iload_n 3, 1) := dw_29 (kcL_law_17 56 29 rfl)
theorem dL_law_1145 : decode cL_law 1145 = .ok (.iconst 2, 1) := dw_5 (kcL_law_17 57 5 rfl)
theorem dL_law_1146 : decode cL_law 1146 = .ok (.iadd, 1) := dw_96 (kcL_law_17 58 96 rfl)
theorem dL_law_1147 : decode cL_law 1147 = .ok (.iaload, 1) := dw_46 (kcL_law_17 59 46 rfl)
theorem dL_law_1148 : decode cL_law 1148 = .ok (.aload_n 0, 1) := dw_42 (kcL_law_17 60 42 rfl)
theorem dL_law_1149 : decode cL_law 1149 = .ok (.iload_n 3, 1) := dw_29 (kcL_law_17 61 29 rfl)
theorem dL_law_1150 : decode cL_law 1150 = .ok (.iconst 3, 1) := dw_6 (kcL_law_17 62 6 rfl)
theorem dL_law_1151 : decode cL_law 1151 = .ok (.iadd, 1) := dw_96 (kcL_law_17 63 96 rfl)
theorem kcL_law_18 : CHb cL_law 1152 [46, 182, 0, 109, 87, 167, 1, 241, 43, 42, 29, 4, 96, 46, 42, 29, 5, 96, 46, 42, 29, 6, 96, 46, 182, 0, 110, 87, 44, 42, 29, 4, 96, 46, 42, 29, 5, 96, 46, 42, 29, 6, 96, 46, 182, 0, 113, 87, 167, 1, 198, 43, 42, 29, 4, 96, 46, 42, 29, 5, 96, 46, 42, 29] := CHb_of (by decide +kernel)
theorem dL_law_1152 : decode cL_law 1152 = .ok (.iaload, 1) := dw_46 (kcL_law_18 0 46 rfl)
theorem dL_law_1153 : decode cL_law 1153 = .ok (.invokevirtual 109, 3) := dw_182 (kcL_law_18 1 182 rfl) (kcL_law_18 2 0 rfl) (kcL_law_18 3 109 rfl) rfl
theorem dL_law_1156 : decode cL_law 1156 = .ok (.pop, 1) := dw_87 (kcL_law_18 4 87 rfl)
theorem dL_law_1157 : decode cL_law 1157 = .ok (.goto 497, 3) := dw_167 (kcL_law_18 5 167 rfl) (kcL_law_18 6 1 rfl) (kcL_law_18 7 241 rfl) rfl
theorem dL_law_1160 : decode cL_law 1160 = .ok (.aload_n 1, 1) := dw_43 (kcL_law_18 8 43 rfl)
theorem dL_law_1161 : decode cL_law 1161 = .ok (.aload_n 0, 1) := dw_42 (kcL_law_18 9 42 rfl)
theorem dL_law_1162 : decode cL_law 1162 = .ok (.iload_n 3, 1) := dw_29 (kcL_law_18 10 29 rfl)
theorem dL_law_1163 : decode cL_law 1163 = .ok (.iconst 1, 1) := dw_4 (kcL_law_18 11 4 rfl)
theorem dL_law_1164 : decode cL_law 1164 = .ok (.iadd, 1) := dw_96 (kcL_law_18 12 96 rfl)
theorem dL_law_1165 : decode cL_law 1165 = .ok (.iaload, 1) := dw_46 (kcL_law_18 13 46 rfl)
theorem dL_law_1166 : decode cL_law 1166 = .ok (.aload_n 0, 1) := dw_42 (kcL_law_18 14 42 rfl)
theorem dL_law_1167 : decode cL_law 1167 = .ok (.iload_n 3, 1) := dw_29 (kcL_law_18 15 29 rfl)
theorem dL_law_1168 : decode cL_law 1168 = .ok (.iconst 2, 1) := dw_5 (kcL_law_18 16 5 rfl)
theorem dL_law_1169 : decode cL_law 1169 = .ok (.iadd, 1) := dw_96 (kcL_law_18 17 96 rfl)
theorem dL_law_1170 : decode cL_law 1170 = .ok (.iaload, 1) := dw_46 (kcL_law_18 18 46 rfl)
theorem dL_law_1171 : decode cL_law 1171 = .ok (.aload_n 0, 1) := dw_42 (kcL_law_18 19 42 rfl)
theorem dL_law_1172 : decode cL_law 1172 = .ok (.iload_n 3, 1) := dw_29 (kcL_law_18 20 29 rfl)
theorem dL_law_1173 : decode cL_law 1173 = .ok (.iconst 3, 1) := dw_6 (kcL_law_18 21 6 rfl)
theorem dL_law_1174 : decode cL_law 1174 = .ok (.iadd, 1) := dw_96 (kcL_law_18 22 96 rfl)
theorem dL_law_1175 : decode cL_law 1175 = .ok (.iaload, 1) := dw_46 (kcL_law_18 23 46 rfl)
theorem dL_law_1176 : decode cL_law 1176 = .ok (.invokevirtual 110, 3) := dw_182 (kcL_law_18 24 182 rfl) (kcL_law_18 25 0 rfl) (kcL_law_18 26 110 rfl) rfl
theorem dL_law_1179 : decode cL_law 1179 = .ok (.pop, 1) := dw_87 (kcL_law_18 27 87 rfl)
theorem dL_law_1180 : decode cL_law 1180 = .ok (.aload_n 2, 1) := dw_44 (kcL_law_18 28 44 rfl)
theorem dL_law_1181 : decode cL_law 1181 = .ok (.aload_n 0, 1) := dw_42 (kcL_law_18 29 42 rfl)
theorem dL_law_1182 : decode cL_law 1182 = .ok (.iload_n 3, 1) := dw_29 (kcL_law_18 30 29 rfl)
theorem dL_law_1183 : decode cL_law 1183 = .ok (.iconst 1, 1) := dw_4 (kcL_law_18 31 4 rfl)
theorem dL_law_1184 : decode cL_law 1184 = .ok (.iadd, 1) := dw_96 (kcL_law_18 32 96 rfl)
theorem dL_law_1185 : decode cL_law 1185 = .ok (.iaload, 1) := dw_46 (kcL_law_18 33 46 rfl)
theorem dL_law_1186 : decode cL_law 1186 = .ok (.aload_n 0, 1) := dw_42 (kcL_law_18 34 42 rfl)
theorem dL_law_1187 : decode cL_law 1187 = .ok (.iload_n 3, 1) := dw_29 (kcL_law_18 35 29 rfl)
theorem dL_law_1188 : decode cL_law 1188 = .ok (.iconst 2, 1) := dw_5 (kcL_law_18 36 5 rfl)
theorem dL_law_1189 : decode cL_law 1189 = .ok (.iadd, 1) := dw_96 (kcL_law_18 37 96 rfl)
theorem dL_law_1190 : decode cL_law 1190 = .ok (.iaload, 1) := dw_46 (kcL_law_18 38 46 rfl)
theorem dL_law_1191 : decode cL_law 1191 = .ok (.aload_n 0, 1) := dw_42 (kcL_law_18 39 42 rfl)
theorem dL_law_1192 : decode cL_law 1192 = .ok (.iload_n 3, 1) := dw_29 (kcL_law_18 40 29 rfl)
theorem dL_law_1193 : decode cL_law 1193 = .ok (.iconst 3, 1) := dw_6 (kcL_law_18 41 6 rfl)
theorem dL_law_1194 : decode cL_law 1194 = .ok (.iadd, 1) := dw_96 (kcL_law_18 42 96 rfl)
theorem dL_law_1195 : decode cL_law 1195 = .ok (.iaload, 1) := dw_46 (kcL_law_18 43 46 rfl)
theorem dL_law_1196 : decode cL_law 1196 = .ok (.invokevirtual 113, 3) := dw_182 (kcL_law_18 44 182 rfl) (kcL_law_18 45 0 rfl) (kcL_law_18 46 113 rfl) rfl
theorem dL_law_1199 : decode cL_law 1199 = .ok (.pop, 1) := dw_87 (kcL_law_18 47 87 rfl)
theorem dL_law_1200 : decode cL_law 1200 = .ok (.goto 454, 3) := dw_167 (kcL_law_18 48 167 rfl) (kcL_law_18 49 1 rfl) (kcL_law_18 50 198 rfl) rfl
theorem dL_law_1203 : decode cL_law 1203 = .ok (.aload_n 1, 1) := dw_43 (kcL_law_18 51 43 rfl)
theorem dL_law_1204 : decode cL_law 1204 = .ok (.aload_n 0, 1) := dw_42 (kcL_law_18 52 42 rfl)
theorem dL_law_1205 : decode cL_law 1205 = .ok (.iload_n 3, 1) := dw_29 (kcL_law_18 53 29 rfl)
theorem dL_law_1206 : decode cL_law 1206 = .ok (.iconst 1, 1) := dw_4 (kcL_law_18 54 4 rfl)
theorem dL_law_1207 : decode cL_law 1207 = .ok (.iadd, 1) := dw_96 (kcL_law_18 55 96 rfl)
theorem dL_law_1208 : decode cL_law 1208 = .ok (.iaload, 1) := dw_46 (kcL_law_18 56 46 rfl)
theorem dL_law_1209 : decode cL_law 1209 = .ok (.aload_n 0, 1) := dw_42 (kcL_law_18 57 42 rfl)
theorem dL_law_1210 : decode cL_law 1210 = .ok (.iload_n 3, 1) := dw_29 (kcL_law_18 58 29 rfl)
theorem dL_law_1211 : decode cL_law 1211 = .ok (.iconst 2, 1) := dw_5 (kcL_law_18 59 5 rfl)
theorem dL_law_1212 : decode cL_law 1212 = .ok (.iadd, 1) := dw_96 (kcL_law_18 60 96 rfl)
theorem dL_law_1213 : decode cL_law 1213 = .ok (.iaload, 1) := dw_46 (kcL_law_18 61 46 rfl)
theorem dL_law_1214 : decode cL_law 1214 = .ok (.aload_n 0, 1) := dw_42 (kcL_law_18 62 42 rfl)
theorem dL_law_1215 : decode cL_law 1215 = .ok (.iload_n 3, 1) := dw_29 (kcL_law_18 63 29 rfl)
theorem kcL_law_19 : CHb cL_law 1216 [6, 96, 46, 182, 0, 114, 87, 44, 42, 29, 4, 96, 46, 42, 29, 5, 96, 46, 42, 29, 6, 96, 46, 182, 0, 117, 87, 167, 1, 155, 43, 42, 29, 4, 96, 46, 182, 0, 118, 87, 44, 42, 29, 4, 96, 46, 182, 0, 122, 87, 167, 1, 132, 43, 42, 29, 4, 96, 46, 42, 29, 5, 96, 46] := CHb_of (by decide +kernel)
theorem dL_law_1216 : decode cL_law 1216 = .ok (.iconst 3, 1) := dw_6 (kcL_law_19 0 6 rfl)
theorem dL_law_1217 : decode cL_law 1217 = .ok (.iadd, 1) := dw_96 (kcL_law_19 1 96 rfl)
theorem dL_law_1218 : decode cL_law 1218 = .ok (.iaload, 1) := dw_46 (kcL_law_19 2 46 rfl)
theorem dL_law_1219 : decode cL_law 1219 = .ok (.invokevirtual 114, 3) := dw_182 (kcL_law_19 3 182 rfl) (kcL_law_19 4 0 rfl) (kcL_law_19 5 114 rfl) rfl
theorem dL_law_1222 : decode cL_law 1222 = .ok (.pop, 1) := dw_87 (kcL_law_19 6 87 rfl)
theorem dL_law_1223 : decode cL_law 1223 = .ok (.aload_n 2, 1) := dw_44 (kcL_law_19 7 44 rfl)
theorem dL_law_1224 : decode cL_law 1224 = .ok (.aload_n 0, 1) := dw_42 (kcL_law_19 8 42 rfl)
theorem dL_law_1225 : decode cL_law 1225 = .ok (.iload_n 3, 1) := dw_29 (kcL_law_19 9 29 rfl)
theorem dL_law_1226 : decode cL_law 1226 = .ok (.iconst 1, 1) := dw_4 (kcL_law_19 10 4 rfl)
theorem dL_law_1227 : decode cL_law 1227 = .ok (.iadd, 1) := dw_96 (kcL_law_19 11 96 rfl)
theorem dL_law_1228 : decode cL_law 1228 = .ok (.iaload, 1) := dw_46 (kcL_law_19 12 46 rfl)
theorem dL_law_1229 : decode cL_law 1229 = .ok (.aload_n 0, 1) := dw_42 (kcL_law_19 13 42 rfl)
theorem dL_law_1230 : decode cL_law 1230 = .ok (.iload_n 3, 1) := dw_29 (kcL_law_19 14 29 rfl)
theorem dL_law_1231 : decode cL_law 1231 = .ok (.iconst 2, 1) := dw_5 (kcL_law_19 15 5 rfl)
theorem dL_law_1232 : decode cL_law 1232 = .ok (.iadd, 1) := dw_96 (kcL_law_19 16 96 rfl)
theorem dL_law_1233 : decode cL_law 1233 = .ok (.iaload, 1) := dw_46 (kcL_law_19 17 46 rfl)
theorem dL_law_1234 : decode cL_law 1234 = .ok (.aload_n 0, 1) := dw_42 (kcL_law_19 18 42 rfl)
theorem dL_law_1235 : decode cL_law 1235 = .ok (.iload_n 3, 1) := dw_29 (kcL_law_19 19 29 rfl)
theorem dL_law_1236 : decode cL_law 1236 = .ok (.iconst 3, 1) := dw_6 (kcL_law_19 20 6 rfl)
theorem dL_law_1237 : decode cL_law 1237 = .ok (.iadd, 1) := dw_96 (kcL_law_19 21 96 rfl)
theorem dL_law_1238 : decode cL_law 1238 = .ok (.iaload, 1) := dw_46 (kcL_law_19 22 46 rfl)
theorem dL_law_1239 : decode cL_law 1239 = .ok (.invokevirtual 117, 3) := dw_182 (kcL_law_19 23 182 rfl) (kcL_law_19 24 0 rfl) (kcL_law_19 25 117 rfl) rfl
theorem dL_law_1242 : decode cL_law 1242 = .ok (.pop, 1) := dw_87 (kcL_law_19 26 87 rfl)
theorem dL_law_1243 : decode cL_law 1243 = .ok (.goto 411, 3) := dw_167 (kcL_law_19 27 167 rfl) (kcL_law_19 28 1 rfl) (kcL_law_19 29 155 rfl) rfl
theorem dL_law_1246 : decode cL_law 1246 = .ok (.aload_n 1, 1) := dw_43 (kcL_law_19 30 43 rfl)
theorem dL_law_1247 : decode cL_law 1247 = .ok (.aload_n 0, 1) := dw_42 (kcL_law_19 31 42 rfl)
theorem dL_law_1248 : decode cL_law 1248 = .ok (.iload_n 3, 1) := dw_29 (kcL_law_19 32 29 rfl)
theorem dL_law_1249 : decode cL_law 1249 = .ok (.iconst 1, 1) := dw_4 (kcL_law_19 33 4 rfl)
theorem dL_law_1250 : decode cL_law 1250 = .ok (.iadd, 1) := dw_96 (kcL_law_19 34 96 rfl)
theorem dL_law_1251 : decode cL_law 1251 = .ok (.iaload, 1) := dw_46 (kcL_law_19 35 46 rfl)
theorem dL_law_1252 : decode cL_law 1252 = .ok (.invokevirtual 118, 3) := dw_182 (kcL_law_19 36 182 rfl) (kcL_law_19 37 0 rfl) (kcL_law_19 38 118 rfl) rfl
theorem dL_law_1255 : decode cL_law 1255 = .ok (.pop, 1) := dw_87 (kcL_law_19 39 87 rfl)
theorem dL_law_1256 : decode cL_law 1256 = .ok (.aload_n 2, 1) := dw_44 (kcL_law_19 40 44 rfl)
theorem dL_law_1257 : decode cL_law 1257 = .ok (.aload_n 0, 1) := dw_42 (kcL_law_19 41 42 rfl)
theorem dL_law_1258 : decode cL_law 1258 = .ok (.iload_n 3, 1) := dw_29 (kcL_law_19 42 29 rfl)
theorem dL_law_1259 : decode cL_law 1259 = .ok (.iconst 1, 1) := dw_4 (kcL_law_19 43 4 rfl)
theorem dL_law_1260 : decode cL_law 1260 = .ok (.iadd, 1) := dw_96 (kcL_law_19 44 96 rfl)
theorem dL_law_1261 : decode cL_law 1261 = .ok (.iaload, 1) := dw_46 (kcL_law_19 45 46 rfl)
theorem dL_law_1262 : decode cL_law 1262 = .ok (.invokevirtual 122, 3) := dw_182 (kcL_law_19 46 182 rfl) (kcL_law_19 47 0 rfl) (kcL_law_19 48 122 rfl) rfl
theorem dL_law_1265 : decode cL_law 1265 = .ok (.pop, 1) := dw_87 (kcL_law_19 49 87 rfl)
theorem dL_law_1266 : decode cL_law 1266 = .ok (.goto 388, 3) := dw_167 (kcL_law_19 50 167 rfl) (kcL_law_19 51 1 rfl) (kcL_law_19 52 132 rfl) rfl
theorem dL_law_1269 : decode cL_law 1269 = .ok (.aload_n 1, 1) := dw_43 (kcL_law_19 53 43 rfl)
theorem dL_law_1270 : decode cL_law 1270 = .ok (.aload_n 0, 1) := dw_42 (kcL_law_19 54 42 rfl)
theorem dL_law_1271 : decode cL_law 1271 = .ok (.iload_n 3, 1) := dw_29 (kcL_law_19 55 29 rfl)
theorem dL_law_1272 : decode cL_law 1272 = .ok (.iconst 1, 1) := dw_4 (kcL_law_19 56 4 rfl)
theorem dL_law_1273 : decode cL_law 1273 = .ok (.iadd, 1) := dw_96 (kcL_law_19 57 96 rfl)
theorem dL_law_1274 : decode cL_law 1274 = .ok (.iaload, 1) := dw_46 (kcL_law_19 58 46 rfl)
theorem dL_law_1275 : decode cL_law 1275 = .ok (.aload_n 0, 1) := dw_42 (kcL_law_19 59 42 rfl)
theorem dL_law_1276 : decode cL_law 1276 = .ok (.iload_n 3, 1) := dw_29 (kcL_law_19 60 29 rfl)
theorem dL_law_1277 : decode cL_law 1277 = .ok (.iconst 2, 1) := dw_5 (kcL_law_19 61 5 rfl)
theorem dL_law_1278 : decode cL_law 1278 = .ok (.iadd, 1) := dw_96 (kcL_law_19 62 96 rfl)
theorem dL_law_1279 : decode cL_law 1279 = .ok (.iaload, 1) := dw_46 (kcL_law_19 63 46 rfl)
theorem kcL_law_20 : CHb cL_law 1280 [42, 29, 6, 96, 46, 42, 29, 7, 96, 46, 153, 0, 7, 4, 167, 0, 4, 3, 182, 0, 123, 87, 44, 42, 29, 4, 96, 46, 42, 29, 5, 96, 46, 42, 29, 6, 96, 46, 42, 29, 7, 96, 46, 153, 0, 7, 4, 167, 0, 4, 3, 182, 0, 127, 87, 167, 1, 63, 43, 42, 29, 4, 96, 46] := CHb_of (by decide +kernel)
theorem dL_law_1280 : decode cL_law 1280 = .ok (.aload_n 0, 1) := dw_42 (kcL_law_20 0 42 rfl)
theorem dL_law_1281 : decode cL_law 1281 = .ok (.iload_n 3, 1) := dw_29 (kcL_law_20 1 29 rfl)
theorem dL_law_1282 : decode cL_law 1282 = .ok (.iconst 3, 1) := dw_6 (kcL_law_20 2 6 rfl)
theorem dL_law_1283 : decode cL_law 1283 = .ok (.iadd, 1) := dw_96 (kcL_law_20 3 96 rfl)
theorem dL_law_1284 : decode cL_law 1284 = .ok (.iaload, 1) := dw_46 (kcL_law_20 4 46 rfl)
theorem dL_law_1285 : decode cL_law 1285 = .ok (.aload_n 0, 1) := dw_42 (kcL_law_20 5 42 rfl)
theorem dL_law_1286 : decode cL_law 1286 = .ok (.iload_n 3, 1) := dw_29 (kcL_law_20 6 29 rfl)
theorem dL_law_1287 : decode cL_law 1287 = .ok (.iconst 4, 1) := dw_7 (kcL_law_20 7 7 rfl)
theorem dL_law_1288 : decode cL_law 1288 = .ok (.iadd, 1) := dw_96 (kcL_law_20 8 96 rfl)
theorem dL_law_1289 : decode cL_law 1289 = .ok (.iaload, 1) := dw_46 (kcL_law_20 9 46 rfl)
theorem dL_law_1290 : decode cL_law 1290 = .ok (.ifCond .eq 7, 3) := dw_153 (kcL_law_20 10 153 rfl) (kcL_law_20 11 0 rfl) (kcL_law_20 12 7 rfl) rfl
theorem dL_law_1297 : decode cL_law 1297 = .ok (.iconst 0, 1) := dw_3 (kcL_law_20 17 3 rfl)
theorem dL_law_1293 : decode cL_law 1293 = .ok (.iconst 1, 1) := dw_4 (kcL_law_20 13 4 rfl)
theorem dL_law_1294 : decode cL_law 1294 = .ok (.goto 4, 3) := dw_167 (kcL_law_20 14 167 rfl) (kcL_law_20 15 0 rfl) (kcL_law_20 16 4 rfl) rfl
theorem dL_law_1298 : decode cL_law 1298 = .ok (.invokevirtual 123, 3) := dw_182 (kcL_law_20 18 182 rfl) (kcL_law_20 19 0 rfl) (kcL_law_20 20 123 rfl) rfl
theorem dL_law_1301 : decode cL_law 1301 = .ok (.pop, 1) := dw_87 (kcL_law_20 21 87 rfl)
theorem dL_law_1302 : decode cL_law 1302 = .ok (.aload_n 2, 1) := dw_44 (kcL_law_20 22 44 rfl)
theorem dL_law_1303 : decode cL_law 1303 = .ok (.aload_n 0, 1) := dw_42 (kcL_law_20 23 42 rfl)
theorem dL_law_1304 : decode cL_law 1304 = .ok (.iload_n 3, 1) := dw_29 (kcL_law_20 24 29 rfl)
theorem dL_law_1305 : decode cL_law 1305 = .ok (.iconst 1, 1) := dw_4 (kcL_law_20 25 4 rfl)
theorem dL_law_1306 : decode cL_law 1306 = .ok (.iadd, 1) := dw_96 (kcL_law_20 26 96 rfl)
theorem dL_law_1307 : decode cL_law 1307 = .ok (.iaload, 1) := dw_46 (kcL_law_20 27 46 rfl)
theorem dL_law_1308 : decode cL_law 1308 = .ok (.aload_n 0, 1) := dw_42 (kcL_law_20 28 42 rfl)
theorem dL_law_1309 : decode cL_law 1309 = .ok (.iload_n 3, 1) := dw_29 (kcL_law_20 29 29 rfl)
theorem dL_law_1310 : decode cL_law 1310 = .ok (.iconst 2, 1) := dw_5 (kcL_law_20 30 5 rfl)
theorem dL_law_1311 : decode cL_law 1311 = .ok (.iadd, 1) := dw_96 (kcL_law_20 31 96 rfl)
theorem dL_law_1312 : decode cL_law 1312 = .ok (.iaload, 1) := dw_46 (kcL_law_20 32 46 rfl)
theorem dL_law_1313 : decode cL_law 1313 = .ok (.aload_n 0, 1) := dw_42 (kcL_law_20 33 42 rfl)
theorem dL_law_1314 : decode cL_law 1314 = .ok (.iload_n 3, 1) := dw_29 (kcL_law_20 34 29 rfl)
theorem dL_law_1315 : decode cL_law 1315 = .ok (.iconst 3, 1) := dw_6 (kcL_law_20 35 6 rfl)
theorem dL_law_1316 : decode cL_law 1316 = .ok (.iadd, 1) := dw_96 (kcL_law_20 36 96 rfl)
theorem dL_law_1317 : decode cL_law 1317 = .ok (.iaload, 1) := dw_46 (kcL_law_20 37 46 rfl)
theorem dL_law_1318 : decode cL_law 1318 = .ok (.aload_n 0, 1) := dw_42 (kcL_law_20 38 42 rfl)
theorem dL_law_1319 : decode cL_law 1319 = .ok (.iload_n 3, 1) := dw_29 (kcL_law_20 39 29 rfl)
theorem dL_law_1320 : decode cL_law 1320 = .ok (.iconst 4, 1) := dw_7 (kcL_law_20 40 7 rfl)
theorem dL_law_1321 : decode cL_law 1321 = .ok (.iadd, 1) := dw_96 (kcL_law_20 41 96 rfl)
theorem dL_law_1322 : decode cL_law 1322 = .ok (.iaload, 1) := dw_46 (kcL_law_20 42 46 rfl)
theorem dL_law_1323 : decode cL_law 1323 = .ok (.ifCond .eq 7, 3) := dw_153 (kcL_law_20 43 153 rfl) (kcL_law_20 44 0 rfl) (kcL_law_20 45 7 rfl) rfl
theorem dL_law_1330 : decode cL_law 1330 = .ok (.iconst 0, 1) := dw_3 (kcL_law_20 50 3 rfl)
theorem dL_law_1326 : decode cL_law 1326 = .ok (.iconst 1, 1) := dw_4 (kcL_law_20 46 4 rfl)
theorem dL_law_1327 : decode cL_law 1327 = .ok (.goto 4, 3) := dw_167 (kcL_law_20 47 167 rfl) (kcL_law_20 48 0 rfl) (kcL_law_20 49 4 rfl) rfl
theorem dL_law_1331 : decode cL_law 1331 = .ok (.invokevirtual 127, 3) := dw_182 (kcL_law_20 51 182 rfl) (kcL_law_20 52 0 rfl) (kcL_law_20 53 127 rfl) rfl
theorem dL_law_1334 : decode cL_law 1334 = .ok (.pop, 1) := dw_87 (kcL_law_20 54 87 rfl)
theorem dL_law_1335 : decode cL_law 1335 = .ok (.goto 319, 3) := dw_167 (kcL_law_20 55 167 rfl) (kcL_law_20 56 1 rfl) (kcL_law_20 57 63 rfl) rfl
theorem dL_law_1338 : decode cL_law 1338 = .ok (.aload_n 1, 1) := dw_43 (kcL_law_20 58 43 rfl)
theorem dL_law_1339 : decode cL_law 1339 = .ok (.aload_n 0, 1) := dw_42 (kcL_law_20 59 42 rfl)
theorem dL_law_1340 : decode cL_law 1340 = .ok (.iload_n 3, 1) := dw_29 (kcL_law_20 60 29 rfl)
theorem dL_law_1341 : decode cL_law 1341 = .ok (.iconst 1, 1) := dw_4 (kcL_law_20 61 4 rfl)
theorem dL_law_1342 : decode cL_law 1342 = .ok (.iadd, 1) := dw_96 (kcL_law_20 62 96 rfl)
theorem dL_law_1343 : decode cL_law 1343 = .ok (.iaload, 1) := dw_46 (kcL_law_20 63 46 rfl)
theorem kcL_law_21 : CHb cL_law 1344 [42, 29, 5, 96, 46, 182, 0, 128, 87, 44, 42, 29, 4, 96, 46, 42, 29, 5, 96, 46, 182, 0, 131, 87, 167, 1, 30, 43, 42, 29, 4, 96, 46, 153, 0, 7, 4, 167, 0, 4, 3, 42, 29, 5, 96, 46, 182, 0, 132, 87, 44, 42, 29, 4, 96, 46, 153, 0, 7, 4, 167, 0, 4, 3] := CHb_of (by decide +kernel)
theorem dL_law_1344 : decode cL_law 1344 = .ok (.aload_n 0, 1) := dw_42 (kcL_law_21 0 42 rfl)
theorem dL_law_1345 : decode cL_law 1345 = .ok (.iload_n 3, 1) := dw_29 (kcL_law_21 1 29 rfl)
theorem dL_law_1346 : decode cL_law 1346 = .ok (.iconst 2, 1) := dw_5 (kcL_law_21 2 5 rfl)
theorem dL_law_1347 : decode cL_law 1347 = .ok (.iadd, 1) := dw_96 (kcL_law_21 3 96 rfl)
theorem dL_law_1348 : decode cL_law 1348 = .ok (.iaload, 1) := dw_46 (kcL_law_21 4 46 rfl)
theorem dL_law_1349 : decode cL_law 1349 = .ok (.invokevirtual 128, 3) := dw_182 (kcL_law_21 5 182 rfl) (kcL_law_21 6 0 rfl) (kcL_law_21 7 128 rfl) rfl
theorem dL_law_1352 : decode cL_law 1352 = .ok (.pop, 1) := dw_87 (kcL_law_21 8 87 rfl)
theorem dL_law_1353 : decode cL_law 1353 = .ok (.aload_n 2, 1) := dw_44 (kcL_law_21 9 44 rfl)
theorem dL_law_1354 : decode cL_law 1354 = .ok (.aload_n 0, 1) := dw_42 (kcL_law_21 10 42 rfl)
theorem dL_law_1355 : decode cL_law 1355 = .ok (.iload_n 3, 1) := dw_29 (kcL_law_21 11 29 rfl)
theorem dL_law_1356 : decode cL_law 1356 = .ok (.iconst 1, 1) := dw_4 (kcL_law_21 12 4 rfl)
theorem dL_law_1357 : decode cL_law 1357 = .ok (.iadd, 1) := dw_96 (kcL_law_21 13 96 rfl)
theorem dL_law_1358 : decode cL_law 1358 = .ok (.iaload, 1) := dw_46 (kcL_law_21 14 46 rfl)
theorem dL_law_1359 : decode cL_law 1359 = .ok (.aload_n 0, 1) := dw_42 (kcL_law_21 15 42 rfl)
theorem dL_law_1360 : decode cL_law 1360 = .ok (.iload_n 3, 1) := dw_29 (kcL_law_21 16 29 rfl)
theorem dL_law_1361 : decode cL_law 1361 = .ok (.iconst 2, 1) := dw_5 (kcL_law_21 17 5 rfl)
theorem dL_law_1362 : decode cL_law 1362 = .ok (.iadd, 1) := dw_96 (kcL_law_21 18 96 rfl)
theorem dL_law_1363 : decode cL_law 1363 = .ok (.iaload, 1) := dw_46 (kcL_law_21 19 46 rfl)
theorem dL_law_1364 : decode cL_law 1364 = .ok (.invokevirtual 131, 3) := dw_182 (kcL_law_21 20 182 rfl) (kcL_law_21 21 0 rfl) (kcL_law_21 22 131 rfl) rfl
theorem dL_law_1367 : decode cL_law 1367 = .ok (.pop, 1) := dw_87 (kcL_law_21 23 87 rfl)
theorem dL_law_1368 : decode cL_law 1368 = .ok (.goto 286, 3) := dw_167 (kcL_law_21 24 167 rfl) (kcL_law_21 25 1 rfl) (kcL_law_21 26 30 rfl) rfl
theorem dL_law_1371 : decode cL_law 1371 = .ok (.aload_n 1, 1) := dw_43 (kcL_law_21 27 43 rfl)
theorem dL_law_1372 : decode cL_law 1372 = .ok (.aload_n 0, 1) := dw_42 (kcL_law_21 28 42 rfl)
theorem dL_law_1373 : decode cL_law 1373 = .ok (.iload_n 3, 1) := dw_29 (kcL_law_21 29 29 rfl)
theorem dL_law_1374 : decode cL_law 1374 = .ok (.iconst 1, 1) := dw_4 (kcL_law_21 30 4 rfl)
theorem dL_law_1375 : decode cL_law 1375 = .ok (.iadd, 1) := dw_96 (kcL_law_21 31 96 rfl)
theorem dL_law_1376 : decode cL_law 1376 = .ok (.iaload, 1) := dw_46 (kcL_law_21 32 46 rfl)
theorem dL_law_1377 : decode cL_law 1377 = .ok (.ifCond .eq 7, 3) := dw_153 (kcL_law_21 33 153 rfl) (kcL_law_21 34 0 rfl) (kcL_law_21 35 7 rfl) rfl
theorem dL_law_1384 : decode cL_law 1384 = .ok (.iconst 0, 1) := dw_3 (kcL_law_21 40 3 rfl)
theorem dL_law_1380 : decode cL_law 1380 = .ok (.iconst 1, 1) := dw_4 (kcL_law_21 36 4 rfl)
theorem dL_law_1381 : decode cL_law 1381 = .ok (.goto 4, 3) := dw_167 (kcL_law_21 37 167 rfl) (kcL_law_21 38 0 rfl) (kcL_law_21 39 4 rfl) rfl
theorem dL_law_1385 : decode cL_law 1385 = .ok (.aload_n 0, 1) := dw_42 (kcL_law_21 41 42 rfl)
theorem dL_law_1386 : decode cL_law 1386 = .ok (.iload_n 3, 1) := dw_29 (kcL_law_21 42 29 rfl)
theorem dL_law_1387 : decode cL_law 1387 = .ok (.iconst 2, 1) := dw_5 (kcL_law_21 43 5 rfl)
theorem dL_law_1388 : decode cL_law 1388 = .ok (.iadd, 1) := dw_96 (kcL_law_21 44 96 rfl)
theorem dL_law_1389 : decode cL_law 1389 = .ok (.iaload, 1) := dw_46 (kcL_law_21 45 46 rfl)
theorem dL_law_1390 : decode cL_law 1390 = .ok (.invokevirtual 132, 3) := dw_182 (kcL_law_21 46 182 rfl) (kcL_law_21 47 0 rfl) (kcL_law_21 48 132 rfl) rfl
theorem dL_law_1393 : decode cL_law 1393 = .ok (.pop, 1) := dw_87 (kcL_law_21 49 87 rfl)
theorem dL_law_1394 : decode cL_law 1394 = .ok (.aload_n 2, 1) := dw_44 (kcL_law_21 50 44 rfl)
theorem dL_law_1395 : decode cL_law 1395 = .ok (.aload_n 0, 1) := dw_42 (kcL_law_21 51 42 rfl)
theorem dL_law_1396 : decode cL_law 1396 = .ok (.iload_n 3, 1) := dw_29 (kcL_law_21 52 29 rfl)
theorem dL_law_1397 : decode cL_law 1397 = .ok (.iconst 1, 1) := dw_4 (kcL_law_21 53 4 rfl)
theorem dL_law_1398 : decode cL_law 1398 = .ok (.iadd, 1) := dw_96 (kcL_law_21 54 96 rfl)
theorem dL_law_1399 : decode cL_law 1399 = .ok (.iaload, 1) := dw_46 (kcL_law_21 55 46 rfl)
theorem dL_law_1400 : decode cL_law 1400 = .ok (.ifCond .eq 7, 3) := dw_153 (kcL_law_21 56 153 rfl) (kcL_law_21 57 0 rfl) (kcL_law_21 58 7 rfl) rfl
theorem dL_law_1407 : decode cL_law 1407 = .ok (.iconst 0, 1) := dw_3 (kcL_law_21 63 3 rfl)
theorem dL_law_1403 : decode cL_law 1403 = .ok (.iconst 1, 1) := dw_4 (kcL_law_21 59 4 rfl)
theorem dL_law_1404 : decode cL_law 1404 = .ok (.goto 4, 3) := dw_167 (kcL_law_21 60 167 rfl) (kcL_law_21 61 0 rfl) (kcL_law_21 62 4 rfl) rfl
theorem kcL_law_22 : CHb cL_law 1408 [42, 29, 5, 96, 46, 182, 0, 136, 87, 167, 0, 237, 43, 42, 29, 4, 96, 46, 182, 0, 137, 87, 44, 42, 29, 4, 96, 46, 182, 0, 140, 87, 167, 0, 214, 43, 42, 29, 4, 96, 46, 182, 0, 141, 87, 44, 42, 29, 4, 96, 46, 182, 0, 144, 87, 167, 0, 191, 43, 42, 29, 4, 96, 46] := CHb_of (by decide +kernel)
theorem dL_law_1408 : decode cL_law 1408 = .ok (.aload_n 0, 1) := dw_42 (kcL_law_22 0 42 rfl)
theorem dL_law_1409 : decode cL_law 1409 = .ok (.iload_n 3, 1) := dw_29 (kcL_law_22 1 29 rfl)
theorem dL_law_1410 : decode cL_law 1410 = .ok (.iconst 2, 1) := dw_5 (kcL_law_22 2 5 rfl)
theorem dL_law_1411 : decode cL_law 1411 = .ok (.iadd, 1) := dw_96 (kcL_law_22 3 96 rfl)
theorem dL_law_1412 : decode cL_law 1412 = .ok (.iaload, 1) := dw_46 (kcL_law_22 4 46 rfl)
theorem dL_law_1413 : decode cL_law 1413 = .ok (.invokevirtual 136, 3) := dw_182 (kcL_law_22 5 182 rfl) (kcL_law_22 6 0 rfl) (kcL_law_22 7 136 rfl) rfl
theorem dL_law_1416 : decode cL_law 1416 = .ok (.pop, 1) := dw_87 (kcL_law_22 8 87 rfl)
theorem dL_law_1417 : decode cL_law 1417 = .ok (.goto 237, 3) := dw_167 (kcL_law_22 9 167 rfl) (kcL_law_22 10 0 rfl) (kcL_law_22 11 237 rfl) rfl
theorem dL_law_1420 : decode cL_law 1420 = .ok (.aload_n 1, 1) := dw_43 (kcL_law_22 12 43 rfl)
theorem dL_law_1421 : decode cL_law 1421 = .ok (.aload_n 0, 1) := dw_42 (kcL_law_22 13 42 rfl)
theorem dL_law_1422 : decode cL_law 1422 = .ok (.iload_n 3, 1) := dw_29 (kcL_law_22 14 29 rfl)
theorem dL_law_1423 : decode cL_law 1423 = .ok (.iconst 1, 1) := dw_4 (kcL_law_22 15 4 rfl)
theorem dL_law_1424 : decode cL_law 1424 = .ok (.iadd, 1) := dw_96 (kcL_law_22 16 96 rfl)
theorem dL_law_1425 : decode cL_law 1425 = .ok (.iaload, 1) := dw_46 (kcL_law_22 17 46 rfl)
theorem dL_law_1426 : decode cL_law 1426 = .ok (.invokevirtual 137, 3) := dw_182 (kcL_law_22 18 182 rfl) (kcL_law_22 19 0 rfl) (kcL_law_22 20 137 rfl) rfl
theorem dL_law_1429 : decode cL_law 1429 = .ok (.pop, 1) := dw_87 (kcL_law_22 21 87 rfl)
theorem dL_law_1430 : decode cL_law 1430 = .ok (.aload_n 2, 1) := dw_44 (kcL_law_22 22 44 rfl)
theorem dL_law_1431 : decode cL_law 1431 = .ok (.aload_n 0, 1) := dw_42 (kcL_law_22 23 42 rfl)
theorem dL_law_1432 : decode cL_law 1432 = .ok (.iload_n 3, 1) := dw_29 (kcL_law_22 24 29 rfl)
theorem dL_law_1433 : decode cL_law 1433 = .ok (.iconst 1, 1) := dw_4 (kcL_law_22 25 4 rfl)
theorem dL_law_1434 : decode cL_law 1434 = .ok (.iadd, 1) := dw_96 (kcL_law_22 26 96 rfl)
theorem dL_law_1435 : decode cL_law 1435 = .ok (.iaload, 1) := dw_46 (kcL_law_22 27 46 rfl)
theorem dL_law_1436 : decode cL_law 1436 = .ok (.invokevirtual 140, 3) := dw_182 (kcL_law_22 28 182 rfl) (kcL_law_22 29 0 rfl) (kcL_law_22 30 140 rfl) rfl
theorem dL_law_1439 : decode cL_law 1439 = .ok (.pop, 1) := dw_87 (kcL_law_22 31 87 rfl)
theorem dL_law_1440 : decode cL_law 1440 = .ok (.goto 214, 3) := dw_167 (kcL_law_22 32 167 rfl) (kcL_law_22 33 0 rfl) (kcL_law_22 34 214 rfl) rfl
theorem dL_law_1443 : decode cL_law 1443 = .ok (.aload_n 1, 1) := dw_43 (kcL_law_22 35 43 rfl)
theorem dL_law_1444 : decode cL_law 1444 = .ok (.aload_n 0, 1) := dw_42 (kcL_law_22 36 42 rfl)
theorem dL_law_1445 : decode cL_law 1445 = .ok (.iload_n 3, 1) := dw_29 (kcL_law_22 37 29 rfl)
theorem dL_law_1446 : decode cL_law 1446 = .ok (.iconst 1, 1) := dw_4 (kcL_law_22 38 4 rfl)
theorem dL_law_1447 : decode cL_law 1447 = .ok (.iadd, 1) := dw_96 (kcL_law_22 39 96 rfl)
theorem dL_law_1448 : decode cL_law 1448 = .ok (.iaload, 1) := dw_46 (kcL_law_22 40 46 rfl)
theorem dL_law_1449 : decode cL_law 1449 = .ok (.invokevirtual 141, 3) := dw_182 (kcL_law_22 41 182 rfl) (kcL_law_22 42 0 rfl) (kcL_law_22 43 141 rfl) rfl
theorem dL_law_1452 : decode cL_law 1452 = .ok (.pop, 1) := dw_87 (kcL_law_22 44 87 rfl)
theorem dL_law_1453 : decode cL_law 1453 = .ok (.aload_n 2, 1) := dw_44 (kcL_law_22 45 44 rfl)
theorem dL_law_1454 : decode cL_law 1454 = .ok (.aload_n 0, 1) := dw_42 (kcL_law_22 46 42 rfl)
theorem dL_law_1455 : decode cL_law 1455 = .ok (.iload_n 3, 1) := dw_29 (kcL_law_22 47 29 rfl)
theorem dL_law_1456 : decode cL_law 1456 = .ok (.iconst 1, 1) := dw_4 (kcL_law_22 48 4 rfl)
theorem dL_law_1457 : decode cL_law 1457 = .ok (.iadd, 1) := dw_96 (kcL_law_22 49 96 rfl)
theorem dL_law_1458 : decode cL_law 1458 = .ok (.iaload, 1) := dw_46 (kcL_law_22 50 46 rfl)
theorem dL_law_1459 : decode cL_law 1459 = .ok (.invokevirtual 144, 3) := dw_182 (kcL_law_22 51 182 rfl) (kcL_law_22 52 0 rfl) (kcL_law_22 53 144 rfl) rfl
theorem dL_law_1462 : decode cL_law 1462 = .ok (.pop, 1) := dw_87 (kcL_law_22 54 87 rfl)
theorem dL_law_1463 : decode cL_law 1463 = .ok (.goto 191, 3) := dw_167 (kcL_law_22 55 167 rfl) (kcL_law_22 56 0 rfl) (kcL_law_22 57 191 rfl) rfl
theorem dL_law_1466 : decode cL_law 1466 = .ok (.aload_n 1, 1) := dw_43 (kcL_law_22 58 43 rfl)
theorem dL_law_1467 : decode cL_law 1467 = .ok (.aload_n 0, 1) := dw_42 (kcL_law_22 59 42 rfl)
theorem dL_law_1468 : decode cL_law 1468 = .ok (.iload_n 3, 1) := dw_29 (kcL_law_22 60 29 rfl)
theorem dL_law_1469 : decode cL_law 1469 = .ok (.iconst 1, 1) := dw_4 (kcL_law_22 61 4 rfl)
theorem dL_law_1470 : decode cL_law 1470 = .ok (.iadd, 1) := dw_96 (kcL_law_22 62 96 rfl)
theorem dL_law_1471 : decode cL_law 1471 = .ok (.iaload, 1) := dw_46 (kcL_law_22 63 46 rfl)
theorem kcL_law_23 : CHb cL_law 1472 [182, 0, 145, 87, 44, 42, 29, 4, 96, 46, 182, 0, 148, 87, 167, 0, 168, 43, 42, 29, 4, 96, 46, 42, 29, 5, 96, 46, 182, 0, 149, 87, 44, 42, 29, 4, 96, 46, 42, 29, 5, 96, 46, 182, 0, 152, 87, 167, 0, 135, 43, 42, 29, 4, 96, 46, 42, 29, 5, 96, 46, 182, 0, 153] := CHb_of (by decide +kernel)
theorem dL_law_1472 : decode cL_law 1472 = .ok (.invokevirtual 145, 3) := dw_182 (kcL_law_23 0 182 rfl) (kcL_law_23 1 0 rfl) (kcL_law_23 2 145 rfl) rfl
theorem dL_law_1475 : decode cL_law 1475 = .ok (.pop, 1) := dw_87 (kcL_law_23 3 87 rfl)
theorem dL_law_1476 : decode cL_law 1476 = .ok (.aload_n 2, 1) := dw_44 (kcL_law_23 4 44 rfl)
theorem dL_law_1477 : decode cL_law 1477 = .ok (.aload_n 0, 1) := dw_42 (kcL_law_23 5 42 rfl)
theorem dL_law_1478 : decode cL_law 1478 = .ok (.iload_n 3, 1) := dw_29 (kcL_law_23 6 29 rfl)
theorem dL_law_1479 : decode cL_law 1479 = .ok (.iconst 1, 1) := dw_4 (kcL_law_23 7 4 rfl)
theorem dL_law_1480 : decode cL_law 1480 = .ok (.iadd, 1) := dw_96 (kcL_law_23 8 96 rfl)
theorem dL_law_1481 : decode cL_law 1481 = .ok (.iaload, 1) := dw_46 (kcL_law_23 9 46 rfl)
theorem dL_law_1482 : decode cL_law 1482 = .ok (.invokevirtual 148, 3) := dw_182 (kcL_law_23 10 182 rfl) (kcL_law_23 11 0 rfl) (kcL_law_23 12 148 rfl) rfl
theorem dL_law_1485 : decode cL_law 1485 = .ok (.pop, 1) := dw_87 (kcL_law_23 13 87 rfl)
theorem dL_law_1486 : decode cL_law 1486 = .ok (.goto 168, 3) := dw_167 (kcL_law_23 14 167 rfl) (kcL_law_23 15 0 rfl) (kcL_law_23 16 168 rfl) rfl
theorem dL_law_1489 : decode cL_law 1489 = .ok (.aload_n 1, 1) := dw_43 (kcL_law_23 17 43 rfl)
theorem dL_law_1490 : decode cL_law 1490 = .ok (.aload_n 0, 1) := dw_42 (kcL_law_23 18 42 rfl)
theorem dL_law_1491 : decode cL_law 1491 = .ok (.iload_n 3, 1) := dw_29 (kcL_law_23 19 29 rfl)
theorem dL_law_1492 : decode cL_law 1492 = .ok (.iconst 1, 1) := dw_4 (kcL_law_23 20 4 rfl)
theorem dL_law_1493 : decode cL_law 1493 = .ok (.iadd, 1) := dw_96 (kcL_law_23 21 96 rfl)
theorem dL_law_1494 : decode cL_law 1494 = .ok (.iaload, 1) := dw_46 (kcL_law_23 22 46 rfl)
theorem dL_law_1495 : decode cL_law 1495 = .ok (.aload_n 0, 1) := dw_42 (kcL_law_23 23 42 rfl)
theorem dL_law_1496 : decode cL_law 1496 = .ok (.iload_n 3, 1) := dw_29 (kcL_law_23 24 29 rfl)
theorem dL_law_1497 : decode cL_law 1497 = .ok (.iconst 2, 1) := dw_5 (kcL_law_23 25 5 rfl)
theorem dL_law_1498 : decode cL_law 1498 = .ok (.iadd, 1) := dw_96 (kcL_law_23 26 96 rfl)
theorem dL_law_1499 : decode cL_law 1499 = .ok (.iaload, 1) := dw_46 (kcL_law_23 27 46 rfl)
theorem dL_law_1500 : decode cL_law 1500 = .ok (.invokevirtual 149, 3) := dw_182 (kcL_law_23 28 182 rfl) (kcL_law_23 29 0 rfl) (kcL_law_23 30 149 rfl) rfl
theorem dL_law_1503 : decode cL_law 1503 = .ok (.pop, 1) := dw_87 (kcL_law_23 31 87 rfl)
theorem dL_law_1504 : decode cL_law 1504 = .ok (.aload_n 2, 1) := dw_44 (kcL_law_23 32 44 rfl)
theorem dL_law_1505 : decode cL_law 1505 = .ok (.aload_n 0, 1) := dw_42 (kcL_law_23 33 42 rfl)
theorem dL_law_1506 : decode cL_law 1506 = .ok (.iload_n 3, 1) := dw_29 (kcL_law_23 34 29 rfl)
theorem dL_law_1507 : decode cL_law 1507 = .ok (.iconst 1, 1) := dw_4 (kcL_law_23 35 4 rfl)
theorem dL_law_1508 : decode cL_law 1508 = .ok (.iadd, 1) := dw_96 (kcL_law_23 36 96 rfl)
theorem dL_law_1509 : decode cL_law 1509 = .ok (.iaload, 1) := dw_46 (kcL_law_23 37 46 rfl)
theorem dL_law_1510 : decode cL_law 1510 = .ok (.aload_n 0, 1) := dw_42 (kcL_law_23 38 42 rfl)
theorem dL_law_1511 : decode cL_law 1511 = .ok (.iload_n 3, 1) := dw_29 (kcL_law_23 39 29 rfl)
theorem dL_law_1512 : decode cL_law 1512 = .ok (.iconst 2, 1) := dw_5 (kcL_law_23 40 5 rfl)
theorem dL_law_1513 : decode cL_law 1513 = .ok (.iadd, 1) := dw_96 (kcL_law_23 41 96 rfl)
theorem dL_law_1514 : decode cL_law 1514 = .ok (.iaload, 1) := dw_46 (kcL_law_23 42 46 rfl)
theorem dL_law_1515 : decode cL_law 1515 = .ok (.invokevirtual 152, 3) := dw_182 (kcL_law_23 43 182 rfl) (kcL_law_23 44 0 rfl) (kcL_law_23 45 152 rfl) rfl
theorem dL_law_1518 : decode cL_law 1518 = .ok (.pop, 1) := dw_87 (kcL_law_23 46 87 rfl)
theorem dL_law_1519 : decode cL_law 1519 = .ok (.goto 135, 3) := dw_167 (kcL_law_23 47 167 rfl) (kcL_law_23 48 0 rfl) (kcL_law_23 49 135 rfl) rfl
theorem dL_law_1522 : decode cL_law 1522 = .ok (.aload_n 1, 1) := dw_43 (kcL_law_23 50 43 rfl)
theorem dL_law_1523 : decode cL_law 1523 = .ok (.aload_n 0, 1) := dw_42 (kcL_law_23 51 42 rfl)
theorem dL_law_1524 : decode cL_law 1524 = .ok (.iload_n 3, 1) := dw_29 (kcL_law_23 52 29 rfl)
theorem dL_law_1525 : decode cL_law 1525 = .ok (.iconst 1, 1) := dw_4 (kcL_law_23 53 4 rfl)
theorem dL_law_1526 : decode cL_law 1526 = .ok (.iadd, 1) := dw_96 (kcL_law_23 54 96 rfl)
theorem dL_law_1527 : decode cL_law 1527 = .ok (.iaload, 1) := dw_46 (kcL_law_23 55 46 rfl)
theorem dL_law_1528 : decode cL_law 1528 = .ok (.aload_n 0, 1) := dw_42 (kcL_law_23 56 42 rfl)
theorem dL_law_1529 : decode cL_law 1529 = .ok (.iload_n 3, 1) := dw_29 (kcL_law_23 57 29 rfl)
theorem dL_law_1530 : decode cL_law 1530 = .ok (.iconst 2, 1) := dw_5 (kcL_law_23 58 5 rfl)
theorem dL_law_1531 : decode cL_law 1531 = .ok (.iadd, 1) := dw_96 (kcL_law_23 59 96 rfl)
theorem dL_law_1532 : decode cL_law 1532 = .ok (.iaload, 1) := dw_46 (kcL_law_23 60 46 rfl)
theorem dL_law_1533 : decode cL_law 1533 = .ok (.invokevirtual 153, 3) := dw_182 (kcL_law_23 61 182 rfl) (kcL_law_23 62 0 rfl) (kcL_law_23 63 153 rfl) rfl
theorem kcL_law_24 : CHb cL_law 1536 [87, 44, 42, 29, 4, 96, 46, 42, 29, 5, 96, 46, 182, 0, 156, 87, 167, 0, 102, 43, 42, 29, 4, 96, 46, 182, 0, 157, 87, 44, 42, 29, 4, 96, 46, 182, 0, 160, 87, 167, 0, 79, 43, 42, 29, 4, 96, 46, 42, 29, 5, 96, 46, 42, 29, 6, 96, 46, 182, 0, 161, 87, 44, 42] := CHb_of (by decide +kernel)
theorem dL_law_1536 : decode cL_law 1536 = .ok (.pop, 1) := dw_87 (kcL_law_24 0 87 rfl)
theorem dL_law_1537 : decode cL_law 1537 = .ok (.aload_n 2, 1) := dw_44 (kcL_law_24 1 44 rfl)
theorem dL_law_1538 : decode cL_law 1538 = .ok (.aload_n 0, 1) := dw_42 (kcL_law_24 2 42 rfl)
theorem dL_law_1539 : decode cL_law 1539 = .ok (.iload_n 3, 1) := dw_29 (kcL_law_24 3 29 rfl)
theorem dL_law_1540 : decode cL_law 1540 = .ok (.iconst 1, 1) := dw_4 (kcL_law_24 4 4 rfl)
theorem dL_law_1541 : decode cL_law 1541 = .ok (.iadd, 1) := dw_96 (kcL_law_24 5 96 rfl)
theorem dL_law_1542 : decode cL_law 1542 = .ok (.iaload, 1) := dw_46 (kcL_law_24 6 46 rfl)
theorem dL_law_1543 : decode cL_law 1543 = .ok (.aload_n 0, 1) := dw_42 (kcL_law_24 7 42 rfl)
theorem dL_law_1544 : decode cL_law 1544 = .ok (.iload_n 3, 1) := dw_29 (kcL_law_24 8 29 rfl)
theorem dL_law_1545 : decode cL_law 1545 = .ok (.iconst 2, 1) := dw_5 (kcL_law_24 9 5 rfl)
theorem dL_law_1546 : decode cL_law 1546 = .ok (.iadd, 1) := dw_96 (kcL_law_24 10 96 rfl)
theorem dL_law_1547 : decode cL_law 1547 = .ok (.iaload, 1) := dw_46 (kcL_law_24 11 46 rfl)
theorem dL_law_1548 : decode cL_law 1548 = .ok (.invokevirtual 156, 3) := dw_182 (kcL_law_24 12 182 rfl) (kcL_law_24 13 0 rfl) (kcL_law_24 14 156 rfl) rfl
theorem dL_law_1551 : decode cL_law 1551 = .ok (.pop, 1) := dw_87 (kcL_law_24 15 87 rfl)
theorem dL_law_1552 : decode cL_law 1552 = .ok (.goto 102, 3) := dw_167 (kcL_law_24 16 167 rfl) (kcL_law_24 17 0 rfl) (kcL_law_24 18 102 rfl) rfl
theorem dL_law_1555 : decode cL_law 1555 = .ok (.aload_n 1, 1) := dw_43 (kcL_law_24 19 43 rfl)
theorem dL_law_1556 : decode cL_law 1556 = .ok (.aload_n 0, 1) := dw_42 (kcL_law_24 20 42 rfl)
theorem dL_law_1557 : decode cL_law 1557 = .ok (.iload_n 3, 1) := dw_29 (kcL_law_24 21 29 rfl)
theorem dL_law_1558 : decode cL_law 1558 = .ok (.iconst 1, 1) := dw_4 (kcL_law_24 22 4 rfl)
theorem dL_law_1559 : decode cL_law 1559 = .ok (.iadd, 1) := dw_96 (kcL_law_24 23 96 rfl)
theorem dL_law_1560 : decode cL_law 1560 = .ok (.iaload, 1) := dw_46 (kcL_law_24 24 46 rfl)
theorem dL_law_1561 : decode cL_law 1561 = .ok (.invokevirtual 157, 3) := dw_182 (kcL_law_24 25 182 rfl) (kcL_law_24 26 0 rfl) (kcL_law_24 27 157 rfl) rfl
theorem dL_law_1564 : decode cL_law 1564 = .ok (.pop, 1) := dw_87 (kcL_law_24 28 87 rfl)
theorem dL_law_1565 : decode cL_law 1565 = .ok (.aload_n 2, 1) := dw_44 (kcL_law_24 29 44 rfl)
theorem dL_law_1566 : decode cL_law 1566 = .ok (.aload_n 0, 1) := dw_42 (kcL_law_24 30 42 rfl)
theorem dL_law_1567 : decode cL_law 1567 = .ok (.iload_n 3, 1) := dw_29 (kcL_law_24 31 29 rfl)
theorem dL_law_1568 : decode cL_law 1568 = .ok (.iconst 1, 1) := dw_4 (kcL_law_24 32 4 rfl)
theorem dL_law_1569 : decode cL_law 1569 = .ok (.iadd, 1) := dw_96 (kcL_law_24 33 96 rfl)
theorem dL_law_1570 : decode cL_law 1570 = .ok (.iaload, 1) := dw_46 (kcL_law_24 34 46 rfl)
theorem dL_law_1571 : decode cL_law 1571 = .ok (.invokevirtual 160, 3) := dw_182 (kcL_law_24 35 182 rfl) (kcL_law_24 36 0 rfl) (kcL_law_24 37 160 rfl) rfl
theorem dL_law_1574 : decode cL_law 1574 = .ok (.pop, 1) := dw_87 (kcL_law_24 38 87 rfl)
theorem dL_law_1575 : decode cL_law 1575 = .ok (.goto 79, 3) := dw_167 (kcL_law_24 39 167 rfl) (kcL_law_24 40 0 rfl) (kcL_law_24 41 79 rfl) rfl
theorem dL_law_1578 : decode cL_law 1578 = .ok (.aload_n 1, 1) := dw_43 (kcL_law_24 42 43 rfl)
theorem dL_law_1579 : decode cL_law 1579 = .ok (.aload_n 0, 1) := dw_42 (kcL_law_24 43 42 rfl)
theorem dL_law_1580 : decode cL_law 1580 = .ok (.iload_n 3, 1) := dw_29 (kcL_law_24 44 29 rfl)
theorem dL_law_1581 : decode cL_law 1581 = .ok (.iconst 1, 1) := dw_4 (kcL_law_24 45 4 rfl)
theorem dL_law_1582 : decode cL_law 1582 = .ok (.iadd, 1) := dw_96 (kcL_law_24 46 96 rfl)
theorem dL_law_1583 : decode cL_law 1583 = .ok (.iaload, 1) := dw_46 (kcL_law_24 47 46 rfl)
theorem dL_law_1584 : decode cL_law 1584 = .ok (.aload_n 0, 1) := dw_42 (kcL_law_24 48 42 rfl)
theorem dL_law_1585 : decode cL_law 1585 = .ok (.iload_n 3, 1) := dw_29 (kcL_law_24 49 29 rfl)
theorem dL_law_1586 : decode cL_law 1586 = .ok (.iconst 2, 1) := dw_5 (kcL_law_24 50 5 rfl)
theorem dL_law_1587 : decode cL_law 1587 = .ok (.iadd, 1) := dw_96 (kcL_law_24 51 96 rfl)
theorem dL_law_1588 : decode cL_law 1588 = .ok (.iaload, 1) := dw_46 (kcL_law_24 52 46 rfl)
theorem dL_law_1589 : decode cL_law 1589 = .ok (.aload_n 0, 1) := dw_42 (kcL_law_24 53 42 rfl)
theorem dL_law_1590 : decode cL_law 1590 = .ok (.iload_n 3, 1) := dw_29 (kcL_law_24 54 29 rfl)
theorem dL_law_1591 : decode cL_law 1591 = .ok (.iconst 3, 1) := dw_6 (kcL_law_24 55 6 rfl)
theorem dL_law_1592 : decode cL_law 1592 = .ok (.iadd, 1) := dw_96 (kcL_law_24 56 96 rfl)
theorem dL_law_1593 : decode cL_law 1593 = .ok (.iaload, 1) := dw_46 (kcL_law_24 57 46 rfl)
theorem dL_law_1594 : decode cL_law 1594 = .ok (.invokevirtual 161, 3) := dw_182 (kcL_law_24 58 182 rfl) (kcL_law_24 59 0 rfl) (kcL_law_24 60 161 rfl) rfl
theorem dL_law_1597 : decode cL_law 1597 = .ok (.pop, 1) := dw_87 (kcL_law_24 61 87 rfl)
theorem dL_law_1598 : decode cL_law 1598 = .ok (.aload_n 2, 1) := dw_44 (kcL_law_24 62 44 rfl)
theorem dL_law_1599 : decode cL_law 1599 = .ok (.aload_n 0, 1) := dw_42 (kcL_law_24 63 42 rfl)
theorem kcL_law_25 : CHb cL_law 1600 [29, 4, 96, 46, 42, 29, 5, 96, 46, 42, 29, 6, 96, 46, 182, 0, 164, 87, 167, 0, 36, 43, 42, 29, 4, 96, 46, 42, 29, 5, 96, 46, 182, 0, 165, 87, 44, 42, 29, 4, 96, 46, 42, 29, 5, 96, 46, 182, 0, 168, 87, 167, 0, 3, 132, 3, 6, 167, 249, 153, 4, 172] := CHb_of (by decide +kernel)
theorem dL_law_1600 : decode cL_law 1600 = .ok (.iload_n 3, 1) := dw_29 (kcL_law_25 0 29 rfl)
theorem dL_law_1601 : decode cL_law 1601 = .ok (.iconst 1, 1) := dw_4 (kcL_law_25 1 4 rfl)
theorem dL_law_1602 : decode cL_law 1602 = .ok (.iadd, 1) := dw_96 (kcL_law_25 2 96 rfl)
theorem dL_law_1603 : decode cL_law 1603 = .ok (.iaload, 1) := dw_46 (kcL_law_25 3 46 rfl)
theorem dL_law_1604 : decode cL_law 1604 = .ok (.aload_n 0, 1) := dw_42 (kcL_law_25 4 42 rfl)
theorem dL_law_1605 : decode cL_law 1605 = .ok (.iload_n 3, 1) := dw_29 (kcL_law_25 5 29 rfl)
theorem dL_law_1606 : decode cL_law 1606 = .ok (.iconst 2, 1) := dw_5 (kcL_law_25 6 5 rfl)
theorem dL_law_1607 : decode cL_law 1607 = .ok (.iadd, 1) := dw_96 (kcL_law_25 7 96 rfl)
theorem dL_law_1608 : decode cL_law 1608 = .ok (.iaload, 1) := dw_46 (kcL_law_25 8 46 rfl)
theorem dL_law_1609 : decode cL_law 1609 = .ok (.aload_n 0, 1) := dw_42 (kcL_law_25 9 42 rfl)
theorem dL_law_1610 : decode cL_law 1610 = .ok (.iload_n 3, 1) := dw_29 (kcL_law_25 10 29 rfl)
theorem dL_law_1611 : decode cL_law 1611 = .ok (.iconst 3, 1) := dw_6 (kcL_law_25 11 6 rfl)
theorem dL_law_1612 : decode cL_law 1612 = .ok (.iadd, 1) := dw_96 (kcL_law_25 12 96 rfl)
theorem dL_law_1613 : decode cL_law 1613 = .ok (.iaload, 1) := dw_46 (kcL_law_25 13 46 rfl)
theorem dL_law_1614 : decode cL_law 1614 = .ok (.invokevirtual 164, 3) := dw_182 (kcL_law_25 14 182 rfl) (kcL_law_25 15 0 rfl) (kcL_law_25 16 164 rfl) rfl
theorem dL_law_1617 : decode cL_law 1617 = .ok (.pop, 1) := dw_87 (kcL_law_25 17 87 rfl)
theorem dL_law_1618 : decode cL_law 1618 = .ok (.goto 36, 3) := dw_167 (kcL_law_25 18 167 rfl) (kcL_law_25 19 0 rfl) (kcL_law_25 20 36 rfl) rfl
theorem dL_law_1621 : decode cL_law 1621 = .ok (.aload_n 1, 1) := dw_43 (kcL_law_25 21 43 rfl)
theorem dL_law_1622 : decode cL_law 1622 = .ok (.aload_n 0, 1) := dw_42 (kcL_law_25 22 42 rfl)
theorem dL_law_1623 : decode cL_law 1623 = .ok (.iload_n 3, 1) := dw_29 (kcL_law_25 23 29 rfl)
theorem dL_law_1624 : decode cL_law 1624 = .ok (.iconst 1, 1) := dw_4 (kcL_law_25 24 4 rfl)
theorem dL_law_1625 : decode cL_law 1625 = .ok (.iadd, 1) := dw_96 (kcL_law_25 25 96 rfl)
theorem dL_law_1626 : decode cL_law 1626 = .ok (.iaload, 1) := dw_46 (kcL_law_25 26 46 rfl)
theorem dL_law_1627 : decode cL_law 1627 = .ok (.aload_n 0, 1) := dw_42 (kcL_law_25 27 42 rfl)
theorem dL_law_1628 : decode cL_law 1628 = .ok (.iload_n 3, 1) := dw_29 (kcL_law_25 28 29 rfl)
theorem dL_law_1629 : decode cL_law 1629 = .ok (.iconst 2, 1) := dw_5 (kcL_law_25 29 5 rfl)
theorem dL_law_1630 : decode cL_law 1630 = .ok (.iadd, 1) := dw_96 (kcL_law_25 30 96 rfl)
theorem dL_law_1631 : decode cL_law 1631 = .ok (.iaload, 1) := dw_46 (kcL_law_25 31 46 rfl)
theorem dL_law_1632 : decode cL_law 1632 = .ok (.invokevirtual 165, 3) := dw_182 (kcL_law_25 32 182 rfl) (kcL_law_25 33 0 rfl) (kcL_law_25 34 165 rfl) rfl
theorem dL_law_1635 : decode cL_law 1635 = .ok (.pop, 1) := dw_87 (kcL_law_25 35 87 rfl)
theorem dL_law_1636 : decode cL_law 1636 = .ok (.aload_n 2, 1) := dw_44 (kcL_law_25 36 44 rfl)
theorem dL_law_1637 : decode cL_law 1637 = .ok (.aload_n 0, 1) := dw_42 (kcL_law_25 37 42 rfl)
theorem dL_law_1638 : decode cL_law 1638 = .ok (.iload_n 3, 1) := dw_29 (kcL_law_25 38 29 rfl)
theorem dL_law_1639 : decode cL_law 1639 = .ok (.iconst 1, 1) := dw_4 (kcL_law_25 39 4 rfl)
theorem dL_law_1640 : decode cL_law 1640 = .ok (.iadd, 1) := dw_96 (kcL_law_25 40 96 rfl)
theorem dL_law_1641 : decode cL_law 1641 = .ok (.iaload, 1) := dw_46 (kcL_law_25 41 46 rfl)
theorem dL_law_1642 : decode cL_law 1642 = .ok (.aload_n 0, 1) := dw_42 (kcL_law_25 42 42 rfl)
theorem dL_law_1643 : decode cL_law 1643 = .ok (.iload_n 3, 1) := dw_29 (kcL_law_25 43 29 rfl)
theorem dL_law_1644 : decode cL_law 1644 = .ok (.iconst 2, 1) := dw_5 (kcL_law_25 44 5 rfl)
theorem dL_law_1645 : decode cL_law 1645 = .ok (.iadd, 1) := dw_96 (kcL_law_25 45 96 rfl)
theorem dL_law_1646 : decode cL_law 1646 = .ok (.iaload, 1) := dw_46 (kcL_law_25 46 46 rfl)
theorem dL_law_1647 : decode cL_law 1647 = .ok (.invokevirtual 168, 3) := dw_182 (kcL_law_25 47 182 rfl) (kcL_law_25 48 0 rfl) (kcL_law_25 49 168 rfl) rfl
theorem dL_law_1650 : decode cL_law 1650 = .ok (.pop, 1) := dw_87 (kcL_law_25 50 87 rfl)
theorem dL_law_1651 : decode cL_law 1651 = .ok (.goto 3, 3) := dw_167 (kcL_law_25 51 167 rfl) (kcL_law_25 52 0 rfl) (kcL_law_25 53 3 rfl) rfl
set_option maxHeartbeats 4000000 in
set_option maxRecDepth 100000 in
theorem law_c0 {p : Program} {l : Launch} {e : Env} {s : State} {m : MethodId} {below : List Frame} {meth : Method} {c : Code} {b_ L n : Nat} {xs : Nat → Int32} (C0 : lw_At p s m meth c b_ L xs) (hL : L ≤ 3072) (hn6 : n + 6 ≤ L) {G : GG} (hK : KK G s) (hT : ST (fun q => s.heap.size ≤ q) s s.heap) {x : Nat} {xa : Nat → Nat} {tA : Nat → Nat → Nat} {a b ga ua la lb : Nat → Nat} {gA : Nat → Nat → Nat} {y : Nat} {bb : Nat → Nat} {tF : Nat → Nat → Int32} {tR : Nat → Nat → Nat → Int32} {r7 : Nat → Nat → Int32} {wX wM : va_W} (hX : XS G x xa tA a b ga ua la lb gA tF tR wX) (hM : MS G y bb r7 wM) (hJ : (JT tF tR r7 ∧ JC tF tR r7)) {H : Heap} {locs : List Loc} {ls : Array Slot} (hP : PP G (wX ++ wM) H) (hD : va_D (fun q => s.heap.size ≤ q) (wX ++ wM)) (hS : va_S (fun q => s.heap.size ≤ q) s.heap H locs) (hl : lv_has ls 4 [(0, .ref b_), (1, .ref x), (2, .ref y), (3, .int (nI n))]) (fin : ∀ (tF2 : Nat → Nat → Int32) (tR2 : Nat → Nat → Nat → Int32) (r2 : Nat → Nat → Int32) (wX2 wM2 : va_W) (H : Heap) (locs : List Loc) (ls : Array Slot), XS G x xa tA a b ga ua la lb gA tF2 tR2 wX2 → MS G y bb r2 wM2 → (JT tF2 tR2 r2 ∧ JC tF2 tR2 r2) → PP G (wX2 ++ wM2) H → va_D (fun q => s.heap.size ≤ q) (wX2 ++ wM2) → va_S (fun q => s.heap.size ≤ q) s.heap H locs → lv_has ls 4 [(0, .ref b_), (1, .ref x), (2, .ref y), (3, .int (nI n))] → W p l e room_1 s m #[Value.ref b_] below meth c H locs 160 27087 (lw_Z below #[Value.ref b_] s) (F0 m 1654 ls [])) : W p l e room_1 s m #[Value.ref b_] below meth c H locs 160 27087 (lw_Z below #[Value.ref b_] s) (F0 m 192 ls []) := by
  obtain ⟨hx, hb, hr, hml, hown, hts0, hXs, hbl, hlocks, hgv⟩ := id C0
  have hts : ∀ w ∈ TB, w.before #[Value.ref b_] s = true := fun w h => hts0 w (List.mem_filter.mp h).1
  have hown : s.vm.findClass RL = some m.cls := hown
  have hA : ∀ q : Nat, s.heap.size ≤ q → (fun q => s.heap.size ≤ q) q := fun _ h => h
  have hbA : ¬ (fun q => s.heap.size ≤ q) b_ := Nat.not_le.mpr hbl
  obtain ⟨xf, f, qf, gf, uf, lf, mf, r, q, gr, ur, lr, mr, nF, nR, hI, rfl⟩ := hX
  obtain ⟨f7, hMi, rfl⟩ := hM
  obtain ⟨hJ, hC⟩ := hJ
  refine lv_aload_n hx hb dL_law_192 rfl (lv_at hl 1 rfl) ?_
  obtain ⟨j, hj⟩ : ∃ j, j < 6 := ⟨0, by decide⟩
  obtain ⟨k, hk⟩ : ∃ k, k < 16 := ⟨0, by decide⟩
  refine rdV (rest := []) (q0 := 0) ⟨hx, hb, hml, hown, hts⟩ (x_status l G x xa (tA j) a b ga ua la lb (gA k) (rfn tA 6) (rfn gA 16) xf (tF j) f qf gf uf lf mf (nF k) (tR j) r q gr ur lr mr (nR k)   ) mi_yX6_status mv_yX6_status ml_L_13 ⟨rfl, rfl, Nat.le_of_ble_eq_true rfl, Nat.le_of_ble_eq_true rfl⟩ hK (P_sub hP (fun z hz => List.mem_append_left _ ((xf_perm G x xa tA a b ga ua la lb gA xf f qf gf uf lf mf r q gr ur lr mr tF tR nF nR hj hk).mem_iff.mpr (List.mem_append_left _ hz)))) rfl rfl rfl hl.1 rfl (Nat.le_of_ble_eq_true rfl) dL_law_193 ⟨Nat.le_of_ble_eq_true rfl, Nat.le_of_ble_eq_true rfl⟩ hS hA hP (fun r1 H locs hr1 hP hS => ?_)
  have hX2 : XS G x xa tA a b ga ua la lb gA tF tR (xFull G x xa tA a b ga ua la lb gA xf f qf gf uf lf mf r q gr ur lr mr tF tR nF nR) := ⟨xf, f, qf, gf, uf, lf, mf, r, q, gr, ur, lr, mr, nF, nR, hI, rfl⟩
  obtain ⟨wX2, hwX⟩ : ∃ wX2 : va_W, wX2 = xFull G x xa tA a b ga ua la lb gA xf f qf gf uf lf mf r q gr ur lr mr tF tR nF nR := ⟨_, rfl⟩
  rw [← hwX] at hX2 hP hD
  refine lv_pop hx hb dL_law_196 rfl ?_
  refine lv_aload_n hx hb dL_law_197 rfl (lv_at hl 2 rfl) ?_
  refine rdV (rest := []) (q0 := 0) ⟨hx, hb, hml, hown, hts⟩ (m_X7_status l G y bb f7 r7  ) mi_yX7_status mv_yX7_status ml_L_17 ⟨rfl, rfl, Nat.le_of_ble_eq_true rfl, Nat.le_of_ble_eq_true rfl⟩ hK (P_sub hP (fun z hz => List.mem_append_right _ hz)) rfl rfl rfl hl.1 rfl (Nat.le_of_ble_eq_true rfl) dL_law_198 ⟨Nat.le_of_ble_eq_true rfl, Nat.le_of_ble_eq_true rfl⟩ hS hA hP (fun r2 H locs hr2 hP hS => ?_)
  have hM2 : MS G y bb r7 (mM G y bb f7 r7) := ⟨f7, hMi, rfl⟩
  refine lv_pop hx hb dL_law_201 rfl ?_
  refine lv_goto (tgt := 1654) hx hb dL_law_202 (by decide) ?_
  have hJ2 : (JT tF tR r7 ∧ JC tF tR r7) := ⟨hJ, hC⟩
  exact fin _ _ _ _ _ _ _ _ hX2 hM2 hJ2 hP hD hS (lv_sub hl [0, 1, 2, 3] rfl)
set_option maxHeartbeats 4000000 in
set_option maxRecDepth 100000 in
theorem law_c1 {p : Program} {l : Launch} {e : Env} {s : State} {m : MethodId} {below : List Frame} {meth : Method} {c : Code} {b_ L n : Nat} {xs : Nat → Int32} (C0 : lw_At p s m meth c b_ L xs) (hL : L ≤ 3072) (hn6 : n + 6 ≤ L) {G : GG} (hK : KK G s) (hT : ST (fun q => s.heap.size ≤ q) s s.heap) {x : Nat} {xa : Nat → Nat} {tA : Nat → Nat → Nat} {a b ga ua la lb : Nat → Nat} {gA : Nat → Nat → Nat} {y : Nat} {bb : Nat → Nat} {tF : Nat → Nat → Int32} {tR : Nat → Nat → Nat → Int32} {r7 : Nat → Nat → Int32} {wX wM : va_W} (hX : XS G x xa tA a b ga ua la lb gA tF tR wX) (hM : MS G y bb r7 wM) (hJ : (JT tF tR r7 ∧ JC tF tR r7)) {H : Heap} {locs : List Loc} {ls : Array Slot} (hP : PP G (wX ++ wM) H) (hD : va_D (fun q => s.heap.size ≤ q) (wX ++ wM)) (hS : va_S (fun q => s.heap.size ≤ q) s.heap H locs) (hl : lv_has ls 4 [(0, .ref b_), (1, .ref x), (2, .ref y), (3, .int (nI n))]) (fin : ∀ (tF2 : Nat → Nat → Int32) (tR2 : Nat → Nat → Nat → Int32) (r2 : Nat → Nat → Int32) (wX2 wM2 : va_W) (H : Heap) (locs : List Loc) (ls : Array Slot), XS G x xa tA a b ga ua la lb gA tF2 tR2 wX2 → MS G y bb r2 wM2 → (JT tF2 tR2 r2 ∧ JC tF2 tR2 r2) → PP G (wX2 ++ wM2) H → va_D (fun q => s.heap.size ≤ q) (wX2 ++ wM2) → va_S (fun q => s.heap.size ≤ q) s.heap H locs → lv_has ls 4 [(0, .ref b_), (1, .ref x), (2, .ref y), (3, .int (nI n))] → W p l e room_1 s m #[Value.ref b_] below meth c H locs 160 27087 (lw_Z below #[Value.ref b_] s) (F0 m 1654 ls [])) : W p l e room_1 s m #[Value.ref b_] below meth c H locs 160 27087 (lw_Z below #[Value.ref b_] s) (F0 m 205 ls []) := by
  obtain ⟨hx, hb, hr, hml, hown, hts0, hXs, hbl, hlocks, hgv⟩ := id C0
  have hts : ∀ w ∈ TB, w.before #[Value.ref b_] s = true := fun w h => hts0 w (List.mem_filter.mp h).1
  have hown : s.vm.findClass RL = some m.cls := hown
  have hA : ∀ q : Nat, s.heap.size ≤ q → (fun q => s.heap.size ≤ q) q := fun _ h => h
  have hbA : ¬ (fun q => s.heap.size ≤ q) b_ := Nat.not_le.mpr hbl
  obtain ⟨xf, f, qf, gf, uf, lf, mf, r, q, gr, ur, lr, mr, nF, nR, hI, rfl⟩ := hX
  obtain ⟨f7, hMi, rfl⟩ := hM
  obtain ⟨hJ, hC⟩ := hJ
  refine lv_aload_n hx hb dL_law_205 rfl (lv_at hl 1 rfl) ?_
  refine lv_aload_n hx hb dL_law_206 rfl (lv_at hl 0 rfl) ?_
  refine lv_iload_n hx hb dL_law_207 rfl (lv_at hl 3 rfl) ?_
  refine lv_iconst (v := 1) hx hb dL_law_208 (by decide) ?_
  refine lv_iadd hx hb dL_law_209 ?_
  refine lv_topi (fun v1 ev1 => ?_)
  obtain rfl : v1 = nI (n + 1) := nI_plus ev1 rfl rfl
  refine xsld ((n + 1)) hx hb hXs hbl hbA hS rfl (by omega) (by omega) dL_law_210 ?_
  refine lv_aload_n hx hb dL_law_211 rfl (lv_at hl 0 rfl) ?_
  refine lv_iload_n hx hb dL_law_212 rfl (lv_at hl 3 rfl) ?_
  refine lv_iconst (v := 2) hx hb dL_law_213 (by decide) ?_
  refine lv_iadd hx hb dL_law_214 ?_
  refine lv_topi (fun v2 ev2 => ?_)
  obtain rfl : v2 = nI (n + 2) := nI_plus ev2 rfl rfl
  refine xsld ((n + 2)) hx hb hXs hbl hbA hS rfl (by omega) (by omega) dL_law_215 ?_
  refine lv_aload_n hx hb dL_law_216 rfl (lv_at hl 0 rfl) ?_
  refine lv_iload_n hx hb dL_law_217 rfl (lv_at hl 3 rfl) ?_
  refine lv_iconst (v := 3) hx hb dL_law_218 (by decide) ?_
  refine lv_iadd hx hb dL_law_219 ?_
  refine lv_topi (fun v3 ev3 => ?_)
  obtain rfl : v3 = nI (n + 3) := nI_plus ev3 rfl rfl
  refine xsld ((n + 3)) hx hb hXs hbl hbA hS rfl (by omega) (by omega) dL_law_220 ?_
  obtain ⟨j, hj, hjt⟩ := tbJ_ex (xs ((n + 1)))
  obtain ⟨k, hk⟩ : ∃ k, k < 16 := ⟨0, by decide⟩
  refine lawIs (rest := []) (q0 := 0) ⟨hx, hb, hml, hown, hts⟩ (x_open l G x xa (tA j) a b ga ua la lb (gA k) (rfn tA 6) (rfn gA 16) xf (tF j) f qf gf uf lf mf (nF k) (tR j) r q gr ur lr mr (nR k) (xs ((n + 1))) (xs ((n + 2))) (xs ((n + 3))) j hj hjt (if_pos hj) ((hI.1 j hj).1) ((hI.1 j hj).2.1) ((hI.1 j hj).2.2.1) ((hI.1 j hj).2.2.2)) mi_yX6_open mv_yX6_open ml_L_18 ⟨rfl, rfl, Nat.le_of_ble_eq_true rfl, Nat.le_of_ble_eq_true rfl⟩ hK hT hP hD (perm_app (xf_perm G x xa tA a b ga ua la lb gA xf f qf gf uf lf mf r q gr ur lr mr tF tR nF nR hj hk)) rfl rfl rfl hl.1 rfl (Nat.le_of_ble_eq_true rfl) dL_law_221 ⟨Nat.le_of_ble_eq_true rfl, Nat.le_of_ble_eq_true rfl⟩ hS hA (fun r4 w H locs hw hP hS => ?_)
  obtain ⟨n_tf_0, n_tf_1, n_tf_2, n_tf_3, n_tr_4, n_tr_5, n_tr_6, n_tr_7, n_tr_8, n_tr_9, n_xf_0, rfl, hres, hT1_n, hT2_n, hT3_n, hT4_n⟩ := hw
  have hXn := XS_back (tF := tF) (tR := tR) (nF := nF) (nR := nR) (x := x) (xa := xa) (tA := tA) (a := a) (b := b) (ga := ga) (ua := ua) (la := la) (lb := lb) (gA := gA) (xf := xf) (f := f) (qf := qf) (gf := gf) (uf := uf) (lf := lf) (mf := mf) (r := r) (q := q) (gr := gr) (ur := ur) (lr := lr) (mr := mr) (G := G) hI hj hk (upd xf 0 n_xf_0) (upd (upd (upd (upd (tF j) 0 n_tf_0) 1 n_tf_1) 2 n_tf_2) 3 n_tf_3) f qf gf uf lf mf (nF k) (up2 (up2 (up2 (up2 (up2 (up2 (tR j) 4 n_tr_4) 5 n_tr_5) 6 n_tr_6) 7 n_tr_7) 8 n_tr_8) 9 n_tr_9) r q gr ur lr mr (nR k) ⟨hT1_n, hT2_n, hT3_n, hT4_n⟩ hI.2.1 ⟨hI.2.2.1.1, hI.2.2.1.2⟩ ⟨hI.2.2.2.1.1, hI.2.2.2.1.2⟩ ⟨(hI.2.2.2.2.1 k hk).1, (hI.2.2.2.2.1 k hk).2⟩ (hI.2.2.2.2.2)
  obtain ⟨wX2, hX2, hP, hD⟩ : ∃ wX2 : va_W, XS G x xa tA a b ga ua la lb gA (upA tF j (upd (upd (upd (upd (tF j) 0 n_tf_0) 1 n_tf_1) 2 n_tf_2) 3 n_tf_3)) (upA tR j (up2 (up2 (up2 (up2 (up2 (up2 (tR j) 4 n_tr_4) 5 n_tr_5) 6 n_tr_6) 7 n_tr_7) 8 n_tr_8) 9 n_tr_9)) wX2 ∧ PP G (wX2 ++ mM G y bb f7 r7) H ∧ va_D (fun q => s.heap.size ≤ q) (wX2 ++ mM G y bb f7 r7) := ⟨_, hXn.1, hP xM_ad _ (perm_app hXn.2)⟩
  refine lv_pop hx hb dL_law_224 rfl ?_
  refine lv_aload_n hx hb dL_law_225 rfl (lv_at hl 2 rfl) ?_
  refine lv_aload_n hx hb dL_law_226 rfl (lv_at hl 0 rfl) ?_
  refine lv_iload_n hx hb dL_law_227 rfl (lv_at hl 3 rfl) ?_
  refine lv_iconst (v := 1) hx hb dL_law_228 (by decide) ?_
  refine lv_iadd hx hb dL_law_229 ?_
  refine lv_topi (fun v5 ev5 => ?_)
  obtain rfl : v5 = nI (n + 1) := nI_plus ev5 rfl rfl
  refine xsld ((n + 1)) hx hb hXs hbl hbA hS rfl (by omega) (by omega) dL_law_230 ?_
  refine lv_aload_n hx hb dL_law_231 rfl (lv_at hl 0 rfl) ?_
  refine lv_iload_n hx hb dL_law_232 rfl (lv_at hl 3 rfl) ?_
  refine lv_iconst (v := 2) hx hb dL_law_233 (by decide) ?_
  refine lv_iadd hx hb dL_law_234 ?_
  refine lv_topi (fun v6 ev6 => ?_)
  obtain rfl : v6 = nI (n + 2) := nI_plus ev6 rfl rfl
  refine xsld ((n + 2)) hx hb hXs hbl hbA hS rfl (by omega) (by omega) dL_law_235 ?_
  refine lv_aload_n hx hb dL_law_236 rfl (lv_at hl 0 rfl) ?_
  refine lv_iload_n hx hb dL_law_237 rfl (lv_at hl 3 rfl) ?_
  refine lv_iconst (v := 3) hx hb dL_law_238 (by decide) ?_
  refine lv_iadd hx hb dL_law_239 ?_
  refine lv_topi (fun v7 ev7 => ?_)
  obtain rfl : v7 = nI (n + 3) := nI_plus ev7 rfl rfl
  refine xsld ((n + 3)) hx hb hXs hbl hbA hS rfl (by omega) (by omega) dL_law_240 ?_
  refine lawI (rest := []) (q0 := 0) ⟨hx, hb, hml, hown, hts⟩ (m_X7_open l G y bb f7 r7 (xs ((n + 1))) (xs ((n + 2))) (xs ((n + 3))) hMi.1 hMi.2.1 hMi.2.2.1 hMi.2.2.2.1) mi_yX7_open mv_yX7_open ml_L_22 ⟨rfl, rfl, Nat.le_of_ble_eq_true rfl, Nat.le_of_ble_eq_true rfl⟩ hK hP hD List.perm_append_comm rfl rfl rfl hl.1 rfl (Nat.le_of_ble_eq_true rfl) dL_law_241 ⟨Nat.le_of_ble_eq_true rfl, Nat.le_of_ble_eq_true rfl⟩ hS hA (fun r8 w H locs hw hP hS => ?_)
  obtain ⟨m_f_0, m_r_1, m_r_2, m_r_3, m_r_4, m_r_5, m_r_6, m_r_7, m_r_9, m_r_10, m_r_11, m_r_12, rfl, hrem, hM2_n, hM3_n, hM12_n, hG_n⟩ := hw
  have hs := op_step hj hjt (hJ j hj) ⟨hres.1, hres.2.1⟩ ⟨hrem.1, hrem.2.1⟩
  have hd := op2_step hjt (hC j hj) hs.1 hres.2.1 hres.2.2 hrem.2.2
  have hM2 : MS G y bb (up2 (up2 (up2 (up2 (up2 (up2 (up2 (up2 (up2 (up2 (up2 r7 1 m_r_1) 2 m_r_2) 3 m_r_3) 4 m_r_4) 5 m_r_5) 6 m_r_6) 7 m_r_7) 9 m_r_9) 10 m_r_10) 11 m_r_11) 12 m_r_12) (mM G y bb (upd f7 0 m_f_0) (up2 (up2 (up2 (up2 (up2 (up2 (up2 (up2 (up2 (up2 (up2 r7 1 m_r_1) 2 m_r_2) 3 m_r_3) 4 m_r_4) 5 m_r_5) 6 m_r_6) 7 m_r_7) 9 m_r_9) 10 m_r_10) 11 m_r_11) 12 m_r_12)) := ⟨(upd f7 0 m_f_0), ⟨hM2_n, hM3_n, hM12_n, hG_n, hMi.2.2.2.2.1, hMi.2.2.2.2.2.1, hMi.2.2.2.2.2.2.1, hMi.2.2.2.2.2.2.2.1, hMi.2.2.2.2.2.2.2.2.1, hMi.2.2.2.2.2.2.2.2.2.1, hMi.2.2.2.2.2.2.2.2.2.2⟩, rfl⟩
  obtain ⟨hP, hD⟩ := hP mM_ad (wX2 ++ mM G y bb (upd f7 0 m_f_0) (up2 (up2 (up2 (up2 (up2 (up2 (up2 (up2 (up2 (up2 (up2 r7 1 m_r_1) 2 m_r_2) 3 m_r_3) 4 m_r_4) 5 m_r_5) 6 m_r_6) 7 m_r_7) 9 m_r_9) 10 m_r_10) 11 m_r_11) 12 m_r_12)) List.perm_append_comm
  refine lv_pop hx hb dL_law_244 rfl ?_
  refine lv_goto (tgt := 1654) hx hb dL_law_245 (by decide) ?_
  have hJ2 : (JT (upA tF j (upd (upd (upd (upd (tF j) 0 n_tf_0) 1 n_tf_1) 2 n_tf_2) 3 n_tf_3)) (upA tR j (up2 (up2 (up2 (up2 (up2 (up2 (tR j) 4 n_tr_4) 5 n_tr_5) 6 n_tr_6) 7 n_tr_7) 8 n_tr_8) 9 n_tr_9)) (up2 (up2 (up2 (up2 (up2 (up2 (up2 (up2 (up2 (up2 (up2 r7 1 m_r_1) 2 m_r_2) 3 m_r_3) 4 m_r_4) 5 m_r_5) 6 m_r_6) 7 m_r_7) 9 m_r_9) 10 m_r_10) 11 m_r_11) 12 m_r_12) ∧ JC (upA tF j (upd (upd (upd (upd (tF j) 0 n_tf_0) 1 n_tf_1) 2 n_tf_2) 3 n_tf_3)) (upA tR j (up2 (up2 (up2 (up2 (up2 (up2 (tR j) 4 n_tr_4) 5 n_tr_5) 6 n_tr_6) 7 n_tr_7) 8 n_tr_8) 9 n_tr_9)) (up2 (up2 (up2 (up2 (up2 (up2 (up2 (up2 (up2 (up2 (up2 r7 1 m_r_1) 2 m_r_2) 3 m_r_3) 4 m_r_4) 5 m_r_5) 6 m_r_6) 7 m_r_7) 9 m_r_9) 10 m_r_10) 11 m_r_11) 12 m_r_12)) := ⟨JT_of hJ hs.2.1 hs.2.2, JC_of hC hd.1 hd.2⟩
  exact fin _ _ _ _ _ _ _ _ hX2 hM2 hJ2 hP hD hS (lv_sub hl [0, 1, 2, 3] rfl)
set_option maxHeartbeats 4000000 in
set_option maxRecDepth 100000 in
theorem law_c2 {p : Program} {l : Launch} {e : Env} {s : State} {m : MethodId} {below : List Frame} {meth : Method} {c : Code} {b_ L n : Nat} {xs : Nat → Int32} (C0 : lw_At p s m meth c b_ L xs) (hL : L ≤ 3072) (hn6 : n + 6 ≤ L) {G : GG} (hK : KK G s) (hT : ST (fun q => s.heap.size ≤ q) s s.heap) {x : Nat} {xa : Nat → Nat} {tA : Nat → Nat → Nat} {a b ga ua la lb : Nat → Nat} {gA : Nat → Nat → Nat} {y : Nat} {bb : Nat → Nat} {tF : Nat → Nat → Int32} {tR : Nat → Nat → Nat → Int32} {r7 : Nat → Nat → Int32} {wX wM : va_W} (hX : XS G x xa tA a b ga ua la lb gA tF tR wX) (hM : MS G y bb r7 wM) (hJ : (JT tF tR r7 ∧ JC tF tR r7)) {H : Heap} {locs : List Loc} {ls : Array Slot} (hP : PP G (wX ++ wM) H) (hD : va_D (fun q => s.heap.size ≤ q) (wX ++ wM)) (hS : va_S (fun q => s.heap.size ≤ q) s.heap H locs) (hl : lv_has ls 4 [(0, .ref b_), (1, .ref x), (2, .ref y), (3, .int (nI n))]) (fin : ∀ (tF2 : Nat → Nat → Int32) (tR2 : Nat → Nat → Nat → Int32) (r2 : Nat → Nat → Int32) (wX2 wM2 : va_W) (H : Heap) (locs : List Loc) (ls : Array Slot), XS G x xa tA a b ga ua la lb gA tF2 tR2 wX2 → MS G y bb r2 wM2 → (JT tF2 tR2 r2 ∧ JC tF2 tR2 r2) → PP G (wX2 ++ wM2) H → va_D (fun q => s.heap.size ≤ q) (wX2 ++ wM2) → va_S (fun q => s.heap.size ≤ q) s.heap H locs → lv_has ls 4 [(0, .ref b_), (1, .ref x), (2, .ref y), (3, .int (nI n))] → W p l e room_1 s m #[Value.ref b_] below meth c H locs 160 27087 (lw_Z below #[Value.ref b_] s) (F0 m 1654 ls [])) : W p l e room_1 s m #[Value.ref b_] below meth c H locs 160 27087 (lw_Z below #[Value.ref b_] s) (F0 m 248 ls []) := by
  obtain ⟨hx, hb, hr, hml, hown, hts0, hXs, hbl, hlocks, hgv⟩ := id C0
  have hts : ∀ w ∈ TB, w.before #[Value.ref b_] s = true := fun w h => hts0 w (List.mem_filter.mp h).1
  have hown : s.vm.findClass RL = some m.cls := hown
  have hA : ∀ q : Nat, s.heap.size ≤ q → (fun q => s.heap.size ≤ q) q := fun _ h => h
  have hbA : ¬ (fun q => s.heap.size ≤ q) b_ := Nat.not_le.mpr hbl
  obtain ⟨xf, f, qf, gf, uf, lf, mf, r, q, gr, ur, lr, mr, nF, nR, hI, rfl⟩ := hX
  obtain ⟨f7, hMi, rfl⟩ := hM
  obtain ⟨hJ, hC⟩ := hJ
  refine lv_aload_n hx hb dL_law_248 rfl (lv_at hl 1 rfl) ?_
  refine lv_aload_n hx hb dL_law_249 rfl (lv_at hl 0 rfl) ?_
  refine lv_iload_n hx hb dL_law_250 rfl (lv_at hl 3 rfl) ?_
  refine lv_iconst (v := 1) hx hb dL_law_251 (by decide) ?_
  refine lv_iadd hx hb dL_law_252 ?_
  refine lv_topi (fun v1 ev1 => ?_)
  obtain rfl : v1 = nI (n + 1) := nI_plus ev1 rfl rfl
  refine xsld ((n + 1)) hx hb hXs hbl hbA hS rfl (by omega) (by omega) dL_law_253 ?_
  obtain ⟨j, hj, hjt⟩ := tbJ_ex (xs ((n + 1)))
  obtain ⟨k, hk⟩ : ∃ k, k < 16 := ⟨0, by decide⟩
  refine lawI (rest := []) (q0 := 0) ⟨hx, hb, hml, hown, hts⟩ (x_close l G x xa (tA j) a b ga ua la lb (gA k) (rfn tA 6) (rfn gA 16) xf (tF j) f qf gf uf lf mf (nF k) (tR j) r q gr ur lr mr (nR k) (xs ((n + 1))) j hj hjt (if_pos hj) ((hI.1 j hj).1) ((hI.1 j hj).2.1) ((hI.1 j hj).2.2.1) ((hI.1 j hj).2.2.2)) mi_yX6_close mv_yX6_close ml_L_23 ⟨rfl, rfl, Nat.le_of_ble_eq_true rfl, Nat.le_of_ble_eq_true rfl⟩ hK hP hD (perm_app (xf_perm G x xa tA a b ga ua la lb gA xf f qf gf uf lf mf r q gr ur lr mr tF tR nF nR hj hk)) rfl rfl rfl hl.1 rfl (Nat.le_of_ble_eq_true rfl) dL_law_254 ⟨Nat.le_of_ble_eq_true rfl, Nat.le_of_ble_eq_true rfl⟩ hS hA (fun r2 w H locs hw hP hS => ?_)
  obtain ⟨n_tf_0, n_xf_0, rfl, hres⟩ := hw
  have hXn := XS_back (tF := tF) (tR := tR) (nF := nF) (nR := nR) (x := x) (xa := xa) (tA := tA) (a := a) (b := b) (ga := ga) (ua := ua) (la := la) (lb := lb) (gA := gA) (xf := xf) (f := f) (qf := qf) (gf := gf) (uf := uf) (lf := lf) (mf := mf) (r := r) (q := q) (gr := gr) (ur := ur) (lr := lr) (mr := mr) (G := G) hI hj hk (upd xf 0 n_xf_0) (upd (tF j) 0 n_tf_0) f qf gf uf lf mf (nF k) (tR j) r q gr ur lr mr (nR k) ⟨(hI.1 j hj).1, (hI.1 j hj).2.1, (hI.1 j hj).2.2.1, (hI.1 j hj).2.2.2⟩ hI.2.1 ⟨hI.2.2.1.1, hI.2.2.1.2⟩ ⟨hI.2.2.2.1.1, hI.2.2.2.1.2⟩ ⟨(hI.2.2.2.2.1 k hk).1, (hI.2.2.2.2.1 k hk).2⟩ (hI.2.2.2.2.2)
  obtain ⟨wX2, hX2, hP, hD⟩ : ∃ wX2 : va_W, XS G x xa tA a b ga ua la lb gA (upA tF j (upd (tF j) 0 n_tf_0)) (upA tR j (tR j)) wX2 ∧ PP G (wX2 ++ mM G y bb f7 r7) H ∧ va_D (fun q => s.heap.size ≤ q) (wX2 ++ mM G y bb f7 r7) := ⟨_, hXn.1, hP xM_ad _ (perm_app hXn.2)⟩
  refine lv_pop hx hb dL_law_257 rfl ?_
  refine lv_aload_n hx hb dL_law_258 rfl (lv_at hl 2 rfl) ?_
  refine lv_aload_n hx hb dL_law_259 rfl (lv_at hl 0 rfl) ?_
  refine lv_iload_n hx hb dL_law_260 rfl (lv_at hl 3 rfl) ?_
  refine lv_iconst (v := 1) hx hb dL_law_261 (by decide) ?_
  refine lv_iadd hx hb dL_law_262 ?_
  refine lv_topi (fun v3 ev3 => ?_)
  obtain rfl : v3 = nI (n + 1) := nI_plus ev3 rfl rfl
  refine xsld ((n + 1)) hx hb hXs hbl hbA hS rfl (by omega) (by omega) dL_law_263 ?_
  refine lawI (rest := []) (q0 := 0) ⟨hx, hb, hml, hown, hts⟩ (m_X7_close l G y bb f7 r7 (xs ((n + 1))) ) mi_yX7_close mv_yX7_close ml_L_27 ⟨rfl, rfl, Nat.le_of_ble_eq_true rfl, Nat.le_of_ble_eq_true rfl⟩ hK hP hD List.perm_append_comm rfl rfl rfl hl.1 rfl (Nat.le_of_ble_eq_true rfl) dL_law_264 ⟨Nat.le_of_ble_eq_true rfl, Nat.le_of_ble_eq_true rfl⟩ hS hA (fun r4 w H locs hw hP hS => ?_)
  obtain ⟨m_f_0, m_r_1, rfl, hrem⟩ := hw
  have hs := cl_step hj hjt (hJ j hj) hres hrem
  have hM2 : MS G y bb (up2 r7 1 m_r_1) (mM G y bb (upd f7 0 m_f_0) (up2 r7 1 m_r_1)) := ⟨(upd f7 0 m_f_0), ⟨hMi.1, hMi.2.1, hMi.2.2.1, hMi.2.2.2.1, hMi.2.2.2.2.1, hMi.2.2.2.2.2.1, hMi.2.2.2.2.2.2.1, hMi.2.2.2.2.2.2.2.1, hMi.2.2.2.2.2.2.2.2.1, hMi.2.2.2.2.2.2.2.2.2.1, hMi.2.2.2.2.2.2.2.2.2.2⟩, rfl⟩
  obtain ⟨hP, hD⟩ := hP mM_ad (wX2 ++ mM G y bb (upd f7 0 m_f_0) (up2 r7 1 m_r_1)) List.perm_append_comm
  refine lv_pop hx hb dL_law_267 rfl ?_
  refine lv_goto (tgt := 1654) hx hb dL_law_268 (by decide) ?_
  have hJ2 : (JT (upA tF j (upd (tF j) 0 n_tf_0)) (upA tR j (tR j)) (up2 r7 1 m_r_1) ∧ JC (upA tF j (upd (tF j) 0 n_tf_0)) (upA tR j (tR j)) (up2 r7 1 m_r_1)) := ⟨JT_of hJ hs.2.1 hs.2.2, JC_of hC (hC j hj) LQ_0⟩
  exact fin _ _ _ _ _ _ _ _ hX2 hM2 hJ2 hP hD hS (lv_sub hl [0, 1, 2, 3] rfl)
set_option maxHeartbeats 4000000 in
set_option maxRecDepth 100000 in
theorem law_c3 {p : Program} {l : Launch} {e : Env} {s : State} {m : MethodId} {below : List Frame} {meth : Method} {c : Code} {b_ L n : Nat} {xs : Nat → Int32} (C0 : lw_At p s m meth c b_ L xs) (hL : L ≤ 3072) (hn6 : n + 6 ≤ L) {G : GG} (hK : KK G s) (hT : ST (fun q => s.heap.size ≤ q) s s.heap) {x : Nat} {xa : Nat → Nat} {tA : Nat → Nat → Nat} {a b ga ua la lb : Nat → Nat} {gA : Nat → Nat → Nat} {y : Nat} {bb : Nat → Nat} {tF : Nat → Nat → Int32} {tR : Nat → Nat → Nat → Int32} {r7 : Nat → Nat → Int32} {wX wM : va_W} (hX : XS G x xa tA a b ga ua la lb gA tF tR wX) (hM : MS G y bb r7 wM) (hJ : (JT tF tR r7 ∧ JC tF tR r7)) {H : Heap} {locs : List Loc} {ls : Array Slot} (hP : PP G (wX ++ wM) H) (hD : va_D (fun q => s.heap.size ≤ q) (wX ++ wM)) (hS : va_S (fun q => s.heap.size ≤ q) s.heap H locs) (hl : lv_has ls 4 [(0, .ref b_), (1, .ref x), (2, .ref y), (3, .int (nI n))]) (fin : ∀ (tF2 : Nat → Nat → Int32) (tR2 : Nat → Nat → Nat → Int32) (r2 : Nat → Nat → Int32) (wX2 wM2 : va_W) (H : Heap) (locs : List Loc) (ls : Array Slot), XS G x xa tA a b ga ua la lb gA tF2 tR2 wX2 → MS G y bb r2 wM2 → (JT tF2 tR2 r2 ∧ JC tF2 tR2 r2) → PP G (wX2 ++ wM2) H → va_D (fun q => s.heap.size ≤ q) (wX2 ++ wM2) → va_S (fun q => s.heap.size ≤ q) s.heap H locs → lv_has ls 4 [(0, .ref b_), (1, .ref x), (2, .ref y), (3, .int (nI n))] → W p l e room_1 s m #[Value.ref b_] below meth c H locs 160 27087 (lw_Z below #[Value.ref b_] s) (F0 m 1654 ls [])) : W p l e room_1 s m #[Value.ref b_] below meth c H locs 160 27087 (lw_Z below #[Value.ref b_] s) (F0 m 271 ls []) := by
  obtain ⟨hx, hb, hr, hml, hown, hts0, hXs, hbl, hlocks, hgv⟩ := id C0
  have hts : ∀ w ∈ TB, w.before #[Value.ref b_] s = true := fun w h => hts0 w (List.mem_filter.mp h).1
  have hown : s.vm.findClass RL = some m.cls := hown
  have hA : ∀ q : Nat, s.heap.size ≤ q → (fun q => s.heap.size ≤ q) q := fun _ h => h
  have hbA : ¬ (fun q => s.heap.size ≤ q) b_ := Nat.not_le.mpr hbl
  obtain ⟨xf, f, qf, gf, uf, lf, mf, r, q, gr, ur, lr, mr, nF, nR, hI, rfl⟩ := hX
  obtain ⟨f7, hMi, rfl⟩ := hM
  obtain ⟨hJ, hC⟩ := hJ
  refine lv_aload_n hx hb dL_law_271 rfl (lv_at hl 1 rfl) ?_
  refine lv_aload_n hx hb dL_law_272 rfl (lv_at hl 0 rfl) ?_
  refine lv_iload_n hx hb dL_law_273 rfl (lv_at hl 3 rfl) ?_
  refine lv_iconst (v := 1) hx hb dL_law_274 (by decide) ?_
  refine lv_iadd hx hb dL_law_275 ?_
  refine lv_topi (fun v1 ev1 => ?_)
  obtain rfl : v1 = nI (n + 1) := nI_plus ev1 rfl rfl
  refine xsld ((n + 1)) hx hb hXs hbl hbA hS rfl (by omega) (by omega) dL_law_276 ?_
  refine lv_aload_n hx hb dL_law_277 rfl (lv_at hl 0 rfl) ?_
  refine lv_iload_n hx hb dL_law_278 rfl (lv_at hl 3 rfl) ?_
  refine lv_iconst (v := 2) hx hb dL_law_279 (by decide) ?_
  refine lv_iadd hx hb dL_law_280 ?_
  refine lv_topi (fun v2 ev2 => ?_)
  obtain rfl : v2 = nI (n + 2) := nI_plus ev2 rfl rfl
  refine xsld ((n + 2)) hx hb hXs hbl hbA hS rfl (by omega) (by omega) dL_law_281 ?_
  refine lv_aload_n hx hb dL_law_282 rfl (lv_at hl 0 rfl) ?_
  refine lv_iload_n hx hb dL_law_283 rfl (lv_at hl 3 rfl) ?_
  refine lv_iconst (v := 3) hx hb dL_law_284 (by decide) ?_
  refine lv_iadd hx hb dL_law_285 ?_
  refine lv_topi (fun v3 ev3 => ?_)
  obtain rfl : v3 = nI (n + 3) := nI_plus ev3 rfl rfl
  refine xsld ((n + 3)) hx hb hXs hbl hbA hS rfl (by omega) (by omega) dL_law_286 ?_
  obtain ⟨j, hj, hjt⟩ := tbJ_ex (xs ((n + 1)))
  obtain ⟨k, hk⟩ : ∃ k, k < 16 := ⟨0, by decide⟩
  refine lawIs (rest := []) (q0 := 0) ⟨hx, hb, hml, hown, hts⟩ (x_rule l G x xa (tA j) a b ga ua la lb (gA k) (rfn tA 6) (rfn gA 16) xf (tF j) f qf gf uf lf mf (nF k) (tR j) r q gr ur lr mr (nR k) (xs ((n + 1))) (xs ((n + 2))) (xs ((n + 3))) j hj hjt (if_pos hj) ((hI.1 j hj).1) ((hI.1 j hj).2.1) ((hI.1 j hj).2.2.1) ((hI.1 j hj).2.2.2)) mi_yX6_rule mv_yX6_rule ml_L_28 ⟨rfl, rfl, Nat.le_of_ble_eq_true rfl, Nat.le_of_ble_eq_true rfl⟩ hK hT hP hD (perm_app (xf_perm G x xa tA a b ga ua la lb gA xf f qf gf uf lf mf r q gr ur lr mr tF tR nF nR hj hk)) rfl rfl rfl hl.1 rfl (Nat.le_of_ble_eq_true rfl) dL_law_287 ⟨Nat.le_of_ble_eq_true rfl, Nat.le_of_ble_eq_true rfl⟩ hS hA (fun r4 w H locs hw hP hS => ?_)
  obtain ⟨n_tr_9, n_xf_0, rfl, hres⟩ := hw
  have hXn := XS_back (tF := tF) (tR := tR) (nF := nF) (nR := nR) (x := x) (xa := xa) (tA := tA) (a := a) (b := b) (ga := ga) (ua := ua) (la := la) (lb := lb) (gA := gA) (xf := xf) (f := f) (qf := qf) (gf := gf) (uf := uf) (lf := lf) (mf := mf) (r := r) (q := q) (gr := gr) (ur := ur) (lr := lr) (mr := mr) (G := G) hI hj hk (upd xf 0 n_xf_0) (tF j) f qf gf uf lf mf (nF k) (up2 (tR j) 9 n_tr_9) r q gr ur lr mr (nR k) ⟨(hI.1 j hj).1, (hI.1 j hj).2.1, (hI.1 j hj).2.2.1, (hI.1 j hj).2.2.2⟩ hI.2.1 ⟨hI.2.2.1.1, hI.2.2.1.2⟩ ⟨hI.2.2.2.1.1, hI.2.2.2.1.2⟩ ⟨(hI.2.2.2.2.1 k hk).1, (hI.2.2.2.2.1 k hk).2⟩ (hI.2.2.2.2.2)
  obtain ⟨wX2, hX2, hP, hD⟩ : ∃ wX2 : va_W, XS G x xa tA a b ga ua la lb gA (upA tF j (tF j)) (upA tR j (up2 (tR j) 9 n_tr_9)) wX2 ∧ PP G (wX2 ++ mM G y bb f7 r7) H ∧ va_D (fun q => s.heap.size ≤ q) (wX2 ++ mM G y bb f7 r7) := ⟨_, hXn.1, hP xM_ad _ (perm_app hXn.2)⟩
  refine lv_pop hx hb dL_law_290 rfl ?_
  refine lv_aload_n hx hb dL_law_291 rfl (lv_at hl 2 rfl) ?_
  refine lv_aload_n hx hb dL_law_292 rfl (lv_at hl 0 rfl) ?_
  refine lv_iload_n hx hb dL_law_293 rfl (lv_at hl 3 rfl) ?_
  refine lv_iconst (v := 1) hx hb dL_law_294 (by decide) ?_
  refine lv_iadd hx hb dL_law_295 ?_
  refine lv_topi (fun v5 ev5 => ?_)
  obtain rfl : v5 = nI (n + 1) := nI_plus ev5 rfl rfl
  refine xsld ((n + 1)) hx hb hXs hbl hbA hS rfl (by omega) (by omega) dL_law_296 ?_
  refine lv_aload_n hx hb dL_law_297 rfl (lv_at hl 0 rfl) ?_
  refine lv_iload_n hx hb dL_law_298 rfl (lv_at hl 3 rfl) ?_
  refine lv_iconst (v := 2) hx hb dL_law_299 (by decide) ?_
  refine lv_iadd hx hb dL_law_300 ?_
  refine lv_topi (fun v6 ev6 => ?_)
  obtain rfl : v6 = nI (n + 2) := nI_plus ev6 rfl rfl
  refine xsld ((n + 2)) hx hb hXs hbl hbA hS rfl (by omega) (by omega) dL_law_301 ?_
  refine lv_aload_n hx hb dL_law_302 rfl (lv_at hl 0 rfl) ?_
  refine lv_iload_n hx hb dL_law_303 rfl (lv_at hl 3 rfl) ?_
  refine lv_iconst (v := 3) hx hb dL_law_304 (by decide) ?_
  refine lv_iadd hx hb dL_law_305 ?_
  refine lv_topi (fun v7 ev7 => ?_)
  obtain rfl : v7 = nI (n + 3) := nI_plus ev7 rfl rfl
  refine xsld ((n + 3)) hx hb hXs hbl hbA hS rfl (by omega) (by omega) dL_law_306 ?_
  refine lawI (rest := []) (q0 := 0) ⟨hx, hb, hml, hown, hts⟩ (m_X7_rule l G y bb f7 r7 (xs ((n + 1))) (xs ((n + 2))) (xs ((n + 3))) hMi.1 hMi.2.1 hMi.2.2.1) mi_yX7_rule mv_yX7_rule ml_L_31 ⟨rfl, rfl, Nat.le_of_ble_eq_true rfl, Nat.le_of_ble_eq_true rfl⟩ hK hP hD List.perm_append_comm rfl rfl rfl hl.1 rfl (Nat.le_of_ble_eq_true rfl) dL_law_307 ⟨Nat.le_of_ble_eq_true rfl, Nat.le_of_ble_eq_true rfl⟩ hS hA (fun r8 w H locs hw hP hS => ?_)
  obtain ⟨m_f_0, m_r_4, rfl, hrem⟩ := hw
  have he := ru_same (tb_iff hj hjt (hJ j hj).1) hres.1 hrem.1
  have hd := ru_step hjt (hC j hj) he hres.2 hrem.2
  have hM2 : MS G y bb (up2 r7 4 m_r_4) (mM G y bb (upd f7 0 m_f_0) (up2 r7 4 m_r_4)) := ⟨(upd f7 0 m_f_0), ⟨hMi.1, hMi.2.1, hMi.2.2.1, hMi.2.2.2.1, hMi.2.2.2.2.1, hMi.2.2.2.2.2.1, hMi.2.2.2.2.2.2.1, hMi.2.2.2.2.2.2.2.1, hMi.2.2.2.2.2.2.2.2.1, hMi.2.2.2.2.2.2.2.2.2.1, hMi.2.2.2.2.2.2.2.2.2.2⟩, rfl⟩
  obtain ⟨hP, hD⟩ := hP mM_ad (wX2 ++ mM G y bb (upd f7 0 m_f_0) (up2 r7 4 m_r_4)) List.perm_append_comm
  refine lv_pop hx hb dL_law_310 rfl ?_
  refine lv_goto (tgt := 1654) hx hb dL_law_311 (by decide) ?_
  have hJ2 : (JT (upA tF j (tF j)) (upA tR j (up2 (tR j) 9 n_tr_9)) (up2 r7 4 m_r_4) ∧ JC (upA tF j (tF j)) (upA tR j (up2 (tR j) 9 n_tr_9)) (up2 r7 4 m_r_4)) := ⟨JT_of hJ (hJ j hj) (fun _ _ => TO_0), JC_of hC hd.1 hd.2⟩
  exact fin _ _ _ _ _ _ _ _ hX2 hM2 hJ2 hP hD hS (lv_sub hl [0, 1, 2, 3] rfl)
set_option maxHeartbeats 4000000 in
set_option maxRecDepth 100000 in
theorem law_c4 {p : Program} {l : Launch} {e : Env} {s : State} {m : MethodId} {below : List Frame} {meth : Method} {c : Code} {b_ L n : Nat} {xs : Nat → Int32} (C0 : lw_At p s m meth c b_ L xs) (hL : L ≤ 3072) (hn6 : n + 6 ≤ L) {G : GG} (hK : KK G s) (hT : ST (fun q => s.heap.size ≤ q) s s.heap) {x : Nat} {xa : Nat → Nat} {tA : Nat → Nat → Nat} {a b ga ua la lb : Nat → Nat} {gA : Nat → Nat → Nat} {y : Nat} {bb : Nat → Nat} {tF : Nat → Nat → Int32} {tR : Nat → Nat → Nat → Int32} {r7 : Nat → Nat → Int32} {wX wM : va_W} (hX : XS G x xa tA a b ga ua la lb gA tF tR wX) (hM : MS G y bb r7 wM) (hJ : (JT tF tR r7 ∧ JC tF tR r7)) {H : Heap} {locs : List Loc} {ls : Array Slot} (hP : PP G (wX ++ wM) H) (hD : va_D (fun q => s.heap.size ≤ q) (wX ++ wM)) (hS : va_S (fun q => s.heap.size ≤ q) s.heap H locs) (hl : lv_has ls 4 [(0, .ref b_), (1, .ref x), (2, .ref y), (3, .int (nI n))]) (fin : ∀ (tF2 : Nat → Nat → Int32) (tR2 : Nat → Nat → Nat → Int32) (r2 : Nat → Nat → Int32) (wX2 wM2 : va_W) (H : Heap) (locs : List Loc) (ls : Array Slot), XS G x xa tA a b ga ua la lb gA tF2 tR2 wX2 → MS G y bb r2 wM2 → (JT tF2 tR2 r2 ∧ JC tF2 tR2 r2) → PP G (wX2 ++ wM2) H → va_D (fun q => s.heap.size ≤ q) (wX2 ++ wM2) → va_S (fun q => s.heap.size ≤ q) s.heap H locs → lv_has ls 4 [(0, .ref b_), (1, .ref x), (2, .ref y), (3, .int (nI n))] → W p l e room_1 s m #[Value.ref b_] below meth c H locs 160 27087 (lw_Z below #[Value.ref b_] s) (F0 m 1654 ls [])) : W p l e room_1 s m #[Value.ref b_] below meth c H locs 160 27087 (lw_Z below #[Value.ref b_] s) (F0 m 314 ls []) := by
  obtain ⟨hx, hb, hr, hml, hown, hts0, hXs, hbl, hlocks, hgv⟩ := id C0
  have hts : ∀ w ∈ TB, w.before #[Value.ref b_] s = true := fun w h => hts0 w (List.mem_filter.mp h).1
  have hown : s.vm.findClass RL = some m.cls := hown
  have hA : ∀ q : Nat, s.heap.size ≤ q → (fun q => s.heap.size ≤ q) q := fun _ h => h
  have hbA : ¬ (fun q => s.heap.size ≤ q) b_ := Nat.not_le.mpr hbl
  obtain ⟨xf, f, qf, gf, uf, lf, mf, r, q, gr, ur, lr, mr, nF, nR, hI, rfl⟩ := hX
  obtain ⟨f7, hMi, rfl⟩ := hM
  obtain ⟨hJ, hC⟩ := hJ
  refine lv_aload_n hx hb dL_law_314 rfl (lv_at hl 1 rfl) ?_
  refine lv_aload_n hx hb dL_law_315 rfl (lv_at hl 0 rfl) ?_
  refine lv_iload_n hx hb dL_law_316 rfl (lv_at hl 3 rfl) ?_
  refine lv_iconst (v := 1) hx hb dL_law_317 (by decide) ?_
  refine lv_iadd hx hb dL_law_318 ?_
  refine lv_topi (fun v1 ev1 => ?_)
  obtain rfl : v1 = nI (n + 1) := nI_plus ev1 rfl rfl
  refine xsld ((n + 1)) hx hb hXs hbl hbA hS rfl (by omega) (by omega) dL_law_319 ?_
  refine lv_aload_n hx hb dL_law_320 rfl (lv_at hl 0 rfl) ?_
  refine lv_iload_n hx hb dL_law_321 rfl (lv_at hl 3 rfl) ?_
  refine lv_iconst (v := 2) hx hb dL_law_322 (by decide) ?_
  refine lv_iadd hx hb dL_law_323 ?_
  refine lv_topi (fun v2 ev2 => ?_)
  obtain rfl : v2 = nI (n + 2) := nI_plus ev2 rfl rfl
  refine xsld ((n + 2)) hx hb hXs hbl hbA hS rfl (by omega) (by omega) dL_law_324 ?_
  refine lv_aload_n hx hb dL_law_325 rfl (lv_at hl 0 rfl) ?_
  refine lv_iload_n hx hb dL_law_326 rfl (lv_at hl 3 rfl) ?_
  refine lv_iconst (v := 3) hx hb dL_law_327 (by decide) ?_
  refine lv_iadd hx hb dL_law_328 ?_
  refine lv_topi (fun v3 ev3 => ?_)
  obtain rfl : v3 = nI (n + 3) := nI_plus ev3 rfl rfl
  refine xsld ((n + 3)) hx hb hXs hbl hbA hS rfl (by omega) (by omega) dL_law_329 ?_
  refine lv_aload_n hx hb dL_law_330 rfl (lv_at hl 0 rfl) ?_
  refine lv_iload_n hx hb dL_law_331 rfl (lv_at hl 3 rfl) ?_
  refine lv_iconst (v := 4) hx hb dL_law_332 (by decide) ?_
  refine lv_iadd hx hb dL_law_333 ?_
  refine lv_topi (fun v4 ev4 => ?_)
  obtain rfl : v4 = nI (n + 4) := nI_plus ev4 rfl rfl
  refine xsld ((n + 4)) hx hb hXs hbl hbA hS rfl (by omega) (by omega) dL_law_334 ?_
  refine lv_aload_n hx hb dL_law_335 rfl (lv_at hl 0 rfl) ?_
  refine lv_iload_n hx hb dL_law_336 rfl (lv_at hl 3 rfl) ?_
  refine lv_iconst (v := 5) hx hb dL_law_337 (by decide) ?_
  refine lv_iadd hx hb dL_law_338 ?_
  refine lv_topi (fun v5 ev5 => ?_)
  obtain rfl : v5 = nI (n + 5) := nI_plus ev5 rfl rfl
  refine xsld ((n + 5)) hx hb hXs hbl hbA hS rfl (by omega) (by omega) dL_law_339 ?_
  obtain ⟨j, hj, hjt⟩ := tbJ_ex (xs ((n + 1)))
  obtain ⟨k, hk⟩ : ∃ k, k < 16 := ⟨0, by decide⟩
  refine lawI (rest := []) (q0 := 0) ⟨hx, hb, hml, hown, hts⟩ (x_cell l G x xa (tA j) a b ga ua la lb (gA k) (rfn tA 6) (rfn gA 16) xf (tF j) f qf gf uf lf mf (nF k) (tR j) r q gr ur lr mr (nR k) (xs ((n + 1))) (xs ((n + 2))) (xs ((n + 3))) (xs ((n + 4))) (xs ((n + 5))) j hj hjt (if_pos hj) ((hI.1 j hj).1) ((hI.1 j hj).2.1) ((hI.1 j hj).2.2.1) ((hI.1 j hj).2.2.2)) mi_yX6_cell mv_yX6_cell ml_L_32 ⟨rfl, rfl, Nat.le_of_ble_eq_true rfl, Nat.le_of_ble_eq_true rfl⟩ hK hP hD (perm_app (xf_perm G x xa tA a b ga ua la lb gA xf f qf gf uf lf mf r q gr ur lr mr tF tR nF nR hj hk)) rfl rfl rfl hl.1 rfl (Nat.le_of_ble_eq_true rfl) dL_law_340 ⟨Nat.le_of_ble_eq_true rfl, Nat.le_of_ble_eq_true rfl⟩ hS hA (fun r6 w H locs hw hP hS => ?_)
  obtain ⟨n_tr_5, n_tr_6, n_tr_7, n_tr_8, n_xf_0, rfl, hres⟩ := hw
  have hXn := XS_back (tF := tF) (tR := tR) (nF := nF) (nR := nR) (x := x) (xa := xa) (tA := tA) (a := a) (b := b) (ga := ga) (ua := ua) (la := la) (lb := lb) (gA := gA) (xf := xf) (f := f) (qf := qf) (gf := gf) (uf := uf) (lf := lf) (mf := mf) (r := r) (q := q) (gr := gr) (ur := ur) (lr := lr) (mr := mr) (G := G) hI hj hk (upd xf 0 n_xf_0) (tF j) f qf gf uf lf mf (nF k) (up2 (up2 (up2 (up2 (tR j) 5 n_tr_5) 6 n_tr_6) 7 n_tr_7) 8 n_tr_8) r q gr ur lr mr (nR k) ⟨(hI.1 j hj).1, (hI.1 j hj).2.1, (hI.1 j hj).2.2.1, (hI.1 j hj).2.2.2⟩ hI.2.1 ⟨hI.2.2.1.1, hI.2.2.1.2⟩ ⟨hI.2.2.2.1.1, hI.2.2.2.1.2⟩ ⟨(hI.2.2.2.2.1 k hk).1, (hI.2.2.2.2.1 k hk).2⟩ (hI.2.2.2.2.2)
  obtain ⟨wX2, hX2, hP, hD⟩ : ∃ wX2 : va_W, XS G x xa tA a b ga ua la lb gA (upA tF j (tF j)) (upA tR j (up2 (up2 (up2 (up2 (tR j) 5 n_tr_5) 6 n_tr_6) 7 n_tr_7) 8 n_tr_8)) wX2 ∧ PP G (wX2 ++ mM G y bb f7 r7) H ∧ va_D (fun q => s.heap.size ≤ q) (wX2 ++ mM G y bb f7 r7) := ⟨_, hXn.1, hP xM_ad _ (perm_app hXn.2)⟩
  refine lv_pop hx hb dL_law_343 rfl ?_
  refine lv_aload_n hx hb dL_law_344 rfl (lv_at hl 2 rfl) ?_
  refine lv_aload_n hx hb dL_law_345 rfl (lv_at hl 0 rfl) ?_
  refine lv_iload_n hx hb dL_law_346 rfl (lv_at hl 3 rfl) ?_
  refine lv_iconst (v := 1) hx hb dL_law_347 (by decide) ?_
  refine lv_iadd hx hb dL_law_348 ?_
  refine lv_topi (fun v7 ev7 => ?_)
  obtain rfl : v7 = nI (n + 1) := nI_plus ev7 rfl rfl
  refine xsld ((n + 1)) hx hb hXs hbl hbA hS rfl (by omega) (by omega) dL_law_349 ?_
  refine lv_aload_n hx hb dL_law_350 rfl (lv_at hl 0 rfl) ?_
  refine lv_iload_n hx hb dL_law_351 rfl (lv_at hl 3 rfl) ?_
  refine lv_iconst (v := 2) hx hb dL_law_352 (by decide) ?_
  refine lv_iadd hx hb dL_law_353 ?_
  refine lv_topi (fun v8 ev8 => ?_)
  obtain rfl : v8 = nI (n + 2) := nI_plus ev8 rfl rfl
  refine xsld ((n + 2)) hx hb hXs hbl hbA hS rfl (by omega) (by omega) dL_law_354 ?_
  refine lv_aload_n hx hb dL_law_355 rfl (lv_at hl 0 rfl) ?_
  refine lv_iload_n hx hb dL_law_356 rfl (lv_at hl 3 rfl) ?_
  refine lv_iconst (v := 3) hx hb dL_law_357 (by decide) ?_
  refine lv_iadd hx hb dL_law_358 ?_
  refine lv_topi (fun v9 ev9 => ?_)
  obtain rfl : v9 = nI (n + 3) := nI_plus ev9 rfl rfl
  refine xsld ((n + 3)) hx hb hXs hbl hbA hS rfl (by omega) (by omega) dL_law_359 ?_
  refine lv_aload_n hx hb dL_law_360 rfl (lv_at hl 0 rfl) ?_
  refine lv_iload_n hx hb dL_law_361 rfl (lv_at hl 3 rfl) ?_
  refine lv_iconst (v := 4) hx hb dL_law_362 (by decide) ?_
  refine lv_iadd hx hb dL_law_363 ?_
  refine lv_topi (fun v10 ev10 => ?_)
  obtain rfl : v10 = nI (n + 4) := nI_plus ev10 rfl rfl
  refine xsld ((n + 4)) hx hb hXs hbl hbA hS rfl (by omega) (by omega) dL_law_364 ?_
  refine lv_aload_n hx hb dL_law_365 rfl (lv_at hl 0 rfl) ?_
  refine lv_iload_n hx hb dL_law_366 rfl (lv_at hl 3 rfl) ?_
  refine lv_iconst (v := 5) hx hb dL_law_367 (by decide) ?_
  refine lv_iadd hx hb dL_law_368 ?_
  refine lv_topi (fun v11 ev11 => ?_)
  obtain rfl : v11 = nI (n + 5) := nI_plus ev11 rfl rfl
  refine xsld ((n + 5)) hx hb hXs hbl hbA hS rfl (by omega) (by omega) dL_law_369 ?_
  refine lawI (rest := []) (q0 := 0) ⟨hx, hb, hml, hown, hts⟩ (m_X7_cell l G y bb f7 r7 (xs ((n + 1))) (xs ((n + 2))) (xs ((n + 3))) (xs ((n + 4))) (xs ((n + 5))) hMi.1 hMi.2.1 hMi.2.2.1 hMi.2.2.2.1) mi_yX7_cell mv_yX7_cell ml_L_36 ⟨rfl, rfl, Nat.le_of_ble_eq_true rfl, Nat.le_of_ble_eq_true rfl⟩ hK hP hD List.perm_append_comm rfl rfl rfl hl.1 rfl (Nat.le_of_ble_eq_true rfl) dL_law_370 ⟨Nat.le_of_ble_eq_true rfl, Nat.le_of_ble_eq_true rfl⟩ hS hA (fun r12 w H locs hw hP hS => ?_)
  obtain ⟨m_f_0, m_r_5, m_r_6, m_r_7, m_r_9, m_r_10, rfl, hrem, hG_n⟩ := hw
  have hd0 := ce_step hj hjt (hI.1 j hj).1 (hJ j hj) (hC j hj) hres hrem
  have hd := hd0.2
  have hM2 : MS G y bb (up2 (up2 (up2 (up2 (up2 r7 5 m_r_5) 6 m_r_6) 7 m_r_7) 9 m_r_9) 10 m_r_10) (mM G y bb (upd f7 0 m_f_0) (up2 (up2 (up2 (up2 (up2 r7 5 m_r_5) 6 m_r_6) 7 m_r_7) 9 m_r_9) 10 m_r_10)) := ⟨(upd f7 0 m_f_0), ⟨hMi.1, hMi.2.1, hMi.2.2.1, hG_n, hMi.2.2.2.2.1, hMi.2.2.2.2.2.1, hMi.2.2.2.2.2.2.1, hMi.2.2.2.2.2.2.2.1, hMi.2.2.2.2.2.2.2.2.1, hMi.2.2.2.2.2.2.2.2.2.1, hMi.2.2.2.2.2.2.2.2.2.2⟩, rfl⟩
  obtain ⟨hP, hD⟩ := hP mM_ad (wX2 ++ mM G y bb (upd f7 0 m_f_0) (up2 (up2 (up2 (up2 (up2 r7 5 m_r_5) 6 m_r_6) 7 m_r_7) 9 m_r_9) 10 m_r_10)) List.perm_append_comm
  refine lv_pop hx hb dL_law_373 rfl ?_
  refine lv_goto (tgt := 1654) hx hb dL_law_374 (by decide) ?_
  have hJ2 : (JT (upA tF j (tF j)) (upA tR j (up2 (up2 (up2 (up2 (tR j) 5 n_tr_5) 6 n_tr_6) 7 n_tr_7) 8 n_tr_8)) (up2 (up2 (up2 (up2 (up2 r7 5 m_r_5) 6 m_r_6) 7 m_r_7) 9 m_r_9) 10 m_r_10) ∧ JC (upA tF j (tF j)) (upA tR j (up2 (up2 (up2 (up2 (tR j) 5 n_tr_5) 6 n_tr_6) 7 n_tr_7) 8 n_tr_8)) (up2 (up2 (up2 (up2 (up2 r7 5 m_r_5) 6 m_r_6) 7 m_r_7) 9 m_r_9) 10 m_r_10)) := ⟨JT_of hJ (hJ j hj) (fun _ _ => TO_0), JC_of hC hd.1 hd.2⟩
  exact fin _ _ _ _ _ _ _ _ hX2 hM2 hJ2 hP hD hS (lv_sub hl [0, 1, 2, 3] rfl)
set_option maxHeartbeats 4000000 in
set_option maxRecDepth 100000 in
theorem law_c5 {p : Program} {l : Launch} {e : Env} {s : State} {m : MethodId} {below : List Frame} {meth : Method} {c : Code} {b_ L n : Nat} {xs : Nat → Int32} (C0 : lw_At p s m meth c b_ L xs) (hL : L ≤ 3072) (hn6 : n + 6 ≤ L) {G : GG} (hK : KK G s) (hT : ST (fun q => s.heap.size ≤ q) s s.heap) {x : Nat} {xa : Nat → Nat} {tA : Nat → Nat → Nat} {a b ga ua la lb : Nat → Nat} {gA : Nat → Nat → Nat} {y : Nat} {bb : Nat → Nat} {tF : Nat → Nat → Int32} {tR : Nat → Nat → Nat → Int32} {r7 : Nat → Nat → Int32} {wX wM : va_W} (hX : XS G x xa tA a b ga ua la lb gA tF tR wX) (hM : MS G y bb r7 wM) (hJ : (JT tF tR r7 ∧ JC tF tR r7)) {H : Heap} {locs : List Loc} {ls : Array Slot} (hP : PP G (wX ++ wM) H) (hD : va_D (fun q => s.heap.size ≤ q) (wX ++ wM)) (hS : va_S (fun q => s.heap.size ≤ q) s.heap H locs) (hl : lv_has ls 4 [(0, .ref b_), (1, .ref x), (2, .ref y), (3, .int (nI n))]) (fin : ∀ (tF2 : Nat → Nat → Int32) (tR2 : Nat → Nat → Nat → Int32) (r2 : Nat → Nat → Int32) (wX2 wM2 : va_W) (H : Heap) (locs : List Loc) (ls : Array Slot), XS G x xa tA a b ga ua la lb gA tF2 tR2 wX2 → MS G y bb r2 wM2 → (JT tF2 tR2 r2 ∧ JC tF2 tR2 r2) → PP G (wX2 ++ wM2) H → va_D (fun q => s.heap.size ≤ q) (wX2 ++ wM2) → va_S (fun q => s.heap.size ≤ q) s.heap H locs → lv_has ls 4 [(0, .ref b_), (1, .ref x), (2, .ref y), (3, .int (nI n))] → W p l e room_1 s m #[Value.ref b_] below meth c H locs 160 27087 (lw_Z below #[Value.ref b_] s) (F0 m 1654 ls [])) : W p l e room_1 s m #[Value.ref b_] below meth c H locs 160 27087 (lw_Z below #[Value.ref b_] s) (F0 m 377 ls []) := by
  obtain ⟨hx, hb, hr, hml, hown, hts0, hXs, hbl, hlocks, hgv⟩ := id C0
  have hts : ∀ w ∈ TB, w.before #[Value.ref b_] s = true := fun w h => hts0 w (List.mem_filter.mp h).1
  have hown : s.vm.findClass RL = some m.cls := hown
  have hA : ∀ q : Nat, s.heap.size ≤ q → (fun q => s.heap.size ≤ q) q := fun _ h => h
  have hbA : ¬ (fun q => s.heap.size ≤ q) b_ := Nat.not_le.mpr hbl
  obtain ⟨xf, f, qf, gf, uf, lf, mf, r, q, gr, ur, lr, mr, nF, nR, hI, rfl⟩ := hX
  obtain ⟨f7, hMi, rfl⟩ := hM
  obtain ⟨hJ, hC⟩ := hJ
  refine lv_aload_n hx hb dL_law_377 rfl (lv_at hl 1 rfl) ?_
  refine lv_aload_n hx hb dL_law_378 rfl (lv_at hl 0 rfl) ?_
  refine lv_iload_n hx hb dL_law_379 rfl (lv_at hl 3 rfl) ?_
  refine lv_iconst (v := 1) hx hb dL_law_380 (by decide) ?_
  refine lv_iadd hx hb dL_law_381 ?_
  refine lv_topi (fun v1 ev1 => ?_)
  obtain rfl : v1 = nI (n + 1) := nI_plus ev1 rfl rfl
  refine xsld ((n + 1)) hx hb hXs hbl hbA hS rfl (by omega) (by omega) dL_law_382 ?_
  refine lv_aload_n hx hb dL_law_383 rfl (lv_at hl 0 rfl) ?_
  refine lv_iload_n hx hb dL_law_384 rfl (lv_at hl 3 rfl) ?_
  refine lv_iconst (v := 2) hx hb dL_law_385 (by decide) ?_
  refine lv_iadd hx hb dL_law_386 ?_
  refine lv_topi (fun v2 ev2 => ?_)
  obtain rfl : v2 = nI (n + 2) := nI_plus ev2 rfl rfl
  refine xsld ((n + 2)) hx hb hXs hbl hbA hS rfl (by omega) (by omega) dL_law_387 ?_
  refine lv_aload_n hx hb dL_law_388 rfl (lv_at hl 0 rfl) ?_
  refine lv_iload_n hx hb dL_law_389 rfl (lv_at hl 3 rfl) ?_
  refine lv_iconst (v := 3) hx hb dL_law_390 (by decide) ?_
  refine lv_iadd hx hb dL_law_391 ?_
  refine lv_topi (fun v3 ev3 => ?_)
  obtain rfl : v3 = nI (n + 3) := nI_plus ev3 rfl rfl
  refine xsld ((n + 3)) hx hb hXs hbl hbA hS rfl (by omega) (by omega) dL_law_392 ?_
  refine lv_aload_n hx hb dL_law_393 rfl (lv_at hl 0 rfl) ?_
  refine lv_iload_n hx hb dL_law_394 rfl (lv_at hl 3 rfl) ?_
  refine lv_iconst (v := 4) hx hb dL_law_395 (by decide) ?_
  refine lv_iadd hx hb dL_law_396 ?_
  refine lv_topi (fun v4 ev4 => ?_)
  obtain rfl : v4 = nI (n + 4) := nI_plus ev4 rfl rfl
  refine xsld ((n + 4)) hx hb hXs hbl hbA hS rfl (by omega) (by omega) dL_law_397 ?_
  obtain ⟨j, hj, hjt⟩ := tbJ_ex (xs ((n + 1)))
  obtain ⟨k, hk⟩ : ∃ k, k < 16 := ⟨0, by decide⟩
  refine lawI (rest := []) (q0 := 0) ⟨hx, hb, hml, hown, hts⟩ (x_giver l G x xa (tA j) a b ga ua la lb (gA k) (rfn tA 6) (rfn gA 16) xf (tF j) f qf gf uf lf mf (nF k) (tR j) r q gr ur lr mr (nR k) (xs ((n + 1))) (xs ((n + 2))) (xs ((n + 3))) (xs ((n + 4))) j hj hjt (if_pos hj) ((hI.1 j hj).1) ((hI.1 j hj).2.1) ((hI.1 j hj).2.2.1) ((hI.1 j hj).2.2.2)) mi_yX6_giver mv_yX6_giver ml_L_37 ⟨rfl, rfl, Nat.le_of_ble_eq_true rfl, Nat.le_of_ble_eq_true rfl⟩ hK hP hD (perm_app (xf_perm G x xa tA a b ga ua la lb gA xf f qf gf uf lf mf r q gr ur lr mr tF tR nF nR hj hk)) rfl rfl rfl hl.1 rfl (Nat.le_of_ble_eq_true rfl) dL_law_398 ⟨Nat.le_of_ble_eq_true rfl, Nat.le_of_ble_eq_true rfl⟩ hS hA (fun r5 w H locs hw hP hS => ?_)
  obtain ⟨n_tr_6, n_tr_8, n_xf_0, rfl, hres⟩ := hw
  have hXn := XS_back (tF := tF) (tR := tR) (nF := nF) (nR := nR) (x := x) (xa := xa) (tA := tA) (a := a) (b := b) (ga := ga) (ua := ua) (la := la) (lb := lb) (gA := gA) (xf := xf) (f := f) (qf := qf) (gf := gf) (uf := uf) (lf := lf) (mf := mf) (r := r) (q := q) (gr := gr) (ur := ur) (lr := lr) (mr := mr) (G := G) hI hj hk (upd xf 0 n_xf_0) (tF j) f qf gf uf lf mf (nF k) (up2 (up2 (tR j) 6 n_tr_6) 8 n_tr_8) r q gr ur lr mr (nR k) ⟨(hI.1 j hj).1, (hI.1 j hj).2.1, (hI.1 j hj).2.2.1, (hI.1 j hj).2.2.2⟩ hI.2.1 ⟨hI.2.2.1.1, hI.2.2.1.2⟩ ⟨hI.2.2.2.1.1, hI.2.2.2.1.2⟩ ⟨(hI.2.2.2.2.1 k hk).1, (hI.2.2.2.2.1 k hk).2⟩ (hI.2.2.2.2.2)
  obtain ⟨wX2, hX2, hP, hD⟩ : ∃ wX2 : va_W, XS G x xa tA a b ga ua la lb gA (upA tF j (tF j)) (upA tR j (up2 (up2 (tR j) 6 n_tr_6) 8 n_tr_8)) wX2 ∧ PP G (wX2 ++ mM G y bb f7 r7) H ∧ va_D (fun q => s.heap.size ≤ q) (wX2 ++ mM G y bb f7 r7) := ⟨_, hXn.1, hP xM_ad _ (perm_app hXn.2)⟩
  refine lv_pop hx hb dL_law_401 rfl ?_
  refine lv_aload_n hx hb dL_law_402 rfl (lv_at hl 2 rfl) ?_
  refine lv_aload_n hx hb dL_law_403 rfl (lv_at hl 0 rfl) ?_
  refine lv_iload_n hx hb dL_law_404 rfl (lv_at hl 3 rfl) ?_
  refine lv_iconst (v := 1) hx hb dL_law_405 (by decide) ?_
  refine lv_iadd hx hb dL_law_406 ?_
  refine lv_topi (fun v6 ev6 => ?_)
  obtain rfl : v6 = nI (n + 1) := nI_plus ev6 rfl rfl
  refine xsld ((n + 1)) hx hb hXs hbl hbA hS rfl (by omega) (by omega) dL_law_407 ?_
  refine lv_aload_n hx hb dL_law_408 rfl (lv_at hl 0 rfl) ?_
  refine lv_iload_n hx hb dL_law_409 rfl (lv_at hl 3 rfl) ?_
  refine lv_iconst (v := 2) hx hb dL_law_410 (by decide) ?_
  refine lv_iadd hx hb dL_law_411 ?_
  refine lv_topi (fun v7 ev7 => ?_)
  obtain rfl : v7 = nI (n + 2) := nI_plus ev7 rfl rfl
  refine xsld ((n + 2)) hx hb hXs hbl hbA hS rfl (by omega) (by omega) dL_law_412 ?_
  refine lv_aload_n hx hb dL_law_413 rfl (lv_at hl 0 rfl) ?_
  refine lv_iload_n hx hb dL_law_414 rfl (lv_at hl 3 rfl) ?_
  refine lv_iconst (v := 3) hx hb dL_law_415 (by decide) ?_
  refine lv_iadd hx hb dL_law_416 ?_
  refine lv_topi (fun v8 ev8 => ?_)
  obtain rfl : v8 = nI (n + 3) := nI_plus ev8 rfl rfl
  refine xsld ((n + 3)) hx hb hXs hbl hbA hS rfl (by omega) (by omega) dL_law_417 ?_
  refine lv_aload_n hx hb dL_law_418 rfl (lv_at hl 0 rfl) ?_
  refine lv_iload_n hx hb dL_law_419 rfl (lv_at hl 3 rfl) ?_
  refine lv_iconst (v := 4) hx hb dL_law_420 (by decide) ?_
  refine lv_iadd hx hb dL_law_421 ?_
  refine lv_topi (fun v9 ev9 => ?_)
  obtain rfl : v9 = nI (n + 4) := nI_plus ev9 rfl rfl
  refine xsld ((n + 4)) hx hb hXs hbl hbA hS rfl (by omega) (by omega) dL_law_422 ?_
  refine lawI (rest := []) (q0 := 0) ⟨hx, hb, hml, hown, hts⟩ (m_X7_giver l G y bb f7 r7 (xs ((n + 1))) (xs ((n + 2))) (xs ((n + 3))) (xs ((n + 4))) hMi.1 hMi.2.1 hMi.2.2.1 hMi.2.2.2.1) mi_yX7_giver mv_yX7_giver ml_L_41 ⟨rfl, rfl, Nat.le_of_ble_eq_true rfl, Nat.le_of_ble_eq_true rfl⟩ hK hP hD List.perm_append_comm rfl rfl rfl hl.1 rfl (Nat.le_of_ble_eq_true rfl) dL_law_423 ⟨Nat.le_of_ble_eq_true rfl, Nat.le_of_ble_eq_true rfl⟩ hS hA (fun r10 w H locs hw hP hS => ?_)
  obtain ⟨m_f_0, m_r_6, m_r_7, m_r_8, rfl, hrem, hG_n⟩ := hw
  have hd0 := gi_step hj hjt (hI.1 j hj).1 (hJ j hj) (hC j hj) hres hrem
  have hd := hd0.2
  have hM2 : MS G y bb (up2 (up2 (up2 r7 6 m_r_6) 7 m_r_7) 8 m_r_8) (mM G y bb (upd f7 0 m_f_0) (up2 (up2 (up2 r7 6 m_r_6) 7 m_r_7) 8 m_r_8)) := ⟨(upd f7 0 m_f_0), ⟨hMi.1, hMi.2.1, hMi.2.2.1, hG_n, hMi.2.2.2.2.1, hMi.2.2.2.2.2.1, hMi.2.2.2.2.2.2.1, hMi.2.2.2.2.2.2.2.1, hMi.2.2.2.2.2.2.2.2.1, hMi.2.2.2.2.2.2.2.2.2.1, hMi.2.2.2.2.2.2.2.2.2.2⟩, rfl⟩
  obtain ⟨hP, hD⟩ := hP mM_ad (wX2 ++ mM G y bb (upd f7 0 m_f_0) (up2 (up2 (up2 r7 6 m_r_6) 7 m_r_7) 8 m_r_8)) List.perm_append_comm
  refine lv_pop hx hb dL_law_426 rfl ?_
  refine lv_goto (tgt := 1654) hx hb dL_law_427 (by decide) ?_
  have hJ2 : (JT (upA tF j (tF j)) (upA tR j (up2 (up2 (tR j) 6 n_tr_6) 8 n_tr_8)) (up2 (up2 (up2 r7 6 m_r_6) 7 m_r_7) 8 m_r_8) ∧ JC (upA tF j (tF j)) (upA tR j (up2 (up2 (tR j) 6 n_tr_6) 8 n_tr_8)) (up2 (up2 (up2 r7 6 m_r_6) 7 m_r_7) 8 m_r_8)) := ⟨JT_of hJ (hJ j hj) (fun _ _ => TO_0), JC_of hC hd.1 hd.2⟩
  exact fin _ _ _ _ _ _ _ _ hX2 hM2 hJ2 hP hD hS (lv_sub hl [0, 1, 2, 3] rfl)
set_option maxHeartbeats 4000000 in
set_option maxRecDepth 100000 in
theorem law_c6 {p : Program} {l : Launch} {e : Env} {s : State} {m : MethodId} {below : List Frame} {meth : Method} {c : Code} {b_ L n : Nat} {xs : Nat → Int32} (C0 : lw_At p s m meth c b_ L xs) (hL : L ≤ 3072) (hn6 : n + 6 ≤ L) {G : GG} (hK : KK G s) (hT : ST (fun q => s.heap.size ≤ q) s s.heap) {x : Nat} {xa : Nat → Nat} {tA : Nat → Nat → Nat} {a b ga ua la lb : Nat → Nat} {gA : Nat → Nat → Nat} {y : Nat} {bb : Nat → Nat} {tF : Nat → Nat → Int32} {tR : Nat → Nat → Nat → Int32} {r7 : Nat → Nat → Int32} {wX wM : va_W} (hX : XS G x xa tA a b ga ua la lb gA tF tR wX) (hM : MS G y bb r7 wM) (hJ : (JT tF tR r7 ∧ JC tF tR r7)) {H : Heap} {locs : List Loc} {ls : Array Slot} (hP : PP G (wX ++ wM) H) (hD : va_D (fun q => s.heap.size ≤ q) (wX ++ wM)) (hS : va_S (fun q => s.heap.size ≤ q) s.heap H locs) (hl : lv_has ls 4 [(0, .ref b_), (1, .ref x), (2, .ref y), (3, .int (nI n))]) (fin : ∀ (tF2 : Nat → Nat → Int32) (tR2 : Nat → Nat → Nat → Int32) (r2 : Nat → Nat → Int32) (wX2 wM2 : va_W) (H : Heap) (locs : List Loc) (ls : Array Slot), XS G x xa tA a b ga ua la lb gA tF2 tR2 wX2 → MS G y bb r2 wM2 → (JT tF2 tR2 r2 ∧ JC tF2 tR2 r2) → PP G (wX2 ++ wM2) H → va_D (fun q => s.heap.size ≤ q) (wX2 ++ wM2) → va_S (fun q => s.heap.size ≤ q) s.heap H locs → lv_has ls 4 [(0, .ref b_), (1, .ref x), (2, .ref y), (3, .int (nI n))] → W p l e room_1 s m #[Value.ref b_] below meth c H locs 160 27087 (lw_Z below #[Value.ref b_] s) (F0 m 1654 ls [])) : W p l e room_1 s m #[Value.ref b_] below meth c H locs 160 27087 (lw_Z below #[Value.ref b_] s) (F0 m 430 ls []) := by
  obtain ⟨hx, hb, hr, hml, hown, hts0, hXs, hbl, hlocks, hgv⟩ := id C0
  have hts : ∀ w ∈ TB, w.before #[Value.ref b_] s = true := fun w h => hts0 w (List.mem_filter.mp h).1
  have hown : s.vm.findClass RL = some m.cls := hown
  have hA : ∀ q : Nat, s.heap.size ≤ q → (fun q => s.heap.size ≤ q) q := fun _ h => h
  have hbA : ¬ (fun q => s.heap.size ≤ q) b_ := Nat.not_le.mpr hbl
  obtain ⟨xf, f, qf, gf, uf, lf, mf, r, q, gr, ur, lr, mr, nF, nR, hI, rfl⟩ := hX
  obtain ⟨f7, hMi, rfl⟩ := hM
  obtain ⟨hJ, hC⟩ := hJ
  refine lv_aload_n hx hb dL_law_430 rfl (lv_at hl 1 rfl) ?_
  refine lv_aload_n hx hb dL_law_431 rfl (lv_at hl 0 rfl) ?_
  refine lv_iload_n hx hb dL_law_432 rfl (lv_at hl 3 rfl) ?_
  refine lv_iconst (v := 1) hx hb dL_law_433 (by decide) ?_
  refine lv_iadd hx hb dL_law_434 ?_
  refine lv_topi (fun v1 ev1 => ?_)
  obtain rfl : v1 = nI (n + 1) := nI_plus ev1 rfl rfl
  refine xsld ((n + 1)) hx hb hXs hbl hbA hS rfl (by omega) (by omega) dL_law_435 ?_
  refine lv_aload_n hx hb dL_law_436 rfl (lv_at hl 0 rfl) ?_
  refine lv_iload_n hx hb dL_law_437 rfl (lv_at hl 3 rfl) ?_
  refine lv_iconst (v := 2) hx hb dL_law_438 (by decide) ?_
  refine lv_iadd hx hb dL_law_439 ?_
  refine lv_topi (fun v2 ev2 => ?_)
  obtain rfl : v2 = nI (n + 2) := nI_plus ev2 rfl rfl
  refine xsld ((n + 2)) hx hb hXs hbl hbA hS rfl (by omega) (by omega) dL_law_440 ?_
  refine lv_aload_n hx hb dL_law_441 rfl (lv_at hl 0 rfl) ?_
  refine lv_iload_n hx hb dL_law_442 rfl (lv_at hl 3 rfl) ?_
  refine lv_iconst (v := 3) hx hb dL_law_443 (by decide) ?_
  refine lv_iadd hx hb dL_law_444 ?_
  refine lv_topi (fun v3 ev3 => ?_)
  obtain rfl : v3 = nI (n + 3) := nI_plus ev3 rfl rfl
  refine xsld ((n + 3)) hx hb hXs hbl hbA hS rfl (by omega) (by omega) dL_law_445 ?_
  obtain ⟨j, hj, hjt⟩ := tbJ_ex (xs ((n + 1)))
  obtain ⟨k, hk⟩ : ∃ k, k < 16 := ⟨0, by decide⟩
  refine lawI (rest := []) (q0 := 0) ⟨hx, hb, hml, hown, hts⟩ (x_clear l G x xa (tA j) a b ga ua la lb (gA k) (rfn tA 6) (rfn gA 16) xf (tF j) f qf gf uf lf mf (nF k) (tR j) r q gr ur lr mr (nR k) (xs ((n + 1))) (xs ((n + 2))) (xs ((n + 3))) j hj hjt (if_pos hj) ((hI.1 j hj).1) ((hI.1 j hj).2.1) ((hI.1 j hj).2.2.1) ((hI.1 j hj).2.2.2)) mi_yX6_clear mv_yX6_clear ml_L_42 ⟨rfl, rfl, Nat.le_of_ble_eq_true rfl, Nat.le_of_ble_eq_true rfl⟩ hK hP hD (perm_app (xf_perm G x xa tA a b ga ua la lb gA xf f qf gf uf lf mf r q gr ur lr mr tF tR nF nR hj hk)) rfl rfl rfl hl.1 rfl (Nat.le_of_ble_eq_true rfl) dL_law_446 ⟨Nat.le_of_ble_eq_true rfl, Nat.le_of_ble_eq_true rfl⟩ hS hA (fun r4 w H locs hw hP hS => ?_)
  obtain ⟨n_tr_5, n_tr_6, n_tr_7, n_tr_8, n_xf_0, rfl, hres⟩ := hw
  have hXn := XS_back (tF := tF) (tR := tR) (nF := nF) (nR := nR) (x := x) (xa := xa) (tA := tA) (a := a) (b := b) (ga := ga) (ua := ua) (la := la) (lb := lb) (gA := gA) (xf := xf) (f := f) (qf := qf) (gf := gf) (uf := uf) (lf := lf) (mf := mf) (r := r) (q := q) (gr := gr) (ur := ur) (lr := lr) (mr := mr) (G := G) hI hj hk (upd xf 0 n_xf_0) (tF j) f qf gf uf lf mf (nF k) (up2 (up2 (up2 (up2 (tR j) 5 n_tr_5) 6 n_tr_6) 7 n_tr_7) 8 n_tr_8) r q gr ur lr mr (nR k) ⟨(hI.1 j hj).1, (hI.1 j hj).2.1, (hI.1 j hj).2.2.1, (hI.1 j hj).2.2.2⟩ hI.2.1 ⟨hI.2.2.1.1, hI.2.2.1.2⟩ ⟨hI.2.2.2.1.1, hI.2.2.2.1.2⟩ ⟨(hI.2.2.2.2.1 k hk).1, (hI.2.2.2.2.1 k hk).2⟩ (hI.2.2.2.2.2)
  obtain ⟨wX2, hX2, hP, hD⟩ : ∃ wX2 : va_W, XS G x xa tA a b ga ua la lb gA (upA tF j (tF j)) (upA tR j (up2 (up2 (up2 (up2 (tR j) 5 n_tr_5) 6 n_tr_6) 7 n_tr_7) 8 n_tr_8)) wX2 ∧ PP G (wX2 ++ mM G y bb f7 r7) H ∧ va_D (fun q => s.heap.size ≤ q) (wX2 ++ mM G y bb f7 r7) := ⟨_, hXn.1, hP xM_ad _ (perm_app hXn.2)⟩
  refine lv_pop hx hb dL_law_449 rfl ?_
  refine lv_aload_n hx hb dL_law_450 rfl (lv_at hl 2 rfl) ?_
  refine lv_aload_n hx hb dL_law_451 rfl (lv_at hl 0 rfl) ?_
  refine lv_iload_n hx hb dL_law_452 rfl (lv_at hl 3 rfl) ?_
  refine lv_iconst (v := 1) hx hb dL_law_453 (by decide) ?_
  refine lv_iadd hx hb dL_law_454 ?_
  refine lv_topi (fun v5 ev5 => ?_)
  obtain rfl : v5 = nI (n + 1) := nI_plus ev5 rfl rfl
  refine xsld ((n + 1)) hx hb hXs hbl hbA hS rfl (by omega) (by omega) dL_law_455 ?_
  refine lv_aload_n hx hb dL_law_456 rfl (lv_at hl 0 rfl) ?_
  refine lv_iload_n hx hb dL_law_457 rfl (lv_at hl 3 rfl) ?_
  refine lv_iconst (v := 2) hx hb dL_law_458 (by decide) ?_
  refine lv_iadd hx hb dL_law_459 ?_
  refine lv_topi (fun v6 ev6 => ?_)
  obtain rfl : v6 = nI (n + 2) := nI_plus ev6 rfl rfl
  refine xsld ((n + 2)) hx hb hXs hbl hbA hS rfl (by omega) (by omega) dL_law_460 ?_
  refine lv_aload_n hx hb dL_law_461 rfl (lv_at hl 0 rfl) ?_
  refine lv_iload_n hx hb dL_law_462 rfl (lv_at hl 3 rfl) ?_
  refine lv_iconst (v := 3) hx hb dL_law_463 (by decide) ?_
  refine lv_iadd hx hb dL_law_464 ?_
  refine lv_topi (fun v7 ev7 => ?_)
  obtain rfl : v7 = nI (n + 3) := nI_plus ev7 rfl rfl
  refine xsld ((n + 3)) hx hb hXs hbl hbA hS rfl (by omega) (by omega) dL_law_465 ?_
  refine lawI (rest := []) (q0 := 0) ⟨hx, hb, hml, hown, hts⟩ (m_X7_clear l G y bb f7 r7 (xs ((n + 1))) (xs ((n + 2))) (xs ((n + 3))) hMi.1 hMi.2.1 hMi.2.2.1 hMi.2.2.2.1) mi_yX7_clear mv_yX7_clear ml_L_45 ⟨rfl, rfl, Nat.le_of_ble_eq_true rfl, Nat.le_of_ble_eq_true rfl⟩ hK hP hD List.perm_append_comm rfl rfl rfl hl.1 rfl (Nat.le_of_ble_eq_true rfl) dL_law_466 ⟨Nat.le_of_ble_eq_true rfl, Nat.le_of_ble_eq_true rfl⟩ hS hA (fun r8 w H locs hw hP hS => ?_)
  obtain ⟨m_f_0, m_r_5, m_r_6, m_r_7, m_r_9, m_r_10, rfl, hrem, hG_n⟩ := hw
  have hd0 := cr_step hj hjt (hI.1 j hj).1 (hJ j hj) (hC j hj) hres hrem
  have hd := hd0.2
  have hM2 : MS G y bb (up2 (up2 (up2 (up2 (up2 r7 5 m_r_5) 6 m_r_6) 7 m_r_7) 9 m_r_9) 10 m_r_10) (mM G y bb (upd f7 0 m_f_0) (up2 (up2 (up2 (up2 (up2 r7 5 m_r_5) 6 m_r_6) 7 m_r_7) 9 m_r_9) 10 m_r_10)) := ⟨(upd f7 0 m_f_0), ⟨hMi.1, hMi.2.1, hMi.2.2.1, hG_n, hMi.2.2.2.2.1, hMi.2.2.2.2.2.1, hMi.2.2.2.2.2.2.1, hMi.2.2.2.2.2.2.2.1, hMi.2.2.2.2.2.2.2.2.1, hMi.2.2.2.2.2.2.2.2.2.1, hMi.2.2.2.2.2.2.2.2.2.2⟩, rfl⟩
  obtain ⟨hP, hD⟩ := hP mM_ad (wX2 ++ mM G y bb (upd f7 0 m_f_0) (up2 (up2 (up2 (up2 (up2 r7 5 m_r_5) 6 m_r_6) 7 m_r_7) 9 m_r_9) 10 m_r_10)) List.perm_append_comm
  refine lv_pop hx hb dL_law_469 rfl ?_
  refine lv_goto (tgt := 1654) hx hb dL_law_470 (by decide) ?_
  have hJ2 : (JT (upA tF j (tF j)) (upA tR j (up2 (up2 (up2 (up2 (tR j) 5 n_tr_5) 6 n_tr_6) 7 n_tr_7) 8 n_tr_8)) (up2 (up2 (up2 (up2 (up2 r7 5 m_r_5) 6 m_r_6) 7 m_r_7) 9 m_r_9) 10 m_r_10) ∧ JC (upA tF j (tF j)) (upA tR j (up2 (up2 (up2 (up2 (tR j) 5 n_tr_5) 6 n_tr_6) 7 n_tr_7) 8 n_tr_8)) (up2 (up2 (up2 (up2 (up2 r7 5 m_r_5) 6 m_r_6) 7 m_r_7) 9 m_r_9) 10 m_r_10)) := ⟨JT_of hJ (hJ j hj) (fun _ _ => TO_0), JC_of hC hd.1 hd.2⟩
  exact fin _ _ _ _ _ _ _ _ hX2 hM2 hJ2 hP hD hS (lv_sub hl [0, 1, 2, 3] rfl)
set_option maxHeartbeats 4000000 in
set_option maxRecDepth 100000 in
theorem law_c7 {p : Program} {l : Launch} {e : Env} {s : State} {m : MethodId} {below : List Frame} {meth : Method} {c : Code} {b_ L n : Nat} {xs : Nat → Int32} (C0 : lw_At p s m meth c b_ L xs) (hL : L ≤ 3072) (hn6 : n + 6 ≤ L) {G : GG} (hK : KK G s) (hT : ST (fun q => s.heap.size ≤ q) s s.heap) {x : Nat} {xa : Nat → Nat} {tA : Nat → Nat → Nat} {a b ga ua la lb : Nat → Nat} {gA : Nat → Nat → Nat} {y : Nat} {bb : Nat → Nat} {tF : Nat → Nat → Int32} {tR : Nat → Nat → Nat → Int32} {r7 : Nat → Nat → Int32} {wX wM : va_W} (hX : XS G x xa tA a b ga ua la lb gA tF tR wX) (hM : MS G y bb r7 wM) (hJ : (JT tF tR r7 ∧ JC tF tR r7)) {H : Heap} {locs : List Loc} {ls : Array Slot} (hP : PP G (wX ++ wM) H) (hD : va_D (fun q => s.heap.size ≤ q) (wX ++ wM)) (hS : va_S (fun q => s.heap.size ≤ q) s.heap H locs) (hl : lv_has ls 4 [(0, .ref b_), (1, .ref x), (2, .ref y), (3, .int (nI n))]) (fin : ∀ (tF2 : Nat → Nat → Int32) (tR2 : Nat → Nat → Nat → Int32) (r2 : Nat → Nat → Int32) (wX2 wM2 : va_W) (H : Heap) (locs : List Loc) (ls : Array Slot), XS G x xa tA a b ga ua la lb gA tF2 tR2 wX2 → MS G y bb r2 wM2 → (JT tF2 tR2 r2 ∧ JC tF2 tR2 r2) → PP G (wX2 ++ wM2) H → va_D (fun q => s.heap.size ≤ q) (wX2 ++ wM2) → va_S (fun q => s.heap.size ≤ q) s.heap H locs → lv_has ls 4 [(0, .ref b_), (1, .ref x), (2, .ref y), (3, .int (nI n))] → W p l e room_1 s m #[Value.ref b_] below meth c H locs 160 27087 (lw_Z below #[Value.ref b_] s) (F0 m 1654 ls [])) : W p l e room_1 s m #[Value.ref b_] below meth c H locs 160 27087 (lw_Z below #[Value.ref b_] s) (F0 m 473 ls []) := by
  obtain ⟨hx, hb, hr, hml, hown, hts0, hXs, hbl, hlocks, hgv⟩ := id C0
  have hts : ∀ w ∈ TB, w.before #[Value.ref b_] s = true := fun w h => hts0 w (List.mem_filter.mp h).1
  have hown : s.vm.findClass RL = some m.cls := hown
  have hA : ∀ q : Nat, s.heap.size ≤ q → (fun q => s.heap.size ≤ q) q := fun _ h => h
  have hbA : ¬ (fun q => s.heap.size ≤ q) b_ := Nat.not_le.mpr hbl
  obtain ⟨xf, f, qf, gf, uf, lf, mf, r, q, gr, ur, lr, mr, nF, nR, hI, rfl⟩ := hX
  obtain ⟨f7, hMi, rfl⟩ := hM
  obtain ⟨hJ, hC⟩ := hJ
  refine lv_aload_n hx hb dL_law_473 rfl (lv_at hl 1 rfl) ?_
  refine lv_aload_n hx hb dL_law_474 rfl (lv_at hl 0 rfl) ?_
  refine lv_iload_n hx hb dL_law_475 rfl (lv_at hl 3 rfl) ?_
  refine lv_iconst (v := 1) hx hb dL_law_476 (by decide) ?_
  refine lv_iadd hx hb dL_law_477 ?_
  refine lv_topi (fun v1 ev1 => ?_)
  obtain rfl : v1 = nI (n + 1) := nI_plus ev1 rfl rfl
  refine xsld ((n + 1)) hx hb hXs hbl hbA hS rfl (by omega) (by omega) dL_law_478 ?_
  refine lv_aload_n hx hb dL_law_479 rfl (lv_at hl 0 rfl) ?_
  refine lv_iload_n hx hb dL_law_480 rfl (lv_at hl 3 rfl) ?_
  refine lv_iconst (v := 2) hx hb dL_law_481 (by decide) ?_
  refine lv_iadd hx hb dL_law_482 ?_
  refine lv_topi (fun v2 ev2 => ?_)
  obtain rfl : v2 = nI (n + 2) := nI_plus ev2 rfl rfl
  refine xsld ((n + 2)) hx hb hXs hbl hbA hS rfl (by omega) (by omega) dL_law_483 ?_
  refine lv_aload_n hx hb dL_law_484 rfl (lv_at hl 0 rfl) ?_
  refine lv_iload_n hx hb dL_law_485 rfl (lv_at hl 3 rfl) ?_
  refine lv_iconst (v := 3) hx hb dL_law_486 (by decide) ?_
  refine lv_iadd hx hb dL_law_487 ?_
  refine lv_topi (fun v3 ev3 => ?_)
  obtain rfl : v3 = nI (n + 3) := nI_plus ev3 rfl rfl
  refine xsld ((n + 3)) hx hb hXs hbl hbA hS rfl (by omega) (by omega) dL_law_488 ?_
  obtain ⟨j, hj, hjt⟩ := tbJ_ex (xs ((n + 1)))
  obtain ⟨k, hk⟩ : ∃ k, k < 16 := ⟨0, by decide⟩
  refine lawI (rest := []) (q0 := 0) ⟨hx, hb, hml, hown, hts⟩ (x_tear l G x xa (tA j) a b ga ua la lb (gA k) (rfn tA 6) (rfn gA 16) xf (tF j) f qf gf uf lf mf (nF k) (tR j) r q gr ur lr mr (nR k) (xs ((n + 1))) (xs ((n + 2))) (xs ((n + 3))) j hj hjt (if_pos hj) ((hI.1 j hj).1) ((hI.1 j hj).2.1) ((hI.1 j hj).2.2.1) ((hI.1 j hj).2.2.2)) mi_yX6_tear mv_yX6_tear ml_L_46 ⟨rfl, rfl, Nat.le_of_ble_eq_true rfl, Nat.le_of_ble_eq_true rfl⟩ hK hP hD (perm_app (xf_perm G x xa tA a b ga ua la lb gA xf f qf gf uf lf mf r q gr ur lr mr tF tR nF nR hj hk)) rfl rfl rfl hl.1 rfl (Nat.le_of_ble_eq_true rfl) dL_law_489 ⟨Nat.le_of_ble_eq_true rfl, Nat.le_of_ble_eq_true rfl⟩ hS hA (fun r4 w H locs hw hP hS => ?_)
  obtain ⟨n_tr_4, n_tr_5, n_tr_6, n_tr_7, n_tr_8, n_xf_0, rfl, hres, hT4_n⟩ := hw
  have hXn := XS_back (tF := tF) (tR := tR) (nF := nF) (nR := nR) (x := x) (xa := xa) (tA := tA) (a := a) (b := b) (ga := ga) (ua := ua) (la := la) (lb := lb) (gA := gA) (xf := xf) (f := f) (qf := qf) (gf := gf) (uf := uf) (lf := lf) (mf := mf) (r := r) (q := q) (gr := gr) (ur := ur) (lr := lr) (mr := mr) (G := G) hI hj hk (upd xf 0 n_xf_0) (tF j) f qf gf uf lf mf (nF k) (up2 (up2 (up2 (up2 (up2 (tR j) 4 n_tr_4) 5 n_tr_5) 6 n_tr_6) 7 n_tr_7) 8 n_tr_8) r q gr ur lr mr (nR k) ⟨(hI.1 j hj).1, (hI.1 j hj).2.1, (hI.1 j hj).2.2.1, hT4_n⟩ hI.2.1 ⟨hI.2.2.1.1, hI.2.2.1.2⟩ ⟨hI.2.2.2.1.1, hI.2.2.2.1.2⟩ ⟨(hI.2.2.2.2.1 k hk).1, (hI.2.2.2.2.1 k hk).2⟩ (hI.2.2.2.2.2)
  obtain ⟨wX2, hX2, hP, hD⟩ : ∃ wX2 : va_W, XS G x xa tA a b ga ua la lb gA (upA tF j (tF j)) (upA tR j (up2 (up2 (up2 (up2 (up2 (tR j) 4 n_tr_4) 5 n_tr_5) 6 n_tr_6) 7 n_tr_7) 8 n_tr_8)) wX2 ∧ PP G (wX2 ++ mM G y bb f7 r7) H ∧ va_D (fun q => s.heap.size ≤ q) (wX2 ++ mM G y bb f7 r7) := ⟨_, hXn.1, hP xM_ad _ (perm_app hXn.2)⟩
  refine lv_pop hx hb dL_law_492 rfl ?_
  refine lv_aload_n hx hb dL_law_493 rfl (lv_at hl 2 rfl) ?_
  refine lv_aload_n hx hb dL_law_494 rfl (lv_at hl 0 rfl) ?_
  refine lv_iload_n hx hb dL_law_495 rfl (lv_at hl 3 rfl) ?_
  refine lv_iconst (v := 1) hx hb dL_law_496 (by decide) ?_
  refine lv_iadd hx hb dL_law_497 ?_
  refine lv_topi (fun v5 ev5 => ?_)
  obtain rfl : v5 = nI (n + 1) := nI_plus ev5 rfl rfl
  refine xsld ((n + 1)) hx hb hXs hbl hbA hS rfl (by omega) (by omega) dL_law_498 ?_
  refine lv_aload_n hx hb dL_law_499 rfl (lv_at hl 0 rfl) ?_
  refine lv_iload_n hx hb dL_law_500 rfl (lv_at hl 3 rfl) ?_
  refine lv_iconst (v := 2) hx hb dL_law_501 (by decide) ?_
  refine lv_iadd hx hb dL_law_502 ?_
  refine lv_topi (fun v6 ev6 => ?_)
  obtain rfl : v6 = nI (n + 2) := nI_plus ev6 rfl rfl
  refine xsld ((n + 2)) hx hb hXs hbl hbA hS rfl (by omega) (by omega) dL_law_503 ?_
  refine lv_aload_n hx hb dL_law_504 rfl (lv_at hl 0 rfl) ?_
  refine lv_iload_n hx hb dL_law_505 rfl (lv_at hl 3 rfl) ?_
  refine lv_iconst (v := 3) hx hb dL_law_506 (by decide) ?_
  refine lv_iadd hx hb dL_law_507 ?_
  refine lv_topi (fun v7 ev7 => ?_)
  obtain rfl : v7 = nI (n + 3) := nI_plus ev7 rfl rfl
  refine xsld ((n + 3)) hx hb hXs hbl hbA hS rfl (by omega) (by omega) dL_law_508 ?_
  refine lawI (rest := []) (q0 := 0) ⟨hx, hb, hml, hown, hts⟩ (m_X7_tear l G y bb f7 r7 (xs ((n + 1))) (xs ((n + 2))) (xs ((n + 3))) hMi.1 hMi.2.1 hMi.2.2.1 hMi.2.2.2.1) mi_yX7_tear mv_yX7_tear ml_L_49 ⟨rfl, rfl, Nat.le_of_ble_eq_true rfl, Nat.le_of_ble_eq_true rfl⟩ hK hP hD List.perm_append_comm rfl rfl rfl hl.1 rfl (Nat.le_of_ble_eq_true rfl) dL_law_509 ⟨Nat.le_of_ble_eq_true rfl, Nat.le_of_ble_eq_true rfl⟩ hS hA (fun r8 w H locs hw hP hS => ?_)
  obtain ⟨m_f_0, m_r_5, m_r_6, m_r_7, m_r_9, m_r_10, m_r_11, rfl, hrem, hG_n⟩ := hw
  have hs := te_step hj hjt (hJ j hj) hres.1 hrem.1
  have hd := te2_step hjt (hC j hj) hs.1 hres.1 hres.2 hrem.2
  have hM2 : MS G y bb (up2 (up2 (up2 (up2 (up2 (up2 r7 5 m_r_5) 6 m_r_6) 7 m_r_7) 9 m_r_9) 10 m_r_10) 11 m_r_11) (mM G y bb (upd f7 0 m_f_0) (up2 (up2 (up2 (up2 (up2 (up2 r7 5 m_r_5) 6 m_r_6) 7 m_r_7) 9 m_r_9) 10 m_r_10) 11 m_r_11)) := ⟨(upd f7 0 m_f_0), ⟨hMi.1, hMi.2.1, hMi.2.2.1, hG_n, hMi.2.2.2.2.1, hMi.2.2.2.2.2.1, hMi.2.2.2.2.2.2.1, hMi.2.2.2.2.2.2.2.1, hMi.2.2.2.2.2.2.2.2.1, hMi.2.2.2.2.2.2.2.2.2.1, hMi.2.2.2.2.2.2.2.2.2.2⟩, rfl⟩
  obtain ⟨hP, hD⟩ := hP mM_ad (wX2 ++ mM G y bb (upd f7 0 m_f_0) (up2 (up2 (up2 (up2 (up2 (up2 r7 5 m_r_5) 6 m_r_6) 7 m_r_7) 9 m_r_9) 10 m_r_10) 11 m_r_11)) List.perm_append_comm
  refine lv_pop hx hb dL_law_512 rfl ?_
  refine lv_goto (tgt := 1654) hx hb dL_law_513 (by decide) ?_
  have hJ2 : (JT (upA tF j (tF j)) (upA tR j (up2 (up2 (up2 (up2 (up2 (tR j) 4 n_tr_4) 5 n_tr_5) 6 n_tr_6) 7 n_tr_7) 8 n_tr_8)) (up2 (up2 (up2 (up2 (up2 (up2 r7 5 m_r_5) 6 m_r_6) 7 m_r_7) 9 m_r_9) 10 m_r_10) 11 m_r_11) ∧ JC (upA tF j (tF j)) (upA tR j (up2 (up2 (up2 (up2 (up2 (tR j) 4 n_tr_4) 5 n_tr_5) 6 n_tr_6) 7 n_tr_7) 8 n_tr_8)) (up2 (up2 (up2 (up2 (up2 (up2 r7 5 m_r_5) 6 m_r_6) 7 m_r_7) 9 m_r_9) 10 m_r_10) 11 m_r_11)) := ⟨JT_of hJ hs.2.1 hs.2.2, JC_of hC hd.1 hd.2⟩
  exact fin _ _ _ _ _ _ _ _ hX2 hM2 hJ2 hP hD hS (lv_sub hl [0, 1, 2, 3] rfl)
set_option maxHeartbeats 4000000 in
set_option maxRecDepth 100000 in
theorem law_c8 {p : Program} {l : Launch} {e : Env} {s : State} {m : MethodId} {below : List Frame} {meth : Method} {c : Code} {b_ L n : Nat} {xs : Nat → Int32} (C0 : lw_At p s m meth c b_ L xs) (hL : L ≤ 3072) (hn6 : n + 6 ≤ L) {G : GG} (hK : KK G s) (hT : ST (fun q => s.heap.size ≤ q) s s.heap) {x : Nat} {xa : Nat → Nat} {tA : Nat → Nat → Nat} {a b ga ua la lb : Nat → Nat} {gA : Nat → Nat → Nat} {y : Nat} {bb : Nat → Nat} {tF : Nat → Nat → Int32} {tR : Nat → Nat → Nat → Int32} {r7 : Nat → Nat → Int32} {wX wM : va_W} (hX : XS G x xa tA a b ga ua la lb gA tF tR wX) (hM : MS G y bb r7 wM) (hJ : (JT tF tR r7 ∧ JC tF tR r7)) {H : Heap} {locs : List Loc} {ls : Array Slot} (hP : PP G (wX ++ wM) H) (hD : va_D (fun q => s.heap.size ≤ q) (wX ++ wM)) (hS : va_S (fun q => s.heap.size ≤ q) s.heap H locs) (hl : lv_has ls 4 [(0, .ref b_), (1, .ref x), (2, .ref y), (3, .int (nI n))]) (fin : ∀ (tF2 : Nat → Nat → Int32) (tR2 : Nat → Nat → Nat → Int32) (r2 : Nat → Nat → Int32) (wX2 wM2 : va_W) (H : Heap) (locs : List Loc) (ls : Array Slot), XS G x xa tA a b ga ua la lb gA tF2 tR2 wX2 → MS G y bb r2 wM2 → (JT tF2 tR2 r2 ∧ JC tF2 tR2 r2) → PP G (wX2 ++ wM2) H → va_D (fun q => s.heap.size ≤ q) (wX2 ++ wM2) → va_S (fun q => s.heap.size ≤ q) s.heap H locs → lv_has ls 4 [(0, .ref b_), (1, .ref x), (2, .ref y), (3, .int (nI n))] → W p l e room_1 s m #[Value.ref b_] below meth c H locs 160 27087 (lw_Z below #[Value.ref b_] s) (F0 m 1654 ls [])) : W p l e room_1 s m #[Value.ref b_] below meth c H locs 160 27087 (lw_Z below #[Value.ref b_] s) (F0 m 516 ls []) := by
  obtain ⟨hx, hb, hr, hml, hown, hts0, hXs, hbl, hlocks, hgv⟩ := id C0
  have hts : ∀ w ∈ TB, w.before #[Value.ref b_] s = true := fun w h => hts0 w (List.mem_filter.mp h).1
  have hown : s.vm.findClass RL = some m.cls := hown
  have hA : ∀ q : Nat, s.heap.size ≤ q → (fun q => s.heap.size ≤ q) q := fun _ h => h
  have hbA : ¬ (fun q => s.heap.size ≤ q) b_ := Nat.not_le.mpr hbl
  obtain ⟨xf, f, qf, gf, uf, lf, mf, r, q, gr, ur, lr, mr, nF, nR, hI, rfl⟩ := hX
  obtain ⟨f7, hMi, rfl⟩ := hM
  obtain ⟨hJ, hC⟩ := hJ
  refine lv_aload_n hx hb dL_law_516 rfl (lv_at hl 1 rfl) ?_
  refine lv_aload_n hx hb dL_law_517 rfl (lv_at hl 0 rfl) ?_
  refine lv_iload_n hx hb dL_law_518 rfl (lv_at hl 3 rfl) ?_
  refine lv_iconst (v := 1) hx hb dL_law_519 (by decide) ?_
  refine lv_iadd hx hb dL_law_520 ?_
  refine lv_topi (fun v1 ev1 => ?_)
  obtain rfl : v1 = nI (n + 1) := nI_plus ev1 rfl rfl
  refine xsld ((n + 1)) hx hb hXs hbl hbA hS rfl (by omega) (by omega) dL_law_521 ?_
  refine lv_aload_n hx hb dL_law_522 rfl (lv_at hl 0 rfl) ?_
  refine lv_iload_n hx hb dL_law_523 rfl (lv_at hl 3 rfl) ?_
  refine lv_iconst (v := 2) hx hb dL_law_524 (by decide) ?_
  refine lv_iadd hx hb dL_law_525 ?_
  refine lv_topi (fun v2 ev2 => ?_)
  obtain rfl : v2 = nI (n + 2) := nI_plus ev2 rfl rfl
  refine xsld ((n + 2)) hx hb hXs hbl hbA hS rfl (by omega) (by omega) dL_law_526 ?_
  refine lv_aload_n hx hb dL_law_527 rfl (lv_at hl 0 rfl) ?_
  refine lv_iload_n hx hb dL_law_528 rfl (lv_at hl 3 rfl) ?_
  refine lv_iconst (v := 3) hx hb dL_law_529 (by decide) ?_
  refine lv_iadd hx hb dL_law_530 ?_
  refine lv_topi (fun v3 ev3 => ?_)
  obtain rfl : v3 = nI (n + 3) := nI_plus ev3 rfl rfl
  refine xsld ((n + 3)) hx hb hXs hbl hbA hS rfl (by omega) (by omega) dL_law_531 ?_
  obtain ⟨j, hj, hjt⟩ := tbJ_ex (xs ((n + 1)))
  obtain ⟨k, hk⟩ : ∃ k, k < 16 := ⟨0, by decide⟩
  refine lawI (rest := []) (q0 := 0) ⟨hx, hb, hml, hown, hts⟩ (x_block l G x xa (tA j) a b ga ua la lb (gA k) (rfn tA 6) (rfn gA 16) xf (tF j) f qf gf uf lf mf (nF k) (tR j) r q gr ur lr mr (nR k) (xs ((n + 1))) (xs ((n + 2))) (xs ((n + 3))) j hj hjt (if_pos hj) ((hI.1 j hj).1) ((hI.1 j hj).2.1) ((hI.1 j hj).2.2.1) ((hI.1 j hj).2.2.2)) mi_yX6_block mv_yX6_block ml_L_50 ⟨rfl, rfl, Nat.le_of_ble_eq_true rfl, Nat.le_of_ble_eq_true rfl⟩ hK hP hD (perm_app (xf_perm G x xa tA a b ga ua la lb gA xf f qf gf uf lf mf r q gr ur lr mr tF tR nF nR hj hk)) rfl rfl rfl hl.1 rfl (Nat.le_of_ble_eq_true rfl) dL_law_532 ⟨Nat.le_of_ble_eq_true rfl, Nat.le_of_ble_eq_true rfl⟩ hS hA (fun r4 w H locs hw hP hS => ?_)
  obtain ⟨n_tf_3, n_tr_10, n_tr_11, n_xf_0, rfl, hres, hT3_n⟩ := hw
  have hXn := XS_back (tF := tF) (tR := tR) (nF := nF) (nR := nR) (x := x) (xa := xa) (tA := tA) (a := a) (b := b) (ga := ga) (ua := ua) (la := la) (lb := lb) (gA := gA) (xf := xf) (f := f) (qf := qf) (gf := gf) (uf := uf) (lf := lf) (mf := mf) (r := r) (q := q) (gr := gr) (ur := ur) (lr := lr) (mr := mr) (G := G) hI hj hk (upd xf 0 n_xf_0) (upd (tF j) 3 n_tf_3) f qf gf uf lf mf (nF k) (up2 (up2 (tR j) 10 n_tr_10) 11 n_tr_11) r q gr ur lr mr (nR k) ⟨(hI.1 j hj).1, (hI.1 j hj).2.1, hT3_n, (hI.1 j hj).2.2.2⟩ hI.2.1 ⟨hI.2.2.1.1, hI.2.2.1.2⟩ ⟨hI.2.2.2.1.1, hI.2.2.2.1.2⟩ ⟨(hI.2.2.2.2.1 k hk).1, (hI.2.2.2.2.1 k hk).2⟩ (hI.2.2.2.2.2)
  obtain ⟨wX2, hX2, hP, hD⟩ : ∃ wX2 : va_W, XS G x xa tA a b ga ua la lb gA (upA tF j (upd (tF j) 3 n_tf_3)) (upA tR j (up2 (up2 (tR j) 10 n_tr_10) 11 n_tr_11)) wX2 ∧ PP G (wX2 ++ mM G y bb f7 r7) H ∧ va_D (fun q => s.heap.size ≤ q) (wX2 ++ mM G y bb f7 r7) := ⟨_, hXn.1, hP xM_ad _ (perm_app hXn.2)⟩
  refine lv_pop hx hb dL_law_535 rfl ?_
  refine lv_aload_n hx hb dL_law_536 rfl (lv_at hl 2 rfl) ?_
  refine lv_aload_n hx hb dL_law_537 rfl (lv_at hl 0 rfl) ?_
  refine lv_iload_n hx hb dL_law_538 rfl (lv_at hl 3 rfl) ?_
  refine lv_iconst (v := 1) hx hb dL_law_539 (by decide) ?_
  refine lv_iadd hx hb dL_law_540 ?_
  refine lv_topi (fun v5 ev5 => ?_)
  obtain rfl : v5 = nI (n + 1) := nI_plus ev5 rfl rfl
  refine xsld ((n + 1)) hx hb hXs hbl hbA hS rfl (by omega) (by omega) dL_law_541 ?_
  refine lv_aload_n hx hb dL_law_542 rfl (lv_at hl 0 rfl) ?_
  refine lv_iload_n hx hb dL_law_543 rfl (lv_at hl 3 rfl) ?_
  refine lv_iconst (v := 2) hx hb dL_law_544 (by decide) ?_
  refine lv_iadd hx hb dL_law_545 ?_
  refine lv_topi (fun v6 ev6 => ?_)
  obtain rfl : v6 = nI (n + 2) := nI_plus ev6 rfl rfl
  refine xsld ((n + 2)) hx hb hXs hbl hbA hS rfl (by omega) (by omega) dL_law_546 ?_
  refine lv_aload_n hx hb dL_law_547 rfl (lv_at hl 0 rfl) ?_
  refine lv_iload_n hx hb dL_law_548 rfl (lv_at hl 3 rfl) ?_
  refine lv_iconst (v := 3) hx hb dL_law_549 (by decide) ?_
  refine lv_iadd hx hb dL_law_550 ?_
  refine lv_topi (fun v7 ev7 => ?_)
  obtain rfl : v7 = nI (n + 3) := nI_plus ev7 rfl rfl
  refine xsld ((n + 3)) hx hb hXs hbl hbA hS rfl (by omega) (by omega) dL_law_551 ?_
  refine lawI (rest := []) (q0 := 0) ⟨hx, hb, hml, hown, hts⟩ (m_X7_block l G y bb f7 r7 (xs ((n + 1))) (xs ((n + 2))) (xs ((n + 3))) hMi.1 hMi.2.1 hMi.2.2.1) mi_yX7_block mv_yX7_block ml_L_54 ⟨rfl, rfl, Nat.le_of_ble_eq_true rfl, Nat.le_of_ble_eq_true rfl⟩ hK hP hD List.perm_append_comm rfl rfl rfl hl.1 rfl (Nat.le_of_ble_eq_true rfl) dL_law_552 ⟨Nat.le_of_ble_eq_true rfl, Nat.le_of_ble_eq_true rfl⟩ hS hA (fun r8 w H locs hw hP hS => ?_)
  obtain ⟨m_f_0, m_r_12, m_r_13, m_r_14, rfl, hrem, hM12_n⟩ := hw
  have hd0 := bl_step hj hjt (hJ j hj) (hC j hj) hres hrem
  have hd := hd0.2
  have hM2 : MS G y bb (up2 (up2 (up2 r7 12 m_r_12) 13 m_r_13) 14 m_r_14) (mM G y bb (upd f7 0 m_f_0) (up2 (up2 (up2 r7 12 m_r_12) 13 m_r_13) 14 m_r_14)) := ⟨(upd f7 0 m_f_0), ⟨hMi.1, hMi.2.1, hM12_n, hMi.2.2.2.1, hMi.2.2.2.2.1, hMi.2.2.2.2.2.1, hMi.2.2.2.2.2.2.1, hMi.2.2.2.2.2.2.2.1, hMi.2.2.2.2.2.2.2.2.1, hMi.2.2.2.2.2.2.2.2.2.1, hMi.2.2.2.2.2.2.2.2.2.2⟩, rfl⟩
  obtain ⟨hP, hD⟩ := hP mM_ad (wX2 ++ mM G y bb (upd f7 0 m_f_0) (up2 (up2 (up2 r7 12 m_r_12) 13 m_r_13) 14 m_r_14)) List.perm_append_comm
  refine lv_pop hx hb dL_law_555 rfl ?_
  refine lv_goto (tgt := 1654) hx hb dL_law_556 (by decide) ?_
  have hJ2 : (JT (upA tF j (upd (tF j) 3 n_tf_3)) (upA tR j (up2 (up2 (tR j) 10 n_tr_10) 11 n_tr_11)) (up2 (up2 (up2 r7 12 m_r_12) 13 m_r_13) 14 m_r_14) ∧ JC (upA tF j (upd (tF j) 3 n_tf_3)) (upA tR j (up2 (up2 (tR j) 10 n_tr_10) 11 n_tr_11)) (up2 (up2 (up2 r7 12 m_r_12) 13 m_r_13) 14 m_r_14)) := ⟨JT_of hJ (hJ j hj) (fun _ _ => TO_0), JC_of hC hd.1 hd.2⟩
  exact fin _ _ _ _ _ _ _ _ hX2 hM2 hJ2 hP hD hS (lv_sub hl [0, 1, 2, 3] rfl)
set_option maxHeartbeats 4000000 in
set_option maxRecDepth 100000 in
theorem law_c9 {p : Program} {l : Launch} {e : Env} {s : State} {m : MethodId} {below : List Frame} {meth : Method} {c : Code} {b_ L n : Nat} {xs : Nat → Int32} (C0 : lw_At p s m meth c b_ L xs) (hL : L ≤ 3072) (hn6 : n + 6 ≤ L) {G : GG} (hK : KK G s) (hT : ST (fun q => s.heap.size ≤ q) s s.heap) {x : Nat} {xa : Nat → Nat} {tA : Nat → Nat → Nat} {a b ga ua la lb : Nat → Nat} {gA : Nat → Nat → Nat} {y : Nat} {bb : Nat → Nat} {tF : Nat → Nat → Int32} {tR : Nat → Nat → Nat → Int32} {r7 : Nat → Nat → Int32} {wX wM : va_W} (hX : XS G x xa tA a b ga ua la lb gA tF tR wX) (hM : MS G y bb r7 wM) (hJ : (JT tF tR r7 ∧ JC tF tR r7)) {H : Heap} {locs : List Loc} {ls : Array Slot} (hP : PP G (wX ++ wM) H) (hD : va_D (fun q => s.heap.size ≤ q) (wX ++ wM)) (hS : va_S (fun q => s.heap.size ≤ q) s.heap H locs) (hl : lv_has ls 4 [(0, .ref b_), (1, .ref x), (2, .ref y), (3, .int (nI n))]) (fin : ∀ (tF2 : Nat → Nat → Int32) (tR2 : Nat → Nat → Nat → Int32) (r2 : Nat → Nat → Int32) (wX2 wM2 : va_W) (H : Heap) (locs : List Loc) (ls : Array Slot), XS G x xa tA a b ga ua la lb gA tF2 tR2 wX2 → MS G y bb r2 wM2 → (JT tF2 tR2 r2 ∧ JC tF2 tR2 r2) → PP G (wX2 ++ wM2) H → va_D (fun q => s.heap.size ≤ q) (wX2 ++ wM2) → va_S (fun q => s.heap.size ≤ q) s.heap H locs → lv_has ls 4 [(0, .ref b_), (1, .ref x), (2, .ref y), (3, .int (nI n))] → W p l e room_1 s m #[Value.ref b_] below meth c H locs 160 27087 (lw_Z below #[Value.ref b_] s) (F0 m 1654 ls [])) : W p l e room_1 s m #[Value.ref b_] below meth c H locs 160 27087 (lw_Z below #[Value.ref b_] s) (F0 m 559 ls []) := by
  obtain ⟨hx, hb, hr, hml, hown, hts0, hXs, hbl, hlocks, hgv⟩ := id C0
  have hts : ∀ w ∈ TB, w.before #[Value.ref b_] s = true := fun w h => hts0 w (List.mem_filter.mp h).1
  have hown : s.vm.findClass RL = some m.cls := hown
  have hA : ∀ q : Nat, s.heap.size ≤ q → (fun q => s.heap.size ≤ q) q := fun _ h => h
  have hbA : ¬ (fun q => s.heap.size ≤ q) b_ := Nat.not_le.mpr hbl
  obtain ⟨xf, f, qf, gf, uf, lf, mf, r, q, gr, ur, lr, mr, nF, nR, hI, rfl⟩ := hX
  obtain ⟨f7, hMi, rfl⟩ := hM
  obtain ⟨hJ, hC⟩ := hJ
  refine lv_aload_n hx hb dL_law_559 rfl (lv_at hl 1 rfl) ?_
  refine lv_aload_n hx hb dL_law_560 rfl (lv_at hl 0 rfl) ?_
  refine lv_iload_n hx hb dL_law_561 rfl (lv_at hl 3 rfl) ?_
  refine lv_iconst (v := 1) hx hb dL_law_562 (by decide) ?_
  refine lv_iadd hx hb dL_law_563 ?_
  refine lv_topi (fun v1 ev1 => ?_)
  obtain rfl : v1 = nI (n + 1) := nI_plus ev1 rfl rfl
  refine xsld ((n + 1)) hx hb hXs hbl hbA hS rfl (by omega) (by omega) dL_law_564 ?_
  refine lv_aload_n hx hb dL_law_565 rfl (lv_at hl 0 rfl) ?_
  refine lv_iload_n hx hb dL_law_566 rfl (lv_at hl 3 rfl) ?_
  refine lv_iconst (v := 2) hx hb dL_law_567 (by decide) ?_
  refine lv_iadd hx hb dL_law_568 ?_
  refine lv_topi (fun v2 ev2 => ?_)
  obtain rfl : v2 = nI (n + 2) := nI_plus ev2 rfl rfl
  refine xsld ((n + 2)) hx hb hXs hbl hbA hS rfl (by omega) (by omega) dL_law_569 ?_
  refine lv_aload_n hx hb dL_law_570 rfl (lv_at hl 0 rfl) ?_
  refine lv_iload_n hx hb dL_law_571 rfl (lv_at hl 3 rfl) ?_
  refine lv_iconst (v := 3) hx hb dL_law_572 (by decide) ?_
  refine lv_iadd hx hb dL_law_573 ?_
  refine lv_topi (fun v3 ev3 => ?_)
  obtain rfl : v3 = nI (n + 3) := nI_plus ev3 rfl rfl
  refine xsld ((n + 3)) hx hb hXs hbl hbA hS rfl (by omega) (by omega) dL_law_574 ?_
  obtain ⟨j, hj, hjt⟩ := tbJ_ex (xs ((n + 1)))
  obtain ⟨k, hk⟩ : ∃ k, k < 16 := ⟨0, by decide⟩
  refine lawI (rest := []) (q0 := 0) ⟨hx, hb, hml, hown, hts⟩ (x_kind l G x xa (tA j) a b ga ua la lb (gA k) (rfn tA 6) (rfn gA 16) xf (tF j) f qf gf uf lf mf (nF k) (tR j) r q gr ur lr mr (nR k) (xs ((n + 1))) (xs ((n + 2))) (xs ((n + 3))) j hj hjt (if_pos hj) ((hI.1 j hj).1) ((hI.1 j hj).2.1) ((hI.1 j hj).2.2.1) ((hI.1 j hj).2.2.2)) mi_yX6_kind mv_yX6_kind ml_L_55 ⟨rfl, rfl, Nat.le_of_ble_eq_true rfl, Nat.le_of_ble_eq_true rfl⟩ hK hP hD (perm_app (xf_perm G x xa tA a b ga ua la lb gA xf f qf gf uf lf mf r q gr ur lr mr tF tR nF nR hj hk)) rfl rfl rfl hl.1 rfl (Nat.le_of_ble_eq_true rfl) dL_law_575 ⟨Nat.le_of_ble_eq_true rfl, Nat.le_of_ble_eq_true rfl⟩ hS hA (fun r4 w H locs hw hP hS => ?_)
  obtain ⟨n_xf_0, rfl, hres⟩ := hw
  have hXn := XS_back (tF := tF) (tR := tR) (nF := nF) (nR := nR) (x := x) (xa := xa) (tA := tA) (a := a) (b := b) (ga := ga) (ua := ua) (la := la) (lb := lb) (gA := gA) (xf := xf) (f := f) (qf := qf) (gf := gf) (uf := uf) (lf := lf) (mf := mf) (r := r) (q := q) (gr := gr) (ur := ur) (lr := lr) (mr := mr) (G := G) hI hj hk (upd xf 0 n_xf_0) (tF j) f qf gf uf lf mf (nF k) (tR j) r q gr ur lr mr (nR k) ⟨(hI.1 j hj).1, (hI.1 j hj).2.1, (hI.1 j hj).2.2.1, (hI.1 j hj).2.2.2⟩ hI.2.1 ⟨hI.2.2.1.1, hI.2.2.1.2⟩ ⟨hI.2.2.2.1.1, hI.2.2.2.1.2⟩ ⟨(hI.2.2.2.2.1 k hk).1, (hI.2.2.2.2.1 k hk).2⟩ (hI.2.2.2.2.2)
  obtain ⟨wX2, hX2, hP, hD⟩ : ∃ wX2 : va_W, XS G x xa tA a b ga ua la lb gA (upA tF j (tF j)) (upA tR j (tR j)) wX2 ∧ PP G (wX2 ++ mM G y bb f7 r7) H ∧ va_D (fun q => s.heap.size ≤ q) (wX2 ++ mM G y bb f7 r7) := ⟨_, hXn.1, hP xM_ad _ (perm_app hXn.2)⟩
  refine lv_pop hx hb dL_law_578 rfl ?_
  refine lv_aload_n hx hb dL_law_579 rfl (lv_at hl 2 rfl) ?_
  refine lv_aload_n hx hb dL_law_580 rfl (lv_at hl 0 rfl) ?_
  refine lv_iload_n hx hb dL_law_581 rfl (lv_at hl 3 rfl) ?_
  refine lv_iconst (v := 1) hx hb dL_law_582 (by decide) ?_
  refine lv_iadd hx hb dL_law_583 ?_
  refine lv_topi (fun v5 ev5 => ?_)
  obtain rfl : v5 = nI (n + 1) := nI_plus ev5 rfl rfl
  refine xsld ((n + 1)) hx hb hXs hbl hbA hS rfl (by omega) (by omega) dL_law_584 ?_
  refine lv_aload_n hx hb dL_law_585 rfl (lv_at hl 0 rfl) ?_
  refine lv_iload_n hx hb dL_law_586 rfl (lv_at hl 3 rfl) ?_
  refine lv_iconst (v := 2) hx hb dL_law_587 (by decide) ?_
  refine lv_iadd hx hb dL_law_588 ?_
  refine lv_topi (fun v6 ev6 => ?_)
  obtain rfl : v6 = nI (n + 2) := nI_plus ev6 rfl rfl
  refine xsld ((n + 2)) hx hb hXs hbl hbA hS rfl (by omega) (by omega) dL_law_589 ?_
  refine lv_aload_n hx hb dL_law_590 rfl (lv_at hl 0 rfl) ?_
  refine lv_iload_n hx hb dL_law_591 rfl (lv_at hl 3 rfl) ?_
  refine lv_iconst (v := 3) hx hb dL_law_592 (by decide) ?_
  refine lv_iadd hx hb dL_law_593 ?_
  refine lv_topi (fun v7 ev7 => ?_)
  obtain rfl : v7 = nI (n + 3) := nI_plus ev7 rfl rfl
  refine xsld ((n + 3)) hx hb hXs hbl hbA hS rfl (by omega) (by omega) dL_law_594 ?_
  refine lawI (rest := []) (q0 := 0) ⟨hx, hb, hml, hown, hts⟩ (m_X7_kind l G y bb f7 r7 (xs ((n + 1))) (xs ((n + 2))) (xs ((n + 3))) hMi.1 hMi.2.1 hMi.2.2.1) mi_yX7_kind mv_yX7_kind ml_L_58 ⟨rfl, rfl, Nat.le_of_ble_eq_true rfl, Nat.le_of_ble_eq_true rfl⟩ hK hP hD List.perm_append_comm rfl rfl rfl hl.1 rfl (Nat.le_of_ble_eq_true rfl) dL_law_595 ⟨Nat.le_of_ble_eq_true rfl, Nat.le_of_ble_eq_true rfl⟩ hS hA (fun r8 w H locs hw hP hS => ?_)
  obtain ⟨m_f_0, rfl, hrem⟩ := hw
  have hM2 : MS G y bb r7 (mM G y bb (upd f7 0 m_f_0) r7) := ⟨(upd f7 0 m_f_0), ⟨hMi.1, hMi.2.1, hMi.2.2.1, hMi.2.2.2.1, hMi.2.2.2.2.1, hMi.2.2.2.2.2.1, hMi.2.2.2.2.2.2.1, hMi.2.2.2.2.2.2.2.1, hMi.2.2.2.2.2.2.2.2.1, hMi.2.2.2.2.2.2.2.2.2.1, hMi.2.2.2.2.2.2.2.2.2.2⟩, rfl⟩
  obtain ⟨hP, hD⟩ := hP mM_ad (wX2 ++ mM G y bb (upd f7 0 m_f_0) r7) List.perm_append_comm
  refine lv_pop hx hb dL_law_598 rfl ?_
  refine lv_goto (tgt := 1654) hx hb dL_law_599 (by decide) ?_
  have hJ2 : (JT (upA tF j (tF j)) (upA tR j (tR j)) r7 ∧ JC (upA tF j (tF j)) (upA tR j (tR j)) r7) := ⟨JT_of hJ (hJ j hj) (fun _ _ => TO_0), JC_of hC (hC j hj) LQ_0⟩
  exact fin _ _ _ _ _ _ _ _ hX2 hM2 hJ2 hP hD hS (lv_sub hl [0, 1, 2, 3] rfl)
set_option maxHeartbeats 4000000 in
set_option maxRecDepth 100000 in
theorem law_c10 {p : Program} {l : Launch} {e : Env} {s : State} {m : MethodId} {below : List Frame} {meth : Method} {c : Code} {b_ L n : Nat} {xs : Nat → Int32} (C0 : lw_At p s m meth c b_ L xs) (hL : L ≤ 3072) (hn6 : n + 6 ≤ L) {G : GG} (hK : KK G s) (hT : ST (fun q => s.heap.size ≤ q) s s.heap) {x : Nat} {xa : Nat → Nat} {tA : Nat → Nat → Nat} {a b ga ua la lb : Nat → Nat} {gA : Nat → Nat → Nat} {y : Nat} {bb : Nat → Nat} {tF : Nat → Nat → Int32} {tR : Nat → Nat → Nat → Int32} {r7 : Nat → Nat → Int32} {wX wM : va_W} (hX : XS G x xa tA a b ga ua la lb gA tF tR wX) (hM : MS G y bb r7 wM) (hJ : (JT tF tR r7 ∧ JC tF tR r7)) {H : Heap} {locs : List Loc} {ls : Array Slot} (hP : PP G (wX ++ wM) H) (hD : va_D (fun q => s.heap.size ≤ q) (wX ++ wM)) (hS : va_S (fun q => s.heap.size ≤ q) s.heap H locs) (hl : lv_has ls 4 [(0, .ref b_), (1, .ref x), (2, .ref y), (3, .int (nI n))]) (fin : ∀ (tF2 : Nat → Nat → Int32) (tR2 : Nat → Nat → Nat → Int32) (r2 : Nat → Nat → Int32) (wX2 wM2 : va_W) (H : Heap) (locs : List Loc) (ls : Array Slot), XS G x xa tA a b ga ua la lb gA tF2 tR2 wX2 → MS G y bb r2 wM2 → (JT tF2 tR2 r2 ∧ JC tF2 tR2 r2) → PP G (wX2 ++ wM2) H → va_D (fun q => s.heap.size ≤ q) (wX2 ++ wM2) → va_S (fun q => s.heap.size ≤ q) s.heap H locs → lv_has ls 4 [(0, .ref b_), (1, .ref x), (2, .ref y), (3, .int (nI n))] → W p l e room_1 s m #[Value.ref b_] below meth c H locs 160 27087 (lw_Z below #[Value.ref b_] s) (F0 m 1654 ls [])) : W p l e room_1 s m #[Value.ref b_] below meth c H locs 160 27087 (lw_Z below #[Value.ref b_] s) (F0 m 602 ls []) := by
  obtain ⟨hx, hb, hr, hml, hown, hts0, hXs, hbl, hlocks, hgv⟩ := id C0
  have hts : ∀ w ∈ TB, w.before #[Value.ref b_] s = true := fun w h => hts0 w (List.mem_filter.mp h).1
  have hown : s.vm.findClass RL = some m.cls := hown
  have hA : ∀ q : Nat, s.heap.size ≤ q → (fun q => s.heap.size ≤ q) q := fun _ h => h
  have hbA : ¬ (fun q => s.heap.size ≤ q) b_ := Nat.not_le.mpr hbl
  obtain ⟨xf, f, qf, gf, uf, lf, mf, r, q, gr, ur, lr, mr, nF, nR, hI, rfl⟩ := hX
  obtain ⟨f7, hMi, rfl⟩ := hM
  obtain ⟨hJ, hC⟩ := hJ
  refine lv_aload_n hx hb dL_law_602 rfl (lv_at hl 1 rfl) ?_
  refine lv_aload_n hx hb dL_law_603 rfl (lv_at hl 0 rfl) ?_
  refine lv_iload_n hx hb dL_law_604 rfl (lv_at hl 3 rfl) ?_
  refine lv_iconst (v := 1) hx hb dL_law_605 (by decide) ?_
  refine lv_iadd hx hb dL_law_606 ?_
  refine lv_topi (fun v1 ev1 => ?_)
  obtain rfl : v1 = nI (n + 1) := nI_plus ev1 rfl rfl
  refine xsld ((n + 1)) hx hb hXs hbl hbA hS rfl (by omega) (by omega) dL_law_607 ?_
  refine lv_aload_n hx hb dL_law_608 rfl (lv_at hl 0 rfl) ?_
  refine lv_iload_n hx hb dL_law_609 rfl (lv_at hl 3 rfl) ?_
  refine lv_iconst (v := 2) hx hb dL_law_610 (by decide) ?_
  refine lv_iadd hx hb dL_law_611 ?_
  refine lv_topi (fun v2 ev2 => ?_)
  obtain rfl : v2 = nI (n + 2) := nI_plus ev2 rfl rfl
  refine xsld ((n + 2)) hx hb hXs hbl hbA hS rfl (by omega) (by omega) dL_law_612 ?_
  refine lv_aload_n hx hb dL_law_613 rfl (lv_at hl 0 rfl) ?_
  refine lv_iload_n hx hb dL_law_614 rfl (lv_at hl 3 rfl) ?_
  refine lv_iconst (v := 3) hx hb dL_law_615 (by decide) ?_
  refine lv_iadd hx hb dL_law_616 ?_
  refine lv_topi (fun v3 ev3 => ?_)
  obtain rfl : v3 = nI (n + 3) := nI_plus ev3 rfl rfl
  refine xsld ((n + 3)) hx hb hXs hbl hbA hS rfl (by omega) (by omega) dL_law_617 ?_
  obtain ⟨j, hj, hjt⟩ := tbJ_ex (xs ((n + 1)))
  obtain ⟨k, hk⟩ : ∃ k, k < 16 := ⟨0, by decide⟩
  refine lawI (rest := []) (q0 := 0) ⟨hx, hb, hml, hown, hts⟩ (x_number l G x xa (tA j) a b ga ua la lb (gA k) (rfn tA 6) (rfn gA 16) xf (tF j) f qf gf uf lf mf (nF k) (tR j) r q gr ur lr mr (nR k) (xs ((n + 1))) (xs ((n + 2))) (xs ((n + 3))) j hj hjt (if_pos hj) ((hI.1 j hj).1) ((hI.1 j hj).2.1) ((hI.1 j hj).2.2.1) ((hI.1 j hj).2.2.2)) mi_yX6_number mv_yX6_number ml_L_59 ⟨rfl, rfl, Nat.le_of_ble_eq_true rfl, Nat.le_of_ble_eq_true rfl⟩ hK hP hD (perm_app (xf_perm G x xa tA a b ga ua la lb gA xf f qf gf uf lf mf r q gr ur lr mr tF tR nF nR hj hk)) rfl rfl rfl hl.1 rfl (Nat.le_of_ble_eq_true rfl) dL_law_618 ⟨Nat.le_of_ble_eq_true rfl, Nat.le_of_ble_eq_true rfl⟩ hS hA (fun r4 w H locs hw hP hS => ?_)
  obtain ⟨n_xf_0, rfl, hres⟩ := hw
  have hXn := XS_back (tF := tF) (tR := tR) (nF := nF) (nR := nR) (x := x) (xa := xa) (tA := tA) (a := a) (b := b) (ga := ga) (ua := ua) (la := la) (lb := lb) (gA := gA) (xf := xf) (f := f) (qf := qf) (gf := gf) (uf := uf) (lf := lf) (mf := mf) (r := r) (q := q) (gr := gr) (ur := ur) (lr := lr) (mr := mr) (G := G) hI hj hk (upd xf 0 n_xf_0) (tF j) f qf gf uf lf mf (nF k) (tR j) r q gr ur lr mr (nR k) ⟨(hI.1 j hj).1, (hI.1 j hj).2.1, (hI.1 j hj).2.2.1, (hI.1 j hj).2.2.2⟩ hI.2.1 ⟨hI.2.2.1.1, hI.2.2.1.2⟩ ⟨hI.2.2.2.1.1, hI.2.2.2.1.2⟩ ⟨(hI.2.2.2.2.1 k hk).1, (hI.2.2.2.2.1 k hk).2⟩ (hI.2.2.2.2.2)
  obtain ⟨wX2, hX2, hP, hD⟩ : ∃ wX2 : va_W, XS G x xa tA a b ga ua la lb gA (upA tF j (tF j)) (upA tR j (tR j)) wX2 ∧ PP G (wX2 ++ mM G y bb f7 r7) H ∧ va_D (fun q => s.heap.size ≤ q) (wX2 ++ mM G y bb f7 r7) := ⟨_, hXn.1, hP xM_ad _ (perm_app hXn.2)⟩
  refine lv_pop hx hb dL_law_621 rfl ?_
  refine lv_aload_n hx hb dL_law_622 rfl (lv_at hl 2 rfl) ?_
  refine lv_aload_n hx hb dL_law_623 rfl (lv_at hl 0 rfl) ?_
  refine lv_iload_n hx hb dL_law_624 rfl (lv_at hl 3 rfl) ?_
  refine lv_iconst (v := 1) hx hb dL_law_625 (by decide) ?_
  refine lv_iadd hx hb dL_law_626 ?_
  refine lv_topi (fun v5 ev5 => ?_)
  obtain rfl : v5 = nI (n + 1) := nI_plus ev5 rfl rfl
  refine xsld ((n + 1)) hx hb hXs hbl hbA hS rfl (by omega) (by omega) dL_law_627 ?_
  refine lv_aload_n hx hb dL_law_628 rfl (lv_at hl 0 rfl) ?_
  refine lv_iload_n hx hb dL_law_629 rfl (lv_at hl 3 rfl) ?_
  refine lv_iconst (v := 2) hx hb dL_law_630 (by decide) ?_
  refine lv_iadd hx hb dL_law_631 ?_
  refine lv_topi (fun v6 ev6 => ?_)
  obtain rfl : v6 = nI (n + 2) := nI_plus ev6 rfl rfl
  refine xsld ((n + 2)) hx hb hXs hbl hbA hS rfl (by omega) (by omega) dL_law_632 ?_
  refine lv_aload_n hx hb dL_law_633 rfl (lv_at hl 0 rfl) ?_
  refine lv_iload_n hx hb dL_law_634 rfl (lv_at hl 3 rfl) ?_
  refine lv_iconst (v := 3) hx hb dL_law_635 (by decide) ?_
  refine lv_iadd hx hb dL_law_636 ?_
  refine lv_topi (fun v7 ev7 => ?_)
  obtain rfl : v7 = nI (n + 3) := nI_plus ev7 rfl rfl
  refine xsld ((n + 3)) hx hb hXs hbl hbA hS rfl (by omega) (by omega) dL_law_637 ?_
  refine lawI (rest := []) (q0 := 0) ⟨hx, hb, hml, hown, hts⟩ (m_X7_number l G y bb f7 r7 (xs ((n + 1))) (xs ((n + 2))) (xs ((n + 3))) hMi.1 hMi.2.1 hMi.2.2.1) mi_yX7_number mv_yX7_number ml_L_62 ⟨rfl, rfl, Nat.le_of_ble_eq_true rfl, Nat.le_of_ble_eq_true rfl⟩ hK hP hD List.perm_append_comm rfl rfl rfl hl.1 rfl (Nat.le_of_ble_eq_true rfl) dL_law_638 ⟨Nat.le_of_ble_eq_true rfl, Nat.le_of_ble_eq_true rfl⟩ hS hA (fun r8 w H locs hw hP hS => ?_)
  obtain ⟨m_f_0, rfl, hrem⟩ := hw
  have hM2 : MS G y bb r7 (mM G y bb (upd f7 0 m_f_0) r7) := ⟨(upd f7 0 m_f_0), ⟨hMi.1, hMi.2.1, hMi.2.2.1, hMi.2.2.2.1, hMi.2.2.2.2.1, hMi.2.2.2.2.2.1, hMi.2.2.2.2.2.2.1, hMi.2.2.2.2.2.2.2.1, hMi.2.2.2.2.2.2.2.2.1, hMi.2.2.2.2.2.2.2.2.2.1, hMi.2.2.2.2.2.2.2.2.2.2⟩, rfl⟩
  obtain ⟨hP, hD⟩ := hP mM_ad (wX2 ++ mM G y bb (upd f7 0 m_f_0) r7) List.perm_append_comm
  refine lv_pop hx hb dL_law_641 rfl ?_
  refine lv_goto (tgt := 1654) hx hb dL_law_642 (by decide) ?_
  have hJ2 : (JT (upA tF j (tF j)) (upA tR j (tR j)) r7 ∧ JC (upA tF j (tF j)) (upA tR j (tR j)) r7) := ⟨JT_of hJ (hJ j hj) (fun _ _ => TO_0), JC_of hC (hC j hj) LQ_0⟩
  exact fin _ _ _ _ _ _ _ _ hX2 hM2 hJ2 hP hD hS (lv_sub hl [0, 1, 2, 3] rfl)
set_option maxHeartbeats 4000000 in
set_option maxRecDepth 100000 in
theorem law_c11 {p : Program} {l : Launch} {e : Env} {s : State} {m : MethodId} {below : List Frame} {meth : Method} {c : Code} {b_ L n : Nat} {xs : Nat → Int32} (C0 : lw_At p s m meth c b_ L xs) (hL : L ≤ 3072) (hn6 : n + 6 ≤ L) {G : GG} (hK : KK G s) (hT : ST (fun q => s.heap.size ≤ q) s s.heap) {x : Nat} {xa : Nat → Nat} {tA : Nat → Nat → Nat} {a b ga ua la lb : Nat → Nat} {gA : Nat → Nat → Nat} {y : Nat} {bb : Nat → Nat} {tF : Nat → Nat → Int32} {tR : Nat → Nat → Nat → Int32} {r7 : Nat → Nat → Int32} {wX wM : va_W} (hX : XS G x xa tA a b ga ua la lb gA tF tR wX) (hM : MS G y bb r7 wM) (hJ : (JT tF tR r7 ∧ JC tF tR r7)) {H : Heap} {locs : List Loc} {ls : Array Slot} (hP : PP G (wX ++ wM) H) (hD : va_D (fun q => s.heap.size ≤ q) (wX ++ wM)) (hS : va_S (fun q => s.heap.size ≤ q) s.heap H locs) (hl : lv_has ls 4 [(0, .ref b_), (1, .ref x), (2, .ref y), (3, .int (nI n))]) (fin : ∀ (tF2 : Nat → Nat → Int32) (tR2 : Nat → Nat → Nat → Int32) (r2 : Nat → Nat → Int32) (wX2 wM2 : va_W) (H : Heap) (locs : List Loc) (ls : Array Slot), XS G x xa tA a b ga ua la lb gA tF2 tR2 wX2 → MS G y bb r2 wM2 → (JT tF2 tR2 r2 ∧ JC tF2 tR2 r2) → PP G (wX2 ++ wM2) H → va_D (fun q => s.heap.size ≤ q) (wX2 ++ wM2) → va_S (fun q => s.heap.size ≤ q) s.heap H locs → lv_has ls 4 [(0, .ref b_), (1, .ref x), (2, .ref y), (3, .int (nI n))] → W p l e room_1 s m #[Value.ref b_] below meth c H locs 160 27087 (lw_Z below #[Value.ref b_] s) (F0 m 1654 ls [])) : W p l e room_1 s m #[Value.ref b_] below meth c H locs 160 27087 (lw_Z below #[Value.ref b_] s) (F0 m 645 ls []) := by
  obtain ⟨hx, hb, hr, hml, hown, hts0, hXs, hbl, hlocks, hgv⟩ := id C0
  have hts : ∀ w ∈ TB, w.before #[Value.ref b_] s = true := fun w h => hts0 w (List.mem_filter.mp h).1
  have hown : s.vm.findClass RL = some m.cls := hown
  have hA : ∀ q : Nat, s.heap.size ≤ q → (fun q => s.heap.size ≤ q) q := fun _ h => h
  have hbA : ¬ (fun q => s.heap.size ≤ q) b_ := Nat.not_le.mpr hbl
  obtain ⟨xf, f, qf, gf, uf, lf, mf, r, q, gr, ur, lr, mr, nF, nR, hI, rfl⟩ := hX
  obtain ⟨f7, hMi, rfl⟩ := hM
  obtain ⟨hJ, hC⟩ := hJ
  refine lv_aload_n hx hb dL_law_645 rfl (lv_at hl 1 rfl) ?_
  refine lv_aload_n hx hb dL_law_646 rfl (lv_at hl 0 rfl) ?_
  refine lv_iload_n hx hb dL_law_647 rfl (lv_at hl 3 rfl) ?_
  refine lv_iconst (v := 1) hx hb dL_law_648 (by decide) ?_
  refine lv_iadd hx hb dL_law_649 ?_
  refine lv_topi (fun v1 ev1 => ?_)
  obtain rfl : v1 = nI (n + 1) := nI_plus ev1 rfl rfl
  refine xsld ((n + 1)) hx hb hXs hbl hbA hS rfl (by omega) (by omega) dL_law_650 ?_
  refine lv_aload_n hx hb dL_law_651 rfl (lv_at hl 0 rfl) ?_
  refine lv_iload_n hx hb dL_law_652 rfl (lv_at hl 3 rfl) ?_
  refine lv_iconst (v := 2) hx hb dL_law_653 (by decide) ?_
  refine lv_iadd hx hb dL_law_654 ?_
  refine lv_topi (fun v2 ev2 => ?_)
  obtain rfl : v2 = nI (n + 2) := nI_plus ev2 rfl rfl
  refine xsld ((n + 2)) hx hb hXs hbl hbA hS rfl (by omega) (by omega) dL_law_655 ?_
  refine lv_aload_n hx hb dL_law_656 rfl (lv_at hl 0 rfl) ?_
  refine lv_iload_n hx hb dL_law_657 rfl (lv_at hl 3 rfl) ?_
  refine lv_iconst (v := 3) hx hb dL_law_658 (by decide) ?_
  refine lv_iadd hx hb dL_law_659 ?_
  refine lv_topi (fun v3 ev3 => ?_)
  obtain rfl : v3 = nI (n + 3) := nI_plus ev3 rfl rfl
  refine xsld ((n + 3)) hx hb hXs hbl hbA hS rfl (by omega) (by omega) dL_law_660 ?_
  obtain ⟨j, hj, hjt⟩ := tbJ_ex (xs ((n + 1)))
  obtain ⟨k, hk⟩ : ∃ k, k < 16 := ⟨0, by decide⟩
  refine lawI (rest := []) (q0 := 0) ⟨hx, hb, hml, hown, hts⟩ (x_givers l G x xa (tA j) a b ga ua la lb (gA k) (rfn tA 6) (rfn gA 16) xf (tF j) f qf gf uf lf mf (nF k) (tR j) r q gr ur lr mr (nR k) (xs ((n + 1))) (xs ((n + 2))) (xs ((n + 3))) j hj hjt (if_pos hj) ((hI.1 j hj).1) ((hI.1 j hj).2.1) ((hI.1 j hj).2.2.1) ((hI.1 j hj).2.2.2)) mi_yX6_givers mv_yX6_givers ml_L_63 ⟨rfl, rfl, Nat.le_of_ble_eq_true rfl, Nat.le_of_ble_eq_true rfl⟩ hK hP hD (perm_app (xf_perm G x xa tA a b ga ua la lb gA xf f qf gf uf lf mf r q gr ur lr mr tF tR nF nR hj hk)) rfl rfl rfl hl.1 rfl (Nat.le_of_ble_eq_true rfl) dL_law_661 ⟨Nat.le_of_ble_eq_true rfl, Nat.le_of_ble_eq_true rfl⟩ hS hA (fun r4 w H locs hw hP hS => ?_)
  obtain ⟨n_xf_0, rfl, hres⟩ := hw
  have hXn := XS_back (tF := tF) (tR := tR) (nF := nF) (nR := nR) (x := x) (xa := xa) (tA := tA) (a := a) (b := b) (ga := ga) (ua := ua) (la := la) (lb := lb) (gA := gA) (xf := xf) (f := f) (qf := qf) (gf := gf) (uf := uf) (lf := lf) (mf := mf) (r := r) (q := q) (gr := gr) (ur := ur) (lr := lr) (mr := mr) (G := G) hI hj hk (upd xf 0 n_xf_0) (tF j) f qf gf uf lf mf (nF k) (tR j) r q gr ur lr mr (nR k) ⟨(hI.1 j hj).1, (hI.1 j hj).2.1, (hI.1 j hj).2.2.1, (hI.1 j hj).2.2.2⟩ hI.2.1 ⟨hI.2.2.1.1, hI.2.2.1.2⟩ ⟨hI.2.2.2.1.1, hI.2.2.2.1.2⟩ ⟨(hI.2.2.2.2.1 k hk).1, (hI.2.2.2.2.1 k hk).2⟩ (hI.2.2.2.2.2)
  obtain ⟨wX2, hX2, hP, hD⟩ : ∃ wX2 : va_W, XS G x xa tA a b ga ua la lb gA (upA tF j (tF j)) (upA tR j (tR j)) wX2 ∧ PP G (wX2 ++ mM G y bb f7 r7) H ∧ va_D (fun q => s.heap.size ≤ q) (wX2 ++ mM G y bb f7 r7) := ⟨_, hXn.1, hP xM_ad _ (perm_app hXn.2)⟩
  refine lv_pop hx hb dL_law_664 rfl ?_
  refine lv_aload_n hx hb dL_law_665 rfl (lv_at hl 2 rfl) ?_
  refine lv_aload_n hx hb dL_law_666 rfl (lv_at hl 0 rfl) ?_
  refine lv_iload_n hx hb dL_law_667 rfl (lv_at hl 3 rfl) ?_
  refine lv_iconst (v := 1) hx hb dL_law_668 (by decide) ?_
  refine lv_iadd hx hb dL_law_669 ?_
  refine lv_topi (fun v5 ev5 => ?_)
  obtain rfl : v5 = nI (n + 1) := nI_plus ev5 rfl rfl
  refine xsld ((n + 1)) hx hb hXs hbl hbA hS rfl (by omega) (by omega) dL_law_670 ?_
  refine lv_aload_n hx hb dL_law_671 rfl (lv_at hl 0 rfl) ?_
  refine lv_iload_n hx hb dL_law_672 rfl (lv_at hl 3 rfl) ?_
  refine lv_iconst (v := 2) hx hb dL_law_673 (by decide) ?_
  refine lv_iadd hx hb dL_law_674 ?_
  refine lv_topi (fun v6 ev6 => ?_)
  obtain rfl : v6 = nI (n + 2) := nI_plus ev6 rfl rfl
  refine xsld ((n + 2)) hx hb hXs hbl hbA hS rfl (by omega) (by omega) dL_law_675 ?_
  refine lv_aload_n hx hb dL_law_676 rfl (lv_at hl 0 rfl) ?_
  refine lv_iload_n hx hb dL_law_677 rfl (lv_at hl 3 rfl) ?_
  refine lv_iconst (v := 3) hx hb dL_law_678 (by decide) ?_
  refine lv_iadd hx hb dL_law_679 ?_
  refine lv_topi (fun v7 ev7 => ?_)
  obtain rfl : v7 = nI (n + 3) := nI_plus ev7 rfl rfl
  refine xsld ((n + 3)) hx hb hXs hbl hbA hS rfl (by omega) (by omega) dL_law_680 ?_
  refine lawI (rest := []) (q0 := 0) ⟨hx, hb, hml, hown, hts⟩ (m_X7_givers l G y bb f7 r7 (xs ((n + 1))) (xs ((n + 2))) (xs ((n + 3))) hMi.1 hMi.2.1 hMi.2.2.1) mi_yX7_givers mv_yX7_givers ml_L_66 ⟨rfl, rfl, Nat.le_of_ble_eq_true rfl, Nat.le_of_ble_eq_true rfl⟩ hK hP hD List.perm_append_comm rfl rfl rfl hl.1 rfl (Nat.le_of_ble_eq_true rfl) dL_law_681 ⟨Nat.le_of_ble_eq_true rfl, Nat.le_of_ble_eq_true rfl⟩ hS hA (fun r8 w H locs hw hP hS => ?_)
  obtain ⟨m_f_0, rfl, hrem⟩ := hw
  have hM2 : MS G y bb r7 (mM G y bb (upd f7 0 m_f_0) r7) := ⟨(upd f7 0 m_f_0), ⟨hMi.1, hMi.2.1, hMi.2.2.1, hMi.2.2.2.1, hMi.2.2.2.2.1, hMi.2.2.2.2.2.1, hMi.2.2.2.2.2.2.1, hMi.2.2.2.2.2.2.2.1, hMi.2.2.2.2.2.2.2.2.1, hMi.2.2.2.2.2.2.2.2.2.1, hMi.2.2.2.2.2.2.2.2.2.2⟩, rfl⟩
  obtain ⟨hP, hD⟩ := hP mM_ad (wX2 ++ mM G y bb (upd f7 0 m_f_0) r7) List.perm_append_comm
  refine lv_pop hx hb dL_law_684 rfl ?_
  refine lv_goto (tgt := 1654) hx hb dL_law_685 (by decide) ?_
  have hJ2 : (JT (upA tF j (tF j)) (upA tR j (tR j)) r7 ∧ JC (upA tF j (tF j)) (upA tR j (tR j)) r7) := ⟨JT_of hJ (hJ j hj) (fun _ _ => TO_0), JC_of hC (hC j hj) LQ_0⟩
  exact fin _ _ _ _ _ _ _ _ hX2 hM2 hJ2 hP hD hS (lv_sub hl [0, 1, 2, 3] rfl)
set_option maxHeartbeats 4000000 in
set_option maxRecDepth 100000 in
theorem law_c12 {p : Program} {l : Launch} {e : Env} {s : State} {m : MethodId} {below : List Frame} {meth : Method} {c : Code} {b_ L n : Nat} {xs : Nat → Int32} (C0 : lw_At p s m meth c b_ L xs) (hL : L ≤ 3072) (hn6 : n + 6 ≤ L) {G : GG} (hK : KK G s) (hT : ST (fun q => s.heap.size ≤ q) s s.heap) {x : Nat} {xa : Nat → Nat} {tA : Nat → Nat → Nat} {a b ga ua la lb : Nat → Nat} {gA : Nat → Nat → Nat} {y : Nat} {bb : Nat → Nat} {tF : Nat → Nat → Int32} {tR : Nat → Nat → Nat → Int32} {r7 : Nat → Nat → Int32} {wX wM : va_W} (hX : XS G x xa tA a b ga ua la lb gA tF tR wX) (hM : MS G y bb r7 wM) (hJ : (JT tF tR r7 ∧ JC tF tR r7)) {H : Heap} {locs : List Loc} {ls : Array Slot} (hP : PP G (wX ++ wM) H) (hD : va_D (fun q => s.heap.size ≤ q) (wX ++ wM)) (hS : va_S (fun q => s.heap.size ≤ q) s.heap H locs) (hl : lv_has ls 4 [(0, .ref b_), (1, .ref x), (2, .ref y), (3, .int (nI n))]) (fin : ∀ (tF2 : Nat → Nat → Int32) (tR2 : Nat → Nat → Nat → Int32) (r2 : Nat → Nat → Int32) (wX2 wM2 : va_W) (H : Heap) (locs : List Loc) (ls : Array Slot), XS G x xa tA a b ga ua la lb gA tF2 tR2 wX2 → MS G y bb r2 wM2 → (JT tF2 tR2 r2 ∧ JC tF2 tR2 r2) → PP G (wX2 ++ wM2) H → va_D (fun q => s.heap.size ≤ q) (wX2 ++ wM2) → va_S (fun q => s.heap.size ≤ q) s.heap H locs → lv_has ls 4 [(0, .ref b_), (1, .ref x), (2, .ref y), (3, .int (nI n))] → W p l e room_1 s m #[Value.ref b_] below meth c H locs 160 27087 (lw_Z below #[Value.ref b_] s) (F0 m 1654 ls [])) : W p l e room_1 s m #[Value.ref b_] below meth c H locs 160 27087 (lw_Z below #[Value.ref b_] s) (F0 m 688 ls []) := by
  obtain ⟨hx, hb, hr, hml, hown, hts0, hXs, hbl, hlocks, hgv⟩ := id C0
  have hts : ∀ w ∈ TB, w.before #[Value.ref b_] s = true := fun w h => hts0 w (List.mem_filter.mp h).1
  have hown : s.vm.findClass RL = some m.cls := hown
  have hA : ∀ q : Nat, s.heap.size ≤ q → (fun q => s.heap.size ≤ q) q := fun _ h => h
  have hbA : ¬ (fun q => s.heap.size ≤ q) b_ := Nat.not_le.mpr hbl
  obtain ⟨xf, f, qf, gf, uf, lf, mf, r, q, gr, ur, lr, mr, nF, nR, hI, rfl⟩ := hX
  obtain ⟨f7, hMi, rfl⟩ := hM
  obtain ⟨hJ, hC⟩ := hJ
  refine lv_aload_n hx hb dL_law_688 rfl (lv_at hl 1 rfl) ?_
  refine lv_aload_n hx hb dL_law_689 rfl (lv_at hl 0 rfl) ?_
  refine lv_iload_n hx hb dL_law_690 rfl (lv_at hl 3 rfl) ?_
  refine lv_iconst (v := 1) hx hb dL_law_691 (by decide) ?_
  refine lv_iadd hx hb dL_law_692 ?_
  refine lv_topi (fun v1 ev1 => ?_)
  obtain rfl : v1 = nI (n + 1) := nI_plus ev1 rfl rfl
  refine xsld ((n + 1)) hx hb hXs hbl hbA hS rfl (by omega) (by omega) dL_law_693 ?_
  refine lv_aload_n hx hb dL_law_694 rfl (lv_at hl 0 rfl) ?_
  refine lv_iload_n hx hb dL_law_695 rfl (lv_at hl 3 rfl) ?_
  refine lv_iconst (v := 2) hx hb dL_law_696 (by decide) ?_
  refine lv_iadd hx hb dL_law_697 ?_
  refine lv_topi (fun v2 ev2 => ?_)
  obtain rfl : v2 = nI (n + 2) := nI_plus ev2 rfl rfl
  refine xsld ((n + 2)) hx hb hXs hbl hbA hS rfl (by omega) (by omega) dL_law_698 ?_
  refine lv_aload_n hx hb dL_law_699 rfl (lv_at hl 0 rfl) ?_
  refine lv_iload_n hx hb dL_law_700 rfl (lv_at hl 3 rfl) ?_
  refine lv_iconst (v := 3) hx hb dL_law_701 (by decide) ?_
  refine lv_iadd hx hb dL_law_702 ?_
  refine lv_topi (fun v3 ev3 => ?_)
  obtain rfl : v3 = nI (n + 3) := nI_plus ev3 rfl rfl
  refine xsld ((n + 3)) hx hb hXs hbl hbA hS rfl (by omega) (by omega) dL_law_703 ?_
  refine lv_aload_n hx hb dL_law_704 rfl (lv_at hl 0 rfl) ?_
  refine lv_iload_n hx hb dL_law_705 rfl (lv_at hl 3 rfl) ?_
  refine lv_iconst (v := 4) hx hb dL_law_706 (by decide) ?_
  refine lv_iadd hx hb dL_law_707 ?_
  refine lv_topi (fun v4 ev4 => ?_)
  obtain rfl : v4 = nI (n + 4) := nI_plus ev4 rfl rfl
  refine xsld ((n + 4)) hx hb hXs hbl hbA hS rfl (by omega) (by omega) dL_law_708 ?_
  obtain ⟨j, hj, hjt⟩ := tbJ_ex (xs ((n + 1)))
  obtain ⟨k, hk⟩ : ∃ k, k < 16 := ⟨0, by decide⟩
  refine lawI (rest := []) (q0 := 0) ⟨hx, hb, hml, hown, hts⟩ (x_part l G x xa (tA j) a b ga ua la lb (gA k) (rfn tA 6) (rfn gA 16) xf (tF j) f qf gf uf lf mf (nF k) (tR j) r q gr ur lr mr (nR k) (xs ((n + 1))) (xs ((n + 2))) (xs ((n + 3))) (xs ((n + 4))) j hj hjt (if_pos hj) ((hI.1 j hj).1) ((hI.1 j hj).2.1) ((hI.1 j hj).2.2.1) ((hI.1 j hj).2.2.2)) mi_yX6_part mv_yX6_part ml_L_67 ⟨rfl, rfl, Nat.le_of_ble_eq_true rfl, Nat.le_of_ble_eq_true rfl⟩ hK hP hD (perm_app (xf_perm G x xa tA a b ga ua la lb gA xf f qf gf uf lf mf r q gr ur lr mr tF tR nF nR hj hk)) rfl rfl rfl hl.1 rfl (Nat.le_of_ble_eq_true rfl) dL_law_709 ⟨Nat.le_of_ble_eq_true rfl, Nat.le_of_ble_eq_true rfl⟩ hS hA (fun r5 w H locs hw hP hS => ?_)
  obtain ⟨n_xf_0, rfl, hres⟩ := hw
  have hXn := XS_back (tF := tF) (tR := tR) (nF := nF) (nR := nR) (x := x) (xa := xa) (tA := tA) (a := a) (b := b) (ga := ga) (ua := ua) (la := la) (lb := lb) (gA := gA) (xf := xf) (f := f) (qf := qf) (gf := gf) (uf := uf) (lf := lf) (mf := mf) (r := r) (q := q) (gr := gr) (ur := ur) (lr := lr) (mr := mr) (G := G) hI hj hk (upd xf 0 n_xf_0) (tF j) f qf gf uf lf mf (nF k) (tR j) r q gr ur lr mr (nR k) ⟨(hI.1 j hj).1, (hI.1 j hj).2.1, (hI.1 j hj).2.2.1, (hI.1 j hj).2.2.2⟩ hI.2.1 ⟨hI.2.2.1.1, hI.2.2.1.2⟩ ⟨hI.2.2.2.1.1, hI.2.2.2.1.2⟩ ⟨(hI.2.2.2.2.1 k hk).1, (hI.2.2.2.2.1 k hk).2⟩ (hI.2.2.2.2.2)
  obtain ⟨wX2, hX2, hP, hD⟩ : ∃ wX2 : va_W, XS G x xa tA a b ga ua la lb gA (upA tF j (tF j)) (upA tR j (tR j)) wX2 ∧ PP G (wX2 ++ mM G y bb f7 r7) H ∧ va_D (fun q => s.heap.size ≤ q) (wX2 ++ mM G y bb f7 r7) := ⟨_, hXn.1, hP xM_ad _ (perm_app hXn.2)⟩
  refine lv_pop hx hb dL_law_712 rfl ?_
  refine lv_aload_n hx hb dL_law_713 rfl (lv_at hl 2 rfl) ?_
  refine lv_aload_n hx hb dL_law_714 rfl (lv_at hl 0 rfl) ?_
  refine lv_iload_n hx hb dL_law_715 rfl (lv_at hl 3 rfl) ?_
  refine lv_iconst (v := 1) hx hb dL_law_716 (by decide) ?_
  refine lv_iadd hx hb dL_law_717 ?_
  refine lv_topi (fun v6 ev6 => ?_)
  obtain rfl : v6 = nI (n + 1) := nI_plus ev6 rfl rfl
  refine xsld ((n + 1)) hx hb hXs hbl hbA hS rfl (by omega) (by omega) dL_law_718 ?_
  refine lv_aload_n hx hb dL_law_719 rfl (lv_at hl 0 rfl) ?_
  refine lv_iload_n hx hb dL_law_720 rfl (lv_at hl 3 rfl) ?_
  refine lv_iconst (v := 2) hx hb dL_law_721 (by decide) ?_
  refine lv_iadd hx hb dL_law_722 ?_
  refine lv_topi (fun v7 ev7 => ?_)
  obtain rfl : v7 = nI (n + 2) := nI_plus ev7 rfl rfl
  refine xsld ((n + 2)) hx hb hXs hbl hbA hS rfl (by omega) (by omega) dL_law_723 ?_
  refine lv_aload_n hx hb dL_law_724 rfl (lv_at hl 0 rfl) ?_
  refine lv_iload_n hx hb dL_law_725 rfl (lv_at hl 3 rfl) ?_
  refine lv_iconst (v := 3) hx hb dL_law_726 (by decide) ?_
  refine lv_iadd hx hb dL_law_727 ?_
  refine lv_topi (fun v8 ev8 => ?_)
  obtain rfl : v8 = nI (n + 3) := nI_plus ev8 rfl rfl
  refine xsld ((n + 3)) hx hb hXs hbl hbA hS rfl (by omega) (by omega) dL_law_728 ?_
  refine lv_aload_n hx hb dL_law_729 rfl (lv_at hl 0 rfl) ?_
  refine lv_iload_n hx hb dL_law_730 rfl (lv_at hl 3 rfl) ?_
  refine lv_iconst (v := 4) hx hb dL_law_731 (by decide) ?_
  refine lv_iadd hx hb dL_law_732 ?_
  refine lv_topi (fun v9 ev9 => ?_)
  obtain rfl : v9 = nI (n + 4) := nI_plus ev9 rfl rfl
  refine xsld ((n + 4)) hx hb hXs hbl hbA hS rfl (by omega) (by omega) dL_law_733 ?_
  refine lawI (rest := []) (q0 := 0) ⟨hx, hb, hml, hown, hts⟩ (m_X7_part l G y bb f7 r7 (xs ((n + 1))) (xs ((n + 2))) (xs ((n + 3))) (xs ((n + 4))) hMi.1 hMi.2.1 hMi.2.2.1 hMi.2.2.2.1) mi_yX7_part mv_yX7_part ml_L_71 ⟨rfl, rfl, Nat.le_of_ble_eq_true rfl, Nat.le_of_ble_eq_true rfl⟩ hK hP hD List.perm_append_comm rfl rfl rfl hl.1 rfl (Nat.le_of_ble_eq_true rfl) dL_law_734 ⟨Nat.le_of_ble_eq_true rfl, Nat.le_of_ble_eq_true rfl⟩ hS hA (fun r10 w H locs hw hP hS => ?_)
  obtain ⟨m_f_0, rfl, hrem⟩ := hw
  have hM2 : MS G y bb r7 (mM G y bb (upd f7 0 m_f_0) r7) := ⟨(upd f7 0 m_f_0), ⟨hMi.1, hMi.2.1, hMi.2.2.1, hMi.2.2.2.1, hMi.2.2.2.2.1, hMi.2.2.2.2.2.1, hMi.2.2.2.2.2.2.1, hMi.2.2.2.2.2.2.2.1, hMi.2.2.2.2.2.2.2.2.1, hMi.2.2.2.2.2.2.2.2.2.1, hMi.2.2.2.2.2.2.2.2.2.2⟩, rfl⟩
  obtain ⟨hP, hD⟩ := hP mM_ad (wX2 ++ mM G y bb (upd f7 0 m_f_0) r7) List.perm_append_comm
  refine lv_pop hx hb dL_law_737 rfl ?_
  refine lv_goto (tgt := 1654) hx hb dL_law_738 (by decide) ?_
  have hJ2 : (JT (upA tF j (tF j)) (upA tR j (tR j)) r7 ∧ JC (upA tF j (tF j)) (upA tR j (tR j)) r7) := ⟨JT_of hJ (hJ j hj) (fun _ _ => TO_0), JC_of hC (hC j hj) LQ_0⟩
  exact fin _ _ _ _ _ _ _ _ hX2 hM2 hJ2 hP hD hS (lv_sub hl [0, 1, 2, 3] rfl)
set_option maxHeartbeats 4000000 in
set_option maxRecDepth 100000 in
theorem law_c13 {p : Program} {l : Launch} {e : Env} {s : State} {m : MethodId} {below : List Frame} {meth : Method} {c : Code} {b_ L n : Nat} {xs : Nat → Int32} (C0 : lw_At p s m meth c b_ L xs) (hL : L ≤ 3072) (hn6 : n + 6 ≤ L) {G : GG} (hK : KK G s) (hT : ST (fun q => s.heap.size ≤ q) s s.heap) {x : Nat} {xa : Nat → Nat} {tA : Nat → Nat → Nat} {a b ga ua la lb : Nat → Nat} {gA : Nat → Nat → Nat} {y : Nat} {bb : Nat → Nat} {tF : Nat → Nat → Int32} {tR : Nat → Nat → Nat → Int32} {r7 : Nat → Nat → Int32} {wX wM : va_W} (hX : XS G x xa tA a b ga ua la lb gA tF tR wX) (hM : MS G y bb r7 wM) (hJ : (JT tF tR r7 ∧ JC tF tR r7)) {H : Heap} {locs : List Loc} {ls : Array Slot} (hP : PP G (wX ++ wM) H) (hD : va_D (fun q => s.heap.size ≤ q) (wX ++ wM)) (hS : va_S (fun q => s.heap.size ≤ q) s.heap H locs) (hl : lv_has ls 4 [(0, .ref b_), (1, .ref x), (2, .ref y), (3, .int (nI n))]) (fin : ∀ (tF2 : Nat → Nat → Int32) (tR2 : Nat → Nat → Nat → Int32) (r2 : Nat → Nat → Int32) (wX2 wM2 : va_W) (H : Heap) (locs : List Loc) (ls : Array Slot), XS G x xa tA a b ga ua la lb gA tF2 tR2 wX2 → MS G y bb r2 wM2 → (JT tF2 tR2 r2 ∧ JC tF2 tR2 r2) → PP G (wX2 ++ wM2) H → va_D (fun q => s.heap.size ≤ q) (wX2 ++ wM2) → va_S (fun q => s.heap.size ≤ q) s.heap H locs → lv_has ls 4 [(0, .ref b_), (1, .ref x), (2, .ref y), (3, .int (nI n))] → W p l e room_1 s m #[Value.ref b_] below meth c H locs 160 27087 (lw_Z below #[Value.ref b_] s) (F0 m 1654 ls [])) : W p l e room_1 s m #[Value.ref b_] below meth c H locs 160 27087 (lw_Z below #[Value.ref b_] s) (F0 m 741 ls []) := by
  obtain ⟨hx, hb, hr, hml, hown, hts0, hXs, hbl, hlocks, hgv⟩ := id C0
  have hts : ∀ w ∈ TB, w.before #[Value.ref b_] s = true := fun w h => hts0 w (List.mem_filter.mp h).1
  have hown : s.vm.findClass RL = some m.cls := hown
  have hA : ∀ q : Nat, s.heap.size ≤ q → (fun q => s.heap.size ≤ q) q := fun _ h => h
  have hbA : ¬ (fun q => s.heap.size ≤ q) b_ := Nat.not_le.mpr hbl
  obtain ⟨xf, f, qf, gf, uf, lf, mf, r, q, gr, ur, lr, mr, nF, nR, hI, rfl⟩ := hX
  obtain ⟨f7, hMi, rfl⟩ := hM
  obtain ⟨hJ, hC⟩ := hJ
  refine lv_aload_n hx hb dL_law_741 rfl (lv_at hl 1 rfl) ?_
  refine lv_aload_n hx hb dL_law_742 rfl (lv_at hl 0 rfl) ?_
  refine lv_iload_n hx hb dL_law_743 rfl (lv_at hl 3 rfl) ?_
  refine lv_iconst (v := 1) hx hb dL_law_744 (by decide) ?_
  refine lv_iadd hx hb dL_law_745 ?_
  refine lv_topi (fun v1 ev1 => ?_)
  obtain rfl : v1 = nI (n + 1) := nI_plus ev1 rfl rfl
  refine xsld ((n + 1)) hx hb hXs hbl hbA hS rfl (by omega) (by omega) dL_law_746 ?_
  refine lv_aload_n hx hb dL_law_747 rfl (lv_at hl 0 rfl) ?_
  refine lv_iload_n hx hb dL_law_748 rfl (lv_at hl 3 rfl) ?_
  refine lv_iconst (v := 2) hx hb dL_law_749 (by decide) ?_
  refine lv_iadd hx hb dL_law_750 ?_
  refine lv_topi (fun v2 ev2 => ?_)
  obtain rfl : v2 = nI (n + 2) := nI_plus ev2 rfl rfl
  refine xsld ((n + 2)) hx hb hXs hbl hbA hS rfl (by omega) (by omega) dL_law_751 ?_
  refine lv_aload_n hx hb dL_law_752 rfl (lv_at hl 0 rfl) ?_
  refine lv_iload_n hx hb dL_law_753 rfl (lv_at hl 3 rfl) ?_
  refine lv_iconst (v := 3) hx hb dL_law_754 (by decide) ?_
  refine lv_iadd hx hb dL_law_755 ?_
  refine lv_topi (fun v3 ev3 => ?_)
  obtain rfl : v3 = nI (n + 3) := nI_plus ev3 rfl rfl
  refine xsld ((n + 3)) hx hb hXs hbl hbA hS rfl (by omega) (by omega) dL_law_756 ?_
  refine lv_aload_n hx hb dL_law_757 rfl (lv_at hl 0 rfl) ?_
  refine lv_iload_n hx hb dL_law_758 rfl (lv_at hl 3 rfl) ?_
  refine lv_iconst (v := 4) hx hb dL_law_759 (by decide) ?_
  refine lv_iadd hx hb dL_law_760 ?_
  refine lv_topi (fun v4 ev4 => ?_)
  obtain rfl : v4 = nI (n + 4) := nI_plus ev4 rfl rfl
  refine xsld ((n + 4)) hx hb hXs hbl hbA hS rfl (by omega) (by omega) dL_law_761 ?_
  refine lv_if_eq (tgt := 769) hx hb dL_law_762 (by decide) (fun c5 => ?_) (fun c5 => ?_)
  · refine lv_iconst (v := 0) hx hb dL_law_769 (by decide) ?_
    obtain ⟨j, hj, hjt⟩ := tbJ_ex (xs ((n + 1)))
    obtain ⟨k, hk⟩ : ∃ k, k < 16 := ⟨0, by decide⟩
    refine lawI (rest := []) (q0 := 0) ⟨hx, hb, hml, hown, hts⟩ (x_hand l G x xa (tA j) a b ga ua la lb (gA k) (rfn tA 6) (rfn gA 16) xf (tF j) f qf gf uf lf mf (nF k) (tR j) r q gr ur lr mr (nR k) (xs ((n + 1))) (xs ((n + 2))) (xs ((n + 3))) 0 j hj hjt (if_pos hj) ((hI.1 j hj).1) ((hI.1 j hj).2.1) ((hI.1 j hj).2.2.1) ((hI.1 j hj).2.2.2)) mi_yX6_hand mv_yX6_hand ml_L_72 ⟨rfl, rfl, Nat.le_of_ble_eq_true rfl, Nat.le_of_ble_eq_true rfl⟩ hK hP hD (perm_app (xf_perm G x xa tA a b ga ua la lb gA xf f qf gf uf lf mf r q gr ur lr mr tF tR nF nR hj hk)) rfl rfl rfl hl.1 rfl (Nat.le_of_ble_eq_true rfl) dL_law_770 ⟨Nat.le_of_ble_eq_true rfl, Nat.le_of_ble_eq_true rfl⟩ hS hA (fun r6 w H locs hw hP hS => ?_)
    obtain ⟨n_tr_7, n_xf_0, rfl, hres⟩ := hw
    have hXn := XS_back (tF := tF) (tR := tR) (nF := nF) (nR := nR) (x := x) (xa := xa) (tA := tA) (a := a) (b := b) (ga := ga) (ua := ua) (la := la) (lb := lb) (gA := gA) (xf := xf) (f := f) (qf := qf) (gf := gf) (uf := uf) (lf := lf) (mf := mf) (r := r) (q := q) (gr := gr) (ur := ur) (lr := lr) (mr := mr) (G := G) hI hj hk (upd xf 0 n_xf_0) (tF j) f qf gf uf lf mf (nF k) (up2 (tR j) 7 n_tr_7) r q gr ur lr mr (nR k) ⟨(hI.1 j hj).1, (hI.1 j hj).2.1, (hI.1 j hj).2.2.1, (hI.1 j hj).2.2.2⟩ hI.2.1 ⟨hI.2.2.1.1, hI.2.2.1.2⟩ ⟨hI.2.2.2.1.1, hI.2.2.2.1.2⟩ ⟨(hI.2.2.2.2.1 k hk).1, (hI.2.2.2.2.1 k hk).2⟩ (hI.2.2.2.2.2)
    obtain ⟨wX2, hX2, hP, hD⟩ : ∃ wX2 : va_W, XS G x xa tA a b ga ua la lb gA (upA tF j (tF j)) (upA tR j (up2 (tR j) 7 n_tr_7)) wX2 ∧ PP G (wX2 ++ mM G y bb f7 r7) H ∧ va_D (fun q => s.heap.size ≤ q) (wX2 ++ mM G y bb f7 r7) := ⟨_, hXn.1, hP xM_ad _ (perm_app hXn.2)⟩
    refine lv_pop hx hb dL_law_773 rfl ?_
    refine lv_aload_n hx hb dL_law_774 rfl (lv_at hl 2 rfl) ?_
    refine lv_aload_n hx hb dL_law_775 rfl (lv_at hl 0 rfl) ?_
    refine lv_iload_n hx hb dL_law_776 rfl (lv_at hl 3 rfl) ?_
    refine lv_iconst (v := 1) hx hb dL_law_777 (by decide) ?_
    refine lv_iadd hx hb dL_law_778 ?_
    refine lv_topi (fun v7 ev7 => ?_)
    obtain rfl : v7 = nI (n + 1) := nI_plus ev7 rfl rfl
    refine xsld ((n + 1)) hx hb hXs hbl hbA hS rfl (by omega) (by omega) dL_law_779 ?_
    refine lv_aload_n hx hb dL_law_780 rfl (lv_at hl 0 rfl) ?_
    refine lv_iload_n hx hb dL_law_781 rfl (lv_at hl 3 rfl) ?_
    refine lv_iconst (v := 2) hx hb dL_law_782 (by decide) ?_
    refine lv_iadd hx hb dL_law_783 ?_
    refine lv_topi (fun v8 ev8 => ?_)
    obtain rfl : v8 = nI (n + 2) := nI_plus ev8 rfl rfl
    refine xsld ((n + 2)) hx hb hXs hbl hbA hS rfl (by omega) (by omega) dL_law_784 ?_
    refine lv_aload_n hx hb dL_law_785 rfl (lv_at hl 0 rfl) ?_
    refine lv_iload_n hx hb dL_law_786 rfl (lv_at hl 3 rfl) ?_
    refine lv_iconst (v := 3) hx hb dL_law_787 (by decide) ?_
    refine lv_iadd hx hb dL_law_788 ?_
    refine lv_topi (fun v9 ev9 => ?_)
    obtain rfl : v9 = nI (n + 3) := nI_plus ev9 rfl rfl
    refine xsld ((n + 3)) hx hb hXs hbl hbA hS rfl (by omega) (by omega) dL_law_789 ?_
    refine lv_aload_n hx hb dL_law_790 rfl (lv_at hl 0 rfl) ?_
    refine lv_iload_n hx hb dL_law_791 rfl (lv_at hl 3 rfl) ?_
    refine lv_iconst (v := 4) hx hb dL_law_792 (by decide) ?_
    refine lv_iadd hx hb dL_law_793 ?_
    refine lv_topi (fun v10 ev10 => ?_)
    obtain rfl : v10 = nI (n + 4) := nI_plus ev10 rfl rfl
    refine xsld ((n + 4)) hx hb hXs hbl hbA hS rfl (by omega) (by omega) dL_law_794 ?_
    refine lv_if_eq (tgt := 802) hx hb dL_law_795 (by decide) (fun c11 => ?_) (fun c11 => ?_)
    · refine lv_iconst (v := 0) hx hb dL_law_802 (by decide) ?_
      refine lawI (rest := []) (q0 := 0) ⟨hx, hb, hml, hown, hts⟩ (m_X7_hand l G y bb f7 r7 (xs ((n + 1))) (xs ((n + 2))) (xs ((n + 3))) 0 hMi.1 hMi.2.1 hMi.2.2.1) mi_yX7_hand mv_yX7_hand ml_L_76 ⟨rfl, rfl, Nat.le_of_ble_eq_true rfl, Nat.le_of_ble_eq_true rfl⟩ hK hP hD List.perm_append_comm rfl rfl rfl hl.1 rfl (Nat.le_of_ble_eq_true rfl) dL_law_803 ⟨Nat.le_of_ble_eq_true rfl, Nat.le_of_ble_eq_true rfl⟩ hS hA (fun r12 w H locs hw hP hS => ?_)
      obtain ⟨m_f_0, m_r_9, rfl, hrem⟩ := hw
      have hd0 := ha_step (Or.inl rfl) hj hjt (hI.1 j hj).1 (hJ j hj) (hC j hj) hres hrem
      have hd := hd0.2
      have hM2 : MS G y bb (up2 r7 9 m_r_9) (mM G y bb (upd f7 0 m_f_0) (up2 r7 9 m_r_9)) := ⟨(upd f7 0 m_f_0), ⟨hMi.1, hMi.2.1, hMi.2.2.1, hMi.2.2.2.1, hMi.2.2.2.2.1, hMi.2.2.2.2.2.1, hMi.2.2.2.2.2.2.1, hMi.2.2.2.2.2.2.2.1, hMi.2.2.2.2.2.2.2.2.1, hMi.2.2.2.2.2.2.2.2.2.1, hMi.2.2.2.2.2.2.2.2.2.2⟩, rfl⟩
      obtain ⟨hP, hD⟩ := hP mM_ad (wX2 ++ mM G y bb (upd f7 0 m_f_0) (up2 r7 9 m_r_9)) List.perm_append_comm
      refine lv_pop hx hb dL_law_806 rfl ?_
      refine lv_goto (tgt := 1654) hx hb dL_law_807 (by decide) ?_
      have hJ2 : (JT (upA tF j (tF j)) (upA tR j (up2 (tR j) 7 n_tr_7)) (up2 r7 9 m_r_9) ∧ JC (upA tF j (tF j)) (upA tR j (up2 (tR j) 7 n_tr_7)) (up2 r7 9 m_r_9)) := ⟨JT_of hJ (hJ j hj) (fun _ _ => TO_0), JC_of hC hd.1 hd.2⟩
      exact fin _ _ _ _ _ _ _ _ hX2 hM2 hJ2 hP hD hS (lv_sub hl [0, 1, 2, 3] rfl)
    · exact absurd c5 c11
  · refine lv_iconst (v := 1) hx hb dL_law_765 (by decide) ?_
    refine lv_goto (tgt := 770) hx hb dL_law_766 (by decide) ?_
    obtain ⟨j, hj, hjt⟩ := tbJ_ex (xs ((n + 1)))
    obtain ⟨k, hk⟩ : ∃ k, k < 16 := ⟨0, by decide⟩
    refine lawI (rest := []) (q0 := 0) ⟨hx, hb, hml, hown, hts⟩ (x_hand l G x xa (tA j) a b ga ua la lb (gA k) (rfn tA 6) (rfn gA 16) xf (tF j) f qf gf uf lf mf (nF k) (tR j) r q gr ur lr mr (nR k) (xs ((n + 1))) (xs ((n + 2))) (xs ((n + 3))) 1 j hj hjt (if_pos hj) ((hI.1 j hj).1) ((hI.1 j hj).2.1) ((hI.1 j hj).2.2.1) ((hI.1 j hj).2.2.2)) mi_yX6_hand mv_yX6_hand ml_L_72 ⟨rfl, rfl, Nat.le_of_ble_eq_true rfl, Nat.le_of_ble_eq_true rfl⟩ hK hP hD (perm_app (xf_perm G x xa tA a b ga ua la lb gA xf f qf gf uf lf mf r q gr ur lr mr tF tR nF nR hj hk)) rfl rfl rfl hl.1 rfl (Nat.le_of_ble_eq_true rfl) dL_law_770 ⟨Nat.le_of_ble_eq_true rfl, Nat.le_of_ble_eq_true rfl⟩ hS hA (fun r13 w H locs hw hP hS => ?_)
    obtain ⟨n_tr_7, n_xf_0, rfl, hres⟩ := hw
    have hXn := XS_back (tF := tF) (tR := tR) (nF := nF) (nR := nR) (x := x) (xa := xa) (tA := tA) (a := a) (b := b) (ga := ga) (ua := ua) (la := la) (lb := lb) (gA := gA) (xf := xf) (f := f) (qf := qf) (gf := gf) (uf := uf) (lf := lf) (mf := mf) (r := r) (q := q) (gr := gr) (ur := ur) (lr := lr) (mr := mr) (G := G) hI hj hk (upd xf 0 n_xf_0) (tF j) f qf gf uf lf mf (nF k) (up2 (tR j) 7 n_tr_7) r q gr ur lr mr (nR k) ⟨(hI.1 j hj).1, (hI.1 j hj).2.1, (hI.1 j hj).2.2.1, (hI.1 j hj).2.2.2⟩ hI.2.1 ⟨hI.2.2.1.1, hI.2.2.1.2⟩ ⟨hI.2.2.2.1.1, hI.2.2.2.1.2⟩ ⟨(hI.2.2.2.2.1 k hk).1, (hI.2.2.2.2.1 k hk).2⟩ (hI.2.2.2.2.2)
    obtain ⟨wX2, hX2, hP, hD⟩ : ∃ wX2 : va_W, XS G x xa tA a b ga ua la lb gA (upA tF j (tF j)) (upA tR j (up2 (tR j) 7 n_tr_7)) wX2 ∧ PP G (wX2 ++ mM G y bb f7 r7) H ∧ va_D (fun q => s.heap.size ≤ q) (wX2 ++ mM G y bb f7 r7) := ⟨_, hXn.1, hP xM_ad _ (perm_app hXn.2)⟩
    refine lv_pop hx hb dL_law_773 rfl ?_
    refine lv_aload_n hx hb dL_law_774 rfl (lv_at hl 2 rfl) ?_
    refine lv_aload_n hx hb dL_law_775 rfl (lv_at hl 0 rfl) ?_
    refine lv_iload_n hx hb dL_law_776 rfl (lv_at hl 3 rfl) ?_
    refine lv_iconst (v := 1) hx hb dL_law_777 (by decide) ?_
    refine lv_iadd hx hb dL_law_778 ?_
    refine lv_topi (fun v14 ev14 => ?_)
    obtain rfl : v14 = nI (n + 1) := nI_plus ev14 rfl rfl
    refine xsld ((n + 1)) hx hb hXs hbl hbA hS rfl (by omega) (by omega) dL_law_779 ?_
    refine lv_aload_n hx hb dL_law_780 rfl (lv_at hl 0 rfl) ?_
    refine lv_iload_n hx hb dL_law_781 rfl (lv_at hl 3 rfl) ?_
    refine lv_iconst (v := 2) hx hb dL_law_782 (by decide) ?_
    refine lv_iadd hx hb dL_law_783 ?_
    refine lv_topi (fun v15 ev15 => ?_)
    obtain rfl : v15 = nI (n + 2) := nI_plus ev15 rfl rfl
    refine xsld ((n + 2)) hx hb hXs hbl hbA hS rfl (by omega) (by omega) dL_law_784 ?_
    refine lv_aload_n hx hb dL_law_785 rfl (lv_at hl 0 rfl) ?_
    refine lv_iload_n hx hb dL_law_786 rfl (lv_at hl 3 rfl) ?_
    refine lv_iconst (v := 3) hx hb dL_law_787 (by decide) ?_
    refine lv_iadd hx hb dL_law_788 ?_
    refine lv_topi (fun v16 ev16 => ?_)
    obtain rfl : v16 = nI (n + 3) := nI_plus ev16 rfl rfl
    refine xsld ((n + 3)) hx hb hXs hbl hbA hS rfl (by omega) (by omega) dL_law_789 ?_
    refine lv_aload_n hx hb dL_law_790 rfl (lv_at hl 0 rfl) ?_
    refine lv_iload_n hx hb dL_law_791 rfl (lv_at hl 3 rfl) ?_
    refine lv_iconst (v := 4) hx hb dL_law_792 (by decide) ?_
    refine lv_iadd hx hb dL_law_793 ?_
    refine lv_topi (fun v17 ev17 => ?_)
    obtain rfl : v17 = nI (n + 4) := nI_plus ev17 rfl rfl
    refine xsld ((n + 4)) hx hb hXs hbl hbA hS rfl (by omega) (by omega) dL_law_794 ?_
    refine lv_if_eq (tgt := 802) hx hb dL_law_795 (by decide) (fun c18 => ?_) (fun c18 => ?_)
    · exact absurd c18 c5
    · refine lv_iconst (v := 1) hx hb dL_law_798 (by decide) ?_
      refine lv_goto (tgt := 803) hx hb dL_law_799 (by decide) ?_
      refine lawI (rest := []) (q0 := 0) ⟨hx, hb, hml, hown, hts⟩ (m_X7_hand l G y bb f7 r7 (xs ((n + 1))) (xs ((n + 2))) (xs ((n + 3))) 1 hMi.1 hMi.2.1 hMi.2.2.1) mi_yX7_hand mv_yX7_hand ml_L_76 ⟨rfl, rfl, Nat.le_of_ble_eq_true rfl, Nat.le_of_ble_eq_true rfl⟩ hK hP hD List.perm_append_comm rfl rfl rfl hl.1 rfl (Nat.le_of_ble_eq_true rfl) dL_law_803 ⟨Nat.le_of_ble_eq_true rfl, Nat.le_of_ble_eq_true rfl⟩ hS hA (fun r19 w H locs hw hP hS => ?_)
      obtain ⟨m_f_0, m_r_9, rfl, hrem⟩ := hw
      have hd0 := ha_step (Or.inr rfl) hj hjt (hI.1 j hj).1 (hJ j hj) (hC j hj) hres hrem
      have hd := hd0.2
      have hM2 : MS G y bb (up2 r7 9 m_r_9) (mM G y bb (upd f7 0 m_f_0) (up2 r7 9 m_r_9)) := ⟨(upd f7 0 m_f_0), ⟨hMi.1, hMi.2.1, hMi.2.2.1, hMi.2.2.2.1, hMi.2.2.2.2.1, hMi.2.2.2.2.2.1, hMi.2.2.2.2.2.2.1, hMi.2.2.2.2.2.2.2.1, hMi.2.2.2.2.2.2.2.2.1, hMi.2.2.2.2.2.2.2.2.2.1, hMi.2.2.2.2.2.2.2.2.2.2⟩, rfl⟩
      obtain ⟨hP, hD⟩ := hP mM_ad (wX2 ++ mM G y bb (upd f7 0 m_f_0) (up2 r7 9 m_r_9)) List.perm_append_comm
      refine lv_pop hx hb dL_law_806 rfl ?_
      refine lv_goto (tgt := 1654) hx hb dL_law_807 (by decide) ?_
      have hJ2 : (JT (upA tF j (tF j)) (upA tR j (up2 (tR j) 7 n_tr_7)) (up2 r7 9 m_r_9) ∧ JC (upA tF j (tF j)) (upA tR j (up2 (tR j) 7 n_tr_7)) (up2 r7 9 m_r_9)) := ⟨JT_of hJ (hJ j hj) (fun _ _ => TO_0), JC_of hC hd.1 hd.2⟩
      exact fin _ _ _ _ _ _ _ _ hX2 hM2 hJ2 hP hD hS (lv_sub hl [0, 1, 2, 3] rfl)
set_option maxHeartbeats 4000000 in
set_option maxRecDepth 100000 in
theorem law_c14 {p : Program} {l : Launch} {e : Env} {s : State} {m : MethodId} {below : List Frame} {meth : Method} {c : Code} {b_ L n : Nat} {xs : Nat → Int32} (C0 : lw_At p s m meth c b_ L xs) (hL : L ≤ 3072) (hn6 : n + 6 ≤ L) {G : GG} (hK : KK G s) (hT : ST (fun q => s.heap.size ≤ q) s s.heap) {x : Nat} {xa : Nat → Nat} {tA : Nat → Nat → Nat} {a b ga ua la lb : Nat → Nat} {gA : Nat → Nat → Nat} {y : Nat} {bb : Nat → Nat} {tF : Nat → Nat → Int32} {tR : Nat → Nat → Nat → Int32} {r7 : Nat → Nat → Int32} {wX wM : va_W} (hX : XS G x xa tA a b ga ua la lb gA tF tR wX) (hM : MS G y bb r7 wM) (hJ : (JT tF tR r7 ∧ JC tF tR r7)) {H : Heap} {locs : List Loc} {ls : Array Slot} (hP : PP G (wX ++ wM) H) (hD : va_D (fun q => s.heap.size ≤ q) (wX ++ wM)) (hS : va_S (fun q => s.heap.size ≤ q) s.heap H locs) (hl : lv_has ls 4 [(0, .ref b_), (1, .ref x), (2, .ref y), (3, .int (nI n))]) (fin : ∀ (tF2 : Nat → Nat → Int32) (tR2 : Nat → Nat → Nat → Int32) (r2 : Nat → Nat → Int32) (wX2 wM2 : va_W) (H : Heap) (locs : List Loc) (ls : Array Slot), XS G x xa tA a b ga ua la lb gA tF2 tR2 wX2 → MS G y bb r2 wM2 → (JT tF2 tR2 r2 ∧ JC tF2 tR2 r2) → PP G (wX2 ++ wM2) H → va_D (fun q => s.heap.size ≤ q) (wX2 ++ wM2) → va_S (fun q => s.heap.size ≤ q) s.heap H locs → lv_has ls 4 [(0, .ref b_), (1, .ref x), (2, .ref y), (3, .int (nI n))] → W p l e room_1 s m #[Value.ref b_] below meth c H locs 160 27087 (lw_Z below #[Value.ref b_] s) (F0 m 1654 ls [])) : W p l e room_1 s m #[Value.ref b_] below meth c H locs 160 27087 (lw_Z below #[Value.ref b_] s) (F0 m 810 ls []) := by
  obtain ⟨hx, hb, hr, hml, hown, hts0, hXs, hbl, hlocks, hgv⟩ := id C0
  have hts : ∀ w ∈ TB, w.before #[Value.ref b_] s = true := fun w h => hts0 w (List.mem_filter.mp h).1
  have hown : s.vm.findClass RL = some m.cls := hown
  have hA : ∀ q : Nat, s.heap.size ≤ q → (fun q => s.heap.size ≤ q) q := fun _ h => h
  have hbA : ¬ (fun q => s.heap.size ≤ q) b_ := Nat.not_le.mpr hbl
  obtain ⟨xf, f, qf, gf, uf, lf, mf, r, q, gr, ur, lr, mr, nF, nR, hI, rfl⟩ := hX
  obtain ⟨f7, hMi, rfl⟩ := hM
  obtain ⟨hJ, hC⟩ := hJ
  refine lv_aload_n hx hb dL_law_810 rfl (lv_at hl 1 rfl) ?_
  refine lv_aload_n hx hb dL_law_811 rfl (lv_at hl 0 rfl) ?_
  refine lv_iload_n hx hb dL_law_812 rfl (lv_at hl 3 rfl) ?_
  refine lv_iconst (v := 1) hx hb dL_law_813 (by decide) ?_
  refine lv_iadd hx hb dL_law_814 ?_
  refine lv_topi (fun v1 ev1 => ?_)
  obtain rfl : v1 = nI (n + 1) := nI_plus ev1 rfl rfl
  refine xsld ((n + 1)) hx hb hXs hbl hbA hS rfl (by omega) (by omega) dL_law_815 ?_
  refine lv_aload_n hx hb dL_law_816 rfl (lv_at hl 0 rfl) ?_
  refine lv_iload_n hx hb dL_law_817 rfl (lv_at hl 3 rfl) ?_
  refine lv_iconst (v := 2) hx hb dL_law_818 (by decide) ?_
  refine lv_iadd hx hb dL_law_819 ?_
  refine lv_topi (fun v2 ev2 => ?_)
  obtain rfl : v2 = nI (n + 2) := nI_plus ev2 rfl rfl
  refine xsld ((n + 2)) hx hb hXs hbl hbA hS rfl (by omega) (by omega) dL_law_820 ?_
  refine lv_aload_n hx hb dL_law_821 rfl (lv_at hl 0 rfl) ?_
  refine lv_iload_n hx hb dL_law_822 rfl (lv_at hl 3 rfl) ?_
  refine lv_iconst (v := 3) hx hb dL_law_823 (by decide) ?_
  refine lv_iadd hx hb dL_law_824 ?_
  refine lv_topi (fun v3 ev3 => ?_)
  obtain rfl : v3 = nI (n + 3) := nI_plus ev3 rfl rfl
  refine xsld ((n + 3)) hx hb hXs hbl hbA hS rfl (by omega) (by omega) dL_law_825 ?_
  refine lv_aload_n hx hb dL_law_826 rfl (lv_at hl 0 rfl) ?_
  refine lv_iload_n hx hb dL_law_827 rfl (lv_at hl 3 rfl) ?_
  refine lv_iconst (v := 4) hx hb dL_law_828 (by decide) ?_
  refine lv_iadd hx hb dL_law_829 ?_
  refine lv_topi (fun v4 ev4 => ?_)
  obtain rfl : v4 = nI (n + 4) := nI_plus ev4 rfl rfl
  refine xsld ((n + 4)) hx hb hXs hbl hbA hS rfl (by omega) (by omega) dL_law_830 ?_
  refine lv_if_eq (tgt := 838) hx hb dL_law_831 (by decide) (fun c5 => ?_) (fun c5 => ?_)
  · refine lv_iconst (v := 0) hx hb dL_law_838 (by decide) ?_
    obtain ⟨j, hj, hjt⟩ := tbJ_ex (xs ((n + 1)))
    obtain ⟨k, hk⟩ : ∃ k, k < 16 := ⟨0, by decide⟩
    refine lawI (rest := []) (q0 := 0) ⟨hx, hb, hml, hown, hts⟩ (x_keep l G x xa (tA j) a b ga ua la lb (gA k) (rfn tA 6) (rfn gA 16) xf (tF j) f qf gf uf lf mf (nF k) (tR j) r q gr ur lr mr (nR k) (xs ((n + 1))) (xs ((n + 2))) (xs ((n + 3))) 0 j hj hjt (if_pos hj) ((hI.1 j hj).1) ((hI.1 j hj).2.1) ((hI.1 j hj).2.2.1) ((hI.1 j hj).2.2.2)) mi_yX6_keep mv_yX6_keep ml_L_77 ⟨rfl, rfl, Nat.le_of_ble_eq_true rfl, Nat.le_of_ble_eq_true rfl⟩ hK hP hD (perm_app (xf_perm G x xa tA a b ga ua la lb gA xf f qf gf uf lf mf r q gr ur lr mr tF tR nF nR hj hk)) rfl rfl rfl hl.1 rfl (Nat.le_of_ble_eq_true rfl) dL_law_839 ⟨Nat.le_of_ble_eq_true rfl, Nat.le_of_ble_eq_true rfl⟩ hS hA (fun r6 w H locs hw hP hS => ?_)
    obtain ⟨n_tr_7, n_xf_0, rfl, hres⟩ := hw
    have hXn := XS_back (tF := tF) (tR := tR) (nF := nF) (nR := nR) (x := x) (xa := xa) (tA := tA) (a := a) (b := b) (ga := ga) (ua := ua) (la := la) (lb := lb) (gA := gA) (xf := xf) (f := f) (qf := qf) (gf := gf) (uf := uf) (lf := lf) (mf := mf) (r := r) (q := q) (gr := gr) (ur := ur) (lr := lr) (mr := mr) (G := G) hI hj hk (upd xf 0 n_xf_0) (tF j) f qf gf uf lf mf (nF k) (up2 (tR j) 7 n_tr_7) r q gr ur lr mr (nR k) ⟨(hI.1 j hj).1, (hI.1 j hj).2.1, (hI.1 j hj).2.2.1, (hI.1 j hj).2.2.2⟩ hI.2.1 ⟨hI.2.2.1.1, hI.2.2.1.2⟩ ⟨hI.2.2.2.1.1, hI.2.2.2.1.2⟩ ⟨(hI.2.2.2.2.1 k hk).1, (hI.2.2.2.2.1 k hk).2⟩ (hI.2.2.2.2.2)
    obtain ⟨wX2, hX2, hP, hD⟩ : ∃ wX2 : va_W, XS G x xa tA a b ga ua la lb gA (upA tF j (tF j)) (upA tR j (up2 (tR j) 7 n_tr_7)) wX2 ∧ PP G (wX2 ++ mM G y bb f7 r7) H ∧ va_D (fun q => s.heap.size ≤ q) (wX2 ++ mM G y bb f7 r7) := ⟨_, hXn.1, hP xM_ad _ (perm_app hXn.2)⟩
    refine lv_pop hx hb dL_law_842 rfl ?_
    refine lv_aload_n hx hb dL_law_843 rfl (lv_at hl 2 rfl) ?_
    refine lv_aload_n hx hb dL_law_844 rfl (lv_at hl 0 rfl) ?_
    refine lv_iload_n hx hb dL_law_845 rfl (lv_at hl 3 rfl) ?_
    refine lv_iconst (v := 1) hx hb dL_law_846 (by decide) ?_
    refine lv_iadd hx hb dL_law_847 ?_
    refine lv_topi (fun v7 ev7 => ?_)
    obtain rfl : v7 = nI (n + 1) := nI_plus ev7 rfl rfl
    refine xsld ((n + 1)) hx hb hXs hbl hbA hS rfl (by omega) (by omega) dL_law_848 ?_
    refine lv_aload_n hx hb dL_law_849 rfl (lv_at hl 0 rfl) ?_
    refine lv_iload_n hx hb dL_law_850 rfl (lv_at hl 3 rfl) ?_
    refine lv_iconst (v := 2) hx hb dL_law_851 (by decide) ?_
    refine lv_iadd hx hb dL_law_852 ?_
    refine lv_topi (fun v8 ev8 => ?_)
    obtain rfl : v8 = nI (n + 2) := nI_plus ev8 rfl rfl
    refine xsld ((n + 2)) hx hb hXs hbl hbA hS rfl (by omega) (by omega) dL_law_853 ?_
    refine lv_aload_n hx hb dL_law_854 rfl (lv_at hl 0 rfl) ?_
    refine lv_iload_n hx hb dL_law_855 rfl (lv_at hl 3 rfl) ?_
    refine lv_iconst (v := 3) hx hb dL_law_856 (by decide) ?_
    refine lv_iadd hx hb dL_law_857 ?_
    refine lv_topi (fun v9 ev9 => ?_)
    obtain rfl : v9 = nI (n + 3) := nI_plus ev9 rfl rfl
    refine xsld ((n + 3)) hx hb hXs hbl hbA hS rfl (by omega) (by omega) dL_law_858 ?_
    refine lv_aload_n hx hb dL_law_859 rfl (lv_at hl 0 rfl) ?_
    refine lv_iload_n hx hb dL_law_860 rfl (lv_at hl 3 rfl) ?_
    refine lv_iconst (v := 4) hx hb dL_law_861 (by decide) ?_
    refine lv_iadd hx hb dL_law_862 ?_
    refine lv_topi (fun v10 ev10 => ?_)
    obtain rfl : v10 = nI (n + 4) := nI_plus ev10 rfl rfl
    refine xsld ((n + 4)) hx hb hXs hbl hbA hS rfl (by omega) (by omega) dL_law_863 ?_
    refine lv_if_eq (tgt := 871) hx hb dL_law_864 (by decide) (fun c11 => ?_) (fun c11 => ?_)
    · refine lv_iconst (v := 0) hx hb dL_law_871 (by decide) ?_
      refine lawI (rest := []) (q0 := 0) ⟨hx, hb, hml, hown, hts⟩ (m_X7_keep l G y bb f7 r7 (xs ((n + 1))) (xs ((n + 2))) (xs ((n + 3))) 0 hMi.1 hMi.2.1 hMi.2.2.1) mi_yX7_keep mv_yX7_keep ml_L_80 ⟨rfl, rfl, Nat.le_of_ble_eq_true rfl, Nat.le_of_ble_eq_true rfl⟩ hK hP hD List.perm_append_comm rfl rfl rfl hl.1 rfl (Nat.le_of_ble_eq_true rfl) dL_law_872 ⟨Nat.le_of_ble_eq_true rfl, Nat.le_of_ble_eq_true rfl⟩ hS hA (fun r12 w H locs hw hP hS => ?_)
      obtain ⟨m_f_0, m_r_10, rfl, hrem⟩ := hw
      have hd0 := ke_step hj hjt (hI.1 j hj).1 (hJ j hj) (hC j hj) hres hrem
      have hd := hd0.2
      have hM2 : MS G y bb (up2 r7 10 m_r_10) (mM G y bb (upd f7 0 m_f_0) (up2 r7 10 m_r_10)) := ⟨(upd f7 0 m_f_0), ⟨hMi.1, hMi.2.1, hMi.2.2.1, hMi.2.2.2.1, hMi.2.2.2.2.1, hMi.2.2.2.2.2.1, hMi.2.2.2.2.2.2.1, hMi.2.2.2.2.2.2.2.1, hMi.2.2.2.2.2.2.2.2.1, hMi.2.2.2.2.2.2.2.2.2.1, hMi.2.2.2.2.2.2.2.2.2.2⟩, rfl⟩
      obtain ⟨hP, hD⟩ := hP mM_ad (wX2 ++ mM G y bb (upd f7 0 m_f_0) (up2 r7 10 m_r_10)) List.perm_append_comm
      refine lv_pop hx hb dL_law_875 rfl ?_
      refine lv_goto (tgt := 1654) hx hb dL_law_876 (by decide) ?_
      have hJ2 : (JT (upA tF j (tF j)) (upA tR j (up2 (tR j) 7 n_tr_7)) (up2 r7 10 m_r_10) ∧ JC (upA tF j (tF j)) (upA tR j (up2 (tR j) 7 n_tr_7)) (up2 r7 10 m_r_10)) := ⟨JT_of hJ (hJ j hj) (fun _ _ => TO_0), JC_of hC hd.1 hd.2⟩
      exact fin _ _ _ _ _ _ _ _ hX2 hM2 hJ2 hP hD hS (lv_sub hl [0, 1, 2, 3] rfl)
    · exact absurd c5 c11
  · refine lv_iconst (v := 1) hx hb dL_law_834 (by decide) ?_
    refine lv_goto (tgt := 839) hx hb dL_law_835 (by decide) ?_
    obtain ⟨j, hj, hjt⟩ := tbJ_ex (xs ((n + 1)))
    obtain ⟨k, hk⟩ : ∃ k, k < 16 := ⟨0, by decide⟩
    refine lawI (rest := []) (q0 := 0) ⟨hx, hb, hml, hown, hts⟩ (x_keep l G x xa (tA j) a b ga ua la lb (gA k) (rfn tA 6) (rfn gA 16) xf (tF j) f qf gf uf lf mf (nF k) (tR j) r q gr ur lr mr (nR k) (xs ((n + 1))) (xs ((n + 2))) (xs ((n + 3))) 1 j hj hjt (if_pos hj) ((hI.1 j hj).1) ((hI.1 j hj).2.1) ((hI.1 j hj).2.2.1) ((hI.1 j hj).2.2.2)) mi_yX6_keep mv_yX6_keep ml_L_77 ⟨rfl, rfl, Nat.le_of_ble_eq_true rfl, Nat.le_of_ble_eq_true rfl⟩ hK hP hD (perm_app (xf_perm G x xa tA a b ga ua la lb gA xf f qf gf uf lf mf r q gr ur lr mr tF tR nF nR hj hk)) rfl rfl rfl hl.1 rfl (Nat.le_of_ble_eq_true rfl) dL_law_839 ⟨Nat.le_of_ble_eq_true rfl, Nat.le_of_ble_eq_true rfl⟩ hS hA (fun r13 w H locs hw hP hS => ?_)
    obtain ⟨n_tr_7, n_xf_0, rfl, hres⟩ := hw
    have hXn := XS_back (tF := tF) (tR := tR) (nF := nF) (nR := nR) (x := x) (xa := xa) (tA := tA) (a := a) (b := b) (ga := ga) (ua := ua) (la := la) (lb := lb) (gA := gA) (xf := xf) (f := f) (qf := qf) (gf := gf) (uf := uf) (lf := lf) (mf := mf) (r := r) (q := q) (gr := gr) (ur := ur) (lr := lr) (mr := mr) (G := G) hI hj hk (upd xf 0 n_xf_0) (tF j) f qf gf uf lf mf (nF k) (up2 (tR j) 7 n_tr_7) r q gr ur lr mr (nR k) ⟨(hI.1 j hj).1, (hI.1 j hj).2.1, (hI.1 j hj).2.2.1, (hI.1 j hj).2.2.2⟩ hI.2.1 ⟨hI.2.2.1.1, hI.2.2.1.2⟩ ⟨hI.2.2.2.1.1, hI.2.2.2.1.2⟩ ⟨(hI.2.2.2.2.1 k hk).1, (hI.2.2.2.2.1 k hk).2⟩ (hI.2.2.2.2.2)
    obtain ⟨wX2, hX2, hP, hD⟩ : ∃ wX2 : va_W, XS G x xa tA a b ga ua la lb gA (upA tF j (tF j)) (upA tR j (up2 (tR j) 7 n_tr_7)) wX2 ∧ PP G (wX2 ++ mM G y bb f7 r7) H ∧ va_D (fun q => s.heap.size ≤ q) (wX2 ++ mM G y bb f7 r7) := ⟨_, hXn.1, hP xM_ad _ (perm_app hXn.2)⟩
    refine lv_pop hx hb dL_law_842 rfl ?_
    refine lv_aload_n hx hb dL_law_843 rfl (lv_at hl 2 rfl) ?_
    refine lv_aload_n hx hb dL_law_844 rfl (lv_at hl 0 rfl) ?_
    refine lv_iload_n hx hb dL_law_845 rfl (lv_at hl 3 rfl) ?_
    refine lv_iconst (v := 1) hx hb dL_law_846 (by decide) ?_
    refine lv_iadd hx hb dL_law_847 ?_
    refine lv_topi (fun v14 ev14 => ?_)
    obtain rfl : v14 = nI (n + 1) := nI_plus ev14 rfl rfl
    refine xsld ((n + 1)) hx hb hXs hbl hbA hS rfl (by omega) (by omega) dL_law_848 ?_
    refine lv_aload_n hx hb dL_law_849 rfl (lv_at hl 0 rfl) ?_
    refine lv_iload_n hx hb dL_law_850 rfl (lv_at hl 3 rfl) ?_
    refine lv_iconst (v := 2) hx hb dL_law_851 (by decide) ?_
    refine lv_iadd hx hb dL_law_852 ?_
    refine lv_topi (fun v15 ev15 => ?_)
    obtain rfl : v15 = nI (n + 2) := nI_plus ev15 rfl rfl
    refine xsld ((n + 2)) hx hb hXs hbl hbA hS rfl (by omega) (by omega) dL_law_853 ?_
    refine lv_aload_n hx hb dL_law_854 rfl (lv_at hl 0 rfl) ?_
    refine lv_iload_n hx hb dL_law_855 rfl (lv_at hl 3 rfl) ?_
    refine lv_iconst (v := 3) hx hb dL_law_856 (by decide) ?_
    refine lv_iadd hx hb dL_law_857 ?_
    refine lv_topi (fun v16 ev16 => ?_)
    obtain rfl : v16 = nI (n + 3) := nI_plus ev16 rfl rfl
    refine xsld ((n + 3)) hx hb hXs hbl hbA hS rfl (by omega) (by omega) dL_law_858 ?_
    refine lv_aload_n hx hb dL_law_859 rfl (lv_at hl 0 rfl) ?_
    refine lv_iload_n hx hb dL_law_860 rfl (lv_at hl 3 rfl) ?_
    refine lv_iconst (v := 4) hx hb dL_law_861 (by decide) ?_
    refine lv_iadd hx hb dL_law_862 ?_
    refine lv_topi (fun v17 ev17 => ?_)
    obtain rfl : v17 = nI (n + 4) := nI_plus ev17 rfl rfl
    refine xsld ((n + 4)) hx hb hXs hbl hbA hS rfl (by omega) (by omega) dL_law_863 ?_
    refine lv_if_eq (tgt := 871) hx hb dL_law_864 (by decide) (fun c18 => ?_) (fun c18 => ?_)
    · exact absurd c18 c5
    · refine lv_iconst (v := 1) hx hb dL_law_867 (by decide) ?_
      refine lv_goto (tgt := 872) hx hb dL_law_868 (by decide) ?_
      refine lawI (rest := []) (q0 := 0) ⟨hx, hb, hml, hown, hts⟩ (m_X7_keep l G y bb f7 r7 (xs ((n + 1))) (xs ((n + 2))) (xs ((n + 3))) 1 hMi.1 hMi.2.1 hMi.2.2.1) mi_yX7_keep mv_yX7_keep ml_L_80 ⟨rfl, rfl, Nat.le_of_ble_eq_true rfl, Nat.le_of_ble_eq_true rfl⟩ hK hP hD List.perm_append_comm rfl rfl rfl hl.1 rfl (Nat.le_of_ble_eq_true rfl) dL_law_872 ⟨Nat.le_of_ble_eq_true rfl, Nat.le_of_ble_eq_true rfl⟩ hS hA (fun r19 w H locs hw hP hS => ?_)
      obtain ⟨m_f_0, m_r_10, rfl, hrem⟩ := hw
      have hd0 := ke_step hj hjt (hI.1 j hj).1 (hJ j hj) (hC j hj) hres hrem
      have hd := hd0.2
      have hM2 : MS G y bb (up2 r7 10 m_r_10) (mM G y bb (upd f7 0 m_f_0) (up2 r7 10 m_r_10)) := ⟨(upd f7 0 m_f_0), ⟨hMi.1, hMi.2.1, hMi.2.2.1, hMi.2.2.2.1, hMi.2.2.2.2.1, hMi.2.2.2.2.2.1, hMi.2.2.2.2.2.2.1, hMi.2.2.2.2.2.2.2.1, hMi.2.2.2.2.2.2.2.2.1, hMi.2.2.2.2.2.2.2.2.2.1, hMi.2.2.2.2.2.2.2.2.2.2⟩, rfl⟩
      obtain ⟨hP, hD⟩ := hP mM_ad (wX2 ++ mM G y bb (upd f7 0 m_f_0) (up2 r7 10 m_r_10)) List.perm_append_comm
      refine lv_pop hx hb dL_law_875 rfl ?_
      refine lv_goto (tgt := 1654) hx hb dL_law_876 (by decide) ?_
      have hJ2 : (JT (upA tF j (tF j)) (upA tR j (up2 (tR j) 7 n_tr_7)) (up2 r7 10 m_r_10) ∧ JC (upA tF j (tF j)) (upA tR j (up2 (tR j) 7 n_tr_7)) (up2 r7 10 m_r_10)) := ⟨JT_of hJ (hJ j hj) (fun _ _ => TO_0), JC_of hC hd.1 hd.2⟩
      exact fin _ _ _ _ _ _ _ _ hX2 hM2 hJ2 hP hD hS (lv_sub hl [0, 1, 2, 3] rfl)
set_option maxHeartbeats 4000000 in
set_option maxRecDepth 100000 in
theorem law_c15 {p : Program} {l : Launch} {e : Env} {s : State} {m : MethodId} {below : List Frame} {meth : Method} {c : Code} {b_ L n : Nat} {xs : Nat → Int32} (C0 : lw_At p s m meth c b_ L xs) (hL : L ≤ 3072) (hn6 : n + 6 ≤ L) {G : GG} (hK : KK G s) (hT : ST (fun q => s.heap.size ≤ q) s s.heap) {x : Nat} {xa : Nat → Nat} {tA : Nat → Nat → Nat} {a b ga ua la lb : Nat → Nat} {gA : Nat → Nat → Nat} {y : Nat} {bb : Nat → Nat} {tF : Nat → Nat → Int32} {tR : Nat → Nat → Nat → Int32} {r7 : Nat → Nat → Int32} {wX wM : va_W} (hX : XS G x xa tA a b ga ua la lb gA tF tR wX) (hM : MS G y bb r7 wM) (hJ : (JT tF tR r7 ∧ JC tF tR r7)) {H : Heap} {locs : List Loc} {ls : Array Slot} (hP : PP G (wX ++ wM) H) (hD : va_D (fun q => s.heap.size ≤ q) (wX ++ wM)) (hS : va_S (fun q => s.heap.size ≤ q) s.heap H locs) (hl : lv_has ls 4 [(0, .ref b_), (1, .ref x), (2, .ref y), (3, .int (nI n))]) (fin : ∀ (tF2 : Nat → Nat → Int32) (tR2 : Nat → Nat → Nat → Int32) (r2 : Nat → Nat → Int32) (wX2 wM2 : va_W) (H : Heap) (locs : List Loc) (ls : Array Slot), XS G x xa tA a b ga ua la lb gA tF2 tR2 wX2 → MS G y bb r2 wM2 → (JT tF2 tR2 r2 ∧ JC tF2 tR2 r2) → PP G (wX2 ++ wM2) H → va_D (fun q => s.heap.size ≤ q) (wX2 ++ wM2) → va_S (fun q => s.heap.size ≤ q) s.heap H locs → lv_has ls 4 [(0, .ref b_), (1, .ref x), (2, .ref y), (3, .int (nI n))] → W p l e room_1 s m #[Value.ref b_] below meth c H locs 160 27087 (lw_Z below #[Value.ref b_] s) (F0 m 1654 ls [])) : W p l e room_1 s m #[Value.ref b_] below meth c H locs 160 27087 (lw_Z below #[Value.ref b_] s) (F0 m 879 ls []) := by
  obtain ⟨hx, hb, hr, hml, hown, hts0, hXs, hbl, hlocks, hgv⟩ := id C0
  have hts : ∀ w ∈ TB, w.before #[Value.ref b_] s = true := fun w h => hts0 w (List.mem_filter.mp h).1
  have hown : s.vm.findClass RL = some m.cls := hown
  have hA : ∀ q : Nat, s.heap.size ≤ q → (fun q => s.heap.size ≤ q) q := fun _ h => h
  have hbA : ¬ (fun q => s.heap.size ≤ q) b_ := Nat.not_le.mpr hbl
  obtain ⟨xf, f, qf, gf, uf, lf, mf, r, q, gr, ur, lr, mr, nF, nR, hI, rfl⟩ := hX
  obtain ⟨f7, hMi, rfl⟩ := hM
  obtain ⟨hJ, hC⟩ := hJ
  refine lv_aload_n hx hb dL_law_879 rfl (lv_at hl 1 rfl) ?_
  refine lv_aload_n hx hb dL_law_880 rfl (lv_at hl 0 rfl) ?_
  refine lv_iload_n hx hb dL_law_881 rfl (lv_at hl 3 rfl) ?_
  refine lv_iconst (v := 1) hx hb dL_law_882 (by decide) ?_
  refine lv_iadd hx hb dL_law_883 ?_
  refine lv_topi (fun v1 ev1 => ?_)
  obtain rfl : v1 = nI (n + 1) := nI_plus ev1 rfl rfl
  refine xsld ((n + 1)) hx hb hXs hbl hbA hS rfl (by omega) (by omega) dL_law_884 ?_
  refine lv_aload_n hx hb dL_law_885 rfl (lv_at hl 0 rfl) ?_
  refine lv_iload_n hx hb dL_law_886 rfl (lv_at hl 3 rfl) ?_
  refine lv_iconst (v := 2) hx hb dL_law_887 (by decide) ?_
  refine lv_iadd hx hb dL_law_888 ?_
  refine lv_topi (fun v2 ev2 => ?_)
  obtain rfl : v2 = nI (n + 2) := nI_plus ev2 rfl rfl
  refine xsld ((n + 2)) hx hb hXs hbl hbA hS rfl (by omega) (by omega) dL_law_889 ?_
  obtain ⟨j, hj, hjt⟩ := tbJ_ex (xs ((n + 1)))
  obtain ⟨k, hk⟩ : ∃ k, k < 16 := ⟨0, by decide⟩
  refine lawI (rest := []) (q0 := 0) ⟨hx, hb, hml, hown, hts⟩ (x_sound l G x xa (tA j) a b ga ua la lb (gA k) (rfn tA 6) (rfn gA 16) xf (tF j) f qf gf uf lf mf (nF k) (tR j) r q gr ur lr mr (nR k) (xs ((n + 1))) (xs ((n + 2))) j hj hjt (if_pos hj) ((hI.1 j hj).1) ((hI.1 j hj).2.1) ((hI.1 j hj).2.2.1) ((hI.1 j hj).2.2.2)) mi_yX6_sound mv_yX6_sound ml_L_81 ⟨rfl, rfl, Nat.le_of_ble_eq_true rfl, Nat.le_of_ble_eq_true rfl⟩ hK hP hD (perm_app (xf_perm G x xa tA a b ga ua la lb gA xf f qf gf uf lf mf r q gr ur lr mr tF tR nF nR hj hk)) rfl rfl rfl hl.1 rfl (Nat.le_of_ble_eq_true rfl) dL_law_890 ⟨Nat.le_of_ble_eq_true rfl, Nat.le_of_ble_eq_true rfl⟩ hS hA (fun r3 w H locs hw hP hS => ?_)
  obtain ⟨n_xf_0, rfl, hres⟩ := hw
  have hXn := XS_back (tF := tF) (tR := tR) (nF := nF) (nR := nR) (x := x) (xa := xa) (tA := tA) (a := a) (b := b) (ga := ga) (ua := ua) (la := la) (lb := lb) (gA := gA) (xf := xf) (f := f) (qf := qf) (gf := gf) (uf := uf) (lf := lf) (mf := mf) (r := r) (q := q) (gr := gr) (ur := ur) (lr := lr) (mr := mr) (G := G) hI hj hk (upd xf 0 n_xf_0) (tF j) f qf gf uf lf mf (nF k) (tR j) r q gr ur lr mr (nR k) ⟨(hI.1 j hj).1, (hI.1 j hj).2.1, (hI.1 j hj).2.2.1, (hI.1 j hj).2.2.2⟩ hI.2.1 ⟨hI.2.2.1.1, hI.2.2.1.2⟩ ⟨hI.2.2.2.1.1, hI.2.2.2.1.2⟩ ⟨(hI.2.2.2.2.1 k hk).1, (hI.2.2.2.2.1 k hk).2⟩ (hI.2.2.2.2.2)
  obtain ⟨wX2, hX2, hP, hD⟩ : ∃ wX2 : va_W, XS G x xa tA a b ga ua la lb gA (upA tF j (tF j)) (upA tR j (tR j)) wX2 ∧ PP G (wX2 ++ mM G y bb f7 r7) H ∧ va_D (fun q => s.heap.size ≤ q) (wX2 ++ mM G y bb f7 r7) := ⟨_, hXn.1, hP xM_ad _ (perm_app hXn.2)⟩
  refine lv_pop hx hb dL_law_893 rfl ?_
  refine lv_aload_n hx hb dL_law_894 rfl (lv_at hl 2 rfl) ?_
  refine lv_aload_n hx hb dL_law_895 rfl (lv_at hl 0 rfl) ?_
  refine lv_iload_n hx hb dL_law_896 rfl (lv_at hl 3 rfl) ?_
  refine lv_iconst (v := 1) hx hb dL_law_897 (by decide) ?_
  refine lv_iadd hx hb dL_law_898 ?_
  refine lv_topi (fun v4 ev4 => ?_)
  obtain rfl : v4 = nI (n + 1) := nI_plus ev4 rfl rfl
  refine xsld ((n + 1)) hx hb hXs hbl hbA hS rfl (by omega) (by omega) dL_law_899 ?_
  refine lv_aload_n hx hb dL_law_900 rfl (lv_at hl 0 rfl) ?_
  refine lv_iload_n hx hb dL_law_901 rfl (lv_at hl 3 rfl) ?_
  refine lv_iconst (v := 2) hx hb dL_law_902 (by decide) ?_
  refine lv_iadd hx hb dL_law_903 ?_
  refine lv_topi (fun v5 ev5 => ?_)
  obtain rfl : v5 = nI (n + 2) := nI_plus ev5 rfl rfl
  refine xsld ((n + 2)) hx hb hXs hbl hbA hS rfl (by omega) (by omega) dL_law_904 ?_
  refine lawI (rest := []) (q0 := 0) ⟨hx, hb, hml, hown, hts⟩ (m_X7_sound l G y bb f7 r7 (xs ((n + 1))) (xs ((n + 2))) hMi.1 hMi.2.1 hMi.2.2.1) mi_yX7_sound mv_yX7_sound ml_L_85 ⟨rfl, rfl, Nat.le_of_ble_eq_true rfl, Nat.le_of_ble_eq_true rfl⟩ hK hP hD List.perm_append_comm rfl rfl rfl hl.1 rfl (Nat.le_of_ble_eq_true rfl) dL_law_905 ⟨Nat.le_of_ble_eq_true rfl, Nat.le_of_ble_eq_true rfl⟩ hS hA (fun r6 w H locs hw hP hS => ?_)
  obtain ⟨m_f_0, rfl, hrem⟩ := hw
  have hM2 : MS G y bb r7 (mM G y bb (upd f7 0 m_f_0) r7) := ⟨(upd f7 0 m_f_0), ⟨hMi.1, hMi.2.1, hMi.2.2.1, hMi.2.2.2.1, hMi.2.2.2.2.1, hMi.2.2.2.2.2.1, hMi.2.2.2.2.2.2.1, hMi.2.2.2.2.2.2.2.1, hMi.2.2.2.2.2.2.2.2.1, hMi.2.2.2.2.2.2.2.2.2.1, hMi.2.2.2.2.2.2.2.2.2.2⟩, rfl⟩
  obtain ⟨hP, hD⟩ := hP mM_ad (wX2 ++ mM G y bb (upd f7 0 m_f_0) r7) List.perm_append_comm
  refine lv_pop hx hb dL_law_908 rfl ?_
  refine lv_goto (tgt := 1654) hx hb dL_law_909 (by decide) ?_
  have hJ2 : (JT (upA tF j (tF j)) (upA tR j (tR j)) r7 ∧ JC (upA tF j (tF j)) (upA tR j (tR j)) r7) := ⟨JT_of hJ (hJ j hj) (fun _ _ => TO_0), JC_of hC (hC j hj) LQ_0⟩
  exact fin _ _ _ _ _ _ _ _ hX2 hM2 hJ2 hP hD hS (lv_sub hl [0, 1, 2, 3] rfl)
set_option maxHeartbeats 4000000 in
set_option maxRecDepth 100000 in
theorem law_c16 {p : Program} {l : Launch} {e : Env} {s : State} {m : MethodId} {below : List Frame} {meth : Method} {c : Code} {b_ L n : Nat} {xs : Nat → Int32} (C0 : lw_At p s m meth c b_ L xs) (hL : L ≤ 3072) (hn6 : n + 6 ≤ L) {G : GG} (hK : KK G s) (hT : ST (fun q => s.heap.size ≤ q) s s.heap) {x : Nat} {xa : Nat → Nat} {tA : Nat → Nat → Nat} {a b ga ua la lb : Nat → Nat} {gA : Nat → Nat → Nat} {y : Nat} {bb : Nat → Nat} {tF : Nat → Nat → Int32} {tR : Nat → Nat → Nat → Int32} {r7 : Nat → Nat → Int32} {wX wM : va_W} (hX : XS G x xa tA a b ga ua la lb gA tF tR wX) (hM : MS G y bb r7 wM) (hJ : (JT tF tR r7 ∧ JC tF tR r7)) {H : Heap} {locs : List Loc} {ls : Array Slot} (hP : PP G (wX ++ wM) H) (hD : va_D (fun q => s.heap.size ≤ q) (wX ++ wM)) (hS : va_S (fun q => s.heap.size ≤ q) s.heap H locs) (hl : lv_has ls 4 [(0, .ref b_), (1, .ref x), (2, .ref y), (3, .int (nI n))]) (fin : ∀ (tF2 : Nat → Nat → Int32) (tR2 : Nat → Nat → Nat → Int32) (r2 : Nat → Nat → Int32) (wX2 wM2 : va_W) (H : Heap) (locs : List Loc) (ls : Array Slot), XS G x xa tA a b ga ua la lb gA tF2 tR2 wX2 → MS G y bb r2 wM2 → (JT tF2 tR2 r2 ∧ JC tF2 tR2 r2) → PP G (wX2 ++ wM2) H → va_D (fun q => s.heap.size ≤ q) (wX2 ++ wM2) → va_S (fun q => s.heap.size ≤ q) s.heap H locs → lv_has ls 4 [(0, .ref b_), (1, .ref x), (2, .ref y), (3, .int (nI n))] → W p l e room_1 s m #[Value.ref b_] below meth c H locs 160 27087 (lw_Z below #[Value.ref b_] s) (F0 m 1654 ls [])) : W p l e room_1 s m #[Value.ref b_] below meth c H locs 160 27087 (lw_Z below #[Value.ref b_] s) (F0 m 912 ls []) := by
  obtain ⟨hx, hb, hr, hml, hown, hts0, hXs, hbl, hlocks, hgv⟩ := id C0
  have hts : ∀ w ∈ TB, w.before #[Value.ref b_] s = true := fun w h => hts0 w (List.mem_filter.mp h).1
  have hown : s.vm.findClass RL = some m.cls := hown
  have hA : ∀ q : Nat, s.heap.size ≤ q → (fun q => s.heap.size ≤ q) q := fun _ h => h
  have hbA : ¬ (fun q => s.heap.size ≤ q) b_ := Nat.not_le.mpr hbl
  obtain ⟨xf, f, qf, gf, uf, lf, mf, r, q, gr, ur, lr, mr, nF, nR, hI, rfl⟩ := hX
  obtain ⟨f7, hMi, rfl⟩ := hM
  obtain ⟨hJ, hC⟩ := hJ
  refine lv_aload_n hx hb dL_law_912 rfl (lv_at hl 1 rfl) ?_
  refine lv_aload_n hx hb dL_law_913 rfl (lv_at hl 0 rfl) ?_
  refine lv_iload_n hx hb dL_law_914 rfl (lv_at hl 3 rfl) ?_
  refine lv_iconst (v := 1) hx hb dL_law_915 (by decide) ?_
  refine lv_iadd hx hb dL_law_916 ?_
  refine lv_topi (fun v1 ev1 => ?_)
  obtain rfl : v1 = nI (n + 1) := nI_plus ev1 rfl rfl
  refine xsld ((n + 1)) hx hb hXs hbl hbA hS rfl (by omega) (by omega) dL_law_917 ?_
  refine lv_aload_n hx hb dL_law_918 rfl (lv_at hl 0 rfl) ?_
  refine lv_iload_n hx hb dL_law_919 rfl (lv_at hl 3 rfl) ?_
  refine lv_iconst (v := 2) hx hb dL_law_920 (by decide) ?_
  refine lv_iadd hx hb dL_law_921 ?_
  refine lv_topi (fun v2 ev2 => ?_)
  obtain rfl : v2 = nI (n + 2) := nI_plus ev2 rfl rfl
  refine xsld ((n + 2)) hx hb hXs hbl hbA hS rfl (by omega) (by omega) dL_law_922 ?_
  obtain ⟨j, hj, hjt⟩ := tbJ_ex (xs ((n + 1)))
  obtain ⟨k, hk⟩ : ∃ k, k < 16 := ⟨0, by decide⟩
  refine lawI (rest := []) (q0 := 0) ⟨hx, hb, hml, hown, hts⟩ (x_sum l G x xa (tA j) a b ga ua la lb (gA k) (rfn tA 6) (rfn gA 16) xf (tF j) f qf gf uf lf mf (nF k) (tR j) r q gr ur lr mr (nR k) (xs ((n + 1))) (xs ((n + 2))) j hj hjt (if_pos hj) ((hI.1 j hj).1) ((hI.1 j hj).2.1) ((hI.1 j hj).2.2.1) ((hI.1 j hj).2.2.2)) mi_yX6_sum mv_yX6_sum ml_L_86 ⟨rfl, rfl, Nat.le_of_ble_eq_true rfl, Nat.le_of_ble_eq_true rfl⟩ hK hP hD (perm_app (xf_perm G x xa tA a b ga ua la lb gA xf f qf gf uf lf mf r q gr ur lr mr tF tR nF nR hj hk)) rfl rfl rfl hl.1 rfl (Nat.le_of_ble_eq_true rfl) dL_law_923 ⟨Nat.le_of_ble_eq_true rfl, Nat.le_of_ble_eq_true rfl⟩ hS hA (fun r3 w H locs hw hP hS => ?_)
  obtain ⟨n_xf_0, rfl, hres⟩ := hw
  have hXn := XS_back (tF := tF) (tR := tR) (nF := nF) (nR := nR) (x := x) (xa := xa) (tA := tA) (a := a) (b := b) (ga := ga) (ua := ua) (la := la) (lb := lb) (gA := gA) (xf := xf) (f := f) (qf := qf) (gf := gf) (uf := uf) (lf := lf) (mf := mf) (r := r) (q := q) (gr := gr) (ur := ur) (lr := lr) (mr := mr) (G := G) hI hj hk (upd xf 0 n_xf_0) (tF j) f qf gf uf lf mf (nF k) (tR j) r q gr ur lr mr (nR k) ⟨(hI.1 j hj).1, (hI.1 j hj).2.1, (hI.1 j hj).2.2.1, (hI.1 j hj).2.2.2⟩ hI.2.1 ⟨hI.2.2.1.1, hI.2.2.1.2⟩ ⟨hI.2.2.2.1.1, hI.2.2.2.1.2⟩ ⟨(hI.2.2.2.2.1 k hk).1, (hI.2.2.2.2.1 k hk).2⟩ (hI.2.2.2.2.2)
  obtain ⟨wX2, hX2, hP, hD⟩ : ∃ wX2 : va_W, XS G x xa tA a b ga ua la lb gA (upA tF j (tF j)) (upA tR j (tR j)) wX2 ∧ PP G (wX2 ++ mM G y bb f7 r7) H ∧ va_D (fun q => s.heap.size ≤ q) (wX2 ++ mM G y bb f7 r7) := ⟨_, hXn.1, hP xM_ad _ (perm_app hXn.2)⟩
  refine lv_pop hx hb dL_law_926 rfl ?_
  refine lv_aload_n hx hb dL_law_927 rfl (lv_at hl 2 rfl) ?_
  refine lv_aload_n hx hb dL_law_928 rfl (lv_at hl 0 rfl) ?_
  refine lv_iload_n hx hb dL_law_929 rfl (lv_at hl 3 rfl) ?_
  refine lv_iconst (v := 1) hx hb dL_law_930 (by decide) ?_
  refine lv_iadd hx hb dL_law_931 ?_
  refine lv_topi (fun v4 ev4 => ?_)
  obtain rfl : v4 = nI (n + 1) := nI_plus ev4 rfl rfl
  refine xsld ((n + 1)) hx hb hXs hbl hbA hS rfl (by omega) (by omega) dL_law_932 ?_
  refine lv_aload_n hx hb dL_law_933 rfl (lv_at hl 0 rfl) ?_
  refine lv_iload_n hx hb dL_law_934 rfl (lv_at hl 3 rfl) ?_
  refine lv_iconst (v := 2) hx hb dL_law_935 (by decide) ?_
  refine lv_iadd hx hb dL_law_936 ?_
  refine lv_topi (fun v5 ev5 => ?_)
  obtain rfl : v5 = nI (n + 2) := nI_plus ev5 rfl rfl
  refine xsld ((n + 2)) hx hb hXs hbl hbA hS rfl (by omega) (by omega) dL_law_937 ?_
  refine lawI (rest := []) (q0 := 0) ⟨hx, hb, hml, hown, hts⟩ (m_X7_sum l G y bb f7 r7 (xs ((n + 1))) (xs ((n + 2))) hMi.1 hMi.2.1 hMi.2.2.1) mi_yX7_sum mv_yX7_sum ml_L_89 ⟨rfl, rfl, Nat.le_of_ble_eq_true rfl, Nat.le_of_ble_eq_true rfl⟩ hK hP hD List.perm_append_comm rfl rfl rfl hl.1 rfl (Nat.le_of_ble_eq_true rfl) dL_law_938 ⟨Nat.le_of_ble_eq_true rfl, Nat.le_of_ble_eq_true rfl⟩ hS hA (fun r6 w H locs hw hP hS => ?_)
  obtain ⟨m_f_0, rfl, hrem⟩ := hw
  have hM2 : MS G y bb r7 (mM G y bb (upd f7 0 m_f_0) r7) := ⟨(upd f7 0 m_f_0), ⟨hMi.1, hMi.2.1, hMi.2.2.1, hMi.2.2.2.1, hMi.2.2.2.2.1, hMi.2.2.2.2.2.1, hMi.2.2.2.2.2.2.1, hMi.2.2.2.2.2.2.2.1, hMi.2.2.2.2.2.2.2.2.1, hMi.2.2.2.2.2.2.2.2.2.1, hMi.2.2.2.2.2.2.2.2.2.2⟩, rfl⟩
  obtain ⟨hP, hD⟩ := hP mM_ad (wX2 ++ mM G y bb (upd f7 0 m_f_0) r7) List.perm_append_comm
  refine lv_pop hx hb dL_law_941 rfl ?_
  refine lv_goto (tgt := 1654) hx hb dL_law_942 (by decide) ?_
  have hJ2 : (JT (upA tF j (tF j)) (upA tR j (tR j)) r7 ∧ JC (upA tF j (tF j)) (upA tR j (tR j)) r7) := ⟨JT_of hJ (hJ j hj) (fun _ _ => TO_0), JC_of hC (hC j hj) LQ_0⟩
  exact fin _ _ _ _ _ _ _ _ hX2 hM2 hJ2 hP hD hS (lv_sub hl [0, 1, 2, 3] rfl)
set_option maxHeartbeats 4000000 in
set_option maxRecDepth 100000 in
theorem law_c17 {p : Program} {l : Launch} {e : Env} {s : State} {m : MethodId} {below : List Frame} {meth : Method} {c : Code} {b_ L n : Nat} {xs : Nat → Int32} (C0 : lw_At p s m meth c b_ L xs) (hL : L ≤ 3072) (hn6 : n + 6 ≤ L) {G : GG} (hK : KK G s) (hT : ST (fun q => s.heap.size ≤ q) s s.heap) {x : Nat} {xa : Nat → Nat} {tA : Nat → Nat → Nat} {a b ga ua la lb : Nat → Nat} {gA : Nat → Nat → Nat} {y : Nat} {bb : Nat → Nat} {tF : Nat → Nat → Int32} {tR : Nat → Nat → Nat → Int32} {r7 : Nat → Nat → Int32} {wX wM : va_W} (hX : XS G x xa tA a b ga ua la lb gA tF tR wX) (hM : MS G y bb r7 wM) (hJ : (JT tF tR r7 ∧ JC tF tR r7)) {H : Heap} {locs : List Loc} {ls : Array Slot} (hP : PP G (wX ++ wM) H) (hD : va_D (fun q => s.heap.size ≤ q) (wX ++ wM)) (hS : va_S (fun q => s.heap.size ≤ q) s.heap H locs) (hl : lv_has ls 4 [(0, .ref b_), (1, .ref x), (2, .ref y), (3, .int (nI n))]) (fin : ∀ (tF2 : Nat → Nat → Int32) (tR2 : Nat → Nat → Nat → Int32) (r2 : Nat → Nat → Int32) (wX2 wM2 : va_W) (H : Heap) (locs : List Loc) (ls : Array Slot), XS G x xa tA a b ga ua la lb gA tF2 tR2 wX2 → MS G y bb r2 wM2 → (JT tF2 tR2 r2 ∧ JC tF2 tR2 r2) → PP G (wX2 ++ wM2) H → va_D (fun q => s.heap.size ≤ q) (wX2 ++ wM2) → va_S (fun q => s.heap.size ≤ q) s.heap H locs → lv_has ls 4 [(0, .ref b_), (1, .ref x), (2, .ref y), (3, .int (nI n))] → W p l e room_1 s m #[Value.ref b_] below meth c H locs 160 27087 (lw_Z below #[Value.ref b_] s) (F0 m 1654 ls [])) : W p l e room_1 s m #[Value.ref b_] below meth c H locs 160 27087 (lw_Z below #[Value.ref b_] s) (F0 m 945 ls []) := by
  obtain ⟨hx, hb, hr, hml, hown, hts0, hXs, hbl, hlocks, hgv⟩ := id C0
  have hts : ∀ w ∈ TB, w.before #[Value.ref b_] s = true := fun w h => hts0 w (List.mem_filter.mp h).1
  have hown : s.vm.findClass RL = some m.cls := hown
  have hA : ∀ q : Nat, s.heap.size ≤ q → (fun q => s.heap.size ≤ q) q := fun _ h => h
  have hbA : ¬ (fun q => s.heap.size ≤ q) b_ := Nat.not_le.mpr hbl
  obtain ⟨xf, f, qf, gf, uf, lf, mf, r, q, gr, ur, lr, mr, nF, nR, hI, rfl⟩ := hX
  obtain ⟨f7, hMi, rfl⟩ := hM
  obtain ⟨hJ, hC⟩ := hJ
  refine lv_aload_n hx hb dL_law_945 rfl (lv_at hl 1 rfl) ?_
  refine lv_aload_n hx hb dL_law_946 rfl (lv_at hl 0 rfl) ?_
  refine lv_iload_n hx hb dL_law_947 rfl (lv_at hl 3 rfl) ?_
  refine lv_iconst (v := 1) hx hb dL_law_948 (by decide) ?_
  refine lv_iadd hx hb dL_law_949 ?_
  refine lv_topi (fun v1 ev1 => ?_)
  obtain rfl : v1 = nI (n + 1) := nI_plus ev1 rfl rfl
  refine xsld ((n + 1)) hx hb hXs hbl hbA hS rfl (by omega) (by omega) dL_law_950 ?_
  refine lv_aload_n hx hb dL_law_951 rfl (lv_at hl 0 rfl) ?_
  refine lv_iload_n hx hb dL_law_952 rfl (lv_at hl 3 rfl) ?_
  refine lv_iconst (v := 2) hx hb dL_law_953 (by decide) ?_
  refine lv_iadd hx hb dL_law_954 ?_
  refine lv_topi (fun v2 ev2 => ?_)
  obtain rfl : v2 = nI (n + 2) := nI_plus ev2 rfl rfl
  refine xsld ((n + 2)) hx hb hXs hbl hbA hS rfl (by omega) (by omega) dL_law_955 ?_
  refine lv_aload_n hx hb dL_law_956 rfl (lv_at hl 0 rfl) ?_
  refine lv_iload_n hx hb dL_law_957 rfl (lv_at hl 3 rfl) ?_
  refine lv_iconst (v := 3) hx hb dL_law_958 (by decide) ?_
  refine lv_iadd hx hb dL_law_959 ?_
  refine lv_topi (fun v3 ev3 => ?_)
  obtain rfl : v3 = nI (n + 3) := nI_plus ev3 rfl rfl
  refine xsld ((n + 3)) hx hb hXs hbl hbA hS rfl (by omega) (by omega) dL_law_960 ?_
  obtain ⟨j, hj, hjt⟩ := tbJ_ex (xs ((n + 1)))
  obtain ⟨k, hk⟩ : ∃ k, k < 16 := ⟨0, by decide⟩
  refine lawI (rest := []) (q0 := 0) ⟨hx, hb, hml, hown, hts⟩ (x_total l G x xa (tA j) a b ga ua la lb (gA k) (rfn tA 6) (rfn gA 16) xf (tF j) f qf gf uf lf mf (nF k) (tR j) r q gr ur lr mr (nR k) (xs ((n + 1))) (xs ((n + 2))) (xs ((n + 3))) j hj hjt (if_pos hj) ((hI.1 j hj).1) ((hI.1 j hj).2.1) ((hI.1 j hj).2.2.1) ((hI.1 j hj).2.2.2)) mi_yX6_total mv_yX6_total ml_L_90 ⟨rfl, rfl, Nat.le_of_ble_eq_true rfl, Nat.le_of_ble_eq_true rfl⟩ hK hP hD (perm_app (xf_perm G x xa tA a b ga ua la lb gA xf f qf gf uf lf mf r q gr ur lr mr tF tR nF nR hj hk)) rfl rfl rfl hl.1 rfl (Nat.le_of_ble_eq_true rfl) dL_law_961 ⟨Nat.le_of_ble_eq_true rfl, Nat.le_of_ble_eq_true rfl⟩ hS hA (fun r4 w H locs hw hP hS => ?_)
  obtain ⟨n_xf_0, rfl, hres⟩ := hw
  have hXn := XS_back (tF := tF) (tR := tR) (nF := nF) (nR := nR) (x := x) (xa := xa) (tA := tA) (a := a) (b := b) (ga := ga) (ua := ua) (la := la) (lb := lb) (gA := gA) (xf := xf) (f := f) (qf := qf) (gf := gf) (uf := uf) (lf := lf) (mf := mf) (r := r) (q := q) (gr := gr) (ur := ur) (lr := lr) (mr := mr) (G := G) hI hj hk (upd xf 0 n_xf_0) (tF j) f qf gf uf lf mf (nF k) (tR j) r q gr ur lr mr (nR k) ⟨(hI.1 j hj).1, (hI.1 j hj).2.1, (hI.1 j hj).2.2.1, (hI.1 j hj).2.2.2⟩ hI.2.1 ⟨hI.2.2.1.1, hI.2.2.1.2⟩ ⟨hI.2.2.2.1.1, hI.2.2.2.1.2⟩ ⟨(hI.2.2.2.2.1 k hk).1, (hI.2.2.2.2.1 k hk).2⟩ (hI.2.2.2.2.2)
  obtain ⟨wX2, hX2, hP, hD⟩ : ∃ wX2 : va_W, XS G x xa tA a b ga ua la lb gA (upA tF j (tF j)) (upA tR j (tR j)) wX2 ∧ PP G (wX2 ++ mM G y bb f7 r7) H ∧ va_D (fun q => s.heap.size ≤ q) (wX2 ++ mM G y bb f7 r7) := ⟨_, hXn.1, hP xM_ad _ (perm_app hXn.2)⟩
  refine lv_pop hx hb dL_law_964 rfl ?_
  refine lv_aload_n hx hb dL_law_965 rfl (lv_at hl 2 rfl) ?_
  refine lv_aload_n hx hb dL_law_966 rfl (lv_at hl 0 rfl) ?_
  refine lv_iload_n hx hb dL_law_967 rfl (lv_at hl 3 rfl) ?_
  refine lv_iconst (v := 1) hx hb dL_law_968 (by decide) ?_
  refine lv_iadd hx hb dL_law_969 ?_
  refine lv_topi (fun v5 ev5 => ?_)
  obtain rfl : v5 = nI (n + 1) := nI_plus ev5 rfl rfl
  refine xsld ((n + 1)) hx hb hXs hbl hbA hS rfl (by omega) (by omega) dL_law_970 ?_
  refine lv_aload_n hx hb dL_law_971 rfl (lv_at hl 0 rfl) ?_
  refine lv_iload_n hx hb dL_law_972 rfl (lv_at hl 3 rfl) ?_
  refine lv_iconst (v := 2) hx hb dL_law_973 (by decide) ?_
  refine lv_iadd hx hb dL_law_974 ?_
  refine lv_topi (fun v6 ev6 => ?_)
  obtain rfl : v6 = nI (n + 2) := nI_plus ev6 rfl rfl
  refine xsld ((n + 2)) hx hb hXs hbl hbA hS rfl (by omega) (by omega) dL_law_975 ?_
  refine lv_aload_n hx hb dL_law_976 rfl (lv_at hl 0 rfl) ?_
  refine lv_iload_n hx hb dL_law_977 rfl (lv_at hl 3 rfl) ?_
  refine lv_iconst (v := 3) hx hb dL_law_978 (by decide) ?_
  refine lv_iadd hx hb dL_law_979 ?_
  refine lv_topi (fun v7 ev7 => ?_)
  obtain rfl : v7 = nI (n + 3) := nI_plus ev7 rfl rfl
  refine xsld ((n + 3)) hx hb hXs hbl hbA hS rfl (by omega) (by omega) dL_law_980 ?_
  refine lawI (rest := []) (q0 := 0) ⟨hx, hb, hml, hown, hts⟩ (m_X7_total l G y bb f7 r7 (xs ((n + 1))) (xs ((n + 2))) (xs ((n + 3))) hMi.1 hMi.2.1 hMi.2.2.1) mi_yX7_total mv_yX7_total ml_L_93 ⟨rfl, rfl, Nat.le_of_ble_eq_true rfl, Nat.le_of_ble_eq_true rfl⟩ hK hP hD List.perm_append_comm rfl rfl rfl hl.1 rfl (Nat.le_of_ble_eq_true rfl) dL_law_981 ⟨Nat.le_of_ble_eq_true rfl, Nat.le_of_ble_eq_true rfl⟩ hS hA (fun r8 w H locs hw hP hS => ?_)
  obtain ⟨m_f_0, rfl, hrem⟩ := hw
  have hM2 : MS G y bb r7 (mM G y bb (upd f7 0 m_f_0) r7) := ⟨(upd f7 0 m_f_0), ⟨hMi.1, hMi.2.1, hMi.2.2.1, hMi.2.2.2.1, hMi.2.2.2.2.1, hMi.2.2.2.2.2.1, hMi.2.2.2.2.2.2.1, hMi.2.2.2.2.2.2.2.1, hMi.2.2.2.2.2.2.2.2.1, hMi.2.2.2.2.2.2.2.2.2.1, hMi.2.2.2.2.2.2.2.2.2.2⟩, rfl⟩
  obtain ⟨hP, hD⟩ := hP mM_ad (wX2 ++ mM G y bb (upd f7 0 m_f_0) r7) List.perm_append_comm
  refine lv_pop hx hb dL_law_984 rfl ?_
  refine lv_goto (tgt := 1654) hx hb dL_law_985 (by decide) ?_
  have hJ2 : (JT (upA tF j (tF j)) (upA tR j (tR j)) r7 ∧ JC (upA tF j (tF j)) (upA tR j (tR j)) r7) := ⟨JT_of hJ (hJ j hj) (fun _ _ => TO_0), JC_of hC (hC j hj) LQ_0⟩
  exact fin _ _ _ _ _ _ _ _ hX2 hM2 hJ2 hP hD hS (lv_sub hl [0, 1, 2, 3] rfl)
set_option maxHeartbeats 4000000 in
set_option maxRecDepth 100000 in
theorem law_c18 {p : Program} {l : Launch} {e : Env} {s : State} {m : MethodId} {below : List Frame} {meth : Method} {c : Code} {b_ L n : Nat} {xs : Nat → Int32} (C0 : lw_At p s m meth c b_ L xs) (hL : L ≤ 3072) (hn6 : n + 6 ≤ L) {G : GG} (hK : KK G s) (hT : ST (fun q => s.heap.size ≤ q) s s.heap) {x : Nat} {xa : Nat → Nat} {tA : Nat → Nat → Nat} {a b ga ua la lb : Nat → Nat} {gA : Nat → Nat → Nat} {y : Nat} {bb : Nat → Nat} {tF : Nat → Nat → Int32} {tR : Nat → Nat → Nat → Int32} {r7 : Nat → Nat → Int32} {wX wM : va_W} (hX : XS G x xa tA a b ga ua la lb gA tF tR wX) (hM : MS G y bb r7 wM) (hJ : (JT tF tR r7 ∧ JC tF tR r7)) {H : Heap} {locs : List Loc} {ls : Array Slot} (hP : PP G (wX ++ wM) H) (hD : va_D (fun q => s.heap.size ≤ q) (wX ++ wM)) (hS : va_S (fun q => s.heap.size ≤ q) s.heap H locs) (hl : lv_has ls 4 [(0, .ref b_), (1, .ref x), (2, .ref y), (3, .int (nI n))]) (fin : ∀ (tF2 : Nat → Nat → Int32) (tR2 : Nat → Nat → Nat → Int32) (r2 : Nat → Nat → Int32) (wX2 wM2 : va_W) (H : Heap) (locs : List Loc) (ls : Array Slot), XS G x xa tA a b ga ua la lb gA tF2 tR2 wX2 → MS G y bb r2 wM2 → (JT tF2 tR2 r2 ∧ JC tF2 tR2 r2) → PP G (wX2 ++ wM2) H → va_D (fun q => s.heap.size ≤ q) (wX2 ++ wM2) → va_S (fun q => s.heap.size ≤ q) s.heap H locs → lv_has ls 4 [(0, .ref b_), (1, .ref x), (2, .ref y), (3, .int (nI n))] → W p l e room_1 s m #[Value.ref b_] below meth c H locs 160 27087 (lw_Z below #[Value.ref b_] s) (F0 m 1654 ls [])) : W p l e room_1 s m #[Value.ref b_] below meth c H locs 160 27087 (lw_Z below #[Value.ref b_] s) (F0 m 988 ls []) := by
  obtain ⟨hx, hb, hr, hml, hown, hts0, hXs, hbl, hlocks, hgv⟩ := id C0
  have hts : ∀ w ∈ TB, w.before #[Value.ref b_] s = true := fun w h => hts0 w (List.mem_filter.mp h).1
  have hown : s.vm.findClass RL = some m.cls := hown
  have hA : ∀ q : Nat, s.heap.size ≤ q → (fun q => s.heap.size ≤ q) q := fun _ h => h
  have hbA : ¬ (fun q => s.heap.size ≤ q) b_ := Nat.not_le.mpr hbl
  obtain ⟨xf, f, qf, gf, uf, lf, mf, r, q, gr, ur, lr, mr, nF, nR, hI, rfl⟩ := hX
  obtain ⟨f7, hMi, rfl⟩ := hM
  obtain ⟨hJ, hC⟩ := hJ
  refine lv_aload_n hx hb dL_law_988 rfl (lv_at hl 1 rfl) ?_
  refine lv_aload_n hx hb dL_law_989 rfl (lv_at hl 0 rfl) ?_
  refine lv_iload_n hx hb dL_law_990 rfl (lv_at hl 3 rfl) ?_
  refine lv_iconst (v := 1) hx hb dL_law_991 (by decide) ?_
  refine lv_iadd hx hb dL_law_992 ?_
  refine lv_topi (fun v1 ev1 => ?_)
  obtain rfl : v1 = nI (n + 1) := nI_plus ev1 rfl rfl
  refine xsld ((n + 1)) hx hb hXs hbl hbA hS rfl (by omega) (by omega) dL_law_993 ?_
  refine lv_aload_n hx hb dL_law_994 rfl (lv_at hl 0 rfl) ?_
  refine lv_iload_n hx hb dL_law_995 rfl (lv_at hl 3 rfl) ?_
  refine lv_iconst (v := 2) hx hb dL_law_996 (by decide) ?_
  refine lv_iadd hx hb dL_law_997 ?_
  refine lv_topi (fun v2 ev2 => ?_)
  obtain rfl : v2 = nI (n + 2) := nI_plus ev2 rfl rfl
  refine xsld ((n + 2)) hx hb hXs hbl hbA hS rfl (by omega) (by omega) dL_law_998 ?_
  refine lv_aload_n hx hb dL_law_999 rfl (lv_at hl 0 rfl) ?_
  refine lv_iload_n hx hb dL_law_1000 rfl (lv_at hl 3 rfl) ?_
  refine lv_iconst (v := 3) hx hb dL_law_1001 (by decide) ?_
  refine lv_iadd hx hb dL_law_1002 ?_
  refine lv_topi (fun v3 ev3 => ?_)
  obtain rfl : v3 = nI (n + 3) := nI_plus ev3 rfl rfl
  refine xsld ((n + 3)) hx hb hXs hbl hbA hS rfl (by omega) (by omega) dL_law_1003 ?_
  obtain ⟨j, hj, hjt⟩ := tbJ_ex (xs ((n + 1)))
  obtain ⟨k, hk⟩ : ∃ k, k < 16 := ⟨0, by decide⟩
  refine lawI (rest := []) (q0 := 0) ⟨hx, hb, hml, hown, hts⟩ (x_secret l G x xa (tA j) a b ga ua la lb (gA k) (rfn tA 6) (rfn gA 16) xf (tF j) f qf gf uf lf mf (nF k) (tR j) r q gr ur lr mr (nR k) (xs ((n + 1))) (xs ((n + 2))) (xs ((n + 3))) j hj hjt (if_pos hj) ((hI.1 j hj).1) ((hI.1 j hj).2.1) ((hI.1 j hj).2.2.1) ((hI.1 j hj).2.2.2)) mi_yX6_secret mv_yX6_secret ml_L_94 ⟨rfl, rfl, Nat.le_of_ble_eq_true rfl, Nat.le_of_ble_eq_true rfl⟩ hK hP hD (perm_app (xf_perm G x xa tA a b ga ua la lb gA xf f qf gf uf lf mf r q gr ur lr mr tF tR nF nR hj hk)) rfl rfl rfl hl.1 rfl (Nat.le_of_ble_eq_true rfl) dL_law_1004 ⟨Nat.le_of_ble_eq_true rfl, Nat.le_of_ble_eq_true rfl⟩ hS hA (fun r4 w H locs hw hP hS => ?_)
  obtain ⟨n_xf_0, rfl, hres⟩ := hw
  have hXn := XS_back (tF := tF) (tR := tR) (nF := nF) (nR := nR) (x := x) (xa := xa) (tA := tA) (a := a) (b := b) (ga := ga) (ua := ua) (la := la) (lb := lb) (gA := gA) (xf := xf) (f := f) (qf := qf) (gf := gf) (uf := uf) (lf := lf) (mf := mf) (r := r) (q := q) (gr := gr) (ur := ur) (lr := lr) (mr := mr) (G := G) hI hj hk (upd xf 0 n_xf_0) (tF j) f qf gf uf lf mf (nF k) (tR j) r q gr ur lr mr (nR k) ⟨(hI.1 j hj).1, (hI.1 j hj).2.1, (hI.1 j hj).2.2.1, (hI.1 j hj).2.2.2⟩ hI.2.1 ⟨hI.2.2.1.1, hI.2.2.1.2⟩ ⟨hI.2.2.2.1.1, hI.2.2.2.1.2⟩ ⟨(hI.2.2.2.2.1 k hk).1, (hI.2.2.2.2.1 k hk).2⟩ (hI.2.2.2.2.2)
  obtain ⟨wX2, hX2, hP, hD⟩ : ∃ wX2 : va_W, XS G x xa tA a b ga ua la lb gA (upA tF j (tF j)) (upA tR j (tR j)) wX2 ∧ PP G (wX2 ++ mM G y bb f7 r7) H ∧ va_D (fun q => s.heap.size ≤ q) (wX2 ++ mM G y bb f7 r7) := ⟨_, hXn.1, hP xM_ad _ (perm_app hXn.2)⟩
  refine lv_pop hx hb dL_law_1007 rfl ?_
  refine lv_aload_n hx hb dL_law_1008 rfl (lv_at hl 2 rfl) ?_
  refine lv_aload_n hx hb dL_law_1009 rfl (lv_at hl 0 rfl) ?_
  refine lv_iload_n hx hb dL_law_1010 rfl (lv_at hl 3 rfl) ?_
  refine lv_iconst (v := 1) hx hb dL_law_1011 (by decide) ?_
  refine lv_iadd hx hb dL_law_1012 ?_
  refine lv_topi (fun v5 ev5 => ?_)
  obtain rfl : v5 = nI (n + 1) := nI_plus ev5 rfl rfl
  refine xsld ((n + 1)) hx hb hXs hbl hbA hS rfl (by omega) (by omega) dL_law_1013 ?_
  refine lv_aload_n hx hb dL_law_1014 rfl (lv_at hl 0 rfl) ?_
  refine lv_iload_n hx hb dL_law_1015 rfl (lv_at hl 3 rfl) ?_
  refine lv_iconst (v := 2) hx hb dL_law_1016 (by decide) ?_
  refine lv_iadd hx hb dL_law_1017 ?_
  refine lv_topi (fun v6 ev6 => ?_)
  obtain rfl : v6 = nI (n + 2) := nI_plus ev6 rfl rfl
  refine xsld ((n + 2)) hx hb hXs hbl hbA hS rfl (by omega) (by omega) dL_law_1018 ?_
  refine lv_aload_n hx hb dL_law_1019 rfl (lv_at hl 0 rfl) ?_
  refine lv_iload_n hx hb dL_law_1020 rfl (lv_at hl 3 rfl) ?_
  refine lv_iconst (v := 3) hx hb dL_law_1021 (by decide) ?_
  refine lv_iadd hx hb dL_law_1022 ?_
  refine lv_topi (fun v7 ev7 => ?_)
  obtain rfl : v7 = nI (n + 3) := nI_plus ev7 rfl rfl
  refine xsld ((n + 3)) hx hb hXs hbl hbA hS rfl (by omega) (by omega) dL_law_1023 ?_
  refine lawI (rest := []) (q0 := 0) ⟨hx, hb, hml, hown, hts⟩ (m_X7_secret l G y bb f7 r7 (xs ((n + 1))) (xs ((n + 2))) (xs ((n + 3))) hMi.1 hMi.2.1 hMi.2.2.1 hMi.2.2.2.1) mi_yX7_secret mv_yX7_secret ml_L_97 ⟨rfl, rfl, Nat.le_of_ble_eq_true rfl, Nat.le_of_ble_eq_true rfl⟩ hK hP hD List.perm_append_comm rfl rfl rfl hl.1 rfl (Nat.le_of_ble_eq_true rfl) dL_law_1024 ⟨Nat.le_of_ble_eq_true rfl, Nat.le_of_ble_eq_true rfl⟩ hS hA (fun r8 w H locs hw hP hS => ?_)
  obtain ⟨m_f_0, rfl, hrem⟩ := hw
  have hM2 : MS G y bb r7 (mM G y bb (upd f7 0 m_f_0) r7) := ⟨(upd f7 0 m_f_0), ⟨hMi.1, hMi.2.1, hMi.2.2.1, hMi.2.2.2.1, hMi.2.2.2.2.1, hMi.2.2.2.2.2.1, hMi.2.2.2.2.2.2.1, hMi.2.2.2.2.2.2.2.1, hMi.2.2.2.2.2.2.2.2.1, hMi.2.2.2.2.2.2.2.2.2.1, hMi.2.2.2.2.2.2.2.2.2.2⟩, rfl⟩
  obtain ⟨hP, hD⟩ := hP mM_ad (wX2 ++ mM G y bb (upd f7 0 m_f_0) r7) List.perm_append_comm
  refine lv_pop hx hb dL_law_1027 rfl ?_
  refine lv_goto (tgt := 1654) hx hb dL_law_1028 (by decide) ?_
  have hJ2 : (JT (upA tF j (tF j)) (upA tR j (tR j)) r7 ∧ JC (upA tF j (tF j)) (upA tR j (tR j)) r7) := ⟨JT_of hJ (hJ j hj) (fun _ _ => TO_0), JC_of hC (hC j hj) LQ_0⟩
  exact fin _ _ _ _ _ _ _ _ hX2 hM2 hJ2 hP hD hS (lv_sub hl [0, 1, 2, 3] rfl)
set_option maxHeartbeats 4000000 in
set_option maxRecDepth 100000 in
theorem law_c19 {p : Program} {l : Launch} {e : Env} {s : State} {m : MethodId} {below : List Frame} {meth : Method} {c : Code} {b_ L n : Nat} {xs : Nat → Int32} (C0 : lw_At p s m meth c b_ L xs) (hL : L ≤ 3072) (hn6 : n + 6 ≤ L) {G : GG} (hK : KK G s) (hT : ST (fun q => s.heap.size ≤ q) s s.heap) {x : Nat} {xa : Nat → Nat} {tA : Nat → Nat → Nat} {a b ga ua la lb : Nat → Nat} {gA : Nat → Nat → Nat} {y : Nat} {bb : Nat → Nat} {tF : Nat → Nat → Int32} {tR : Nat → Nat → Nat → Int32} {r7 : Nat → Nat → Int32} {wX wM : va_W} (hX : XS G x xa tA a b ga ua la lb gA tF tR wX) (hM : MS G y bb r7 wM) (hJ : (JT tF tR r7 ∧ JC tF tR r7)) {H : Heap} {locs : List Loc} {ls : Array Slot} (hP : PP G (wX ++ wM) H) (hD : va_D (fun q => s.heap.size ≤ q) (wX ++ wM)) (hS : va_S (fun q => s.heap.size ≤ q) s.heap H locs) (hl : lv_has ls 4 [(0, .ref b_), (1, .ref x), (2, .ref y), (3, .int (nI n))]) (fin : ∀ (tF2 : Nat → Nat → Int32) (tR2 : Nat → Nat → Nat → Int32) (r2 : Nat → Nat → Int32) (wX2 wM2 : va_W) (H : Heap) (locs : List Loc) (ls : Array Slot), XS G x xa tA a b ga ua la lb gA tF2 tR2 wX2 → MS G y bb r2 wM2 → (JT tF2 tR2 r2 ∧ JC tF2 tR2 r2) → PP G (wX2 ++ wM2) H → va_D (fun q => s.heap.size ≤ q) (wX2 ++ wM2) → va_S (fun q => s.heap.size ≤ q) s.heap H locs → lv_has ls 4 [(0, .ref b_), (1, .ref x), (2, .ref y), (3, .int (nI n))] → W p l e room_1 s m #[Value.ref b_] below meth c H locs 160 27087 (lw_Z below #[Value.ref b_] s) (F0 m 1654 ls [])) : W p l e room_1 s m #[Value.ref b_] below meth c H locs 160 27087 (lw_Z below #[Value.ref b_] s) (F0 m 1031 ls []) := by
  obtain ⟨hx, hb, hr, hml, hown, hts0, hXs, hbl, hlocks, hgv⟩ := id C0
  have hts : ∀ w ∈ TB, w.before #[Value.ref b_] s = true := fun w h => hts0 w (List.mem_filter.mp h).1
  have hown : s.vm.findClass RL = some m.cls := hown
  have hA : ∀ q : Nat, s.heap.size ≤ q → (fun q => s.heap.size ≤ q) q := fun _ h => h
  have hbA : ¬ (fun q => s.heap.size ≤ q) b_ := Nat.not_le.mpr hbl
  obtain ⟨xf, f, qf, gf, uf, lf, mf, r, q, gr, ur, lr, mr, nF, nR, hI, rfl⟩ := hX
  obtain ⟨f7, hMi, rfl⟩ := hM
  obtain ⟨hJ, hC⟩ := hJ
  refine lv_aload_n hx hb dL_law_1031 rfl (lv_at hl 1 rfl) ?_
  refine lv_aload_n hx hb dL_law_1032 rfl (lv_at hl 0 rfl) ?_
  refine lv_iload_n hx hb dL_law_1033 rfl (lv_at hl 3 rfl) ?_
  refine lv_iconst (v := 1) hx hb dL_law_1034 (by decide) ?_
  refine lv_iadd hx hb dL_law_1035 ?_
  refine lv_topi (fun v1 ev1 => ?_)
  obtain rfl : v1 = nI (n + 1) := nI_plus ev1 rfl rfl
  refine xsld ((n + 1)) hx hb hXs hbl hbA hS rfl (by omega) (by omega) dL_law_1036 ?_
  refine lv_aload_n hx hb dL_law_1037 rfl (lv_at hl 0 rfl) ?_
  refine lv_iload_n hx hb dL_law_1038 rfl (lv_at hl 3 rfl) ?_
  refine lv_iconst (v := 2) hx hb dL_law_1039 (by decide) ?_
  refine lv_iadd hx hb dL_law_1040 ?_
  refine lv_topi (fun v2 ev2 => ?_)
  obtain rfl : v2 = nI (n + 2) := nI_plus ev2 rfl rfl
  refine xsld ((n + 2)) hx hb hXs hbl hbA hS rfl (by omega) (by omega) dL_law_1041 ?_
  refine lv_aload_n hx hb dL_law_1042 rfl (lv_at hl 0 rfl) ?_
  refine lv_iload_n hx hb dL_law_1043 rfl (lv_at hl 3 rfl) ?_
  refine lv_iconst (v := 3) hx hb dL_law_1044 (by decide) ?_
  refine lv_iadd hx hb dL_law_1045 ?_
  refine lv_topi (fun v3 ev3 => ?_)
  obtain rfl : v3 = nI (n + 3) := nI_plus ev3 rfl rfl
  refine xsld ((n + 3)) hx hb hXs hbl hbA hS rfl (by omega) (by omega) dL_law_1046 ?_
  obtain ⟨j, hj, hjt⟩ := tbJ_ex (xs ((n + 1)))
  obtain ⟨k, hk⟩ : ∃ k, k < 16 := ⟨0, by decide⟩
  refine lawI (rest := []) (q0 := 0) ⟨hx, hb, hml, hown, hts⟩ (x_kept l G x xa (tA j) a b ga ua la lb (gA k) (rfn tA 6) (rfn gA 16) xf (tF j) f qf gf uf lf mf (nF k) (tR j) r q gr ur lr mr (nR k) (xs ((n + 1))) (xs ((n + 2))) (xs ((n + 3))) j hj hjt (if_pos hj) ((hI.1 j hj).1) ((hI.1 j hj).2.1) ((hI.1 j hj).2.2.1) ((hI.1 j hj).2.2.2)) mi_yX6_kept mv_yX6_kept ml_L_98 ⟨rfl, rfl, Nat.le_of_ble_eq_true rfl, Nat.le_of_ble_eq_true rfl⟩ hK hP hD (perm_app (xf_perm G x xa tA a b ga ua la lb gA xf f qf gf uf lf mf r q gr ur lr mr tF tR nF nR hj hk)) rfl rfl rfl hl.1 rfl (Nat.le_of_ble_eq_true rfl) dL_law_1047 ⟨Nat.le_of_ble_eq_true rfl, Nat.le_of_ble_eq_true rfl⟩ hS hA (fun r4 w H locs hw hP hS => ?_)
  obtain ⟨n_xf_0, rfl⟩ := hw
  have hXn := XS_back (tF := tF) (tR := tR) (nF := nF) (nR := nR) (x := x) (xa := xa) (tA := tA) (a := a) (b := b) (ga := ga) (ua := ua) (la := la) (lb := lb) (gA := gA) (xf := xf) (f := f) (qf := qf) (gf := gf) (uf := uf) (lf := lf) (mf := mf) (r := r) (q := q) (gr := gr) (ur := ur) (lr := lr) (mr := mr) (G := G) hI hj hk (upd xf 0 n_xf_0) (tF j) f qf gf uf lf mf (nF k) (tR j) r q gr ur lr mr (nR k) ⟨(hI.1 j hj).1, (hI.1 j hj).2.1, (hI.1 j hj).2.2.1, (hI.1 j hj).2.2.2⟩ hI.2.1 ⟨hI.2.2.1.1, hI.2.2.1.2⟩ ⟨hI.2.2.2.1.1, hI.2.2.2.1.2⟩ ⟨(hI.2.2.2.2.1 k hk).1, (hI.2.2.2.2.1 k hk).2⟩ (hI.2.2.2.2.2)
  obtain ⟨wX2, hX2, hP, hD⟩ : ∃ wX2 : va_W, XS G x xa tA a b ga ua la lb gA (upA tF j (tF j)) (upA tR j (tR j)) wX2 ∧ PP G (wX2 ++ mM G y bb f7 r7) H ∧ va_D (fun q => s.heap.size ≤ q) (wX2 ++ mM G y bb f7 r7) := ⟨_, hXn.1, hP xM_ad _ (perm_app hXn.2)⟩
  refine lv_pop hx hb dL_law_1050 rfl ?_
  refine lv_aload_n hx hb dL_law_1051 rfl (lv_at hl 2 rfl) ?_
  refine lv_aload_n hx hb dL_law_1052 rfl (lv_at hl 0 rfl) ?_
  refine lv_iload_n hx hb dL_law_1053 rfl (lv_at hl 3 rfl) ?_
  refine lv_iconst (v := 1) hx hb dL_law_1054 (by decide) ?_
  refine lv_iadd hx hb dL_law_1055 ?_
  refine lv_topi (fun v5 ev5 => ?_)
  obtain rfl : v5 = nI (n + 1) := nI_plus ev5 rfl rfl
  refine xsld ((n + 1)) hx hb hXs hbl hbA hS rfl (by omega) (by omega) dL_law_1056 ?_
  refine lv_aload_n hx hb dL_law_1057 rfl (lv_at hl 0 rfl) ?_
  refine lv_iload_n hx hb dL_law_1058 rfl (lv_at hl 3 rfl) ?_
  refine lv_iconst (v := 2) hx hb dL_law_1059 (by decide) ?_
  refine lv_iadd hx hb dL_law_1060 ?_
  refine lv_topi (fun v6 ev6 => ?_)
  obtain rfl : v6 = nI (n + 2) := nI_plus ev6 rfl rfl
  refine xsld ((n + 2)) hx hb hXs hbl hbA hS rfl (by omega) (by omega) dL_law_1061 ?_
  refine lv_aload_n hx hb dL_law_1062 rfl (lv_at hl 0 rfl) ?_
  refine lv_iload_n hx hb dL_law_1063 rfl (lv_at hl 3 rfl) ?_
  refine lv_iconst (v := 3) hx hb dL_law_1064 (by decide) ?_
  refine lv_iadd hx hb dL_law_1065 ?_
  refine lv_topi (fun v7 ev7 => ?_)
  obtain rfl : v7 = nI (n + 3) := nI_plus ev7 rfl rfl
  refine xsld ((n + 3)) hx hb hXs hbl hbA hS rfl (by omega) (by omega) dL_law_1066 ?_
  refine lawI (rest := []) (q0 := 0) ⟨hx, hb, hml, hown, hts⟩ (m_X7_kept l G y bb f7 r7 (xs ((n + 1))) (xs ((n + 2))) (xs ((n + 3))) hMi.1 hMi.2.1 hMi.2.2.1 hMi.2.2.2.1) mi_yX7_kept mv_yX7_kept ml_L_101 ⟨rfl, rfl, Nat.le_of_ble_eq_true rfl, Nat.le_of_ble_eq_true rfl⟩ hK hP hD List.perm_append_comm rfl rfl rfl hl.1 rfl (Nat.le_of_ble_eq_true rfl) dL_law_1067 ⟨Nat.le_of_ble_eq_true rfl, Nat.le_of_ble_eq_true rfl⟩ hS hA (fun r8 w H locs hw hP hS => ?_)
  obtain ⟨m_f_0, rfl⟩ := hw
  have hM2 : MS G y bb r7 (mM G y bb (upd f7 0 m_f_0) r7) := ⟨(upd f7 0 m_f_0), ⟨hMi.1, hMi.2.1, hMi.2.2.1, hMi.2.2.2.1, hMi.2.2.2.2.1, hMi.2.2.2.2.2.1, hMi.2.2.2.2.2.2.1, hMi.2.2.2.2.2.2.2.1, hMi.2.2.2.2.2.2.2.2.1, hMi.2.2.2.2.2.2.2.2.2.1, hMi.2.2.2.2.2.2.2.2.2.2⟩, rfl⟩
  obtain ⟨hP, hD⟩ := hP mM_ad (wX2 ++ mM G y bb (upd f7 0 m_f_0) r7) List.perm_append_comm
  refine lv_pop hx hb dL_law_1070 rfl ?_
  refine lv_goto (tgt := 1654) hx hb dL_law_1071 (by decide) ?_
  have hJ2 : (JT (upA tF j (tF j)) (upA tR j (tR j)) r7 ∧ JC (upA tF j (tF j)) (upA tR j (tR j)) r7) := ⟨JT_of hJ (hJ j hj) (fun _ _ => TO_0), JC_of hC (hC j hj) LQ_0⟩
  exact fin _ _ _ _ _ _ _ _ hX2 hM2 hJ2 hP hD hS (lv_sub hl [0, 1, 2, 3] rfl)
set_option maxHeartbeats 4000000 in
set_option maxRecDepth 100000 in
theorem law_c20 {p : Program} {l : Launch} {e : Env} {s : State} {m : MethodId} {below : List Frame} {meth : Method} {c : Code} {b_ L n : Nat} {xs : Nat → Int32} (C0 : lw_At p s m meth c b_ L xs) (hL : L ≤ 3072) (hn6 : n + 6 ≤ L) {G : GG} (hK : KK G s) (hT : ST (fun q => s.heap.size ≤ q) s s.heap) {x : Nat} {xa : Nat → Nat} {tA : Nat → Nat → Nat} {a b ga ua la lb : Nat → Nat} {gA : Nat → Nat → Nat} {y : Nat} {bb : Nat → Nat} {tF : Nat → Nat → Int32} {tR : Nat → Nat → Nat → Int32} {r7 : Nat → Nat → Int32} {wX wM : va_W} (hX : XS G x xa tA a b ga ua la lb gA tF tR wX) (hM : MS G y bb r7 wM) (hJ : (JT tF tR r7 ∧ JC tF tR r7)) {H : Heap} {locs : List Loc} {ls : Array Slot} (hP : PP G (wX ++ wM) H) (hD : va_D (fun q => s.heap.size ≤ q) (wX ++ wM)) (hS : va_S (fun q => s.heap.size ≤ q) s.heap H locs) (hl : lv_has ls 4 [(0, .ref b_), (1, .ref x), (2, .ref y), (3, .int (nI n))]) (fin : ∀ (tF2 : Nat → Nat → Int32) (tR2 : Nat → Nat → Nat → Int32) (r2 : Nat → Nat → Int32) (wX2 wM2 : va_W) (H : Heap) (locs : List Loc) (ls : Array Slot), XS G x xa tA a b ga ua la lb gA tF2 tR2 wX2 → MS G y bb r2 wM2 → (JT tF2 tR2 r2 ∧ JC tF2 tR2 r2) → PP G (wX2 ++ wM2) H → va_D (fun q => s.heap.size ≤ q) (wX2 ++ wM2) → va_S (fun q => s.heap.size ≤ q) s.heap H locs → lv_has ls 4 [(0, .ref b_), (1, .ref x), (2, .ref y), (3, .int (nI n))] → W p l e room_1 s m #[Value.ref b_] below meth c H locs 160 27087 (lw_Z below #[Value.ref b_] s) (F0 m 1654 ls [])) : W p l e room_1 s m #[Value.ref b_] below meth c H locs 160 27087 (lw_Z below #[Value.ref b_] s) (F0 m 1074 ls []) := by
  obtain ⟨hx, hb, hr, hml, hown, hts0, hXs, hbl, hlocks, hgv⟩ := id C0
  have hts : ∀ w ∈ TB, w.before #[Value.ref b_] s = true := fun w h => hts0 w (List.mem_filter.mp h).1
  have hown : s.vm.findClass RL = some m.cls := hown
  have hA : ∀ q : Nat, s.heap.size ≤ q → (fun q => s.heap.size ≤ q) q := fun _ h => h
  have hbA : ¬ (fun q => s.heap.size ≤ q) b_ := Nat.not_le.mpr hbl
  obtain ⟨xf, f, qf, gf, uf, lf, mf, r, q, gr, ur, lr, mr, nF, nR, hI, rfl⟩ := hX
  obtain ⟨f7, hMi, rfl⟩ := hM
  obtain ⟨hJ, hC⟩ := hJ
  refine lv_aload_n hx hb dL_law_1074 rfl (lv_at hl 1 rfl) ?_
  refine lv_aload_n hx hb dL_law_1075 rfl (lv_at hl 0 rfl) ?_
  refine lv_iload_n hx hb dL_law_1076 rfl (lv_at hl 3 rfl) ?_
  refine lv_iconst (v := 1) hx hb dL_law_1077 (by decide) ?_
  refine lv_iadd hx hb dL_law_1078 ?_
  refine lv_topi (fun v1 ev1 => ?_)
  obtain rfl : v1 = nI (n + 1) := nI_plus ev1 rfl rfl
  refine xsld ((n + 1)) hx hb hXs hbl hbA hS rfl (by omega) (by omega) dL_law_1079 ?_
  refine lv_aload_n hx hb dL_law_1080 rfl (lv_at hl 0 rfl) ?_
  refine lv_iload_n hx hb dL_law_1081 rfl (lv_at hl 3 rfl) ?_
  refine lv_iconst (v := 2) hx hb dL_law_1082 (by decide) ?_
  refine lv_iadd hx hb dL_law_1083 ?_
  refine lv_topi (fun v2 ev2 => ?_)
  obtain rfl : v2 = nI (n + 2) := nI_plus ev2 rfl rfl
  refine xsld ((n + 2)) hx hb hXs hbl hbA hS rfl (by omega) (by omega) dL_law_1084 ?_
  refine lv_aload_n hx hb dL_law_1085 rfl (lv_at hl 0 rfl) ?_
  refine lv_iload_n hx hb dL_law_1086 rfl (lv_at hl 3 rfl) ?_
  refine lv_iconst (v := 3) hx hb dL_law_1087 (by decide) ?_
  refine lv_iadd hx hb dL_law_1088 ?_
  refine lv_topi (fun v3 ev3 => ?_)
  obtain rfl : v3 = nI (n + 3) := nI_plus ev3 rfl rfl
  refine xsld ((n + 3)) hx hb hXs hbl hbA hS rfl (by omega) (by omega) dL_law_1089 ?_
  obtain ⟨j, hj, hjt⟩ := tbJ_ex (xs ((n + 1)))
  obtain ⟨k, hk⟩ : ∃ k, k < 16 := ⟨0, by decide⟩
  refine lawI (rest := []) (q0 := 0) ⟨hx, hb, hml, hown, hts⟩ (x_thousandths l G x xa (tA j) a b ga ua la lb (gA k) (rfn tA 6) (rfn gA 16) xf (tF j) f qf gf uf lf mf (nF k) (tR j) r q gr ur lr mr (nR k) (xs ((n + 1))) (xs ((n + 2))) (xs ((n + 3))) j hj hjt (if_pos hj) ((hI.1 j hj).1) ((hI.1 j hj).2.1) ((hI.1 j hj).2.2.1) ((hI.1 j hj).2.2.2)) mi_yX6_thousandths mv_yX6_thousandths ml_L_102 ⟨rfl, rfl, Nat.le_of_ble_eq_true rfl, Nat.le_of_ble_eq_true rfl⟩ hK hP hD (perm_app (xf_perm G x xa tA a b ga ua la lb gA xf f qf gf uf lf mf r q gr ur lr mr tF tR nF nR hj hk)) rfl rfl rfl hl.1 rfl (Nat.le_of_ble_eq_true rfl) dL_law_1090 ⟨Nat.le_of_ble_eq_true rfl, Nat.le_of_ble_eq_true rfl⟩ hS hA (fun r4 w H locs hw hP hS => ?_)
  obtain ⟨n_xf_0, rfl, hres⟩ := hw
  have hXn := XS_back (tF := tF) (tR := tR) (nF := nF) (nR := nR) (x := x) (xa := xa) (tA := tA) (a := a) (b := b) (ga := ga) (ua := ua) (la := la) (lb := lb) (gA := gA) (xf := xf) (f := f) (qf := qf) (gf := gf) (uf := uf) (lf := lf) (mf := mf) (r := r) (q := q) (gr := gr) (ur := ur) (lr := lr) (mr := mr) (G := G) hI hj hk (upd xf 0 n_xf_0) (tF j) f qf gf uf lf mf (nF k) (tR j) r q gr ur lr mr (nR k) ⟨(hI.1 j hj).1, (hI.1 j hj).2.1, (hI.1 j hj).2.2.1, (hI.1 j hj).2.2.2⟩ hI.2.1 ⟨hI.2.2.1.1, hI.2.2.1.2⟩ ⟨hI.2.2.2.1.1, hI.2.2.2.1.2⟩ ⟨(hI.2.2.2.2.1 k hk).1, (hI.2.2.2.2.1 k hk).2⟩ (hI.2.2.2.2.2)
  obtain ⟨wX2, hX2, hP, hD⟩ : ∃ wX2 : va_W, XS G x xa tA a b ga ua la lb gA (upA tF j (tF j)) (upA tR j (tR j)) wX2 ∧ PP G (wX2 ++ mM G y bb f7 r7) H ∧ va_D (fun q => s.heap.size ≤ q) (wX2 ++ mM G y bb f7 r7) := ⟨_, hXn.1, hP xM_ad _ (perm_app hXn.2)⟩
  refine lv_aload_n hx hb dL_law_1093 rfl (lv_at hl 2 rfl) ?_
  refine lv_aload_n hx hb dL_law_1094 rfl (lv_at hl 0 rfl) ?_
  refine lv_iload_n hx hb dL_law_1095 rfl (lv_at hl 3 rfl) ?_
  refine lv_iconst (v := 1) hx hb dL_law_1096 (by decide) ?_
  refine lv_iadd hx hb dL_law_1097 ?_
  refine lv_topi (fun v5 ev5 => ?_)
  obtain rfl : v5 = nI (n + 1) := nI_plus ev5 rfl rfl
  refine xsld ((n + 1)) hx hb hXs hbl hbA hS rfl (by omega) (by omega) dL_law_1098 ?_
  refine lv_aload_n hx hb dL_law_1099 rfl (lv_at hl 0 rfl) ?_
  refine lv_iload_n hx hb dL_law_1100 rfl (lv_at hl 3 rfl) ?_
  refine lv_iconst (v := 2) hx hb dL_law_1101 (by decide) ?_
  refine lv_iadd hx hb dL_law_1102 ?_
  refine lv_topi (fun v6 ev6 => ?_)
  obtain rfl : v6 = nI (n + 2) := nI_plus ev6 rfl rfl
  refine xsld ((n + 2)) hx hb hXs hbl hbA hS rfl (by omega) (by omega) dL_law_1103 ?_
  refine lv_aload_n hx hb dL_law_1104 rfl (lv_at hl 0 rfl) ?_
  refine lv_iload_n hx hb dL_law_1105 rfl (lv_at hl 3 rfl) ?_
  refine lv_iconst (v := 3) hx hb dL_law_1106 (by decide) ?_
  refine lv_iadd hx hb dL_law_1107 ?_
  refine lv_topi (fun v7 ev7 => ?_)
  obtain rfl : v7 = nI (n + 3) := nI_plus ev7 rfl rfl
  refine xsld ((n + 3)) hx hb hXs hbl hbA hS rfl (by omega) (by omega) dL_law_1108 ?_
  refine lawI (rest := [.int r4]) (q0 := 0) ⟨hx, hb, hml, hown, hts⟩ (m_X7_thousandths l G y bb f7 r7 (xs ((n + 1))) (xs ((n + 2))) (xs ((n + 3))) hMi.1 hMi.2.1 hMi.2.2.1) mi_yX7_thousandths mv_yX7_thousandths ml_L_105 ⟨rfl, rfl, Nat.le_of_ble_eq_true rfl, Nat.le_of_ble_eq_true rfl⟩ hK hP hD List.perm_append_comm rfl rfl rfl hl.1 rfl (Nat.le_of_ble_eq_true rfl) dL_law_1109 ⟨Nat.le_of_ble_eq_true rfl, Nat.le_of_ble_eq_true rfl⟩ hS hA (fun r8 w H locs hw hP hS => ?_)
  obtain ⟨m_f_0, rfl, hrem⟩ := hw
  have hM2 : MS G y bb r7 (mM G y bb (upd f7 0 m_f_0) r7) := ⟨(upd f7 0 m_f_0), ⟨hMi.1, hMi.2.1, hMi.2.2.1, hMi.2.2.2.1, hMi.2.2.2.2.1, hMi.2.2.2.2.2.1, hMi.2.2.2.2.2.2.1, hMi.2.2.2.2.2.2.2.1, hMi.2.2.2.2.2.2.2.2.1, hMi.2.2.2.2.2.2.2.2.2.1, hMi.2.2.2.2.2.2.2.2.2.2⟩, rfl⟩
  obtain ⟨hP, hD⟩ := hP mM_ad (wX2 ++ mM G y bb (upd f7 0 m_f_0) r7) List.perm_append_comm
  refine lv_icmp_eq (tgt := 1654) hx hb dL_law_1112 (by decide) (fun _ => ?_) (fun cq => absurd (th_same (hI.1 j hj).2.1 hj hjt (hI.1 j hj).1 (hJ j hj) (hC j hj) hres hrem) cq)
  have hJ2 : (JT (upA tF j (tF j)) (upA tR j (tR j)) r7 ∧ JC (upA tF j (tF j)) (upA tR j (tR j)) r7) := ⟨JT_of hJ (hJ j hj) (fun _ _ => TO_0), JC_of hC (hC j hj) LQ_0⟩
  exact fin _ _ _ _ _ _ _ _ hX2 hM2 hJ2 hP hD hS (lv_sub hl [0, 1, 2, 3] rfl)
set_option maxHeartbeats 4000000 in
set_option maxRecDepth 100000 in
theorem law_c21 {p : Program} {l : Launch} {e : Env} {s : State} {m : MethodId} {below : List Frame} {meth : Method} {c : Code} {b_ L n : Nat} {xs : Nat → Int32} (C0 : lw_At p s m meth c b_ L xs) (hL : L ≤ 3072) (hn6 : n + 6 ≤ L) {G : GG} (hK : KK G s) (hT : ST (fun q => s.heap.size ≤ q) s s.heap) {x : Nat} {xa : Nat → Nat} {tA : Nat → Nat → Nat} {a b ga ua la lb : Nat → Nat} {gA : Nat → Nat → Nat} {y : Nat} {bb : Nat → Nat} {tF : Nat → Nat → Int32} {tR : Nat → Nat → Nat → Int32} {r7 : Nat → Nat → Int32} {wX wM : va_W} (hX : XS G x xa tA a b ga ua la lb gA tF tR wX) (hM : MS G y bb r7 wM) (hJ : (JT tF tR r7 ∧ JC tF tR r7)) {H : Heap} {locs : List Loc} {ls : Array Slot} (hP : PP G (wX ++ wM) H) (hD : va_D (fun q => s.heap.size ≤ q) (wX ++ wM)) (hS : va_S (fun q => s.heap.size ≤ q) s.heap H locs) (hl : lv_has ls 4 [(0, .ref b_), (1, .ref x), (2, .ref y), (3, .int (nI n))]) (fin : ∀ (tF2 : Nat → Nat → Int32) (tR2 : Nat → Nat → Nat → Int32) (r2 : Nat → Nat → Int32) (wX2 wM2 : va_W) (H : Heap) (locs : List Loc) (ls : Array Slot), XS G x xa tA a b ga ua la lb gA tF2 tR2 wX2 → MS G y bb r2 wM2 → (JT tF2 tR2 r2 ∧ JC tF2 tR2 r2) → PP G (wX2 ++ wM2) H → va_D (fun q => s.heap.size ≤ q) (wX2 ++ wM2) → va_S (fun q => s.heap.size ≤ q) s.heap H locs → lv_has ls 4 [(0, .ref b_), (1, .ref x), (2, .ref y), (3, .int (nI n))] → W p l e room_1 s m #[Value.ref b_] below meth c H locs 160 27087 (lw_Z below #[Value.ref b_] s) (F0 m 1654 ls [])) : W p l e room_1 s m #[Value.ref b_] below meth c H locs 160 27087 (lw_Z below #[Value.ref b_] s) (F0 m 1117 ls []) := by
  obtain ⟨hx, hb, hr, hml, hown, hts0, hXs, hbl, hlocks, hgv⟩ := id C0
  have hts : ∀ w ∈ TB, w.before #[Value.ref b_] s = true := fun w h => hts0 w (List.mem_filter.mp h).1
  have hown : s.vm.findClass RL = some m.cls := hown
  have hA : ∀ q : Nat, s.heap.size ≤ q → (fun q => s.heap.size ≤ q) q := fun _ h => h
  have hbA : ¬ (fun q => s.heap.size ≤ q) b_ := Nat.not_le.mpr hbl
  obtain ⟨xf, f, qf, gf, uf, lf, mf, r, q, gr, ur, lr, mr, nF, nR, hI, rfl⟩ := hX
  obtain ⟨f7, hMi, rfl⟩ := hM
  obtain ⟨hJ, hC⟩ := hJ
  refine lv_aload_n hx hb dL_law_1117 rfl (lv_at hl 1 rfl) ?_
  refine lv_aload_n hx hb dL_law_1118 rfl (lv_at hl 0 rfl) ?_
  refine lv_iload_n hx hb dL_law_1119 rfl (lv_at hl 3 rfl) ?_
  refine lv_iconst (v := 1) hx hb dL_law_1120 (by decide) ?_
  refine lv_iadd hx hb dL_law_1121 ?_
  refine lv_topi (fun v1 ev1 => ?_)
  obtain rfl : v1 = nI (n + 1) := nI_plus ev1 rfl rfl
  refine xsld ((n + 1)) hx hb hXs hbl hbA hS rfl (by omega) (by omega) dL_law_1122 ?_
  refine lv_aload_n hx hb dL_law_1123 rfl (lv_at hl 0 rfl) ?_
  refine lv_iload_n hx hb dL_law_1124 rfl (lv_at hl 3 rfl) ?_
  refine lv_iconst (v := 2) hx hb dL_law_1125 (by decide) ?_
  refine lv_iadd hx hb dL_law_1126 ?_
  refine lv_topi (fun v2 ev2 => ?_)
  obtain rfl : v2 = nI (n + 2) := nI_plus ev2 rfl rfl
  refine xsld ((n + 2)) hx hb hXs hbl hbA hS rfl (by omega) (by omega) dL_law_1127 ?_
  refine lv_aload_n hx hb dL_law_1128 rfl (lv_at hl 0 rfl) ?_
  refine lv_iload_n hx hb dL_law_1129 rfl (lv_at hl 3 rfl) ?_
  refine lv_iconst (v := 3) hx hb dL_law_1130 (by decide) ?_
  refine lv_iadd hx hb dL_law_1131 ?_
  refine lv_topi (fun v3 ev3 => ?_)
  obtain rfl : v3 = nI (n + 3) := nI_plus ev3 rfl rfl
  refine xsld ((n + 3)) hx hb hXs hbl hbA hS rfl (by omega) (by omega) dL_law_1132 ?_
  obtain ⟨j, hj, hjt⟩ := tbJ_ex (xs ((n + 1)))
  obtain ⟨k, hk⟩ : ∃ k, k < 16 := ⟨0, by decide⟩
  refine lawI (rest := []) (q0 := 0) ⟨hx, hb, hml, hown, hts⟩ (x_least l G x xa (tA j) a b ga ua la lb (gA k) (rfn tA 6) (rfn gA 16) xf (tF j) f qf gf uf lf mf (nF k) (tR j) r q gr ur lr mr (nR k) (xs ((n + 1))) (xs ((n + 2))) (xs ((n + 3))) j hj hjt (if_pos hj) ((hI.1 j hj).1) ((hI.1 j hj).2.1) ((hI.1 j hj).2.2.1) ((hI.1 j hj).2.2.2) hI.2.1) mi_yX6_least mv_yX6_least ml_L_106 ⟨rfl, rfl, Nat.le_of_ble_eq_true rfl, Nat.le_of_ble_eq_true rfl⟩ hK hP hD (perm_app (xf_perm G x xa tA a b ga ua la lb gA xf f qf gf uf lf mf r q gr ur lr mr tF tR nF nR hj hk)) rfl rfl rfl hl.1 rfl (Nat.le_of_ble_eq_true rfl) dL_law_1133 ⟨Nat.le_of_ble_eq_true rfl, Nat.le_of_ble_eq_true rfl⟩ hS hA (fun r4 w H locs hw hP hS => ?_)
  obtain ⟨n_f_0, n_f_1, n_f_2, n_f_3, n_f_4, n_q_0, n_q_1, n_q_2, n_qf_3, n_r_6, n_r_7, n_r_8, n_r_9, n_r_10, n_r_11, n_r_12, n_r_13, n_r_14, n_xf_0, rfl, hRB_n⟩ := hw
  have hXn := XS_back (tF := tF) (tR := tR) (nF := nF) (nR := nR) (x := x) (xa := xa) (tA := tA) (a := a) (b := b) (ga := ga) (ua := ua) (la := la) (lb := lb) (gA := gA) (xf := xf) (f := f) (qf := qf) (gf := gf) (uf := uf) (lf := lf) (mf := mf) (r := r) (q := q) (gr := gr) (ur := ur) (lr := lr) (mr := mr) (G := G) hI hj hk (upd xf 0 n_xf_0) (tF j) (upd (upd (upd (upd (upd f 0 n_f_0) 1 n_f_1) 2 n_f_2) 3 n_f_3) 4 n_f_4) (upd qf 3 n_qf_3) gf uf lf mf (nF k) (tR j) (up2 (up2 (up2 (up2 (up2 (up2 (up2 (up2 (up2 r 6 n_r_6) 7 n_r_7) 8 n_r_8) 9 n_r_9) 10 n_r_10) 11 n_r_11) 12 n_r_12) 13 n_r_13) 14 n_r_14) (up2 (up2 (up2 q 0 n_q_0) 1 n_q_1) 2 n_q_2) gr ur lr mr (nR k) ⟨(hI.1 j hj).1, (hI.1 j hj).2.1, (hI.1 j hj).2.2.1, (hI.1 j hj).2.2.2⟩ hRB_n ⟨hI.2.2.1.1, hI.2.2.1.2⟩ ⟨hI.2.2.2.1.1, hI.2.2.2.1.2⟩ ⟨(hI.2.2.2.2.1 k hk).1, (hI.2.2.2.2.1 k hk).2⟩ (hI.2.2.2.2.2)
  obtain ⟨wX2, hX2, hP, hD⟩ : ∃ wX2 : va_W, XS G x xa tA a b ga ua la lb gA (upA tF j (tF j)) (upA tR j (tR j)) wX2 ∧ PP G (wX2 ++ mM G y bb f7 r7) H ∧ va_D (fun q => s.heap.size ≤ q) (wX2 ++ mM G y bb f7 r7) := ⟨_, hXn.1, hP xM_ad _ (perm_app hXn.2)⟩
  refine lv_pop hx hb dL_law_1136 rfl ?_
  refine lv_aload_n hx hb dL_law_1137 rfl (lv_at hl 2 rfl) ?_
  refine lv_aload_n hx hb dL_law_1138 rfl (lv_at hl 0 rfl) ?_
  refine lv_iload_n hx hb dL_law_1139 rfl (lv_at hl 3 rfl) ?_
  refine lv_iconst (v := 1) hx hb dL_law_1140 (by decide) ?_
  refine lv_iadd hx hb dL_law_1141 ?_
  refine lv_topi (fun v5 ev5 => ?_)
  obtain rfl : v5 = nI (n + 1) := nI_plus ev5 rfl rfl
  refine xsld ((n + 1)) hx hb hXs hbl hbA hS rfl (by omega) (by omega) dL_law_1142 ?_
  refine lv_aload_n hx hb dL_law_1143 rfl (lv_at hl 0 rfl) ?_
  refine lv_iload_n hx hb dL_law_1144 rfl (lv_at hl 3 rfl) ?_
  refine lv_iconst (v := 2) hx hb dL_law_1145 (by decide) ?_
  refine lv_iadd hx hb dL_law_1146 ?_
  refine lv_topi (fun v6 ev6 => ?_)
  obtain rfl : v6 = nI (n + 2) := nI_plus ev6 rfl rfl
  refine xsld ((n + 2)) hx hb hXs hbl hbA hS rfl (by omega) (by omega) dL_law_1147 ?_
  refine lv_aload_n hx hb dL_law_1148 rfl (lv_at hl 0 rfl) ?_
  refine lv_iload_n hx hb dL_law_1149 rfl (lv_at hl 3 rfl) ?_
  refine lv_iconst (v := 3) hx hb dL_law_1150 (by decide) ?_
  refine lv_iadd hx hb dL_law_1151 ?_
  refine lv_topi (fun v7 ev7 => ?_)
  obtain rfl : v7 = nI (n + 3) := nI_plus ev7 rfl rfl
  refine xsld ((n + 3)) hx hb hXs hbl hbA hS rfl (by omega) (by omega) dL_law_1152 ?_
  refine lawI (rest := []) (q0 := 0) ⟨hx, hb, hml, hown, hts⟩ (m_X7_least l G y bb f7 r7 (xs ((n + 1))) (xs ((n + 2))) (xs ((n + 3))) hMi.1 hMi.2.1 hMi.2.2.1 hMi.2.2.2.1) mi_yX7_least mv_yX7_least ml_L_109 ⟨rfl, rfl, Nat.le_of_ble_eq_true rfl, Nat.le_of_ble_eq_true rfl⟩ hK hP hD List.perm_append_comm rfl rfl rfl hl.1 rfl (Nat.le_of_ble_eq_true rfl) dL_law_1153 ⟨Nat.le_of_ble_eq_true rfl, Nat.le_of_ble_eq_true rfl⟩ hS hA (fun r8 w H locs hw hP hS => ?_)
  obtain ⟨m_f_0, m_f_20, m_f_21, m_r_15, m_r_16, m_r_17, m_r_18, m_r_19, m_r_22, m_r_23, rfl⟩ := hw
  have hM2 : MS G y bb (up2 (up2 (up2 (up2 (up2 (up2 (up2 r7 15 m_r_15) 16 m_r_16) 17 m_r_17) 18 m_r_18) 19 m_r_19) 22 m_r_22) 23 m_r_23) (mM G y bb (upd (upd (upd f7 0 m_f_0) 20 m_f_20) 21 m_f_21) (up2 (up2 (up2 (up2 (up2 (up2 (up2 r7 15 m_r_15) 16 m_r_16) 17 m_r_17) 18 m_r_18) 19 m_r_19) 22 m_r_22) 23 m_r_23)) := ⟨(upd (upd (upd f7 0 m_f_0) 20 m_f_20) 21 m_f_21), ⟨hMi.1, hMi.2.1, hMi.2.2.1, hMi.2.2.2.1, hMi.2.2.2.2.1, hMi.2.2.2.2.2.1, hMi.2.2.2.2.2.2.1, hMi.2.2.2.2.2.2.2.1, hMi.2.2.2.2.2.2.2.2.1, hMi.2.2.2.2.2.2.2.2.2.1, hMi.2.2.2.2.2.2.2.2.2.2⟩, rfl⟩
  obtain ⟨hP, hD⟩ := hP mM_ad (wX2 ++ mM G y bb (upd (upd (upd f7 0 m_f_0) 20 m_f_20) 21 m_f_21) (up2 (up2 (up2 (up2 (up2 (up2 (up2 r7 15 m_r_15) 16 m_r_16) 17 m_r_17) 18 m_r_18) 19 m_r_19) 22 m_r_22) 23 m_r_23)) List.perm_append_comm
  refine lv_pop hx hb dL_law_1156 rfl ?_
  refine lv_goto (tgt := 1654) hx hb dL_law_1157 (by decide) ?_
  have hJ2 : (JT (upA tF j (tF j)) (upA tR j (tR j)) (up2 (up2 (up2 (up2 (up2 (up2 (up2 r7 15 m_r_15) 16 m_r_16) 17 m_r_17) 18 m_r_18) 19 m_r_19) 22 m_r_22) 23 m_r_23) ∧ JC (upA tF j (tF j)) (upA tR j (tR j)) (up2 (up2 (up2 (up2 (up2 (up2 (up2 r7 15 m_r_15) 16 m_r_16) 17 m_r_17) 18 m_r_18) 19 m_r_19) 22 m_r_22) 23 m_r_23)) := ⟨JT_of hJ (hJ j hj) (fun _ _ => TO_0), JC_of hC (hC j hj) LQ_0⟩
  exact fin _ _ _ _ _ _ _ _ hX2 hM2 hJ2 hP hD hS (lv_sub hl [0, 1, 2, 3] rfl)
set_option maxHeartbeats 4000000 in
set_option maxRecDepth 100000 in
theorem law_c22 {p : Program} {l : Launch} {e : Env} {s : State} {m : MethodId} {below : List Frame} {meth : Method} {c : Code} {b_ L n : Nat} {xs : Nat → Int32} (C0 : lw_At p s m meth c b_ L xs) (hL : L ≤ 3072) (hn6 : n + 6 ≤ L) {G : GG} (hK : KK G s) (hT : ST (fun q => s.heap.size ≤ q) s s.heap) {x : Nat} {xa : Nat → Nat} {tA : Nat → Nat → Nat} {a b ga ua la lb : Nat → Nat} {gA : Nat → Nat → Nat} {y : Nat} {bb : Nat → Nat} {tF : Nat → Nat → Int32} {tR : Nat → Nat → Nat → Int32} {r7 : Nat → Nat → Int32} {wX wM : va_W} (hX : XS G x xa tA a b ga ua la lb gA tF tR wX) (hM : MS G y bb r7 wM) (hJ : (JT tF tR r7 ∧ JC tF tR r7)) {H : Heap} {locs : List Loc} {ls : Array Slot} (hP : PP G (wX ++ wM) H) (hD : va_D (fun q => s.heap.size ≤ q) (wX ++ wM)) (hS : va_S (fun q => s.heap.size ≤ q) s.heap H locs) (hl : lv_has ls 4 [(0, .ref b_), (1, .ref x), (2, .ref y), (3, .int (nI n))]) (fin : ∀ (tF2 : Nat → Nat → Int32) (tR2 : Nat → Nat → Nat → Int32) (r2 : Nat → Nat → Int32) (wX2 wM2 : va_W) (H : Heap) (locs : List Loc) (ls : Array Slot), XS G x xa tA a b ga ua la lb gA tF2 tR2 wX2 → MS G y bb r2 wM2 → (JT tF2 tR2 r2 ∧ JC tF2 tR2 r2) → PP G (wX2 ++ wM2) H → va_D (fun q => s.heap.size ≤ q) (wX2 ++ wM2) → va_S (fun q => s.heap.size ≤ q) s.heap H locs → lv_has ls 4 [(0, .ref b_), (1, .ref x), (2, .ref y), (3, .int (nI n))] → W p l e room_1 s m #[Value.ref b_] below meth c H locs 160 27087 (lw_Z below #[Value.ref b_] s) (F0 m 1654 ls [])) : W p l e room_1 s m #[Value.ref b_] below meth c H locs 160 27087 (lw_Z below #[Value.ref b_] s) (F0 m 1160 ls []) := by
  obtain ⟨hx, hb, hr, hml, hown, hts0, hXs, hbl, hlocks, hgv⟩ := id C0
  have hts : ∀ w ∈ TB, w.before #[Value.ref b_] s = true := fun w h => hts0 w (List.mem_filter.mp h).1
  have hown : s.vm.findClass RL = some m.cls := hown
  have hA : ∀ q : Nat, s.heap.size ≤ q → (fun q => s.heap.size ≤ q) q := fun _ h => h
  have hbA : ¬ (fun q => s.heap.size ≤ q) b_ := Nat.not_le.mpr hbl
  obtain ⟨xf, f, qf, gf, uf, lf, mf, r, q, gr, ur, lr, mr, nF, nR, hI, rfl⟩ := hX
  obtain ⟨f7, hMi, rfl⟩ := hM
  obtain ⟨hJ, hC⟩ := hJ
  refine lv_aload_n hx hb dL_law_1160 rfl (lv_at hl 1 rfl) ?_
  refine lv_aload_n hx hb dL_law_1161 rfl (lv_at hl 0 rfl) ?_
  refine lv_iload_n hx hb dL_law_1162 rfl (lv_at hl 3 rfl) ?_
  refine lv_iconst (v := 1) hx hb dL_law_1163 (by decide) ?_
  refine lv_iadd hx hb dL_law_1164 ?_
  refine lv_topi (fun v1 ev1 => ?_)
  obtain rfl : v1 = nI (n + 1) := nI_plus ev1 rfl rfl
  refine xsld ((n + 1)) hx hb hXs hbl hbA hS rfl (by omega) (by omega) dL_law_1165 ?_
  refine lv_aload_n hx hb dL_law_1166 rfl (lv_at hl 0 rfl) ?_
  refine lv_iload_n hx hb dL_law_1167 rfl (lv_at hl 3 rfl) ?_
  refine lv_iconst (v := 2) hx hb dL_law_1168 (by decide) ?_
  refine lv_iadd hx hb dL_law_1169 ?_
  refine lv_topi (fun v2 ev2 => ?_)
  obtain rfl : v2 = nI (n + 2) := nI_plus ev2 rfl rfl
  refine xsld ((n + 2)) hx hb hXs hbl hbA hS rfl (by omega) (by omega) dL_law_1170 ?_
  refine lv_aload_n hx hb dL_law_1171 rfl (lv_at hl 0 rfl) ?_
  refine lv_iload_n hx hb dL_law_1172 rfl (lv_at hl 3 rfl) ?_
  refine lv_iconst (v := 3) hx hb dL_law_1173 (by decide) ?_
  refine lv_iadd hx hb dL_law_1174 ?_
  refine lv_topi (fun v3 ev3 => ?_)
  obtain rfl : v3 = nI (n + 3) := nI_plus ev3 rfl rfl
  refine xsld ((n + 3)) hx hb hXs hbl hbA hS rfl (by omega) (by omega) dL_law_1175 ?_
  obtain ⟨j, hj, hjt⟩ := tbJ_ex (xs ((n + 1)))
  obtain ⟨k, hk⟩ : ∃ k, k < 16 := ⟨0, by decide⟩
  refine lawI (rest := []) (q0 := 0) ⟨hx, hb, hml, hown, hts⟩ (x_greatest l G x xa (tA j) a b ga ua la lb (gA k) (rfn tA 6) (rfn gA 16) xf (tF j) f qf gf uf lf mf (nF k) (tR j) r q gr ur lr mr (nR k) (xs ((n + 1))) (xs ((n + 2))) (xs ((n + 3))) j hj hjt (if_pos hj) ((hI.1 j hj).1) ((hI.1 j hj).2.1) ((hI.1 j hj).2.2.1) ((hI.1 j hj).2.2.2) hI.2.1) mi_yX6_greatest mv_yX6_greatest ml_L_110 ⟨rfl, rfl, Nat.le_of_ble_eq_true rfl, Nat.le_of_ble_eq_true rfl⟩ hK hP hD (perm_app (xf_perm G x xa tA a b ga ua la lb gA xf f qf gf uf lf mf r q gr ur lr mr tF tR nF nR hj hk)) rfl rfl rfl hl.1 rfl (Nat.le_of_ble_eq_true rfl) dL_law_1176 ⟨Nat.le_of_ble_eq_true rfl, Nat.le_of_ble_eq_true rfl⟩ hS hA (fun r4 w H locs hw hP hS => ?_)
  obtain ⟨n_f_0, n_f_1, n_f_2, n_f_3, n_f_4, n_q_0, n_q_1, n_q_2, n_qf_3, n_r_6, n_r_7, n_r_8, n_r_9, n_r_10, n_r_11, n_r_12, n_r_13, n_r_14, n_xf_0, rfl, hRB_n⟩ := hw
  have hXn := XS_back (tF := tF) (tR := tR) (nF := nF) (nR := nR) (x := x) (xa := xa) (tA := tA) (a := a) (b := b) (ga := ga) (ua := ua) (la := la) (lb := lb) (gA := gA) (xf := xf) (f := f) (qf := qf) (gf := gf) (uf := uf) (lf := lf) (mf := mf) (r := r) (q := q) (gr := gr) (ur := ur) (lr := lr) (mr := mr) (G := G) hI hj hk (upd xf 0 n_xf_0) (tF j) (upd (upd (upd (upd (upd f 0 n_f_0) 1 n_f_1) 2 n_f_2) 3 n_f_3) 4 n_f_4) (upd qf 3 n_qf_3) gf uf lf mf (nF k) (tR j) (up2 (up2 (up2 (up2 (up2 (up2 (up2 (up2 (up2 r 6 n_r_6) 7 n_r_7) 8 n_r_8) 9 n_r_9) 10 n_r_10) 11 n_r_11) 12 n_r_12) 13 n_r_13) 14 n_r_14) (up2 (up2 (up2 q 0 n_q_0) 1 n_q_1) 2 n_q_2) gr ur lr mr (nR k) ⟨(hI.1 j hj).1, (hI.1 j hj).2.1, (hI.1 j hj).2.2.1, (hI.1 j hj).2.2.2⟩ hRB_n ⟨hI.2.2.1.1, hI.2.2.1.2⟩ ⟨hI.2.2.2.1.1, hI.2.2.2.1.2⟩ ⟨(hI.2.2.2.2.1 k hk).1, (hI.2.2.2.2.1 k hk).2⟩ (hI.2.2.2.2.2)
  obtain ⟨wX2, hX2, hP, hD⟩ : ∃ wX2 : va_W, XS G x xa tA a b ga ua la lb gA (upA tF j (tF j)) (upA tR j (tR j)) wX2 ∧ PP G (wX2 ++ mM G y bb f7 r7) H ∧ va_D (fun q => s.heap.size ≤ q) (wX2 ++ mM G y bb f7 r7) := ⟨_, hXn.1, hP xM_ad _ (perm_app hXn.2)⟩
  refine lv_pop hx hb dL_law_1179 rfl ?_
  refine lv_aload_n hx hb dL_law_1180 rfl (lv_at hl 2 rfl) ?_
  refine lv_aload_n hx hb dL_law_1181 rfl (lv_at hl 0 rfl) ?_
  refine lv_iload_n hx hb dL_law_1182 rfl (lv_at hl 3 rfl) ?_
  refine lv_iconst (v := 1) hx hb dL_law_1183 (by decide) ?_
  refine lv_iadd hx hb dL_law_1184 ?_
  refine lv_topi (fun v5 ev5 => ?_)
  obtain rfl : v5 = nI (n + 1) := nI_plus ev5 rfl rfl
  refine xsld ((n + 1)) hx hb hXs hbl hbA hS rfl (by omega) (by omega) dL_law_1185 ?_
  refine lv_aload_n hx hb dL_law_1186 rfl (lv_at hl 0 rfl) ?_
  refine lv_iload_n hx hb dL_law_1187 rfl (lv_at hl 3 rfl) ?_
  refine lv_iconst (v := 2) hx hb dL_law_1188 (by decide) ?_
  refine lv_iadd hx hb dL_law_1189 ?_
  refine lv_topi (fun v6 ev6 => ?_)
  obtain rfl : v6 = nI (n + 2) := nI_plus ev6 rfl rfl
  refine xsld ((n + 2)) hx hb hXs hbl hbA hS rfl (by omega) (by omega) dL_law_1190 ?_
  refine lv_aload_n hx hb dL_law_1191 rfl (lv_at hl 0 rfl) ?_
  refine lv_iload_n hx hb dL_law_1192 rfl (lv_at hl 3 rfl) ?_
  refine lv_iconst (v := 3) hx hb dL_law_1193 (by decide) ?_
  refine lv_iadd hx hb dL_law_1194 ?_
  refine lv_topi (fun v7 ev7 => ?_)
  obtain rfl : v7 = nI (n + 3) := nI_plus ev7 rfl rfl
  refine xsld ((n + 3)) hx hb hXs hbl hbA hS rfl (by omega) (by omega) dL_law_1195 ?_
  refine lawI (rest := []) (q0 := 0) ⟨hx, hb, hml, hown, hts⟩ (m_X7_greatest l G y bb f7 r7 (xs ((n + 1))) (xs ((n + 2))) (xs ((n + 3))) hMi.1 hMi.2.1 hMi.2.2.1 hMi.2.2.2.1) mi_yX7_greatest mv_yX7_greatest ml_L_113 ⟨rfl, rfl, Nat.le_of_ble_eq_true rfl, Nat.le_of_ble_eq_true rfl⟩ hK hP hD List.perm_append_comm rfl rfl rfl hl.1 rfl (Nat.le_of_ble_eq_true rfl) dL_law_1196 ⟨Nat.le_of_ble_eq_true rfl, Nat.le_of_ble_eq_true rfl⟩ hS hA (fun r8 w H locs hw hP hS => ?_)
  obtain ⟨m_f_0, m_f_20, m_f_21, m_r_15, m_r_16, m_r_17, m_r_18, m_r_19, m_r_22, m_r_23, rfl⟩ := hw
  have hM2 : MS G y bb (up2 (up2 (up2 (up2 (up2 (up2 (up2 r7 15 m_r_15) 16 m_r_16) 17 m_r_17) 18 m_r_18) 19 m_r_19) 22 m_r_22) 23 m_r_23) (mM G y bb (upd (upd (upd f7 0 m_f_0) 20 m_f_20) 21 m_f_21) (up2 (up2 (up2 (up2 (up2 (up2 (up2 r7 15 m_r_15) 16 m_r_16) 17 m_r_17) 18 m_r_18) 19 m_r_19) 22 m_r_22) 23 m_r_23)) := ⟨(upd (upd (upd f7 0 m_f_0) 20 m_f_20) 21 m_f_21), ⟨hMi.1, hMi.2.1, hMi.2.2.1, hMi.2.2.2.1, hMi.2.2.2.2.1, hMi.2.2.2.2.2.1, hMi.2.2.2.2.2.2.1, hMi.2.2.2.2.2.2.2.1, hMi.2.2.2.2.2.2.2.2.1, hMi.2.2.2.2.2.2.2.2.2.1, hMi.2.2.2.2.2.2.2.2.2.2⟩, rfl⟩
  obtain ⟨hP, hD⟩ := hP mM_ad (wX2 ++ mM G y bb (upd (upd (upd f7 0 m_f_0) 20 m_f_20) 21 m_f_21) (up2 (up2 (up2 (up2 (up2 (up2 (up2 r7 15 m_r_15) 16 m_r_16) 17 m_r_17) 18 m_r_18) 19 m_r_19) 22 m_r_22) 23 m_r_23)) List.perm_append_comm
  refine lv_pop hx hb dL_law_1199 rfl ?_
  refine lv_goto (tgt := 1654) hx hb dL_law_1200 (by decide) ?_
  have hJ2 : (JT (upA tF j (tF j)) (upA tR j (tR j)) (up2 (up2 (up2 (up2 (up2 (up2 (up2 r7 15 m_r_15) 16 m_r_16) 17 m_r_17) 18 m_r_18) 19 m_r_19) 22 m_r_22) 23 m_r_23) ∧ JC (upA tF j (tF j)) (upA tR j (tR j)) (up2 (up2 (up2 (up2 (up2 (up2 (up2 r7 15 m_r_15) 16 m_r_16) 17 m_r_17) 18 m_r_18) 19 m_r_19) 22 m_r_22) 23 m_r_23)) := ⟨JT_of hJ (hJ j hj) (fun _ _ => TO_0), JC_of hC (hC j hj) LQ_0⟩
  exact fin _ _ _ _ _ _ _ _ hX2 hM2 hJ2 hP hD hS (lv_sub hl [0, 1, 2, 3] rfl)
set_option maxHeartbeats 4000000 in
set_option maxRecDepth 100000 in
theorem law_c23 {p : Program} {l : Launch} {e : Env} {s : State} {m : MethodId} {below : List Frame} {meth : Method} {c : Code} {b_ L n : Nat} {xs : Nat → Int32} (C0 : lw_At p s m meth c b_ L xs) (hL : L ≤ 3072) (hn6 : n + 6 ≤ L) {G : GG} (hK : KK G s) (hT : ST (fun q => s.heap.size ≤ q) s s.heap) {x : Nat} {xa : Nat → Nat} {tA : Nat → Nat → Nat} {a b ga ua la lb : Nat → Nat} {gA : Nat → Nat → Nat} {y : Nat} {bb : Nat → Nat} {tF : Nat → Nat → Int32} {tR : Nat → Nat → Nat → Int32} {r7 : Nat → Nat → Int32} {wX wM : va_W} (hX : XS G x xa tA a b ga ua la lb gA tF tR wX) (hM : MS G y bb r7 wM) (hJ : (JT tF tR r7 ∧ JC tF tR r7)) {H : Heap} {locs : List Loc} {ls : Array Slot} (hP : PP G (wX ++ wM) H) (hD : va_D (fun q => s.heap.size ≤ q) (wX ++ wM)) (hS : va_S (fun q => s.heap.size ≤ q) s.heap H locs) (hl : lv_has ls 4 [(0, .ref b_), (1, .ref x), (2, .ref y), (3, .int (nI n))]) (fin : ∀ (tF2 : Nat → Nat → Int32) (tR2 : Nat → Nat → Nat → Int32) (r2 : Nat → Nat → Int32) (wX2 wM2 : va_W) (H : Heap) (locs : List Loc) (ls : Array Slot), XS G x xa tA a b ga ua la lb gA tF2 tR2 wX2 → MS G y bb r2 wM2 → (JT tF2 tR2 r2 ∧ JC tF2 tR2 r2) → PP G (wX2 ++ wM2) H → va_D (fun q => s.heap.size ≤ q) (wX2 ++ wM2) → va_S (fun q => s.heap.size ≤ q) s.heap H locs → lv_has ls 4 [(0, .ref b_), (1, .ref x), (2, .ref y), (3, .int (nI n))] → W p l e room_1 s m #[Value.ref b_] below meth c H locs 160 27087 (lw_Z below #[Value.ref b_] s) (F0 m 1654 ls [])) : W p l e room_1 s m #[Value.ref b_] below meth c H locs 160 27087 (lw_Z below #[Value.ref b_] s) (F0 m 1203 ls []) := by
  obtain ⟨hx, hb, hr, hml, hown, hts0, hXs, hbl, hlocks, hgv⟩ := id C0
  have hts : ∀ w ∈ TB, w.before #[Value.ref b_] s = true := fun w h => hts0 w (List.mem_filter.mp h).1
  have hown : s.vm.findClass RL = some m.cls := hown
  have hA : ∀ q : Nat, s.heap.size ≤ q → (fun q => s.heap.size ≤ q) q := fun _ h => h
  have hbA : ¬ (fun q => s.heap.size ≤ q) b_ := Nat.not_le.mpr hbl
  obtain ⟨xf, f, qf, gf, uf, lf, mf, r, q, gr, ur, lr, mr, nF, nR, hI, rfl⟩ := hX
  obtain ⟨f7, hMi, rfl⟩ := hM
  obtain ⟨hJ, hC⟩ := hJ
  refine lv_aload_n hx hb dL_law_1203 rfl (lv_at hl 1 rfl) ?_
  refine lv_aload_n hx hb dL_law_1204 rfl (lv_at hl 0 rfl) ?_
  refine lv_iload_n hx hb dL_law_1205 rfl (lv_at hl 3 rfl) ?_
  refine lv_iconst (v := 1) hx hb dL_law_1206 (by decide) ?_
  refine lv_iadd hx hb dL_law_1207 ?_
  refine lv_topi (fun v1 ev1 => ?_)
  obtain rfl : v1 = nI (n + 1) := nI_plus ev1 rfl rfl
  refine xsld ((n + 1)) hx hb hXs hbl hbA hS rfl (by omega) (by omega) dL_law_1208 ?_
  refine lv_aload_n hx hb dL_law_1209 rfl (lv_at hl 0 rfl) ?_
  refine lv_iload_n hx hb dL_law_1210 rfl (lv_at hl 3 rfl) ?_
  refine lv_iconst (v := 2) hx hb dL_law_1211 (by decide) ?_
  refine lv_iadd hx hb dL_law_1212 ?_
  refine lv_topi (fun v2 ev2 => ?_)
  obtain rfl : v2 = nI (n + 2) := nI_plus ev2 rfl rfl
  refine xsld ((n + 2)) hx hb hXs hbl hbA hS rfl (by omega) (by omega) dL_law_1213 ?_
  refine lv_aload_n hx hb dL_law_1214 rfl (lv_at hl 0 rfl) ?_
  refine lv_iload_n hx hb dL_law_1215 rfl (lv_at hl 3 rfl) ?_
  refine lv_iconst (v := 3) hx hb dL_law_1216 (by decide) ?_
  refine lv_iadd hx hb dL_law_1217 ?_
  refine lv_topi (fun v3 ev3 => ?_)
  obtain rfl : v3 = nI (n + 3) := nI_plus ev3 rfl rfl
  refine xsld ((n + 3)) hx hb hXs hbl hbA hS rfl (by omega) (by omega) dL_law_1218 ?_
  obtain ⟨j, hj, hjt⟩ := tbJ_ex (xs ((n + 1)))
  obtain ⟨k, hk⟩ : ∃ k, k < 16 := ⟨0, by decide⟩
  refine lawI (rest := []) (q0 := 0) ⟨hx, hb, hml, hown, hts⟩ (x_safe l G x xa (tA j) a b ga ua la lb (gA k) (rfn tA 6) (rfn gA 16) xf (tF j) f qf gf uf lf mf (nF k) (tR j) r q gr ur lr mr (nR k) (xs ((n + 1))) (xs ((n + 2))) (xs ((n + 3))) j hj hjt (if_pos hj) ((hI.1 j hj).1) ((hI.1 j hj).2.1) ((hI.1 j hj).2.2.1) ((hI.1 j hj).2.2.2) hI.2.1) mi_yX6_safe mv_yX6_safe ml_L_114 ⟨rfl, rfl, Nat.le_of_ble_eq_true rfl, Nat.le_of_ble_eq_true rfl⟩ hK hP hD (perm_app (xf_perm G x xa tA a b ga ua la lb gA xf f qf gf uf lf mf r q gr ur lr mr tF tR nF nR hj hk)) rfl rfl rfl hl.1 rfl (Nat.le_of_ble_eq_true rfl) dL_law_1219 ⟨Nat.le_of_ble_eq_true rfl, Nat.le_of_ble_eq_true rfl⟩ hS hA (fun r4 w H locs hw hP hS => ?_)
  obtain ⟨n_f_0, n_f_1, n_f_2, n_f_3, n_f_4, n_q_0, n_q_1, n_q_2, n_qf_3, n_r_6, n_r_7, n_r_8, n_r_9, n_r_10, n_r_11, n_r_12, n_r_13, n_r_14, n_xf_0, rfl, hRB_n⟩ := hw
  have hXn := XS_back (tF := tF) (tR := tR) (nF := nF) (nR := nR) (x := x) (xa := xa) (tA := tA) (a := a) (b := b) (ga := ga) (ua := ua) (la := la) (lb := lb) (gA := gA) (xf := xf) (f := f) (qf := qf) (gf := gf) (uf := uf) (lf := lf) (mf := mf) (r := r) (q := q) (gr := gr) (ur := ur) (lr := lr) (mr := mr) (G := G) hI hj hk (upd xf 0 n_xf_0) (tF j) (upd (upd (upd (upd (upd f 0 n_f_0) 1 n_f_1) 2 n_f_2) 3 n_f_3) 4 n_f_4) (upd qf 3 n_qf_3) gf uf lf mf (nF k) (tR j) (up2 (up2 (up2 (up2 (up2 (up2 (up2 (up2 (up2 r 6 n_r_6) 7 n_r_7) 8 n_r_8) 9 n_r_9) 10 n_r_10) 11 n_r_11) 12 n_r_12) 13 n_r_13) 14 n_r_14) (up2 (up2 (up2 q 0 n_q_0) 1 n_q_1) 2 n_q_2) gr ur lr mr (nR k) ⟨(hI.1 j hj).1, (hI.1 j hj).2.1, (hI.1 j hj).2.2.1, (hI.1 j hj).2.2.2⟩ hRB_n ⟨hI.2.2.1.1, hI.2.2.1.2⟩ ⟨hI.2.2.2.1.1, hI.2.2.2.1.2⟩ ⟨(hI.2.2.2.2.1 k hk).1, (hI.2.2.2.2.1 k hk).2⟩ (hI.2.2.2.2.2)
  obtain ⟨wX2, hX2, hP, hD⟩ : ∃ wX2 : va_W, XS G x xa tA a b ga ua la lb gA (upA tF j (tF j)) (upA tR j (tR j)) wX2 ∧ PP G (wX2 ++ mM G y bb f7 r7) H ∧ va_D (fun q => s.heap.size ≤ q) (wX2 ++ mM G y bb f7 r7) := ⟨_, hXn.1, hP xM_ad _ (perm_app hXn.2)⟩
  refine lv_pop hx hb dL_law_1222 rfl ?_
  refine lv_aload_n hx hb dL_law_1223 rfl (lv_at hl 2 rfl) ?_
  refine lv_aload_n hx hb dL_law_1224 rfl (lv_at hl 0 rfl) ?_
  refine lv_iload_n hx hb dL_law_1225 rfl (lv_at hl 3 rfl) ?_
  refine lv_iconst (v := 1) hx hb dL_law_1226 (by decide) ?_
  refine lv_iadd hx hb dL_law_1227 ?_
  refine lv_topi (fun v5 ev5 => ?_)
  obtain rfl : v5 = nI (n + 1) := nI_plus ev5 rfl rfl
  refine xsld ((n + 1)) hx hb hXs hbl hbA hS rfl (by omega) (by omega) dL_law_1228 ?_
  refine lv_aload_n hx hb dL_law_1229 rfl (lv_at hl 0 rfl) ?_
  refine lv_iload_n hx hb dL_law_1230 rfl (lv_at hl 3 rfl) ?_
  refine lv_iconst (v := 2) hx hb dL_law_1231 (by decide) ?_
  refine lv_iadd hx hb dL_law_1232 ?_
  refine lv_topi (fun v6 ev6 => ?_)
  obtain rfl : v6 = nI (n + 2) := nI_plus ev6 rfl rfl
  refine xsld ((n + 2)) hx hb hXs hbl hbA hS rfl (by omega) (by omega) dL_law_1233 ?_
  refine lv_aload_n hx hb dL_law_1234 rfl (lv_at hl 0 rfl) ?_
  refine lv_iload_n hx hb dL_law_1235 rfl (lv_at hl 3 rfl) ?_
  refine lv_iconst (v := 3) hx hb dL_law_1236 (by decide) ?_
  refine lv_iadd hx hb dL_law_1237 ?_
  refine lv_topi (fun v7 ev7 => ?_)
  obtain rfl : v7 = nI (n + 3) := nI_plus ev7 rfl rfl
  refine xsld ((n + 3)) hx hb hXs hbl hbA hS rfl (by omega) (by omega) dL_law_1238 ?_
  refine lawI (rest := []) (q0 := 0) ⟨hx, hb, hml, hown, hts⟩ (m_X7_safe l G y bb f7 r7 (xs ((n + 1))) (xs ((n + 2))) (xs ((n + 3))) hMi.1 hMi.2.1 hMi.2.2.1 hMi.2.2.2.1) mi_yX7_safe mv_yX7_safe ml_L_117 ⟨rfl, rfl, Nat.le_of_ble_eq_true rfl, Nat.le_of_ble_eq_true rfl⟩ hK hP hD List.perm_append_comm rfl rfl rfl hl.1 rfl (Nat.le_of_ble_eq_true rfl) dL_law_1239 ⟨Nat.le_of_ble_eq_true rfl, Nat.le_of_ble_eq_true rfl⟩ hS hA (fun r8 w H locs hw hP hS => ?_)
  obtain ⟨m_f_0, m_f_20, m_f_21, m_r_15, m_r_16, m_r_17, m_r_18, m_r_19, m_r_22, m_r_23, rfl⟩ := hw
  have hM2 : MS G y bb (up2 (up2 (up2 (up2 (up2 (up2 (up2 r7 15 m_r_15) 16 m_r_16) 17 m_r_17) 18 m_r_18) 19 m_r_19) 22 m_r_22) 23 m_r_23) (mM G y bb (upd (upd (upd f7 0 m_f_0) 20 m_f_20) 21 m_f_21) (up2 (up2 (up2 (up2 (up2 (up2 (up2 r7 15 m_r_15) 16 m_r_16) 17 m_r_17) 18 m_r_18) 19 m_r_19) 22 m_r_22) 23 m_r_23)) := ⟨(upd (upd (upd f7 0 m_f_0) 20 m_f_20) 21 m_f_21), ⟨hMi.1, hMi.2.1, hMi.2.2.1, hMi.2.2.2.1, hMi.2.2.2.2.1, hMi.2.2.2.2.2.1, hMi.2.2.2.2.2.2.1, hMi.2.2.2.2.2.2.2.1, hMi.2.2.2.2.2.2.2.2.1, hMi.2.2.2.2.2.2.2.2.2.1, hMi.2.2.2.2.2.2.2.2.2.2⟩, rfl⟩
  obtain ⟨hP, hD⟩ := hP mM_ad (wX2 ++ mM G y bb (upd (upd (upd f7 0 m_f_0) 20 m_f_20) 21 m_f_21) (up2 (up2 (up2 (up2 (up2 (up2 (up2 r7 15 m_r_15) 16 m_r_16) 17 m_r_17) 18 m_r_18) 19 m_r_19) 22 m_r_22) 23 m_r_23)) List.perm_append_comm
  refine lv_pop hx hb dL_law_1242 rfl ?_
  refine lv_goto (tgt := 1654) hx hb dL_law_1243 (by decide) ?_
  have hJ2 : (JT (upA tF j (tF j)) (upA tR j (tR j)) (up2 (up2 (up2 (up2 (up2 (up2 (up2 r7 15 m_r_15) 16 m_r_16) 17 m_r_17) 18 m_r_18) 19 m_r_19) 22 m_r_22) 23 m_r_23) ∧ JC (upA tF j (tF j)) (upA tR j (tR j)) (up2 (up2 (up2 (up2 (up2 (up2 (up2 r7 15 m_r_15) 16 m_r_16) 17 m_r_17) 18 m_r_18) 19 m_r_19) 22 m_r_22) 23 m_r_23)) := ⟨JT_of hJ (hJ j hj) (fun _ _ => TO_0), JC_of hC (hC j hj) LQ_0⟩
  exact fin _ _ _ _ _ _ _ _ hX2 hM2 hJ2 hP hD hS (lv_sub hl [0, 1, 2, 3] rfl)
set_option maxHeartbeats 4000000 in
set_option maxRecDepth 100000 in
theorem law_c24 {p : Program} {l : Launch} {e : Env} {s : State} {m : MethodId} {below : List Frame} {meth : Method} {c : Code} {b_ L n : Nat} {xs : Nat → Int32} (C0 : lw_At p s m meth c b_ L xs) (hL : L ≤ 3072) (hn6 : n + 6 ≤ L) {G : GG} (hK : KK G s) (hT : ST (fun q => s.heap.size ≤ q) s s.heap) {x : Nat} {xa : Nat → Nat} {tA : Nat → Nat → Nat} {a b ga ua la lb : Nat → Nat} {gA : Nat → Nat → Nat} {y : Nat} {bb : Nat → Nat} {tF : Nat → Nat → Int32} {tR : Nat → Nat → Nat → Int32} {r7 : Nat → Nat → Int32} {wX wM : va_W} (hX : XS G x xa tA a b ga ua la lb gA tF tR wX) (hM : MS G y bb r7 wM) (hJ : (JT tF tR r7 ∧ JC tF tR r7)) {H : Heap} {locs : List Loc} {ls : Array Slot} (hP : PP G (wX ++ wM) H) (hD : va_D (fun q => s.heap.size ≤ q) (wX ++ wM)) (hS : va_S (fun q => s.heap.size ≤ q) s.heap H locs) (hl : lv_has ls 4 [(0, .ref b_), (1, .ref x), (2, .ref y), (3, .int (nI n))]) (fin : ∀ (tF2 : Nat → Nat → Int32) (tR2 : Nat → Nat → Nat → Int32) (r2 : Nat → Nat → Int32) (wX2 wM2 : va_W) (H : Heap) (locs : List Loc) (ls : Array Slot), XS G x xa tA a b ga ua la lb gA tF2 tR2 wX2 → MS G y bb r2 wM2 → (JT tF2 tR2 r2 ∧ JC tF2 tR2 r2) → PP G (wX2 ++ wM2) H → va_D (fun q => s.heap.size ≤ q) (wX2 ++ wM2) → va_S (fun q => s.heap.size ≤ q) s.heap H locs → lv_has ls 4 [(0, .ref b_), (1, .ref x), (2, .ref y), (3, .int (nI n))] → W p l e room_1 s m #[Value.ref b_] below meth c H locs 160 27087 (lw_Z below #[Value.ref b_] s) (F0 m 1654 ls [])) : W p l e room_1 s m #[Value.ref b_] below meth c H locs 160 27087 (lw_Z below #[Value.ref b_] s) (F0 m 1246 ls []) := by
  obtain ⟨hx, hb, hr, hml, hown, hts0, hXs, hbl, hlocks, hgv⟩ := id C0
  have hts : ∀ w ∈ TB, w.before #[Value.ref b_] s = true := fun w h => hts0 w (List.mem_filter.mp h).1
  have hown : s.vm.findClass RL = some m.cls := hown
  have hA : ∀ q : Nat, s.heap.size ≤ q → (fun q => s.heap.size ≤ q) q := fun _ h => h
  have hbA : ¬ (fun q => s.heap.size ≤ q) b_ := Nat.not_le.mpr hbl
  obtain ⟨xf, f, qf, gf, uf, lf, mf, r, q, gr, ur, lr, mr, nF, nR, hI, rfl⟩ := hX
  obtain ⟨f7, hMi, rfl⟩ := hM
  obtain ⟨hJ, hC⟩ := hJ
  refine lv_aload_n hx hb dL_law_1246 rfl (lv_at hl 1 rfl) ?_
  refine lv_aload_n hx hb dL_law_1247 rfl (lv_at hl 0 rfl) ?_
  refine lv_iload_n hx hb dL_law_1248 rfl (lv_at hl 3 rfl) ?_
  refine lv_iconst (v := 1) hx hb dL_law_1249 (by decide) ?_
  refine lv_iadd hx hb dL_law_1250 ?_
  refine lv_topi (fun v1 ev1 => ?_)
  obtain rfl : v1 = nI (n + 1) := nI_plus ev1 rfl rfl
  refine xsld ((n + 1)) hx hb hXs hbl hbA hS rfl (by omega) (by omega) dL_law_1251 ?_
  obtain ⟨j, hj, hjt⟩ := tbJ_ex (xs ((n + 1)))
  obtain ⟨k, hk⟩ : ∃ k, k < 16 := ⟨0, by decide⟩
  refine lawI (rest := []) (q0 := 0) ⟨hx, hb, hml, hown, hts⟩ (x_unsafe l G x xa (tA j) a b ga ua la lb (gA k) (rfn tA 6) (rfn gA 16) xf (tF j) f qf gf uf lf mf (nF k) (tR j) r q gr ur lr mr (nR k) (xs ((n + 1))) j hj hjt (if_pos hj) ((hI.1 j hj).1) ((hI.1 j hj).2.1) ((hI.1 j hj).2.2.1) ((hI.1 j hj).2.2.2) hI.2.1) mi_yX6_unsafe mv_yX6_unsafe ml_L_118 ⟨rfl, rfl, Nat.le_of_ble_eq_true rfl, Nat.le_of_ble_eq_true rfl⟩ hK hP hD (perm_app (xf_perm G x xa tA a b ga ua la lb gA xf f qf gf uf lf mf r q gr ur lr mr tF tR nF nR hj hk)) rfl rfl rfl hl.1 rfl (Nat.le_of_ble_eq_true rfl) dL_law_1252 ⟨Nat.le_of_ble_eq_true rfl, Nat.le_of_ble_eq_true rfl⟩ hS hA (fun r2 w H locs hw hP hS => ?_)
  obtain ⟨n_f_0, n_f_1, n_f_2, n_f_3, n_f_4, n_q_0, n_q_1, n_q_2, n_qf_3, n_r_6, n_r_7, n_r_8, n_r_9, n_r_10, n_r_11, n_r_12, n_r_13, n_r_14, n_xf_0, rfl, hRB_n⟩ := hw
  have hXn := XS_back (tF := tF) (tR := tR) (nF := nF) (nR := nR) (x := x) (xa := xa) (tA := tA) (a := a) (b := b) (ga := ga) (ua := ua) (la := la) (lb := lb) (gA := gA) (xf := xf) (f := f) (qf := qf) (gf := gf) (uf := uf) (lf := lf) (mf := mf) (r := r) (q := q) (gr := gr) (ur := ur) (lr := lr) (mr := mr) (G := G) hI hj hk (upd xf 0 n_xf_0) (tF j) (upd (upd (upd (upd (upd f 0 n_f_0) 1 n_f_1) 2 n_f_2) 3 n_f_3) 4 n_f_4) (upd qf 3 n_qf_3) gf uf lf mf (nF k) (tR j) (up2 (up2 (up2 (up2 (up2 (up2 (up2 (up2 (up2 r 6 n_r_6) 7 n_r_7) 8 n_r_8) 9 n_r_9) 10 n_r_10) 11 n_r_11) 12 n_r_12) 13 n_r_13) 14 n_r_14) (up2 (up2 (up2 q 0 n_q_0) 1 n_q_1) 2 n_q_2) gr ur lr mr (nR k) ⟨(hI.1 j hj).1, (hI.1 j hj).2.1, (hI.1 j hj).2.2.1, (hI.1 j hj).2.2.2⟩ hRB_n ⟨hI.2.2.1.1, hI.2.2.1.2⟩ ⟨hI.2.2.2.1.1, hI.2.2.2.1.2⟩ ⟨(hI.2.2.2.2.1 k hk).1, (hI.2.2.2.2.1 k hk).2⟩ (hI.2.2.2.2.2)
  obtain ⟨wX2, hX2, hP, hD⟩ : ∃ wX2 : va_W, XS G x xa tA a b ga ua la lb gA (upA tF j (tF j)) (upA tR j (tR j)) wX2 ∧ PP G (wX2 ++ mM G y bb f7 r7) H ∧ va_D (fun q => s.heap.size ≤ q) (wX2 ++ mM G y bb f7 r7) := ⟨_, hXn.1, hP xM_ad _ (perm_app hXn.2)⟩
  refine lv_pop hx hb dL_law_1255 rfl ?_
  refine lv_aload_n hx hb dL_law_1256 rfl (lv_at hl 2 rfl) ?_
  refine lv_aload_n hx hb dL_law_1257 rfl (lv_at hl 0 rfl) ?_
  refine lv_iload_n hx hb dL_law_1258 rfl (lv_at hl 3 rfl) ?_
  refine lv_iconst (v := 1) hx hb dL_law_1259 (by decide) ?_
  refine lv_iadd hx hb dL_law_1260 ?_
  refine lv_topi (fun v3 ev3 => ?_)
  obtain rfl : v3 = nI (n + 1) := nI_plus ev3 rfl rfl
  refine xsld ((n + 1)) hx hb hXs hbl hbA hS rfl (by omega) (by omega) dL_law_1261 ?_
  refine lawI (rest := []) (q0 := 0) ⟨hx, hb, hml, hown, hts⟩ (m_X7_unsafe l G y bb f7 r7 (xs ((n + 1))) hMi.1 hMi.2.1 hMi.2.2.1 hMi.2.2.2.1) mi_yX7_unsafe mv_yX7_unsafe ml_L_122 ⟨rfl, rfl, Nat.le_of_ble_eq_true rfl, Nat.le_of_ble_eq_true rfl⟩ hK hP hD List.perm_append_comm rfl rfl rfl hl.1 rfl (Nat.le_of_ble_eq_true rfl) dL_law_1262 ⟨Nat.le_of_ble_eq_true rfl, Nat.le_of_ble_eq_true rfl⟩ hS hA (fun r4 w H locs hw hP hS => ?_)
  obtain ⟨m_f_0, m_f_20, m_f_21, m_r_15, m_r_16, m_r_17, m_r_18, m_r_19, m_r_22, m_r_23, rfl⟩ := hw
  have hM2 : MS G y bb (up2 (up2 (up2 (up2 (up2 (up2 (up2 r7 15 m_r_15) 16 m_r_16) 17 m_r_17) 18 m_r_18) 19 m_r_19) 22 m_r_22) 23 m_r_23) (mM G y bb (upd (upd (upd f7 0 m_f_0) 20 m_f_20) 21 m_f_21) (up2 (up2 (up2 (up2 (up2 (up2 (up2 r7 15 m_r_15) 16 m_r_16) 17 m_r_17) 18 m_r_18) 19 m_r_19) 22 m_r_22) 23 m_r_23)) := ⟨(upd (upd (upd f7 0 m_f_0) 20 m_f_20) 21 m_f_21), ⟨hMi.1, hMi.2.1, hMi.2.2.1, hMi.2.2.2.1, hMi.2.2.2.2.1, hMi.2.2.2.2.2.1, hMi.2.2.2.2.2.2.1, hMi.2.2.2.2.2.2.2.1, hMi.2.2.2.2.2.2.2.2.1, hMi.2.2.2.2.2.2.2.2.2.1, hMi.2.2.2.2.2.2.2.2.2.2⟩, rfl⟩
  obtain ⟨hP, hD⟩ := hP mM_ad (wX2 ++ mM G y bb (upd (upd (upd f7 0 m_f_0) 20 m_f_20) 21 m_f_21) (up2 (up2 (up2 (up2 (up2 (up2 (up2 r7 15 m_r_15) 16 m_r_16) 17 m_r_17) 18 m_r_18) 19 m_r_19) 22 m_r_22) 23 m_r_23)) List.perm_append_comm
  refine lv_pop hx hb dL_law_1265 rfl ?_
  refine lv_goto (tgt := 1654) hx hb dL_law_1266 (by decide) ?_
  have hJ2 : (JT (upA tF j (tF j)) (upA tR j (tR j)) (up2 (up2 (up2 (up2 (up2 (up2 (up2 r7 15 m_r_15) 16 m_r_16) 17 m_r_17) 18 m_r_18) 19 m_r_19) 22 m_r_22) 23 m_r_23) ∧ JC (upA tF j (tF j)) (upA tR j (tR j)) (up2 (up2 (up2 (up2 (up2 (up2 (up2 r7 15 m_r_15) 16 m_r_16) 17 m_r_17) 18 m_r_18) 19 m_r_19) 22 m_r_22) 23 m_r_23)) := ⟨JT_of hJ (hJ j hj) (fun _ _ => TO_0), JC_of hC (hC j hj) LQ_0⟩
  exact fin _ _ _ _ _ _ _ _ hX2 hM2 hJ2 hP hD hS (lv_sub hl [0, 1, 2, 3] rfl)
set_option maxHeartbeats 4000000 in
set_option maxRecDepth 100000 in
theorem law_c25 {p : Program} {l : Launch} {e : Env} {s : State} {m : MethodId} {below : List Frame} {meth : Method} {c : Code} {b_ L n : Nat} {xs : Nat → Int32} (C0 : lw_At p s m meth c b_ L xs) (hL : L ≤ 3072) (hn6 : n + 6 ≤ L) {G : GG} (hK : KK G s) (hT : ST (fun q => s.heap.size ≤ q) s s.heap) {x : Nat} {xa : Nat → Nat} {tA : Nat → Nat → Nat} {a b ga ua la lb : Nat → Nat} {gA : Nat → Nat → Nat} {y : Nat} {bb : Nat → Nat} {tF : Nat → Nat → Int32} {tR : Nat → Nat → Nat → Int32} {r7 : Nat → Nat → Int32} {wX wM : va_W} (hX : XS G x xa tA a b ga ua la lb gA tF tR wX) (hM : MS G y bb r7 wM) (hJ : (JT tF tR r7 ∧ JC tF tR r7)) {H : Heap} {locs : List Loc} {ls : Array Slot} (hP : PP G (wX ++ wM) H) (hD : va_D (fun q => s.heap.size ≤ q) (wX ++ wM)) (hS : va_S (fun q => s.heap.size ≤ q) s.heap H locs) (hl : lv_has ls 4 [(0, .ref b_), (1, .ref x), (2, .ref y), (3, .int (nI n))]) (fin : ∀ (tF2 : Nat → Nat → Int32) (tR2 : Nat → Nat → Nat → Int32) (r2 : Nat → Nat → Int32) (wX2 wM2 : va_W) (H : Heap) (locs : List Loc) (ls : Array Slot), XS G x xa tA a b ga ua la lb gA tF2 tR2 wX2 → MS G y bb r2 wM2 → (JT tF2 tR2 r2 ∧ JC tF2 tR2 r2) → PP G (wX2 ++ wM2) H → va_D (fun q => s.heap.size ≤ q) (wX2 ++ wM2) → va_S (fun q => s.heap.size ≤ q) s.heap H locs → lv_has ls 4 [(0, .ref b_), (1, .ref x), (2, .ref y), (3, .int (nI n))] → W p l e room_1 s m #[Value.ref b_] below meth c H locs 160 27087 (lw_Z below #[Value.ref b_] s) (F0 m 1654 ls [])) : W p l e room_1 s m #[Value.ref b_] below meth c H locs 160 27087 (lw_Z below #[Value.ref b_] s) (F0 m 1269 ls []) := by
  obtain ⟨hx, hb, hr, hml, hown, hts0, hXs, hbl, hlocks, hgv⟩ := id C0
  have hts : ∀ w ∈ TB, w.before #[Value.ref b_] s = true := fun w h => hts0 w (List.mem_filter.mp h).1
  have hown : s.vm.findClass RL = some m.cls := hown
  have hA : ∀ q : Nat, s.heap.size ≤ q → (fun q => s.heap.size ≤ q) q := fun _ h => h
  have hbA : ¬ (fun q => s.heap.size ≤ q) b_ := Nat.not_le.mpr hbl
  obtain ⟨xf, f, qf, gf, uf, lf, mf, r, q, gr, ur, lr, mr, nF, nR, hI, rfl⟩ := hX
  obtain ⟨f7, hMi, rfl⟩ := hM
  obtain ⟨hJ, hC⟩ := hJ
  refine lv_aload_n hx hb dL_law_1269 rfl (lv_at hl 1 rfl) ?_
  refine lv_aload_n hx hb dL_law_1270 rfl (lv_at hl 0 rfl) ?_
  refine lv_iload_n hx hb dL_law_1271 rfl (lv_at hl 3 rfl) ?_
  refine lv_iconst (v := 1) hx hb dL_law_1272 (by decide) ?_
  refine lv_iadd hx hb dL_law_1273 ?_
  refine lv_topi (fun v1 ev1 => ?_)
  obtain rfl : v1 = nI (n + 1) := nI_plus ev1 rfl rfl
  refine xsld ((n + 1)) hx hb hXs hbl hbA hS rfl (by omega) (by omega) dL_law_1274 ?_
  refine lv_aload_n hx hb dL_law_1275 rfl (lv_at hl 0 rfl) ?_
  refine lv_iload_n hx hb dL_law_1276 rfl (lv_at hl 3 rfl) ?_
  refine lv_iconst (v := 2) hx hb dL_law_1277 (by decide) ?_
  refine lv_iadd hx hb dL_law_1278 ?_
  refine lv_topi (fun v2 ev2 => ?_)
  obtain rfl : v2 = nI (n + 2) := nI_plus ev2 rfl rfl
  refine xsld ((n + 2)) hx hb hXs hbl hbA hS rfl (by omega) (by omega) dL_law_1279 ?_
  refine lv_aload_n hx hb dL_law_1280 rfl (lv_at hl 0 rfl) ?_
  refine lv_iload_n hx hb dL_law_1281 rfl (lv_at hl 3 rfl) ?_
  refine lv_iconst (v := 3) hx hb dL_law_1282 (by decide) ?_
  refine lv_iadd hx hb dL_law_1283 ?_
  refine lv_topi (fun v3 ev3 => ?_)
  obtain rfl : v3 = nI (n + 3) := nI_plus ev3 rfl rfl
  refine xsld ((n + 3)) hx hb hXs hbl hbA hS rfl (by omega) (by omega) dL_law_1284 ?_
  refine lv_aload_n hx hb dL_law_1285 rfl (lv_at hl 0 rfl) ?_
  refine lv_iload_n hx hb dL_law_1286 rfl (lv_at hl 3 rfl) ?_
  refine lv_iconst (v := 4) hx hb dL_law_1287 (by decide) ?_
  refine lv_iadd hx hb dL_law_1288 ?_
  refine lv_topi (fun v4 ev4 => ?_)
  obtain rfl : v4 = nI (n + 4) := nI_plus ev4 rfl rfl
  refine xsld ((n + 4)) hx hb hXs hbl hbA hS rfl (by omega) (by omega) dL_law_1289 ?_
  have j1298_5 : ∀ (z5 : Int32) (gz5 : z5 = 0 ∨ z5 = 1) (H : Heap) (locs : List Loc) (ls : Array Slot), PP G (xFull G x xa tA a b ga ua la lb gA xf f qf gf uf lf mf r q gr ur lr mr tF tR nF nR ++ mM G y bb f7 r7) H → va_S (fun q => s.heap.size ≤ q) s.heap H locs → lv_has ls 4 [(0, .ref b_), (1, .ref x), (2, .ref y), (3, .int (nI n))] → W p l e room_1 s m #[Value.ref b_] below meth c H locs 160 27087 (lw_Z below #[Value.ref b_] s) (F0 m 1298 ls [.int z5, .int (xs ((n + 3))), .int (xs ((n + 2))), .int (xs ((n + 1))), .ref x]) := by
    intro z5 gz5 H locs ls hP hS hl
    obtain ⟨j, hj, hjt⟩ := tbJ_ex (xs ((n + 1)))
    obtain ⟨k, hk⟩ : ∃ k, k < 16 := ⟨0, by decide⟩
    refine lawI (rest := []) (q0 := 0) ⟨hx, hb, hml, hown, hts⟩ (x_witness l G x xa (tA j) a b ga ua la lb (gA k) (rfn tA 6) (rfn gA 16) xf (tF j) f qf gf uf lf mf (nF k) (tR j) r q gr ur lr mr (nR k) (xs ((n + 1))) (xs ((n + 2))) (xs ((n + 3))) z5 j hj hjt (if_pos hj) ((hI.1 j hj).1) ((hI.1 j hj).2.1) ((hI.1 j hj).2.2.1) ((hI.1 j hj).2.2.2) hI.2.1 hI.2.2.1.1 hI.2.2.1.2) mi_yX6_witness mv_yX6_witness ml_L_123 ⟨rfl, rfl, Nat.le_of_ble_eq_true rfl, Nat.le_of_ble_eq_true rfl⟩ hK hP hD (perm_app (xf_perm G x xa tA a b ga ua la lb gA xf f qf gf uf lf mf r q gr ur lr mr tF tR nF nR hj hk)) rfl rfl rfl hl.1 rfl (Nat.le_of_ble_eq_true rfl) dL_law_1298 ⟨Nat.le_of_ble_eq_true rfl, Nat.le_of_ble_eq_true rfl⟩ hS hA (fun r6 w H locs hw hP hS => ?_)
    obtain ⟨n_f_0, n_f_1, n_f_2, n_f_3, n_f_4, n_lf_0, n_lf_1, n_lr_2, n_q_0, n_q_1, n_q_2, n_qf_3, n_r_6, n_r_7, n_r_8, n_r_9, n_r_10, n_r_11, n_r_12, n_r_13, n_r_14, n_xf_0, n_xf_7, rfl, hRB_n, hL0_n, hL1_n⟩ := hw
    have hXn := XS_back (tF := tF) (tR := tR) (nF := nF) (nR := nR) (x := x) (xa := xa) (tA := tA) (a := a) (b := b) (ga := ga) (ua := ua) (la := la) (lb := lb) (gA := gA) (xf := xf) (f := f) (qf := qf) (gf := gf) (uf := uf) (lf := lf) (mf := mf) (r := r) (q := q) (gr := gr) (ur := ur) (lr := lr) (mr := mr) (G := G) hI hj hk (upd (upd xf 0 n_xf_0) 7 n_xf_7) (tF j) (upd (upd (upd (upd (upd f 0 n_f_0) 1 n_f_1) 2 n_f_2) 3 n_f_3) 4 n_f_4) (upd qf 3 n_qf_3) gf uf (upd (upd lf 0 n_lf_0) 1 n_lf_1) mf (nF k) (tR j) (up2 (up2 (up2 (up2 (up2 (up2 (up2 (up2 (up2 r 6 n_r_6) 7 n_r_7) 8 n_r_8) 9 n_r_9) 10 n_r_10) 11 n_r_11) 12 n_r_12) 13 n_r_13) 14 n_r_14) (up2 (up2 (up2 q 0 n_q_0) 1 n_q_1) 2 n_q_2) gr ur (up2 lr 2 n_lr_2) mr (nR k) ⟨(hI.1 j hj).1, (hI.1 j hj).2.1, (hI.1 j hj).2.2.1, (hI.1 j hj).2.2.2⟩ hRB_n ⟨hL0_n, hL1_n⟩ ⟨hI.2.2.2.1.1, hI.2.2.2.1.2⟩ ⟨(hI.2.2.2.2.1 k hk).1, (hI.2.2.2.2.1 k hk).2⟩ (hI.2.2.2.2.2)
    obtain ⟨wX2, hX2, hP, hD⟩ : ∃ wX2 : va_W, XS G x xa tA a b ga ua la lb gA (upA tF j (tF j)) (upA tR j (tR j)) wX2 ∧ PP G (wX2 ++ mM G y bb f7 r7) H ∧ va_D (fun q => s.heap.size ≤ q) (wX2 ++ mM G y bb f7 r7) := ⟨_, hXn.1, hP xM_ad _ (perm_app hXn.2)⟩
    refine lv_pop hx hb dL_law_1301 rfl ?_
    refine lv_aload_n hx hb dL_law_1302 rfl (lv_at hl 2 rfl) ?_
    refine lv_aload_n hx hb dL_law_1303 rfl (lv_at hl 0 rfl) ?_
    refine lv_iload_n hx hb dL_law_1304 rfl (lv_at hl 3 rfl) ?_
    refine lv_iconst (v := 1) hx hb dL_law_1305 (by decide) ?_
    refine lv_iadd hx hb dL_law_1306 ?_
    refine lv_topi (fun v7 ev7 => ?_)
    obtain rfl : v7 = nI (n + 1) := nI_plus ev7 rfl rfl
    refine xsld ((n + 1)) hx hb hXs hbl hbA hS rfl (by omega) (by omega) dL_law_1307 ?_
    refine lv_aload_n hx hb dL_law_1308 rfl (lv_at hl 0 rfl) ?_
    refine lv_iload_n hx hb dL_law_1309 rfl (lv_at hl 3 rfl) ?_
    refine lv_iconst (v := 2) hx hb dL_law_1310 (by decide) ?_
    refine lv_iadd hx hb dL_law_1311 ?_
    refine lv_topi (fun v8 ev8 => ?_)
    obtain rfl : v8 = nI (n + 2) := nI_plus ev8 rfl rfl
    refine xsld ((n + 2)) hx hb hXs hbl hbA hS rfl (by omega) (by omega) dL_law_1312 ?_
    refine lv_aload_n hx hb dL_law_1313 rfl (lv_at hl 0 rfl) ?_
    refine lv_iload_n hx hb dL_law_1314 rfl (lv_at hl 3 rfl) ?_
    refine lv_iconst (v := 3) hx hb dL_law_1315 (by decide) ?_
    refine lv_iadd hx hb dL_law_1316 ?_
    refine lv_topi (fun v9 ev9 => ?_)
    obtain rfl : v9 = nI (n + 3) := nI_plus ev9 rfl rfl
    refine xsld ((n + 3)) hx hb hXs hbl hbA hS rfl (by omega) (by omega) dL_law_1317 ?_
    refine lv_aload_n hx hb dL_law_1318 rfl (lv_at hl 0 rfl) ?_
    refine lv_iload_n hx hb dL_law_1319 rfl (lv_at hl 3 rfl) ?_
    refine lv_iconst (v := 4) hx hb dL_law_1320 (by decide) ?_
    refine lv_iadd hx hb dL_law_1321 ?_
    refine lv_topi (fun v10 ev10 => ?_)
    obtain rfl : v10 = nI (n + 4) := nI_plus ev10 rfl rfl
    refine xsld ((n + 4)) hx hb hXs hbl hbA hS rfl (by omega) (by omega) dL_law_1322 ?_
    have j1331_11 : ∀ (z11 : Int32) (gz11 : z11 = 0 ∨ z11 = 1) (H : Heap) (locs : List Loc) (ls : Array Slot), PP G (wX2 ++ mM G y bb f7 r7) H → va_S (fun q => s.heap.size ≤ q) s.heap H locs → lv_has ls 4 [(0, .ref b_), (1, .ref x), (2, .ref y), (3, .int (nI n))] → W p l e room_1 s m #[Value.ref b_] below meth c H locs 160 27087 (lw_Z below #[Value.ref b_] s) (F0 m 1331 ls [.int z11, .int (xs ((n + 3))), .int (xs ((n + 2))), .int (xs ((n + 1))), .ref y]) := by
      intro z11 gz11 H locs ls hP hS hl
      refine lawI (rest := []) (q0 := 0) ⟨hx, hb, hml, hown, hts⟩ (m_X7_witness l G y bb f7 r7 (xs ((n + 1))) (xs ((n + 2))) (xs ((n + 3))) z11 hMi.1 hMi.2.1 hMi.2.2.1 hMi.2.2.2.1 hMi.2.2.2.2.1 hMi.2.2.2.2.2.1) mi_yX7_witness mv_yX7_witness ml_L_127 ⟨rfl, rfl, Nat.le_of_ble_eq_true rfl, Nat.le_of_ble_eq_true rfl⟩ hK hP hD List.perm_append_comm rfl rfl rfl hl.1 rfl (Nat.le_of_ble_eq_true rfl) dL_law_1331 ⟨Nat.le_of_ble_eq_true rfl, Nat.le_of_ble_eq_true rfl⟩ hS hA (fun r12 w H locs hw hP hS => ?_)
      obtain ⟨m_f_0, m_f_20, m_f_21, m_f_27, m_f_28, m_r_15, m_r_16, m_r_17, m_r_18, m_r_19, m_r_22, m_r_23, m_r_24, m_r_25, m_r_26, rfl, h27_n, h28_n⟩ := hw
      have hM2 : MS G y bb (up2 (up2 (up2 (up2 (up2 (up2 (up2 (up2 (up2 (up2 r7 15 m_r_15) 16 m_r_16) 17 m_r_17) 18 m_r_18) 19 m_r_19) 22 m_r_22) 23 m_r_23) 24 m_r_24) 25 m_r_25) 26 m_r_26) (mM G y bb (upd (upd (upd (upd (upd f7 0 m_f_0) 20 m_f_20) 21 m_f_21) 27 m_f_27) 28 m_f_28) (up2 (up2 (up2 (up2 (up2 (up2 (up2 (up2 (up2 (up2 r7 15 m_r_15) 16 m_r_16) 17 m_r_17) 18 m_r_18) 19 m_r_19) 22 m_r_22) 23 m_r_23) 24 m_r_24) 25 m_r_25) 26 m_r_26)) := ⟨(upd (upd (upd (upd (upd f7 0 m_f_0) 20 m_f_20) 21 m_f_21) 27 m_f_27) 28 m_f_28), ⟨hMi.1, hMi.2.1, hMi.2.2.1, hMi.2.2.2.1, h27_n, h28_n, hMi.2.2.2.2.2.2.1, hMi.2.2.2.2.2.2.2.1, hMi.2.2.2.2.2.2.2.2.1, hMi.2.2.2.2.2.2.2.2.2.1, hMi.2.2.2.2.2.2.2.2.2.2⟩, rfl⟩
      obtain ⟨hP, hD⟩ := hP mM_ad (wX2 ++ mM G y bb (upd (upd (upd (upd (upd f7 0 m_f_0) 20 m_f_20) 21 m_f_21) 27 m_f_27) 28 m_f_28) (up2 (up2 (up2 (up2 (up2 (up2 (up2 (up2 (up2 (up2 r7 15 m_r_15) 16 m_r_16) 17 m_r_17) 18 m_r_18) 19 m_r_19) 22 m_r_22) 23 m_r_23) 24 m_r_24) 25 m_r_25) 26 m_r_26)) List.perm_append_comm
      refine lv_pop hx hb dL_law_1334 rfl ?_
      refine lv_goto (tgt := 1654) hx hb dL_law_1335 (by decide) ?_
      have hJ2 : (JT (upA tF j (tF j)) (upA tR j (tR j)) (up2 (up2 (up2 (up2 (up2 (up2 (up2 (up2 (up2 (up2 r7 15 m_r_15) 16 m_r_16) 17 m_r_17) 18 m_r_18) 19 m_r_19) 22 m_r_22) 23 m_r_23) 24 m_r_24) 25 m_r_25) 26 m_r_26) ∧ JC (upA tF j (tF j)) (upA tR j (tR j)) (up2 (up2 (up2 (up2 (up2 (up2 (up2 (up2 (up2 (up2 r7 15 m_r_15) 16 m_r_16) 17 m_r_17) 18 m_r_18) 19 m_r_19) 22 m_r_22) 23 m_r_23) 24 m_r_24) 25 m_r_25) 26 m_r_26)) := ⟨JT_of hJ (hJ j hj) (fun _ _ => TO_0), JC_of hC (hC j hj) LQ_0⟩
      exact fin _ _ _ _ _ _ _ _ hX2 hM2 hJ2 hP hD hS (lv_sub hl [0, 1, 2, 3] rfl)
    refine lv_if_eq (tgt := 1330) hx hb dL_law_1323 (by decide) (fun c13 => ?_) (fun c13 => ?_)
    · refine lv_iconst (v := 0) hx hb dL_law_1330 (by decide) ?_
      exact j1331_11 0 (Or.inl rfl) _ _ _ hP hS (lv_sub hl [0, 1, 2, 3] rfl)
    · refine lv_iconst (v := 1) hx hb dL_law_1326 (by decide) ?_
      refine lv_goto (tgt := 1331) hx hb dL_law_1327 (by decide) ?_
      exact j1331_11 1 (Or.inr rfl) _ _ _ hP hS (lv_sub hl [0, 1, 2, 3] rfl)
  refine lv_if_eq (tgt := 1297) hx hb dL_law_1290 (by decide) (fun c14 => ?_) (fun c14 => ?_)
  · refine lv_iconst (v := 0) hx hb dL_law_1297 (by decide) ?_
    exact j1298_5 0 (Or.inl rfl) _ _ _ hP hS (lv_sub hl [0, 1, 2, 3] rfl)
  · refine lv_iconst (v := 1) hx hb dL_law_1293 (by decide) ?_
    refine lv_goto (tgt := 1298) hx hb dL_law_1294 (by decide) ?_
    exact j1298_5 1 (Or.inr rfl) _ _ _ hP hS (lv_sub hl [0, 1, 2, 3] rfl)
set_option maxHeartbeats 4000000 in
set_option maxRecDepth 100000 in
theorem law_c26 {p : Program} {l : Launch} {e : Env} {s : State} {m : MethodId} {below : List Frame} {meth : Method} {c : Code} {b_ L n : Nat} {xs : Nat → Int32} (C0 : lw_At p s m meth c b_ L xs) (hL : L ≤ 3072) (hn6 : n + 6 ≤ L) {G : GG} (hK : KK G s) (hT : ST (fun q => s.heap.size ≤ q) s s.heap) {x : Nat} {xa : Nat → Nat} {tA : Nat → Nat → Nat} {a b ga ua la lb : Nat → Nat} {gA : Nat → Nat → Nat} {y : Nat} {bb : Nat → Nat} {tF : Nat → Nat → Int32} {tR : Nat → Nat → Nat → Int32} {r7 : Nat → Nat → Int32} {wX wM : va_W} (hX : XS G x xa tA a b ga ua la lb gA tF tR wX) (hM : MS G y bb r7 wM) (hJ : (JT tF tR r7 ∧ JC tF tR r7)) {H : Heap} {locs : List Loc} {ls : Array Slot} (hP : PP G (wX ++ wM) H) (hD : va_D (fun q => s.heap.size ≤ q) (wX ++ wM)) (hS : va_S (fun q => s.heap.size ≤ q) s.heap H locs) (hl : lv_has ls 4 [(0, .ref b_), (1, .ref x), (2, .ref y), (3, .int (nI n))]) (fin : ∀ (tF2 : Nat → Nat → Int32) (tR2 : Nat → Nat → Nat → Int32) (r2 : Nat → Nat → Int32) (wX2 wM2 : va_W) (H : Heap) (locs : List Loc) (ls : Array Slot), XS G x xa tA a b ga ua la lb gA tF2 tR2 wX2 → MS G y bb r2 wM2 → (JT tF2 tR2 r2 ∧ JC tF2 tR2 r2) → PP G (wX2 ++ wM2) H → va_D (fun q => s.heap.size ≤ q) (wX2 ++ wM2) → va_S (fun q => s.heap.size ≤ q) s.heap H locs → lv_has ls 4 [(0, .ref b_), (1, .ref x), (2, .ref y), (3, .int (nI n))] → W p l e room_1 s m #[Value.ref b_] below meth c H locs 160 27087 (lw_Z below #[Value.ref b_] s) (F0 m 1654 ls [])) : W p l e room_1 s m #[Value.ref b_] below meth c H locs 160 27087 (lw_Z below #[Value.ref b_] s) (F0 m 1338 ls []) := by
  obtain ⟨hx, hb, hr, hml, hown, hts0, hXs, hbl, hlocks, hgv⟩ := id C0
  have hts : ∀ w ∈ TB, w.before #[Value.ref b_] s = true := fun w h => hts0 w (List.mem_filter.mp h).1
  have hown : s.vm.findClass RL = some m.cls := hown
  have hA : ∀ q : Nat, s.heap.size ≤ q → (fun q => s.heap.size ≤ q) q := fun _ h => h
  have hbA : ¬ (fun q => s.heap.size ≤ q) b_ := Nat.not_le.mpr hbl
  obtain ⟨xf, f, qf, gf, uf, lf, mf, r, q, gr, ur, lr, mr, nF, nR, hI, rfl⟩ := hX
  obtain ⟨f7, hMi, rfl⟩ := hM
  obtain ⟨hJ, hC⟩ := hJ
  refine lv_aload_n hx hb dL_law_1338 rfl (lv_at hl 1 rfl) ?_
  refine lv_aload_n hx hb dL_law_1339 rfl (lv_at hl 0 rfl) ?_
  refine lv_iload_n hx hb dL_law_1340 rfl (lv_at hl 3 rfl) ?_
  refine lv_iconst (v := 1) hx hb dL_law_1341 (by decide) ?_
  refine lv_iadd hx hb dL_law_1342 ?_
  refine lv_topi (fun v1 ev1 => ?_)
  obtain rfl : v1 = nI (n + 1) := nI_plus ev1 rfl rfl
  refine xsld ((n + 1)) hx hb hXs hbl hbA hS rfl (by omega) (by omega) dL_law_1343 ?_
  refine lv_aload_n hx hb dL_law_1344 rfl (lv_at hl 0 rfl) ?_
  refine lv_iload_n hx hb dL_law_1345 rfl (lv_at hl 3 rfl) ?_
  refine lv_iconst (v := 2) hx hb dL_law_1346 (by decide) ?_
  refine lv_iadd hx hb dL_law_1347 ?_
  refine lv_topi (fun v2 ev2 => ?_)
  obtain rfl : v2 = nI (n + 2) := nI_plus ev2 rfl rfl
  refine xsld ((n + 2)) hx hb hXs hbl hbA hS rfl (by omega) (by omega) dL_law_1348 ?_
  obtain ⟨j, hj⟩ : ∃ j, j < 6 := ⟨0, by decide⟩
  obtain ⟨k, hk⟩ : ∃ k, k < 16 := ⟨0, by decide⟩
  refine rdV (rest := []) (q0 := 0) ⟨hx, hb, hml, hown, hts⟩ (x_seen l G x xa (tA j) a b ga ua la lb (gA k) (rfn tA 6) (rfn gA 16) xf (tF j) f qf gf uf lf mf (nF k) (tR j) r q gr ur lr mr (nR k) (xs ((n + 1))) (xs ((n + 2)))  hI.2.2.1.1 hI.2.2.1.2) mi_yX6_seen mv_yX6_seen ml_L_128 ⟨rfl, rfl, Nat.le_of_ble_eq_true rfl, Nat.le_of_ble_eq_true rfl⟩ hK (P_sub hP (fun z hz => List.mem_append_left _ ((xf_perm G x xa tA a b ga ua la lb gA xf f qf gf uf lf mf r q gr ur lr mr tF tR nF nR hj hk).mem_iff.mpr (List.mem_append_left _ hz)))) rfl rfl rfl hl.1 rfl (Nat.le_of_ble_eq_true rfl) dL_law_1349 ⟨Nat.le_of_ble_eq_true rfl, Nat.le_of_ble_eq_true rfl⟩ hS hA hP (fun r3 H locs hr3 hP hS => ?_)
  have hX2 : XS G x xa tA a b ga ua la lb gA tF tR (xFull G x xa tA a b ga ua la lb gA xf f qf gf uf lf mf r q gr ur lr mr tF tR nF nR) := ⟨xf, f, qf, gf, uf, lf, mf, r, q, gr, ur, lr, mr, nF, nR, hI, rfl⟩
  obtain ⟨wX2, hwX⟩ : ∃ wX2 : va_W, wX2 = xFull G x xa tA a b ga ua la lb gA xf f qf gf uf lf mf r q gr ur lr mr tF tR nF nR := ⟨_, rfl⟩
  rw [← hwX] at hX2 hP hD
  refine lv_pop hx hb dL_law_1352 rfl ?_
  refine lv_aload_n hx hb dL_law_1353 rfl (lv_at hl 2 rfl) ?_
  refine lv_aload_n hx hb dL_law_1354 rfl (lv_at hl 0 rfl) ?_
  refine lv_iload_n hx hb dL_law_1355 rfl (lv_at hl 3 rfl) ?_
  refine lv_iconst (v := 1) hx hb dL_law_1356 (by decide) ?_
  refine lv_iadd hx hb dL_law_1357 ?_
  refine lv_topi (fun v4 ev4 => ?_)
  obtain rfl : v4 = nI (n + 1) := nI_plus ev4 rfl rfl
  refine xsld ((n + 1)) hx hb hXs hbl hbA hS rfl (by omega) (by omega) dL_law_1358 ?_
  refine lv_aload_n hx hb dL_law_1359 rfl (lv_at hl 0 rfl) ?_
  refine lv_iload_n hx hb dL_law_1360 rfl (lv_at hl 3 rfl) ?_
  refine lv_iconst (v := 2) hx hb dL_law_1361 (by decide) ?_
  refine lv_iadd hx hb dL_law_1362 ?_
  refine lv_topi (fun v5 ev5 => ?_)
  obtain rfl : v5 = nI (n + 2) := nI_plus ev5 rfl rfl
  refine xsld ((n + 2)) hx hb hXs hbl hbA hS rfl (by omega) (by omega) dL_law_1363 ?_
  refine rdV (rest := []) (q0 := 0) ⟨hx, hb, hml, hown, hts⟩ (m_X7_seen l G y bb f7 r7 (xs ((n + 1))) (xs ((n + 2))) hMi.2.2.2.2.1 hMi.2.2.2.2.2.1) mi_yX7_seen mv_yX7_seen ml_L_131 ⟨rfl, rfl, Nat.le_of_ble_eq_true rfl, Nat.le_of_ble_eq_true rfl⟩ hK (P_sub hP (fun z hz => List.mem_append_right _ hz)) rfl rfl rfl hl.1 rfl (Nat.le_of_ble_eq_true rfl) dL_law_1364 ⟨Nat.le_of_ble_eq_true rfl, Nat.le_of_ble_eq_true rfl⟩ hS hA hP (fun r6 H locs hr6 hP hS => ?_)
  have hM2 : MS G y bb r7 (mM G y bb f7 r7) := ⟨f7, hMi, rfl⟩
  refine lv_pop hx hb dL_law_1367 rfl ?_
  refine lv_goto (tgt := 1654) hx hb dL_law_1368 (by decide) ?_
  have hJ2 : (JT tF tR r7 ∧ JC tF tR r7) := ⟨hJ, hC⟩
  exact fin _ _ _ _ _ _ _ _ hX2 hM2 hJ2 hP hD hS (lv_sub hl [0, 1, 2, 3] rfl)
set_option maxHeartbeats 4000000 in
set_option maxRecDepth 100000 in
theorem law_c27 {p : Program} {l : Launch} {e : Env} {s : State} {m : MethodId} {below : List Frame} {meth : Method} {c : Code} {b_ L n : Nat} {xs : Nat → Int32} (C0 : lw_At p s m meth c b_ L xs) (hL : L ≤ 3072) (hn6 : n + 6 ≤ L) {G : GG} (hK : KK G s) (hT : ST (fun q => s.heap.size ≤ q) s s.heap) {x : Nat} {xa : Nat → Nat} {tA : Nat → Nat → Nat} {a b ga ua la lb : Nat → Nat} {gA : Nat → Nat → Nat} {y : Nat} {bb : Nat → Nat} {tF : Nat → Nat → Int32} {tR : Nat → Nat → Nat → Int32} {r7 : Nat → Nat → Int32} {wX wM : va_W} (hX : XS G x xa tA a b ga ua la lb gA tF tR wX) (hM : MS G y bb r7 wM) (hJ : (JT tF tR r7 ∧ JC tF tR r7)) {H : Heap} {locs : List Loc} {ls : Array Slot} (hP : PP G (wX ++ wM) H) (hD : va_D (fun q => s.heap.size ≤ q) (wX ++ wM)) (hS : va_S (fun q => s.heap.size ≤ q) s.heap H locs) (hl : lv_has ls 4 [(0, .ref b_), (1, .ref x), (2, .ref y), (3, .int (nI n))]) (fin : ∀ (tF2 : Nat → Nat → Int32) (tR2 : Nat → Nat → Nat → Int32) (r2 : Nat → Nat → Int32) (wX2 wM2 : va_W) (H : Heap) (locs : List Loc) (ls : Array Slot), XS G x xa tA a b ga ua la lb gA tF2 tR2 wX2 → MS G y bb r2 wM2 → (JT tF2 tR2 r2 ∧ JC tF2 tR2 r2) → PP G (wX2 ++ wM2) H → va_D (fun q => s.heap.size ≤ q) (wX2 ++ wM2) → va_S (fun q => s.heap.size ≤ q) s.heap H locs → lv_has ls 4 [(0, .ref b_), (1, .ref x), (2, .ref y), (3, .int (nI n))] → W p l e room_1 s m #[Value.ref b_] below meth c H locs 160 27087 (lw_Z below #[Value.ref b_] s) (F0 m 1654 ls [])) : W p l e room_1 s m #[Value.ref b_] below meth c H locs 160 27087 (lw_Z below #[Value.ref b_] s) (F0 m 1371 ls []) := by
  obtain ⟨hx, hb, hr, hml, hown, hts0, hXs, hbl, hlocks, hgv⟩ := id C0
  have hts : ∀ w ∈ TB, w.before #[Value.ref b_] s = true := fun w h => hts0 w (List.mem_filter.mp h).1
  have hown : s.vm.findClass RL = some m.cls := hown
  have hA : ∀ q : Nat, s.heap.size ≤ q → (fun q => s.heap.size ≤ q) q := fun _ h => h
  have hbA : ¬ (fun q => s.heap.size ≤ q) b_ := Nat.not_le.mpr hbl
  obtain ⟨xf, f, qf, gf, uf, lf, mf, r, q, gr, ur, lr, mr, nF, nR, hI, rfl⟩ := hX
  obtain ⟨f7, hMi, rfl⟩ := hM
  obtain ⟨hJ, hC⟩ := hJ
  refine lv_aload_n hx hb dL_law_1371 rfl (lv_at hl 1 rfl) ?_
  refine lv_aload_n hx hb dL_law_1372 rfl (lv_at hl 0 rfl) ?_
  refine lv_iload_n hx hb dL_law_1373 rfl (lv_at hl 3 rfl) ?_
  refine lv_iconst (v := 1) hx hb dL_law_1374 (by decide) ?_
  refine lv_iadd hx hb dL_law_1375 ?_
  refine lv_topi (fun v1 ev1 => ?_)
  obtain rfl : v1 = nI (n + 1) := nI_plus ev1 rfl rfl
  refine xsld ((n + 1)) hx hb hXs hbl hbA hS rfl (by omega) (by omega) dL_law_1376 ?_
  have j1385_2 : ∀ (z2 : Int32) (gz2 : z2 = 0 ∨ z2 = 1) (H : Heap) (locs : List Loc) (ls : Array Slot), PP G (xFull G x xa tA a b ga ua la lb gA xf f qf gf uf lf mf r q gr ur lr mr tF tR nF nR ++ mM G y bb f7 r7) H → va_S (fun q => s.heap.size ≤ q) s.heap H locs → lv_has ls 4 [(0, .ref b_), (1, .ref x), (2, .ref y), (3, .int (nI n))] → W p l e room_1 s m #[Value.ref b_] below meth c H locs 160 27087 (lw_Z below #[Value.ref b_] s) (F0 m 1385 ls [.int z2, .ref x]) := by
    intro z2 gz2 H locs ls hP hS hl
    refine lv_aload_n hx hb dL_law_1385 rfl (lv_at hl 0 rfl) ?_
    refine lv_iload_n hx hb dL_law_1386 rfl (lv_at hl 3 rfl) ?_
    refine lv_iconst (v := 2) hx hb dL_law_1387 (by decide) ?_
    refine lv_iadd hx hb dL_law_1388 ?_
    refine lv_topi (fun v3 ev3 => ?_)
    obtain rfl : v3 = nI (n + 2) := nI_plus ev3 rfl rfl
    refine xsld ((n + 2)) hx hb hXs hbl hbA hS rfl (by omega) (by omega) dL_law_1389 ?_
    obtain ⟨j, hj⟩ : ∃ j, j < 6 := ⟨0, by decide⟩
    obtain ⟨k, hk⟩ : ∃ k, k < 16 := ⟨0, by decide⟩
    refine rdV (rest := []) (q0 := 0) ⟨hx, hb, hml, hown, hts⟩ (x_cut l G x xa (tA j) a b ga ua la lb (gA k) (rfn tA 6) (rfn gA 16) xf (tF j) f qf gf uf lf mf (nF k) (tR j) r q gr ur lr mr (nR k) z2 (xs ((n + 2)))  ) mi_yX6_cut mv_yX6_cut ml_L_132 ⟨rfl, rfl, Nat.le_of_ble_eq_true rfl, Nat.le_of_ble_eq_true rfl⟩ hK (P_sub hP (fun z hz => List.mem_append_left _ ((xf_perm G x xa tA a b ga ua la lb gA xf f qf gf uf lf mf r q gr ur lr mr tF tR nF nR hj hk).mem_iff.mpr (List.mem_append_left _ hz)))) rfl rfl rfl hl.1 rfl (Nat.le_of_ble_eq_true rfl) dL_law_1390 ⟨Nat.le_of_ble_eq_true rfl, Nat.le_of_ble_eq_true rfl⟩ hS hA hP (fun r4 H locs hr4 hP hS => ?_)
    have hX2 : XS G x xa tA a b ga ua la lb gA tF tR (xFull G x xa tA a b ga ua la lb gA xf f qf gf uf lf mf r q gr ur lr mr tF tR nF nR) := ⟨xf, f, qf, gf, uf, lf, mf, r, q, gr, ur, lr, mr, nF, nR, hI, rfl⟩
    obtain ⟨wX2, hwX⟩ : ∃ wX2 : va_W, wX2 = xFull G x xa tA a b ga ua la lb gA xf f qf gf uf lf mf r q gr ur lr mr tF tR nF nR := ⟨_, rfl⟩
    rw [← hwX] at hX2 hP hD
    refine lv_pop hx hb dL_law_1393 rfl ?_
    refine lv_aload_n hx hb dL_law_1394 rfl (lv_at hl 2 rfl) ?_
    refine lv_aload_n hx hb dL_law_1395 rfl (lv_at hl 0 rfl) ?_
    refine lv_iload_n hx hb dL_law_1396 rfl (lv_at hl 3 rfl) ?_
    refine lv_iconst (v := 1) hx hb dL_law_1397 (by decide) ?_
    refine lv_iadd hx hb dL_law_1398 ?_
    refine lv_topi (fun v5 ev5 => ?_)
    obtain rfl : v5 = nI (n + 1) := nI_plus ev5 rfl rfl
    refine xsld ((n + 1)) hx hb hXs hbl hbA hS rfl (by omega) (by omega) dL_law_1399 ?_
    have j1408_6 : ∀ (z6 : Int32) (gz6 : z6 = 0 ∨ z6 = 1) (H : Heap) (locs : List Loc) (ls : Array Slot), PP G (wX2 ++ mM G y bb f7 r7) H → va_S (fun q => s.heap.size ≤ q) s.heap H locs → lv_has ls 4 [(0, .ref b_), (1, .ref x), (2, .ref y), (3, .int (nI n))] → W p l e room_1 s m #[Value.ref b_] below meth c H locs 160 27087 (lw_Z below #[Value.ref b_] s) (F0 m 1408 ls [.int z6, .ref y]) := by
      intro z6 gz6 H locs ls hP hS hl
      refine lv_aload_n hx hb dL_law_1408 rfl (lv_at hl 0 rfl) ?_
      refine lv_iload_n hx hb dL_law_1409 rfl (lv_at hl 3 rfl) ?_
      refine lv_iconst (v := 2) hx hb dL_law_1410 (by decide) ?_
      refine lv_iadd hx hb dL_law_1411 ?_
      refine lv_topi (fun v7 ev7 => ?_)
      obtain rfl : v7 = nI (n + 2) := nI_plus ev7 rfl rfl
      refine xsld ((n + 2)) hx hb hXs hbl hbA hS rfl (by omega) (by omega) dL_law_1412 ?_
      refine rdV (rest := []) (q0 := 0) ⟨hx, hb, hml, hown, hts⟩ (m_X7_cut l G y bb f7 r7 z6 (xs ((n + 2))) hMi.2.2.2.2.1 hMi.2.2.2.2.2.1) mi_yX7_cut mv_yX7_cut ml_L_136 ⟨rfl, rfl, Nat.le_of_ble_eq_true rfl, Nat.le_of_ble_eq_true rfl⟩ hK (P_sub hP (fun z hz => List.mem_append_right _ hz)) rfl rfl rfl hl.1 rfl (Nat.le_of_ble_eq_true rfl) dL_law_1413 ⟨Nat.le_of_ble_eq_true rfl, Nat.le_of_ble_eq_true rfl⟩ hS hA hP (fun r8 H locs hr8 hP hS => ?_)
      have hM2 : MS G y bb r7 (mM G y bb f7 r7) := ⟨f7, hMi, rfl⟩
      refine lv_pop hx hb dL_law_1416 rfl ?_
      refine lv_goto (tgt := 1654) hx hb dL_law_1417 (by decide) ?_
      have hJ2 : (JT tF tR r7 ∧ JC tF tR r7) := ⟨hJ, hC⟩
      exact fin _ _ _ _ _ _ _ _ hX2 hM2 hJ2 hP hD hS (lv_sub hl [0, 1, 2, 3] rfl)
    refine lv_if_eq (tgt := 1407) hx hb dL_law_1400 (by decide) (fun c9 => ?_) (fun c9 => ?_)
    · refine lv_iconst (v := 0) hx hb dL_law_1407 (by decide) ?_
      exact j1408_6 0 (Or.inl rfl) _ _ _ hP hS (lv_sub hl [0, 1, 2, 3] rfl)
    · refine lv_iconst (v := 1) hx hb dL_law_1403 (by decide) ?_
      refine lv_goto (tgt := 1408) hx hb dL_law_1404 (by decide) ?_
      exact j1408_6 1 (Or.inr rfl) _ _ _ hP hS (lv_sub hl [0, 1, 2, 3] rfl)
  refine lv_if_eq (tgt := 1384) hx hb dL_law_1377 (by decide) (fun c10 => ?_) (fun c10 => ?_)
  · refine lv_iconst (v := 0) hx hb dL_law_1384 (by decide) ?_
    exact j1385_2 0 (Or.inl rfl) _ _ _ hP hS (lv_sub hl [0, 1, 2, 3] rfl)
  · refine lv_iconst (v := 1) hx hb dL_law_1380 (by decide) ?_
    refine lv_goto (tgt := 1385) hx hb dL_law_1381 (by decide) ?_
    exact j1385_2 1 (Or.inr rfl) _ _ _ hP hS (lv_sub hl [0, 1, 2, 3] rfl)
set_option maxHeartbeats 4000000 in
set_option maxRecDepth 100000 in
theorem law_c28 {p : Program} {l : Launch} {e : Env} {s : State} {m : MethodId} {below : List Frame} {meth : Method} {c : Code} {b_ L n : Nat} {xs : Nat → Int32} (C0 : lw_At p s m meth c b_ L xs) (hL : L ≤ 3072) (hn6 : n + 6 ≤ L) {G : GG} (hK : KK G s) (hT : ST (fun q => s.heap.size ≤ q) s s.heap) {x : Nat} {xa : Nat → Nat} {tA : Nat → Nat → Nat} {a b ga ua la lb : Nat → Nat} {gA : Nat → Nat → Nat} {y : Nat} {bb : Nat → Nat} {tF : Nat → Nat → Int32} {tR : Nat → Nat → Nat → Int32} {r7 : Nat → Nat → Int32} {wX wM : va_W} (hX : XS G x xa tA a b ga ua la lb gA tF tR wX) (hM : MS G y bb r7 wM) (hJ : (JT tF tR r7 ∧ JC tF tR r7)) {H : Heap} {locs : List Loc} {ls : Array Slot} (hP : PP G (wX ++ wM) H) (hD : va_D (fun q => s.heap.size ≤ q) (wX ++ wM)) (hS : va_S (fun q => s.heap.size ≤ q) s.heap H locs) (hl : lv_has ls 4 [(0, .ref b_), (1, .ref x), (2, .ref y), (3, .int (nI n))]) (fin : ∀ (tF2 : Nat → Nat → Int32) (tR2 : Nat → Nat → Nat → Int32) (r2 : Nat → Nat → Int32) (wX2 wM2 : va_W) (H : Heap) (locs : List Loc) (ls : Array Slot), XS G x xa tA a b ga ua la lb gA tF2 tR2 wX2 → MS G y bb r2 wM2 → (JT tF2 tR2 r2 ∧ JC tF2 tR2 r2) → PP G (wX2 ++ wM2) H → va_D (fun q => s.heap.size ≤ q) (wX2 ++ wM2) → va_S (fun q => s.heap.size ≤ q) s.heap H locs → lv_has ls 4 [(0, .ref b_), (1, .ref x), (2, .ref y), (3, .int (nI n))] → W p l e room_1 s m #[Value.ref b_] below meth c H locs 160 27087 (lw_Z below #[Value.ref b_] s) (F0 m 1654 ls [])) : W p l e room_1 s m #[Value.ref b_] below meth c H locs 160 27087 (lw_Z below #[Value.ref b_] s) (F0 m 1420 ls []) := by
  obtain ⟨hx, hb, hr, hml, hown, hts0, hXs, hbl, hlocks, hgv⟩ := id C0
  have hts : ∀ w ∈ TB, w.before #[Value.ref b_] s = true := fun w h => hts0 w (List.mem_filter.mp h).1
  have hown : s.vm.findClass RL = some m.cls := hown
  have hA : ∀ q : Nat, s.heap.size ≤ q → (fun q => s.heap.size ≤ q) q := fun _ h => h
  have hbA : ¬ (fun q => s.heap.size ≤ q) b_ := Nat.not_le.mpr hbl
  obtain ⟨xf, f, qf, gf, uf, lf, mf, r, q, gr, ur, lr, mr, nF, nR, hI, rfl⟩ := hX
  obtain ⟨f7, hMi, rfl⟩ := hM
  obtain ⟨hJ, hC⟩ := hJ
  refine lv_aload_n hx hb dL_law_1420 rfl (lv_at hl 1 rfl) ?_
  refine lv_aload_n hx hb dL_law_1421 rfl (lv_at hl 0 rfl) ?_
  refine lv_iload_n hx hb dL_law_1422 rfl (lv_at hl 3 rfl) ?_
  refine lv_iconst (v := 1) hx hb dL_law_1423 (by decide) ?_
  refine lv_iadd hx hb dL_law_1424 ?_
  refine lv_topi (fun v1 ev1 => ?_)
  obtain rfl : v1 = nI (n + 1) := nI_plus ev1 rfl rfl
  refine xsld ((n + 1)) hx hb hXs hbl hbA hS rfl (by omega) (by omega) dL_law_1425 ?_
  obtain ⟨j, hj, hjt⟩ := tbJ_ex (xs ((n + 1)))
  obtain ⟨k, hk⟩ : ∃ k, k < 16 := ⟨0, by decide⟩
  refine lawI (rest := []) (q0 := 0) ⟨hx, hb, hml, hown, hts⟩ (x_plan l G x xa (tA j) a b ga ua la lb (gA k) (rfn tA 6) (rfn gA 16) xf (tF j) f qf gf uf lf mf (nF k) (tR j) r q gr ur lr mr (nR k) (xs ((n + 1))) j hj hjt (if_pos hj) ((hI.1 j hj).1) ((hI.1 j hj).2.1) ((hI.1 j hj).2.2.1) ((hI.1 j hj).2.2.2) hI.2.1) mi_yX6_plan mv_yX6_plan ml_L_137 ⟨rfl, rfl, Nat.le_of_ble_eq_true rfl, Nat.le_of_ble_eq_true rfl⟩ hK hP hD (perm_app (xf_perm G x xa tA a b ga ua la lb gA xf f qf gf uf lf mf r q gr ur lr mr tF tR nF nR hj hk)) rfl rfl rfl hl.1 rfl (Nat.le_of_ble_eq_true rfl) dL_law_1426 ⟨Nat.le_of_ble_eq_true rfl, Nat.le_of_ble_eq_true rfl⟩ hS hA (fun r2 w H locs hw hP hS => ?_)
  obtain ⟨n_f_0, n_f_1, n_f_2, n_f_3, n_f_4, n_gf_7, n_gf_8, n_gr_0, n_q_0, n_q_1, n_q_2, n_qf_3, n_r_6, n_r_7, n_r_8, n_r_9, n_r_10, n_r_11, n_r_12, n_r_13, n_r_14, n_tr_7, n_xf_0, rfl, hRB_n, hbt_n⟩ := hw
  have hXn := XS_back (tF := tF) (tR := tR) (nF := nF) (nR := nR) (x := x) (xa := xa) (tA := tA) (a := a) (b := b) (ga := ga) (ua := ua) (la := la) (lb := lb) (gA := gA) (xf := xf) (f := f) (qf := qf) (gf := gf) (uf := uf) (lf := lf) (mf := mf) (r := r) (q := q) (gr := gr) (ur := ur) (lr := lr) (mr := mr) (G := G) hI hj hk (upd xf 0 n_xf_0) (tF j) (upd (upd (upd (upd (upd f 0 n_f_0) 1 n_f_1) 2 n_f_2) 3 n_f_3) 4 n_f_4) (upd qf 3 n_qf_3) (upd (upd gf 7 n_gf_7) 8 n_gf_8) uf lf mf (nF k) (up2 (tR j) 7 n_tr_7) (up2 (up2 (up2 (up2 (up2 (up2 (up2 (up2 (up2 r 6 n_r_6) 7 n_r_7) 8 n_r_8) 9 n_r_9) 10 n_r_10) 11 n_r_11) 12 n_r_12) 13 n_r_13) 14 n_r_14) (up2 (up2 (up2 q 0 n_q_0) 1 n_q_1) 2 n_q_2) (up2 gr 0 n_gr_0) ur lr mr (nR k) ⟨(hI.1 j hj).1, (hI.1 j hj).2.1, (hI.1 j hj).2.2.1, (hI.1 j hj).2.2.2⟩ hRB_n ⟨hI.2.2.1.1, hI.2.2.1.2⟩ ⟨hI.2.2.2.1.1, hI.2.2.2.1.2⟩ ⟨(hI.2.2.2.2.1 k hk).1, (hI.2.2.2.2.1 k hk).2⟩ (hI.2.2.2.2.2)
  obtain ⟨wX2, hX2, hP, hD⟩ : ∃ wX2 : va_W, XS G x xa tA a b ga ua la lb gA (upA tF j (tF j)) (upA tR j (up2 (tR j) 7 n_tr_7)) wX2 ∧ PP G (wX2 ++ mM G y bb f7 r7) H ∧ va_D (fun q => s.heap.size ≤ q) (wX2 ++ mM G y bb f7 r7) := ⟨_, hXn.1, hP xM_ad _ (perm_app hXn.2)⟩
  refine lv_pop hx hb dL_law_1429 rfl ?_
  refine lv_aload_n hx hb dL_law_1430 rfl (lv_at hl 2 rfl) ?_
  refine lv_aload_n hx hb dL_law_1431 rfl (lv_at hl 0 rfl) ?_
  refine lv_iload_n hx hb dL_law_1432 rfl (lv_at hl 3 rfl) ?_
  refine lv_iconst (v := 1) hx hb dL_law_1433 (by decide) ?_
  refine lv_iadd hx hb dL_law_1434 ?_
  refine lv_topi (fun v3 ev3 => ?_)
  obtain rfl : v3 = nI (n + 1) := nI_plus ev3 rfl rfl
  refine xsld ((n + 1)) hx hb hXs hbl hbA hS rfl (by omega) (by omega) dL_law_1435 ?_
  refine lawI (rest := []) (q0 := 0) ⟨hx, hb, hml, hown, hts⟩ (m_X7_plan l G y bb f7 r7 (xs ((n + 1))) hMi.1 hMi.2.1 hMi.2.2.1 hMi.2.2.2.1) mi_yX7_plan mv_yX7_plan ml_L_140 ⟨rfl, rfl, Nat.le_of_ble_eq_true rfl, Nat.le_of_ble_eq_true rfl⟩ hK hP hD List.perm_append_comm rfl rfl rfl hl.1 rfl (Nat.le_of_ble_eq_true rfl) dL_law_1436 ⟨Nat.le_of_ble_eq_true rfl, Nat.le_of_ble_eq_true rfl⟩ hS hA (fun r4 w H locs hw hP hS => ?_)
  obtain ⟨m_f_0, m_f_20, m_f_21, m_r_10, m_r_15, m_r_16, m_r_17, m_r_18, m_r_19, m_r_22, m_r_23, m_r_29, rfl⟩ := hw
  have hM2 : MS G y bb (up2 (up2 (up2 (up2 (up2 (up2 (up2 (up2 (up2 r7 10 m_r_10) 15 m_r_15) 16 m_r_16) 17 m_r_17) 18 m_r_18) 19 m_r_19) 22 m_r_22) 23 m_r_23) 29 m_r_29) (mM G y bb (upd (upd (upd f7 0 m_f_0) 20 m_f_20) 21 m_f_21) (up2 (up2 (up2 (up2 (up2 (up2 (up2 (up2 (up2 r7 10 m_r_10) 15 m_r_15) 16 m_r_16) 17 m_r_17) 18 m_r_18) 19 m_r_19) 22 m_r_22) 23 m_r_23) 29 m_r_29)) := ⟨(upd (upd (upd f7 0 m_f_0) 20 m_f_20) 21 m_f_21), ⟨hMi.1, hMi.2.1, hMi.2.2.1, hMi.2.2.2.1, hMi.2.2.2.2.1, hMi.2.2.2.2.2.1, hMi.2.2.2.2.2.2.1, hMi.2.2.2.2.2.2.2.1, hMi.2.2.2.2.2.2.2.2.1, hMi.2.2.2.2.2.2.2.2.2.1, hMi.2.2.2.2.2.2.2.2.2.2⟩, rfl⟩
  obtain ⟨hP, hD⟩ := hP mM_ad (wX2 ++ mM G y bb (upd (upd (upd f7 0 m_f_0) 20 m_f_20) 21 m_f_21) (up2 (up2 (up2 (up2 (up2 (up2 (up2 (up2 (up2 r7 10 m_r_10) 15 m_r_15) 16 m_r_16) 17 m_r_17) 18 m_r_18) 19 m_r_19) 22 m_r_22) 23 m_r_23) 29 m_r_29)) List.perm_append_comm
  refine lv_pop hx hb dL_law_1439 rfl ?_
  refine lv_goto (tgt := 1654) hx hb dL_law_1440 (by decide) ?_
  have hJ2 : (JT (upA tF j (tF j)) (upA tR j (up2 (tR j) 7 n_tr_7)) (up2 (up2 (up2 (up2 (up2 (up2 (up2 (up2 (up2 r7 10 m_r_10) 15 m_r_15) 16 m_r_16) 17 m_r_17) 18 m_r_18) 19 m_r_19) 22 m_r_22) 23 m_r_23) 29 m_r_29) ∧ JC (upA tF j (tF j)) (upA tR j (up2 (tR j) 7 n_tr_7)) (up2 (up2 (up2 (up2 (up2 (up2 (up2 (up2 (up2 r7 10 m_r_10) 15 m_r_15) 16 m_r_16) 17 m_r_17) 18 m_r_18) 19 m_r_19) 22 m_r_22) 23 m_r_23) 29 m_r_29)) := ⟨JT_of hJ (hJ j hj) (fun _ _ => TO_0), JC_of hC (TD_hb (hC j hj) hbt_n) LQ_0⟩
  exact fin _ _ _ _ _ _ _ _ hX2 hM2 hJ2 hP hD hS (lv_sub hl [0, 1, 2, 3] rfl)
set_option maxHeartbeats 4000000 in
set_option maxRecDepth 100000 in
theorem law_c29 {p : Program} {l : Launch} {e : Env} {s : State} {m : MethodId} {below : List Frame} {meth : Method} {c : Code} {b_ L n : Nat} {xs : Nat → Int32} (C0 : lw_At p s m meth c b_ L xs) (hL : L ≤ 3072) (hn6 : n + 6 ≤ L) {G : GG} (hK : KK G s) (hT : ST (fun q => s.heap.size ≤ q) s s.heap) {x : Nat} {xa : Nat → Nat} {tA : Nat → Nat → Nat} {a b ga ua la lb : Nat → Nat} {gA : Nat → Nat → Nat} {y : Nat} {bb : Nat → Nat} {tF : Nat → Nat → Int32} {tR : Nat → Nat → Nat → Int32} {r7 : Nat → Nat → Int32} {wX wM : va_W} (hX : XS G x xa tA a b ga ua la lb gA tF tR wX) (hM : MS G y bb r7 wM) (hJ : (JT tF tR r7 ∧ JC tF tR r7)) {H : Heap} {locs : List Loc} {ls : Array Slot} (hP : PP G (wX ++ wM) H) (hD : va_D (fun q => s.heap.size ≤ q) (wX ++ wM)) (hS : va_S (fun q => s.heap.size ≤ q) s.heap H locs) (hl : lv_has ls 4 [(0, .ref b_), (1, .ref x), (2, .ref y), (3, .int (nI n))]) (fin : ∀ (tF2 : Nat → Nat → Int32) (tR2 : Nat → Nat → Nat → Int32) (r2 : Nat → Nat → Int32) (wX2 wM2 : va_W) (H : Heap) (locs : List Loc) (ls : Array Slot), XS G x xa tA a b ga ua la lb gA tF2 tR2 wX2 → MS G y bb r2 wM2 → (JT tF2 tR2 r2 ∧ JC tF2 tR2 r2) → PP G (wX2 ++ wM2) H → va_D (fun q => s.heap.size ≤ q) (wX2 ++ wM2) → va_S (fun q => s.heap.size ≤ q) s.heap H locs → lv_has ls 4 [(0, .ref b_), (1, .ref x), (2, .ref y), (3, .int (nI n))] → W p l e room_1 s m #[Value.ref b_] below meth c H locs 160 27087 (lw_Z below #[Value.ref b_] s) (F0 m 1654 ls [])) : W p l e room_1 s m #[Value.ref b_] below meth c H locs 160 27087 (lw_Z below #[Value.ref b_] s) (F0 m 1443 ls []) := by
  obtain ⟨hx, hb, hr, hml, hown, hts0, hXs, hbl, hlocks, hgv⟩ := id C0
  have hts : ∀ w ∈ TB, w.before #[Value.ref b_] s = true := fun w h => hts0 w (List.mem_filter.mp h).1
  have hown : s.vm.findClass RL = some m.cls := hown
  have hA : ∀ q : Nat, s.heap.size ≤ q → (fun q => s.heap.size ≤ q) q := fun _ h => h
  have hbA : ¬ (fun q => s.heap.size ≤ q) b_ := Nat.not_le.mpr hbl
  obtain ⟨xf, f, qf, gf, uf, lf, mf, r, q, gr, ur, lr, mr, nF, nR, hI, rfl⟩ := hX
  obtain ⟨f7, hMi, rfl⟩ := hM
  obtain ⟨hJ, hC⟩ := hJ
  refine lv_aload_n hx hb dL_law_1443 rfl (lv_at hl 1 rfl) ?_
  refine lv_aload_n hx hb dL_law_1444 rfl (lv_at hl 0 rfl) ?_
  refine lv_iload_n hx hb dL_law_1445 rfl (lv_at hl 3 rfl) ?_
  refine lv_iconst (v := 1) hx hb dL_law_1446 (by decide) ?_
  refine lv_iadd hx hb dL_law_1447 ?_
  refine lv_topi (fun v1 ev1 => ?_)
  obtain rfl : v1 = nI (n + 1) := nI_plus ev1 rfl rfl
  refine xsld ((n + 1)) hx hb hXs hbl hbA hS rfl (by omega) (by omega) dL_law_1448 ?_
  obtain ⟨j, hj, hjt⟩ := tbJ_ex (xs ((n + 1)))
  obtain ⟨k, hk⟩ : ∃ k, k < 16 := ⟨0, by decide⟩
  refine lawI (rest := []) (q0 := 0) ⟨hx, hb, hml, hown, hts⟩ (x_fewest l G x xa (tA j) a b ga ua la lb (gA k) (rfn tA 6) (rfn gA 16) xf (tF j) f qf gf uf lf mf (nF k) (tR j) r q gr ur lr mr (nR k) (xs ((n + 1))) j hj hjt (if_pos hj) ((hI.1 j hj).1) ((hI.1 j hj).2.1) ((hI.1 j hj).2.2.1) ((hI.1 j hj).2.2.2) hI.2.1) mi_yX6_fewest mv_yX6_fewest ml_L_141 ⟨rfl, rfl, Nat.le_of_ble_eq_true rfl, Nat.le_of_ble_eq_true rfl⟩ hK hP hD (perm_app (xf_perm G x xa tA a b ga ua la lb gA xf f qf gf uf lf mf r q gr ur lr mr tF tR nF nR hj hk)) rfl rfl rfl hl.1 rfl (Nat.le_of_ble_eq_true rfl) dL_law_1449 ⟨Nat.le_of_ble_eq_true rfl, Nat.le_of_ble_eq_true rfl⟩ hS hA (fun r2 w H locs hw hP hS => ?_)
  obtain ⟨n_f_0, n_f_1, n_f_2, n_f_3, n_f_4, n_gf_4, n_gf_5, n_gf_6, n_gr_1, n_gr_2, n_gr_3, n_q_0, n_q_1, n_q_2, n_qf_3, n_r_6, n_r_7, n_r_8, n_r_9, n_r_10, n_r_11, n_r_12, n_r_13, n_r_14, n_tr_7, n_xf_0, rfl, hRB_n, hbt_n⟩ := hw
  have hXn := XS_back (tF := tF) (tR := tR) (nF := nF) (nR := nR) (x := x) (xa := xa) (tA := tA) (a := a) (b := b) (ga := ga) (ua := ua) (la := la) (lb := lb) (gA := gA) (xf := xf) (f := f) (qf := qf) (gf := gf) (uf := uf) (lf := lf) (mf := mf) (r := r) (q := q) (gr := gr) (ur := ur) (lr := lr) (mr := mr) (G := G) hI hj hk (upd xf 0 n_xf_0) (tF j) (upd (upd (upd (upd (upd f 0 n_f_0) 1 n_f_1) 2 n_f_2) 3 n_f_3) 4 n_f_4) (upd qf 3 n_qf_3) (upd (upd (upd gf 4 n_gf_4) 5 n_gf_5) 6 n_gf_6) uf lf mf (nF k) (up2 (tR j) 7 n_tr_7) (up2 (up2 (up2 (up2 (up2 (up2 (up2 (up2 (up2 r 6 n_r_6) 7 n_r_7) 8 n_r_8) 9 n_r_9) 10 n_r_10) 11 n_r_11) 12 n_r_12) 13 n_r_13) 14 n_r_14) (up2 (up2 (up2 q 0 n_q_0) 1 n_q_1) 2 n_q_2) (up2 (up2 (up2 gr 1 n_gr_1) 2 n_gr_2) 3 n_gr_3) ur lr mr (nR k) ⟨(hI.1 j hj).1, (hI.1 j hj).2.1, (hI.1 j hj).2.2.1, (hI.1 j hj).2.2.2⟩ hRB_n ⟨hI.2.2.1.1, hI.2.2.1.2⟩ ⟨hI.2.2.2.1.1, hI.2.2.2.1.2⟩ ⟨(hI.2.2.2.2.1 k hk).1, (hI.2.2.2.2.1 k hk).2⟩ (hI.2.2.2.2.2)
  obtain ⟨wX2, hX2, hP, hD⟩ : ∃ wX2 : va_W, XS G x xa tA a b ga ua la lb gA (upA tF j (tF j)) (upA tR j (up2 (tR j) 7 n_tr_7)) wX2 ∧ PP G (wX2 ++ mM G y bb f7 r7) H ∧ va_D (fun q => s.heap.size ≤ q) (wX2 ++ mM G y bb f7 r7) := ⟨_, hXn.1, hP xM_ad _ (perm_app hXn.2)⟩
  refine lv_pop hx hb dL_law_1452 rfl ?_
  refine lv_aload_n hx hb dL_law_1453 rfl (lv_at hl 2 rfl) ?_
  refine lv_aload_n hx hb dL_law_1454 rfl (lv_at hl 0 rfl) ?_
  refine lv_iload_n hx hb dL_law_1455 rfl (lv_at hl 3 rfl) ?_
  refine lv_iconst (v := 1) hx hb dL_law_1456 (by decide) ?_
  refine lv_iadd hx hb dL_law_1457 ?_
  refine lv_topi (fun v3 ev3 => ?_)
  obtain rfl : v3 = nI (n + 1) := nI_plus ev3 rfl rfl
  refine xsld ((n + 1)) hx hb hXs hbl hbA hS rfl (by omega) (by omega) dL_law_1458 ?_
  refine lawI (rest := []) (q0 := 0) ⟨hx, hb, hml, hown, hts⟩ (m_X7_fewest l G y bb f7 r7 (xs ((n + 1))) hMi.1 hMi.2.1 hMi.2.2.1 hMi.2.2.2.1) mi_yX7_fewest mv_yX7_fewest ml_L_144 ⟨rfl, rfl, Nat.le_of_ble_eq_true rfl, Nat.le_of_ble_eq_true rfl⟩ hK hP hD List.perm_append_comm rfl rfl rfl hl.1 rfl (Nat.le_of_ble_eq_true rfl) dL_law_1459 ⟨Nat.le_of_ble_eq_true rfl, Nat.le_of_ble_eq_true rfl⟩ hS hA (fun r4 w H locs hw hP hS => ?_)
  obtain ⟨m_f_0, m_f_20, m_f_21, m_r_10, m_r_15, m_r_16, m_r_17, m_r_18, m_r_19, m_r_22, m_r_23, m_r_29, m_r_30, rfl⟩ := hw
  have hM2 : MS G y bb (up2 (up2 (up2 (up2 (up2 (up2 (up2 (up2 (up2 (up2 r7 10 m_r_10) 15 m_r_15) 16 m_r_16) 17 m_r_17) 18 m_r_18) 19 m_r_19) 22 m_r_22) 23 m_r_23) 29 m_r_29) 30 m_r_30) (mM G y bb (upd (upd (upd f7 0 m_f_0) 20 m_f_20) 21 m_f_21) (up2 (up2 (up2 (up2 (up2 (up2 (up2 (up2 (up2 (up2 r7 10 m_r_10) 15 m_r_15) 16 m_r_16) 17 m_r_17) 18 m_r_18) 19 m_r_19) 22 m_r_22) 23 m_r_23) 29 m_r_29) 30 m_r_30)) := ⟨(upd (upd (upd f7 0 m_f_0) 20 m_f_20) 21 m_f_21), ⟨hMi.1, hMi.2.1, hMi.2.2.1, hMi.2.2.2.1, hMi.2.2.2.2.1, hMi.2.2.2.2.2.1, hMi.2.2.2.2.2.2.1, hMi.2.2.2.2.2.2.2.1, hMi.2.2.2.2.2.2.2.2.1, hMi.2.2.2.2.2.2.2.2.2.1, hMi.2.2.2.2.2.2.2.2.2.2⟩, rfl⟩
  obtain ⟨hP, hD⟩ := hP mM_ad (wX2 ++ mM G y bb (upd (upd (upd f7 0 m_f_0) 20 m_f_20) 21 m_f_21) (up2 (up2 (up2 (up2 (up2 (up2 (up2 (up2 (up2 (up2 r7 10 m_r_10) 15 m_r_15) 16 m_r_16) 17 m_r_17) 18 m_r_18) 19 m_r_19) 22 m_r_22) 23 m_r_23) 29 m_r_29) 30 m_r_30)) List.perm_append_comm
  refine lv_pop hx hb dL_law_1462 rfl ?_
  refine lv_goto (tgt := 1654) hx hb dL_law_1463 (by decide) ?_
  have hJ2 : (JT (upA tF j (tF j)) (upA tR j (up2 (tR j) 7 n_tr_7)) (up2 (up2 (up2 (up2 (up2 (up2 (up2 (up2 (up2 (up2 r7 10 m_r_10) 15 m_r_15) 16 m_r_16) 17 m_r_17) 18 m_r_18) 19 m_r_19) 22 m_r_22) 23 m_r_23) 29 m_r_29) 30 m_r_30) ∧ JC (upA tF j (tF j)) (upA tR j (up2 (tR j) 7 n_tr_7)) (up2 (up2 (up2 (up2 (up2 (up2 (up2 (up2 (up2 (up2 r7 10 m_r_10) 15 m_r_15) 16 m_r_16) 17 m_r_17) 18 m_r_18) 19 m_r_19) 22 m_r_22) 23 m_r_23) 29 m_r_29) 30 m_r_30)) := ⟨JT_of hJ (hJ j hj) (fun _ _ => TO_0), JC_of hC (TD_hb (hC j hj) hbt_n) LQ_0⟩
  exact fin _ _ _ _ _ _ _ _ hX2 hM2 hJ2 hP hD hS (lv_sub hl [0, 1, 2, 3] rfl)
set_option maxHeartbeats 4000000 in
set_option maxRecDepth 100000 in
theorem law_c30 {p : Program} {l : Launch} {e : Env} {s : State} {m : MethodId} {below : List Frame} {meth : Method} {c : Code} {b_ L n : Nat} {xs : Nat → Int32} (C0 : lw_At p s m meth c b_ L xs) (hL : L ≤ 3072) (hn6 : n + 6 ≤ L) {G : GG} (hK : KK G s) (hT : ST (fun q => s.heap.size ≤ q) s s.heap) {x : Nat} {xa : Nat → Nat} {tA : Nat → Nat → Nat} {a b ga ua la lb : Nat → Nat} {gA : Nat → Nat → Nat} {y : Nat} {bb : Nat → Nat} {tF : Nat → Nat → Int32} {tR : Nat → Nat → Nat → Int32} {r7 : Nat → Nat → Int32} {wX wM : va_W} (hX : XS G x xa tA a b ga ua la lb gA tF tR wX) (hM : MS G y bb r7 wM) (hJ : (JT tF tR r7 ∧ JC tF tR r7)) {H : Heap} {locs : List Loc} {ls : Array Slot} (hP : PP G (wX ++ wM) H) (hD : va_D (fun q => s.heap.size ≤ q) (wX ++ wM)) (hS : va_S (fun q => s.heap.size ≤ q) s.heap H locs) (hl : lv_has ls 4 [(0, .ref b_), (1, .ref x), (2, .ref y), (3, .int (nI n))]) (fin : ∀ (tF2 : Nat → Nat → Int32) (tR2 : Nat → Nat → Nat → Int32) (r2 : Nat → Nat → Int32) (wX2 wM2 : va_W) (H : Heap) (locs : List Loc) (ls : Array Slot), XS G x xa tA a b ga ua la lb gA tF2 tR2 wX2 → MS G y bb r2 wM2 → (JT tF2 tR2 r2 ∧ JC tF2 tR2 r2) → PP G (wX2 ++ wM2) H → va_D (fun q => s.heap.size ≤ q) (wX2 ++ wM2) → va_S (fun q => s.heap.size ≤ q) s.heap H locs → lv_has ls 4 [(0, .ref b_), (1, .ref x), (2, .ref y), (3, .int (nI n))] → W p l e room_1 s m #[Value.ref b_] below meth c H locs 160 27087 (lw_Z below #[Value.ref b_] s) (F0 m 1654 ls [])) : W p l e room_1 s m #[Value.ref b_] below meth c H locs 160 27087 (lw_Z below #[Value.ref b_] s) (F0 m 1466 ls []) := by
  obtain ⟨hx, hb, hr, hml, hown, hts0, hXs, hbl, hlocks, hgv⟩ := id C0
  have hts : ∀ w ∈ TB, w.before #[Value.ref b_] s = true := fun w h => hts0 w (List.mem_filter.mp h).1
  have hown : s.vm.findClass RL = some m.cls := hown
  have hA : ∀ q : Nat, s.heap.size ≤ q → (fun q => s.heap.size ≤ q) q := fun _ h => h
  have hbA : ¬ (fun q => s.heap.size ≤ q) b_ := Nat.not_le.mpr hbl
  obtain ⟨xf, f, qf, gf, uf, lf, mf, r, q, gr, ur, lr, mr, nF, nR, hI, rfl⟩ := hX
  obtain ⟨f7, hMi, rfl⟩ := hM
  obtain ⟨hJ, hC⟩ := hJ
  refine lv_aload_n hx hb dL_law_1466 rfl (lv_at hl 1 rfl) ?_
  refine lv_aload_n hx hb dL_law_1467 rfl (lv_at hl 0 rfl) ?_
  refine lv_iload_n hx hb dL_law_1468 rfl (lv_at hl 3 rfl) ?_
  refine lv_iconst (v := 1) hx hb dL_law_1469 (by decide) ?_
  refine lv_iadd hx hb dL_law_1470 ?_
  refine lv_topi (fun v1 ev1 => ?_)
  obtain rfl : v1 = nI (n + 1) := nI_plus ev1 rfl rfl
  refine xsld ((n + 1)) hx hb hXs hbl hbA hS rfl (by omega) (by omega) dL_law_1471 ?_
  obtain ⟨j, hj, hjt⟩ := tbJ_ex (xs ((n + 1)))
  obtain ⟨k, hk⟩ : ∃ k, k < 16 := ⟨0, by decide⟩
  refine lawI (rest := []) (q0 := 0) ⟨hx, hb, hml, hown, hts⟩ (x_cost l G x xa (tA j) a b ga ua la lb (gA k) (rfn tA 6) (rfn gA 16) xf (tF j) f qf gf uf lf mf (nF k) (tR j) r q gr ur lr mr (nR k) (xs ((n + 1))) j hj hjt (if_pos hj) ((hI.1 j hj).1) ((hI.1 j hj).2.1) ((hI.1 j hj).2.2.1) ((hI.1 j hj).2.2.2)) mi_yX6_cost mv_yX6_cost ml_L_145 ⟨rfl, rfl, Nat.le_of_ble_eq_true rfl, Nat.le_of_ble_eq_true rfl⟩ hK hP hD (perm_app (xf_perm G x xa tA a b ga ua la lb gA xf f qf gf uf lf mf r q gr ur lr mr tF tR nF nR hj hk)) rfl rfl rfl hl.1 rfl (Nat.le_of_ble_eq_true rfl) dL_law_1472 ⟨Nat.le_of_ble_eq_true rfl, Nat.le_of_ble_eq_true rfl⟩ hS hA (fun r2 w H locs hw hP hS => ?_)
  obtain ⟨n_xf_0, rfl⟩ := hw
  have hXn := XS_back (tF := tF) (tR := tR) (nF := nF) (nR := nR) (x := x) (xa := xa) (tA := tA) (a := a) (b := b) (ga := ga) (ua := ua) (la := la) (lb := lb) (gA := gA) (xf := xf) (f := f) (qf := qf) (gf := gf) (uf := uf) (lf := lf) (mf := mf) (r := r) (q := q) (gr := gr) (ur := ur) (lr := lr) (mr := mr) (G := G) hI hj hk (upd xf 0 n_xf_0) (tF j) f qf gf uf lf mf (nF k) (tR j) r q gr ur lr mr (nR k) ⟨(hI.1 j hj).1, (hI.1 j hj).2.1, (hI.1 j hj).2.2.1, (hI.1 j hj).2.2.2⟩ hI.2.1 ⟨hI.2.2.1.1, hI.2.2.1.2⟩ ⟨hI.2.2.2.1.1, hI.2.2.2.1.2⟩ ⟨(hI.2.2.2.2.1 k hk).1, (hI.2.2.2.2.1 k hk).2⟩ (hI.2.2.2.2.2)
  obtain ⟨wX2, hX2, hP, hD⟩ : ∃ wX2 : va_W, XS G x xa tA a b ga ua la lb gA (upA tF j (tF j)) (upA tR j (tR j)) wX2 ∧ PP G (wX2 ++ mM G y bb f7 r7) H ∧ va_D (fun q => s.heap.size ≤ q) (wX2 ++ mM G y bb f7 r7) := ⟨_, hXn.1, hP xM_ad _ (perm_app hXn.2)⟩
  refine lv_pop hx hb dL_law_1475 rfl ?_
  refine lv_aload_n hx hb dL_law_1476 rfl (lv_at hl 2 rfl) ?_
  refine lv_aload_n hx hb dL_law_1477 rfl (lv_at hl 0 rfl) ?_
  refine lv_iload_n hx hb dL_law_1478 rfl (lv_at hl 3 rfl) ?_
  refine lv_iconst (v := 1) hx hb dL_law_1479 (by decide) ?_
  refine lv_iadd hx hb dL_law_1480 ?_
  refine lv_topi (fun v3 ev3 => ?_)
  obtain rfl : v3 = nI (n + 1) := nI_plus ev3 rfl rfl
  refine xsld ((n + 1)) hx hb hXs hbl hbA hS rfl (by omega) (by omega) dL_law_1481 ?_
  refine lawI (rest := []) (q0 := 0) ⟨hx, hb, hml, hown, hts⟩ (m_X7_cost l G y bb f7 r7 (xs ((n + 1))) hMi.1 hMi.2.1 hMi.2.2.1 hMi.2.2.2.1) mi_yX7_cost mv_yX7_cost ml_L_148 ⟨rfl, rfl, Nat.le_of_ble_eq_true rfl, Nat.le_of_ble_eq_true rfl⟩ hK hP hD List.perm_append_comm rfl rfl rfl hl.1 rfl (Nat.le_of_ble_eq_true rfl) dL_law_1482 ⟨Nat.le_of_ble_eq_true rfl, Nat.le_of_ble_eq_true rfl⟩ hS hA (fun r4 w H locs hw hP hS => ?_)
  obtain ⟨m_f_0, rfl⟩ := hw
  have hM2 : MS G y bb r7 (mM G y bb (upd f7 0 m_f_0) r7) := ⟨(upd f7 0 m_f_0), ⟨hMi.1, hMi.2.1, hMi.2.2.1, hMi.2.2.2.1, hMi.2.2.2.2.1, hMi.2.2.2.2.2.1, hMi.2.2.2.2.2.2.1, hMi.2.2.2.2.2.2.2.1, hMi.2.2.2.2.2.2.2.2.1, hMi.2.2.2.2.2.2.2.2.2.1, hMi.2.2.2.2.2.2.2.2.2.2⟩, rfl⟩
  obtain ⟨hP, hD⟩ := hP mM_ad (wX2 ++ mM G y bb (upd f7 0 m_f_0) r7) List.perm_append_comm
  refine lv_pop hx hb dL_law_1485 rfl ?_
  refine lv_goto (tgt := 1654) hx hb dL_law_1486 (by decide) ?_
  have hJ2 : (JT (upA tF j (tF j)) (upA tR j (tR j)) r7 ∧ JC (upA tF j (tF j)) (upA tR j (tR j)) r7) := ⟨JT_of hJ (hJ j hj) (fun _ _ => TO_0), JC_of hC (hC j hj) LQ_0⟩
  exact fin _ _ _ _ _ _ _ _ hX2 hM2 hJ2 hP hD hS (lv_sub hl [0, 1, 2, 3] rfl)
set_option maxHeartbeats 4000000 in
set_option maxRecDepth 100000 in
theorem law_c31 {p : Program} {l : Launch} {e : Env} {s : State} {m : MethodId} {below : List Frame} {meth : Method} {c : Code} {b_ L n : Nat} {xs : Nat → Int32} (C0 : lw_At p s m meth c b_ L xs) (hL : L ≤ 3072) (hn6 : n + 6 ≤ L) {G : GG} (hK : KK G s) (hT : ST (fun q => s.heap.size ≤ q) s s.heap) {x : Nat} {xa : Nat → Nat} {tA : Nat → Nat → Nat} {a b ga ua la lb : Nat → Nat} {gA : Nat → Nat → Nat} {y : Nat} {bb : Nat → Nat} {tF : Nat → Nat → Int32} {tR : Nat → Nat → Nat → Int32} {r7 : Nat → Nat → Int32} {wX wM : va_W} (hX : XS G x xa tA a b ga ua la lb gA tF tR wX) (hM : MS G y bb r7 wM) (hJ : (JT tF tR r7 ∧ JC tF tR r7)) {H : Heap} {locs : List Loc} {ls : Array Slot} (hP : PP G (wX ++ wM) H) (hD : va_D (fun q => s.heap.size ≤ q) (wX ++ wM)) (hS : va_S (fun q => s.heap.size ≤ q) s.heap H locs) (hl : lv_has ls 4 [(0, .ref b_), (1, .ref x), (2, .ref y), (3, .int (nI n))]) (fin : ∀ (tF2 : Nat → Nat → Int32) (tR2 : Nat → Nat → Nat → Int32) (r2 : Nat → Nat → Int32) (wX2 wM2 : va_W) (H : Heap) (locs : List Loc) (ls : Array Slot), XS G x xa tA a b ga ua la lb gA tF2 tR2 wX2 → MS G y bb r2 wM2 → (JT tF2 tR2 r2 ∧ JC tF2 tR2 r2) → PP G (wX2 ++ wM2) H → va_D (fun q => s.heap.size ≤ q) (wX2 ++ wM2) → va_S (fun q => s.heap.size ≤ q) s.heap H locs → lv_has ls 4 [(0, .ref b_), (1, .ref x), (2, .ref y), (3, .int (nI n))] → W p l e room_1 s m #[Value.ref b_] below meth c H locs 160 27087 (lw_Z below #[Value.ref b_] s) (F0 m 1654 ls [])) : W p l e room_1 s m #[Value.ref b_] below meth c H locs 160 27087 (lw_Z below #[Value.ref b_] s) (F0 m 1489 ls []) := by
  obtain ⟨hx, hb, hr, hml, hown, hts0, hXs, hbl, hlocks, hgv⟩ := id C0
  have hts : ∀ w ∈ TB, w.before #[Value.ref b_] s = true := fun w h => hts0 w (List.mem_filter.mp h).1
  have hown : s.vm.findClass RL = some m.cls := hown
  have hA : ∀ q : Nat, s.heap.size ≤ q → (fun q => s.heap.size ≤ q) q := fun _ h => h
  have hbA : ¬ (fun q => s.heap.size ≤ q) b_ := Nat.not_le.mpr hbl
  obtain ⟨xf, f, qf, gf, uf, lf, mf, r, q, gr, ur, lr, mr, nF, nR, hI, rfl⟩ := hX
  obtain ⟨f7, hMi, rfl⟩ := hM
  obtain ⟨hJ, hC⟩ := hJ
  refine lv_aload_n hx hb dL_law_1489 rfl (lv_at hl 1 rfl) ?_
  refine lv_aload_n hx hb dL_law_1490 rfl (lv_at hl 0 rfl) ?_
  refine lv_iload_n hx hb dL_law_1491 rfl (lv_at hl 3 rfl) ?_
  refine lv_iconst (v := 1) hx hb dL_law_1492 (by decide) ?_
  refine lv_iadd hx hb dL_law_1493 ?_
  refine lv_topi (fun v1 ev1 => ?_)
  obtain rfl : v1 = nI (n + 1) := nI_plus ev1 rfl rfl
  refine xsld ((n + 1)) hx hb hXs hbl hbA hS rfl (by omega) (by omega) dL_law_1494 ?_
  refine lv_aload_n hx hb dL_law_1495 rfl (lv_at hl 0 rfl) ?_
  refine lv_iload_n hx hb dL_law_1496 rfl (lv_at hl 3 rfl) ?_
  refine lv_iconst (v := 2) hx hb dL_law_1497 (by decide) ?_
  refine lv_iadd hx hb dL_law_1498 ?_
  refine lv_topi (fun v2 ev2 => ?_)
  obtain rfl : v2 = nI (n + 2) := nI_plus ev2 rfl rfl
  refine xsld ((n + 2)) hx hb hXs hbl hbA hS rfl (by omega) (by omega) dL_law_1499 ?_
  obtain ⟨j, hj, hjt⟩ := tbJ_ex (xs ((n + 1)))
  obtain ⟨k, hk⟩ : ∃ k, k < 16 := ⟨0, by decide⟩
  refine lawI (rest := []) (q0 := 0) ⟨hx, hb, hml, hown, hts⟩ (x_round l G x xa (tA j) a b ga ua la lb (gA k) (rfn tA 6) (rfn gA 16) xf (tF j) f qf gf uf lf mf (nF k) (tR j) r q gr ur lr mr (nR k) (xs ((n + 1))) (xs ((n + 2))) j hj hjt (if_pos hj) ((hI.1 j hj).1) ((hI.1 j hj).2.1) ((hI.1 j hj).2.2.1) ((hI.1 j hj).2.2.2) hI.2.2.2.1.1 hI.2.2.2.1.2) mi_yX6_round mv_yX6_round ml_L_149 ⟨rfl, rfl, Nat.le_of_ble_eq_true rfl, Nat.le_of_ble_eq_true rfl⟩ hK hP hD (perm_app (xf_perm G x xa tA a b ga ua la lb gA xf f qf gf uf lf mf r q gr ur lr mr tF tR nF nR hj hk)) rfl rfl rfl hl.1 rfl (Nat.le_of_ble_eq_true rfl) dL_law_1500 ⟨Nat.le_of_ble_eq_true rfl, Nat.le_of_ble_eq_true rfl⟩ hS hA (fun r3 w H locs hw hP hS => ?_)
  obtain ⟨n_f_0, n_f_1, n_f_2, n_f_3, n_f_4, n_mf_0, n_mf_1, n_mr_2, n_r_6, n_r_7, n_r_8, n_r_9, n_r_10, n_r_11, n_r_12, n_r_13, n_r_14, n_uf_3, n_ur_1, n_ur_2, n_ur_3, n_ur_4, n_ur_5, n_ur_6, n_ur_7, n_ur_20, n_ur_21, n_ur_22, n_xf_0, rfl, hM0_n, hM1_n⟩ := hw
  have hXn := XS_back (tF := tF) (tR := tR) (nF := nF) (nR := nR) (x := x) (xa := xa) (tA := tA) (a := a) (b := b) (ga := ga) (ua := ua) (la := la) (lb := lb) (gA := gA) (xf := xf) (f := f) (qf := qf) (gf := gf) (uf := uf) (lf := lf) (mf := mf) (r := r) (q := q) (gr := gr) (ur := ur) (lr := lr) (mr := mr) (G := G) hI hj hk (upd xf 0 n_xf_0) (tF j) (upd (upd (upd (upd (upd f 0 n_f_0) 1 n_f_1) 2 n_f_2) 3 n_f_3) 4 n_f_4) qf gf (upd uf 3 n_uf_3) lf (upd (upd mf 0 n_mf_0) 1 n_mf_1) (nF k) (tR j) (up2 (up2 (up2 (up2 (up2 (up2 (up2 (up2 (up2 r 6 n_r_6) 7 n_r_7) 8 n_r_8) 9 n_r_9) 10 n_r_10) 11 n_r_11) 12 n_r_12) 13 n_r_13) 14 n_r_14) q gr (up2 (up2 (up2 (up2 (up2 (up2 (up2 (up2 (up2 (up2 ur 1 n_ur_1) 2 n_ur_2) 3 n_ur_3) 4 n_ur_4) 5 n_ur_5) 6 n_ur_6) 7 n_ur_7) 20 n_ur_20) 21 n_ur_21) 22 n_ur_22) lr (up2 mr 2 n_mr_2) (nR k) ⟨(hI.1 j hj).1, (hI.1 j hj).2.1, (hI.1 j hj).2.2.1, (hI.1 j hj).2.2.2⟩ hI.2.1 ⟨hI.2.2.1.1, hI.2.2.1.2⟩ ⟨hM0_n, hM1_n⟩ ⟨(hI.2.2.2.2.1 k hk).1, (hI.2.2.2.2.1 k hk).2⟩ (hI.2.2.2.2.2)
  obtain ⟨wX2, hX2, hP, hD⟩ : ∃ wX2 : va_W, XS G x xa tA a b ga ua la lb gA (upA tF j (tF j)) (upA tR j (tR j)) wX2 ∧ PP G (wX2 ++ mM G y bb f7 r7) H ∧ va_D (fun q => s.heap.size ≤ q) (wX2 ++ mM G y bb f7 r7) := ⟨_, hXn.1, hP xM_ad _ (perm_app hXn.2)⟩
  refine lv_pop hx hb dL_law_1503 rfl ?_
  refine lv_aload_n hx hb dL_law_1504 rfl (lv_at hl 2 rfl) ?_
  refine lv_aload_n hx hb dL_law_1505 rfl (lv_at hl 0 rfl) ?_
  refine lv_iload_n hx hb dL_law_1506 rfl (lv_at hl 3 rfl) ?_
  refine lv_iconst (v := 1) hx hb dL_law_1507 (by decide) ?_
  refine lv_iadd hx hb dL_law_1508 ?_
  refine lv_topi (fun v4 ev4 => ?_)
  obtain rfl : v4 = nI (n + 1) := nI_plus ev4 rfl rfl
  refine xsld ((n + 1)) hx hb hXs hbl hbA hS rfl (by omega) (by omega) dL_law_1509 ?_
  refine lv_aload_n hx hb dL_law_1510 rfl (lv_at hl 0 rfl) ?_
  refine lv_iload_n hx hb dL_law_1511 rfl (lv_at hl 3 rfl) ?_
  refine lv_iconst (v := 2) hx hb dL_law_1512 (by decide) ?_
  refine lv_iadd hx hb dL_law_1513 ?_
  refine lv_topi (fun v5 ev5 => ?_)
  obtain rfl : v5 = nI (n + 2) := nI_plus ev5 rfl rfl
  refine xsld ((n + 2)) hx hb hXs hbl hbA hS rfl (by omega) (by omega) dL_law_1514 ?_
  refine lawI (rest := []) (q0 := 0) ⟨hx, hb, hml, hown, hts⟩ (m_X7_round l G y bb f7 r7 (xs ((n + 1))) (xs ((n + 2))) hMi.1 hMi.2.1 hMi.2.2.1 hMi.2.2.2.2.2.2.1 hMi.2.2.2.2.2.2.2.1) mi_yX7_round mv_yX7_round ml_L_152 ⟨rfl, rfl, Nat.le_of_ble_eq_true rfl, Nat.le_of_ble_eq_true rfl⟩ hK hP hD List.perm_append_comm rfl rfl rfl hl.1 rfl (Nat.le_of_ble_eq_true rfl) dL_law_1515 ⟨Nat.le_of_ble_eq_true rfl, Nat.le_of_ble_eq_true rfl⟩ hS hA (fun r6 w H locs hw hP hS => ?_)
  obtain ⟨m_f_0, m_f_34, m_f_35, m_r_31, m_r_32, m_r_33, m_r_36, m_r_37, m_r_38, rfl, h34_n, h35_n⟩ := hw
  have hM2 : MS G y bb (up2 (up2 (up2 (up2 (up2 (up2 r7 31 m_r_31) 32 m_r_32) 33 m_r_33) 36 m_r_36) 37 m_r_37) 38 m_r_38) (mM G y bb (upd (upd (upd f7 0 m_f_0) 34 m_f_34) 35 m_f_35) (up2 (up2 (up2 (up2 (up2 (up2 r7 31 m_r_31) 32 m_r_32) 33 m_r_33) 36 m_r_36) 37 m_r_37) 38 m_r_38)) := ⟨(upd (upd (upd f7 0 m_f_0) 34 m_f_34) 35 m_f_35), ⟨hMi.1, hMi.2.1, hMi.2.2.1, hMi.2.2.2.1, hMi.2.2.2.2.1, hMi.2.2.2.2.2.1, h34_n, h35_n, hMi.2.2.2.2.2.2.2.2.1, hMi.2.2.2.2.2.2.2.2.2.1, hMi.2.2.2.2.2.2.2.2.2.2⟩, rfl⟩
  obtain ⟨hP, hD⟩ := hP mM_ad (wX2 ++ mM G y bb (upd (upd (upd f7 0 m_f_0) 34 m_f_34) 35 m_f_35) (up2 (up2 (up2 (up2 (up2 (up2 r7 31 m_r_31) 32 m_r_32) 33 m_r_33) 36 m_r_36) 37 m_r_37) 38 m_r_38)) List.perm_append_comm
  refine lv_pop hx hb dL_law_1518 rfl ?_
  refine lv_goto (tgt := 1654) hx hb dL_law_1519 (by decide) ?_
  have hJ2 : (JT (upA tF j (tF j)) (upA tR j (tR j)) (up2 (up2 (up2 (up2 (up2 (up2 r7 31 m_r_31) 32 m_r_32) 33 m_r_33) 36 m_r_36) 37 m_r_37) 38 m_r_38) ∧ JC (upA tF j (tF j)) (upA tR j (tR j)) (up2 (up2 (up2 (up2 (up2 (up2 r7 31 m_r_31) 32 m_r_32) 33 m_r_33) 36 m_r_36) 37 m_r_37) 38 m_r_38)) := ⟨JT_of hJ (hJ j hj) (fun _ _ => TO_0), JC_of hC (hC j hj) LQ_0⟩
  exact fin _ _ _ _ _ _ _ _ hX2 hM2 hJ2 hP hD hS (lv_sub hl [0, 1, 2, 3] rfl)
set_option maxHeartbeats 4000000 in
set_option maxRecDepth 100000 in
theorem law_c32 {p : Program} {l : Launch} {e : Env} {s : State} {m : MethodId} {below : List Frame} {meth : Method} {c : Code} {b_ L n : Nat} {xs : Nat → Int32} (C0 : lw_At p s m meth c b_ L xs) (hL : L ≤ 3072) (hn6 : n + 6 ≤ L) {G : GG} (hK : KK G s) (hT : ST (fun q => s.heap.size ≤ q) s s.heap) {x : Nat} {xa : Nat → Nat} {tA : Nat → Nat → Nat} {a b ga ua la lb : Nat → Nat} {gA : Nat → Nat → Nat} {y : Nat} {bb : Nat → Nat} {tF : Nat → Nat → Int32} {tR : Nat → Nat → Nat → Int32} {r7 : Nat → Nat → Int32} {wX wM : va_W} (hX : XS G x xa tA a b ga ua la lb gA tF tR wX) (hM : MS G y bb r7 wM) (hJ : (JT tF tR r7 ∧ JC tF tR r7)) {H : Heap} {locs : List Loc} {ls : Array Slot} (hP : PP G (wX ++ wM) H) (hD : va_D (fun q => s.heap.size ≤ q) (wX ++ wM)) (hS : va_S (fun q => s.heap.size ≤ q) s.heap H locs) (hl : lv_has ls 4 [(0, .ref b_), (1, .ref x), (2, .ref y), (3, .int (nI n))]) (fin : ∀ (tF2 : Nat → Nat → Int32) (tR2 : Nat → Nat → Nat → Int32) (r2 : Nat → Nat → Int32) (wX2 wM2 : va_W) (H : Heap) (locs : List Loc) (ls : Array Slot), XS G x xa tA a b ga ua la lb gA tF2 tR2 wX2 → MS G y bb r2 wM2 → (JT tF2 tR2 r2 ∧ JC tF2 tR2 r2) → PP G (wX2 ++ wM2) H → va_D (fun q => s.heap.size ≤ q) (wX2 ++ wM2) → va_S (fun q => s.heap.size ≤ q) s.heap H locs → lv_has ls 4 [(0, .ref b_), (1, .ref x), (2, .ref y), (3, .int (nI n))] → W p l e room_1 s m #[Value.ref b_] below meth c H locs 160 27087 (lw_Z below #[Value.ref b_] s) (F0 m 1654 ls [])) : W p l e room_1 s m #[Value.ref b_] below meth c H locs 160 27087 (lw_Z below #[Value.ref b_] s) (F0 m 1522 ls []) := by
  obtain ⟨hx, hb, hr, hml, hown, hts0, hXs, hbl, hlocks, hgv⟩ := id C0
  have hts : ∀ w ∈ TB, w.before #[Value.ref b_] s = true := fun w h => hts0 w (List.mem_filter.mp h).1
  have hown : s.vm.findClass RL = some m.cls := hown
  have hA : ∀ q : Nat, s.heap.size ≤ q → (fun q => s.heap.size ≤ q) q := fun _ h => h
  have hbA : ¬ (fun q => s.heap.size ≤ q) b_ := Nat.not_le.mpr hbl
  obtain ⟨xf, f, qf, gf, uf, lf, mf, r, q, gr, ur, lr, mr, nF, nR, hI, rfl⟩ := hX
  obtain ⟨f7, hMi, rfl⟩ := hM
  obtain ⟨hJ, hC⟩ := hJ
  refine lv_aload_n hx hb dL_law_1522 rfl (lv_at hl 1 rfl) ?_
  refine lv_aload_n hx hb dL_law_1523 rfl (lv_at hl 0 rfl) ?_
  refine lv_iload_n hx hb dL_law_1524 rfl (lv_at hl 3 rfl) ?_
  refine lv_iconst (v := 1) hx hb dL_law_1525 (by decide) ?_
  refine lv_iadd hx hb dL_law_1526 ?_
  refine lv_topi (fun v1 ev1 => ?_)
  obtain rfl : v1 = nI (n + 1) := nI_plus ev1 rfl rfl
  refine xsld ((n + 1)) hx hb hXs hbl hbA hS rfl (by omega) (by omega) dL_law_1527 ?_
  refine lv_aload_n hx hb dL_law_1528 rfl (lv_at hl 0 rfl) ?_
  refine lv_iload_n hx hb dL_law_1529 rfl (lv_at hl 3 rfl) ?_
  refine lv_iconst (v := 2) hx hb dL_law_1530 (by decide) ?_
  refine lv_iadd hx hb dL_law_1531 ?_
  refine lv_topi (fun v2 ev2 => ?_)
  obtain rfl : v2 = nI (n + 2) := nI_plus ev2 rfl rfl
  refine xsld ((n + 2)) hx hb hXs hbl hbA hS rfl (by omega) (by omega) dL_law_1532 ?_
  obtain ⟨j, hj⟩ : ∃ j, j < 6 := ⟨0, by decide⟩
  obtain ⟨k, hk⟩ : ∃ k, k < 16 := ⟨0, by decide⟩
  refine rdV (rest := []) (q0 := 0) ⟨hx, hb, hml, hown, hts⟩ (x_rounded l G x xa (tA j) a b ga ua la lb (gA k) (rfn tA 6) (rfn gA 16) xf (tF j) f qf gf uf lf mf (nF k) (tR j) r q gr ur lr mr (nR k) (xs ((n + 1))) (xs ((n + 2)))  hI.2.2.2.1.1 hI.2.2.2.1.2) mi_yX6_rounded mv_yX6_rounded ml_L_153 ⟨rfl, rfl, Nat.le_of_ble_eq_true rfl, Nat.le_of_ble_eq_true rfl⟩ hK (P_sub hP (fun z hz => List.mem_append_left _ ((xf_perm G x xa tA a b ga ua la lb gA xf f qf gf uf lf mf r q gr ur lr mr tF tR nF nR hj hk).mem_iff.mpr (List.mem_append_left _ hz)))) rfl rfl rfl hl.1 rfl (Nat.le_of_ble_eq_true rfl) dL_law_1533 ⟨Nat.le_of_ble_eq_true rfl, Nat.le_of_ble_eq_true rfl⟩ hS hA hP (fun r3 H locs hr3 hP hS => ?_)
  have hX2 : XS G x xa tA a b ga ua la lb gA tF tR (xFull G x xa tA a b ga ua la lb gA xf f qf gf uf lf mf r q gr ur lr mr tF tR nF nR) := ⟨xf, f, qf, gf, uf, lf, mf, r, q, gr, ur, lr, mr, nF, nR, hI, rfl⟩
  obtain ⟨wX2, hwX⟩ : ∃ wX2 : va_W, wX2 = xFull G x xa tA a b ga ua la lb gA xf f qf gf uf lf mf r q gr ur lr mr tF tR nF nR := ⟨_, rfl⟩
  rw [← hwX] at hX2 hP hD
  refine lv_pop hx hb dL_law_1536 rfl ?_
  refine lv_aload_n hx hb dL_law_1537 rfl (lv_at hl 2 rfl) ?_
  refine lv_aload_n hx hb dL_law_1538 rfl (lv_at hl 0 rfl) ?_
  refine lv_iload_n hx hb dL_law_1539 rfl (lv_at hl 3 rfl) ?_
  refine lv_iconst (v := 1) hx hb dL_law_1540 (by decide) ?_
  refine lv_iadd hx hb dL_law_1541 ?_
  refine lv_topi (fun v4 ev4 => ?_)
  obtain rfl : v4 = nI (n + 1) := nI_plus ev4 rfl rfl
  refine xsld ((n + 1)) hx hb hXs hbl hbA hS rfl (by omega) (by omega) dL_law_1542 ?_
  refine lv_aload_n hx hb dL_law_1543 rfl (lv_at hl 0 rfl) ?_
  refine lv_iload_n hx hb dL_law_1544 rfl (lv_at hl 3 rfl) ?_
  refine lv_iconst (v := 2) hx hb dL_law_1545 (by decide) ?_
  refine lv_iadd hx hb dL_law_1546 ?_
  refine lv_topi (fun v5 ev5 => ?_)
  obtain rfl : v5 = nI (n + 2) := nI_plus ev5 rfl rfl
  refine xsld ((n + 2)) hx hb hXs hbl hbA hS rfl (by omega) (by omega) dL_law_1547 ?_
  refine rdV (rest := []) (q0 := 0) ⟨hx, hb, hml, hown, hts⟩ (m_X7_rounded l G y bb f7 r7 (xs ((n + 1))) (xs ((n + 2))) hMi.2.2.2.2.2.2.1 hMi.2.2.2.2.2.2.2.1) mi_yX7_rounded mv_yX7_rounded ml_L_156 ⟨rfl, rfl, Nat.le_of_ble_eq_true rfl, Nat.le_of_ble_eq_true rfl⟩ hK (P_sub hP (fun z hz => List.mem_append_right _ hz)) rfl rfl rfl hl.1 rfl (Nat.le_of_ble_eq_true rfl) dL_law_1548 ⟨Nat.le_of_ble_eq_true rfl, Nat.le_of_ble_eq_true rfl⟩ hS hA hP (fun r6 H locs hr6 hP hS => ?_)
  have hM2 : MS G y bb r7 (mM G y bb f7 r7) := ⟨f7, hMi, rfl⟩
  refine lv_pop hx hb dL_law_1551 rfl ?_
  refine lv_goto (tgt := 1654) hx hb dL_law_1552 (by decide) ?_
  have hJ2 : (JT tF tR r7 ∧ JC tF tR r7) := ⟨hJ, hC⟩
  exact fin _ _ _ _ _ _ _ _ hX2 hM2 hJ2 hP hD hS (lv_sub hl [0, 1, 2, 3] rfl)
set_option maxHeartbeats 4000000 in
set_option maxRecDepth 100000 in
theorem law_c33 {p : Program} {l : Launch} {e : Env} {s : State} {m : MethodId} {below : List Frame} {meth : Method} {c : Code} {b_ L n : Nat} {xs : Nat → Int32} (C0 : lw_At p s m meth c b_ L xs) (hL : L ≤ 3072) (hn6 : n + 6 ≤ L) {G : GG} (hK : KK G s) (hT : ST (fun q => s.heap.size ≤ q) s s.heap) {x : Nat} {xa : Nat → Nat} {tA : Nat → Nat → Nat} {a b ga ua la lb : Nat → Nat} {gA : Nat → Nat → Nat} {y : Nat} {bb : Nat → Nat} {tF : Nat → Nat → Int32} {tR : Nat → Nat → Nat → Int32} {r7 : Nat → Nat → Int32} {wX wM : va_W} (hX : XS G x xa tA a b ga ua la lb gA tF tR wX) (hM : MS G y bb r7 wM) (hJ : (JT tF tR r7 ∧ JC tF tR r7)) {H : Heap} {locs : List Loc} {ls : Array Slot} (hP : PP G (wX ++ wM) H) (hD : va_D (fun q => s.heap.size ≤ q) (wX ++ wM)) (hS : va_S (fun q => s.heap.size ≤ q) s.heap H locs) (hl : lv_has ls 4 [(0, .ref b_), (1, .ref x), (2, .ref y), (3, .int (nI n))]) (fin : ∀ (tF2 : Nat → Nat → Int32) (tR2 : Nat → Nat → Nat → Int32) (r2 : Nat → Nat → Int32) (wX2 wM2 : va_W) (H : Heap) (locs : List Loc) (ls : Array Slot), XS G x xa tA a b ga ua la lb gA tF2 tR2 wX2 → MS G y bb r2 wM2 → (JT tF2 tR2 r2 ∧ JC tF2 tR2 r2) → PP G (wX2 ++ wM2) H → va_D (fun q => s.heap.size ≤ q) (wX2 ++ wM2) → va_S (fun q => s.heap.size ≤ q) s.heap H locs → lv_has ls 4 [(0, .ref b_), (1, .ref x), (2, .ref y), (3, .int (nI n))] → W p l e room_1 s m #[Value.ref b_] below meth c H locs 160 27087 (lw_Z below #[Value.ref b_] s) (F0 m 1654 ls [])) : W p l e room_1 s m #[Value.ref b_] below meth c H locs 160 27087 (lw_Z below #[Value.ref b_] s) (F0 m 1555 ls []) := by
  obtain ⟨hx, hb, hr, hml, hown, hts0, hXs, hbl, hlocks, hgv⟩ := id C0
  have hts : ∀ w ∈ TB, w.before #[Value.ref b_] s = true := fun w h => hts0 w (List.mem_filter.mp h).1
  have hown : s.vm.findClass RL = some m.cls := hown
  have hA : ∀ q : Nat, s.heap.size ≤ q → (fun q => s.heap.size ≤ q) q := fun _ h => h
  have hbA : ¬ (fun q => s.heap.size ≤ q) b_ := Nat.not_le.mpr hbl
  obtain ⟨xf, f, qf, gf, uf, lf, mf, r, q, gr, ur, lr, mr, nF, nR, hI, rfl⟩ := hX
  obtain ⟨f7, hMi, rfl⟩ := hM
  obtain ⟨hJ, hC⟩ := hJ
  refine lv_aload_n hx hb dL_law_1555 rfl (lv_at hl 1 rfl) ?_
  refine lv_aload_n hx hb dL_law_1556 rfl (lv_at hl 0 rfl) ?_
  refine lv_iload_n hx hb dL_law_1557 rfl (lv_at hl 3 rfl) ?_
  refine lv_iconst (v := 1) hx hb dL_law_1558 (by decide) ?_
  refine lv_iadd hx hb dL_law_1559 ?_
  refine lv_topi (fun v1 ev1 => ?_)
  obtain rfl : v1 = nI (n + 1) := nI_plus ev1 rfl rfl
  refine xsld ((n + 1)) hx hb hXs hbl hbA hS rfl (by omega) (by omega) dL_law_1560 ?_
  obtain ⟨j, hj, hjt⟩ := tbJ_ex (xs ((n + 1)))
  obtain ⟨gk, hgk16, h9v⟩ := hI.2.2.2.2.2
  obtain ⟨k, hk, hkg⟩ : ∃ k, k < 16 ∧ (gk < 16 → k = gk) := ⟨min gk 15, by omega, by omega⟩
  refine lawI (rest := []) (q0 := 0) ⟨hx, hb, hml, hown, hts⟩ (x_give l G x xa (tA j) a b ga ua la lb (gA k) (rfn tA 6) (rfn gA 16) xf (tF j) f qf gf uf lf mf (nF k) (tR j) r q gr ur lr mr (nR k) (xs ((n + 1))) j gk hj hjt (if_pos hj) ((hI.1 j hj).1) ((hI.1 j hj).2.1) ((hI.1 j hj).2.2.1) ((hI.1 j hj).2.2.2) hI.2.1 hgk16 (fun h => by rw [hkg h]; exact if_pos h) h9v ((hI.2.2.2.2.1 k hk).1) ((hI.2.2.2.2.1 k hk).2)) mi_yX6_give mv_yX6_give ml_L_157 ⟨rfl, rfl, Nat.le_of_ble_eq_true rfl, Nat.le_of_ble_eq_true rfl⟩ hK hP hD (perm_app (xf_perm G x xa tA a b ga ua la lb gA xf f qf gf uf lf mf r q gr ur lr mr tF tR nF nR hj hk)) rfl rfl rfl hl.1 rfl (Nat.le_of_ble_eq_true rfl) dL_law_1561 ⟨Nat.le_of_ble_eq_true rfl, Nat.le_of_ble_eq_true rfl⟩ hS hA (fun r2 w H locs hw hP hS => ?_)
  obtain ⟨n_f_0, n_f_1, n_f_2, n_f_3, n_f_4, n_nf_0, n_nf_1, n_nr_2, n_q_0, n_q_1, n_q_2, n_qf_3, n_r_6, n_r_7, n_r_8, n_r_9, n_r_10, n_r_11, n_r_12, n_r_13, n_r_14, n_xf_0, n_xf_9, rfl, hRB_n, hN0_n, hN1_n, hg9_n⟩ := hw
  have hXn := XS_back (tF := tF) (tR := tR) (nF := nF) (nR := nR) (x := x) (xa := xa) (tA := tA) (a := a) (b := b) (ga := ga) (ua := ua) (la := la) (lb := lb) (gA := gA) (xf := xf) (f := f) (qf := qf) (gf := gf) (uf := uf) (lf := lf) (mf := mf) (r := r) (q := q) (gr := gr) (ur := ur) (lr := lr) (mr := mr) (G := G) hI hj hk (upd (upd xf 0 n_xf_0) 9 n_xf_9) (tF j) (upd (upd (upd (upd (upd f 0 n_f_0) 1 n_f_1) 2 n_f_2) 3 n_f_3) 4 n_f_4) (upd qf 3 n_qf_3) gf uf lf mf (upd (upd (nF k) 0 n_nf_0) 1 n_nf_1) (tR j) (up2 (up2 (up2 (up2 (up2 (up2 (up2 (up2 (up2 r 6 n_r_6) 7 n_r_7) 8 n_r_8) 9 n_r_9) 10 n_r_10) 11 n_r_11) 12 n_r_12) 13 n_r_13) 14 n_r_14) (up2 (up2 (up2 q 0 n_q_0) 1 n_q_1) 2 n_q_2) gr ur lr mr (up2 (nR k) 2 n_nr_2) ⟨(hI.1 j hj).1, (hI.1 j hj).2.1, (hI.1 j hj).2.2.1, (hI.1 j hj).2.2.2⟩ hRB_n ⟨hI.2.2.1.1, hI.2.2.1.2⟩ ⟨hI.2.2.2.1.1, hI.2.2.2.1.2⟩ ⟨hN0_n, hN1_n⟩ (hg9_n)
  obtain ⟨wX2, hX2, hP, hD⟩ : ∃ wX2 : va_W, XS G x xa tA a b ga ua la lb gA (upA tF j (tF j)) (upA tR j (tR j)) wX2 ∧ PP G (wX2 ++ mM G y bb f7 r7) H ∧ va_D (fun q => s.heap.size ≤ q) (wX2 ++ mM G y bb f7 r7) := ⟨_, hXn.1, hP xM_ad _ (perm_app hXn.2)⟩
  refine lv_pop hx hb dL_law_1564 rfl ?_
  refine lv_aload_n hx hb dL_law_1565 rfl (lv_at hl 2 rfl) ?_
  refine lv_aload_n hx hb dL_law_1566 rfl (lv_at hl 0 rfl) ?_
  refine lv_iload_n hx hb dL_law_1567 rfl (lv_at hl 3 rfl) ?_
  refine lv_iconst (v := 1) hx hb dL_law_1568 (by decide) ?_
  refine lv_iadd hx hb dL_law_1569 ?_
  refine lv_topi (fun v3 ev3 => ?_)
  obtain rfl : v3 = nI (n + 1) := nI_plus ev3 rfl rfl
  refine xsld ((n + 1)) hx hb hXs hbl hbA hS rfl (by omega) (by omega) dL_law_1570 ?_
  refine lawI (rest := []) (q0 := 0) ⟨hx, hb, hml, hown, hts⟩ (m_X7_give l G y bb f7 r7 (xs ((n + 1))) hMi.1 hMi.2.1 hMi.2.2.1 hMi.2.2.2.1 hMi.2.2.2.2.2.2.2.2.1 hMi.2.2.2.2.2.2.2.2.2.1 hMi.2.2.2.2.2.2.2.2.2.2) mi_yX7_give mv_yX7_give ml_L_160 ⟨rfl, rfl, Nat.le_of_ble_eq_true rfl, Nat.le_of_ble_eq_true rfl⟩ hK hP hD List.perm_append_comm rfl rfl rfl hl.1 rfl (Nat.le_of_ble_eq_true rfl) dL_law_1571 ⟨Nat.le_of_ble_eq_true rfl, Nat.le_of_ble_eq_true rfl⟩ hS hA (fun r4 w H locs hw hP hS => ?_)
  obtain ⟨m_f_0, m_f_20, m_f_21, m_f_42, m_r_15, m_r_16, m_r_17, m_r_18, m_r_19, m_r_22, m_r_23, m_r_39, m_r_40, m_r_41, rfl, h42_n, hgr_n, hgc_n⟩ := hw
  have hM2 : MS G y bb (up2 (up2 (up2 (up2 (up2 (up2 (up2 (up2 (up2 (up2 r7 15 m_r_15) 16 m_r_16) 17 m_r_17) 18 m_r_18) 19 m_r_19) 22 m_r_22) 23 m_r_23) 39 m_r_39) 40 m_r_40) 41 m_r_41) (mM G y bb (upd (upd (upd (upd f7 0 m_f_0) 20 m_f_20) 21 m_f_21) 42 m_f_42) (up2 (up2 (up2 (up2 (up2 (up2 (up2 (up2 (up2 (up2 r7 15 m_r_15) 16 m_r_16) 17 m_r_17) 18 m_r_18) 19 m_r_19) 22 m_r_22) 23 m_r_23) 39 m_r_39) 40 m_r_40) 41 m_r_41)) := ⟨(upd (upd (upd (upd f7 0 m_f_0) 20 m_f_20) 21 m_f_21) 42 m_f_42), ⟨hMi.1, hMi.2.1, hMi.2.2.1, hMi.2.2.2.1, hMi.2.2.2.2.1, hMi.2.2.2.2.2.1, hMi.2.2.2.2.2.2.1, hMi.2.2.2.2.2.2.2.1, h42_n, hgr_n, hgc_n⟩, rfl⟩
  obtain ⟨hP, hD⟩ := hP mM_ad (wX2 ++ mM G y bb (upd (upd (upd (upd f7 0 m_f_0) 20 m_f_20) 21 m_f_21) 42 m_f_42) (up2 (up2 (up2 (up2 (up2 (up2 (up2 (up2 (up2 (up2 r7 15 m_r_15) 16 m_r_16) 17 m_r_17) 18 m_r_18) 19 m_r_19) 22 m_r_22) 23 m_r_23) 39 m_r_39) 40 m_r_40) 41 m_r_41)) List.perm_append_comm
  refine lv_pop hx hb dL_law_1574 rfl ?_
  refine lv_goto (tgt := 1654) hx hb dL_law_1575 (by decide) ?_
  have hJ2 : (JT (upA tF j (tF j)) (upA tR j (tR j)) (up2 (up2 (up2 (up2 (up2 (up2 (up2 (up2 (up2 (up2 r7 15 m_r_15) 16 m_r_16) 17 m_r_17) 18 m_r_18) 19 m_r_19) 22 m_r_22) 23 m_r_23) 39 m_r_39) 40 m_r_40) 41 m_r_41) ∧ JC (upA tF j (tF j)) (upA tR j (tR j)) (up2 (up2 (up2 (up2 (up2 (up2 (up2 (up2 (up2 (up2 r7 15 m_r_15) 16 m_r_16) 17 m_r_17) 18 m_r_18) 19 m_r_19) 22 m_r_22) 23 m_r_23) 39 m_r_39) 40 m_r_40) 41 m_r_41)) := ⟨JT_of hJ (hJ j hj) (fun _ _ => TO_0), JC_of hC (hC j hj) LQ_0⟩
  exact fin _ _ _ _ _ _ _ _ hX2 hM2 hJ2 hP hD hS (lv_sub hl [0, 1, 2, 3] rfl)
set_option maxHeartbeats 4000000 in
set_option maxRecDepth 100000 in
theorem law_c34 {p : Program} {l : Launch} {e : Env} {s : State} {m : MethodId} {below : List Frame} {meth : Method} {c : Code} {b_ L n : Nat} {xs : Nat → Int32} (C0 : lw_At p s m meth c b_ L xs) (hL : L ≤ 3072) (hn6 : n + 6 ≤ L) {G : GG} (hK : KK G s) (hT : ST (fun q => s.heap.size ≤ q) s s.heap) {x : Nat} {xa : Nat → Nat} {tA : Nat → Nat → Nat} {a b ga ua la lb : Nat → Nat} {gA : Nat → Nat → Nat} {y : Nat} {bb : Nat → Nat} {tF : Nat → Nat → Int32} {tR : Nat → Nat → Nat → Int32} {r7 : Nat → Nat → Int32} {wX wM : va_W} (hX : XS G x xa tA a b ga ua la lb gA tF tR wX) (hM : MS G y bb r7 wM) (hJ : (JT tF tR r7 ∧ JC tF tR r7)) {H : Heap} {locs : List Loc} {ls : Array Slot} (hP : PP G (wX ++ wM) H) (hD : va_D (fun q => s.heap.size ≤ q) (wX ++ wM)) (hS : va_S (fun q => s.heap.size ≤ q) s.heap H locs) (hl : lv_has ls 4 [(0, .ref b_), (1, .ref x), (2, .ref y), (3, .int (nI n))]) (fin : ∀ (tF2 : Nat → Nat → Int32) (tR2 : Nat → Nat → Nat → Int32) (r2 : Nat → Nat → Int32) (wX2 wM2 : va_W) (H : Heap) (locs : List Loc) (ls : Array Slot), XS G x xa tA a b ga ua la lb gA tF2 tR2 wX2 → MS G y bb r2 wM2 → (JT tF2 tR2 r2 ∧ JC tF2 tR2 r2) → PP G (wX2 ++ wM2) H → va_D (fun q => s.heap.size ≤ q) (wX2 ++ wM2) → va_S (fun q => s.heap.size ≤ q) s.heap H locs → lv_has ls 4 [(0, .ref b_), (1, .ref x), (2, .ref y), (3, .int (nI n))] → W p l e room_1 s m #[Value.ref b_] below meth c H locs 160 27087 (lw_Z below #[Value.ref b_] s) (F0 m 1654 ls [])) : W p l e room_1 s m #[Value.ref b_] below meth c H locs 160 27087 (lw_Z below #[Value.ref b_] s) (F0 m 1578 ls []) := by
  obtain ⟨hx, hb, hr, hml, hown, hts0, hXs, hbl, hlocks, hgv⟩ := id C0
  have hts : ∀ w ∈ TB, w.before #[Value.ref b_] s = true := fun w h => hts0 w (List.mem_filter.mp h).1
  have hown : s.vm.findClass RL = some m.cls := hown
  have hA : ∀ q : Nat, s.heap.size ≤ q → (fun q => s.heap.size ≤ q) q := fun _ h => h
  have hbA : ¬ (fun q => s.heap.size ≤ q) b_ := Nat.not_le.mpr hbl
  obtain ⟨xf, f, qf, gf, uf, lf, mf, r, q, gr, ur, lr, mr, nF, nR, hI, rfl⟩ := hX
  obtain ⟨f7, hMi, rfl⟩ := hM
  obtain ⟨hJ, hC⟩ := hJ
  refine lv_aload_n hx hb dL_law_1578 rfl (lv_at hl 1 rfl) ?_
  refine lv_aload_n hx hb dL_law_1579 rfl (lv_at hl 0 rfl) ?_
  refine lv_iload_n hx hb dL_law_1580 rfl (lv_at hl 3 rfl) ?_
  refine lv_iconst (v := 1) hx hb dL_law_1581 (by decide) ?_
  refine lv_iadd hx hb dL_law_1582 ?_
  refine lv_topi (fun v1 ev1 => ?_)
  obtain rfl : v1 = nI (n + 1) := nI_plus ev1 rfl rfl
  refine xsld ((n + 1)) hx hb hXs hbl hbA hS rfl (by omega) (by omega) dL_law_1583 ?_
  refine lv_aload_n hx hb dL_law_1584 rfl (lv_at hl 0 rfl) ?_
  refine lv_iload_n hx hb dL_law_1585 rfl (lv_at hl 3 rfl) ?_
  refine lv_iconst (v := 2) hx hb dL_law_1586 (by decide) ?_
  refine lv_iadd hx hb dL_law_1587 ?_
  refine lv_topi (fun v2 ev2 => ?_)
  obtain rfl : v2 = nI (n + 2) := nI_plus ev2 rfl rfl
  refine xsld ((n + 2)) hx hb hXs hbl hbA hS rfl (by omega) (by omega) dL_law_1588 ?_
  refine lv_aload_n hx hb dL_law_1589 rfl (lv_at hl 0 rfl) ?_
  refine lv_iload_n hx hb dL_law_1590 rfl (lv_at hl 3 rfl) ?_
  refine lv_iconst (v := 3) hx hb dL_law_1591 (by decide) ?_
  refine lv_iadd hx hb dL_law_1592 ?_
  refine lv_topi (fun v3 ev3 => ?_)
  obtain rfl : v3 = nI (n + 3) := nI_plus ev3 rfl rfl
  refine xsld ((n + 3)) hx hb hXs hbl hbA hS rfl (by omega) (by omega) dL_law_1593 ?_
  obtain ⟨j, hj⟩ : ∃ j, j < 6 := ⟨0, by decide⟩
  obtain ⟨k, hk, hgJ⟩ := gfJ_ex (xs ((n + 1)))
  refine rdV (rest := []) (q0 := 0) ⟨hx, hb, hml, hown, hts⟩ (x_gift l G x xa (tA j) a b ga ua la lb (gA k) (rfn tA 6) (rfn gA 16) xf (tF j) f qf gf uf lf mf (nF k) (tR j) r q gr ur lr mr (nR k) (xs ((n + 1))) (xs ((n + 2))) (xs ((n + 3))) k hI.2.2.2.2.2 hgJ (fun h => if_pos h) ((hI.2.2.2.2.1 k hk).1) ((hI.2.2.2.2.1 k hk).2)) mi_yX6_gift mv_yX6_gift ml_L_161 ⟨rfl, rfl, Nat.le_of_ble_eq_true rfl, Nat.le_of_ble_eq_true rfl⟩ hK (P_sub hP (fun z hz => List.mem_append_left _ ((xf_perm G x xa tA a b ga ua la lb gA xf f qf gf uf lf mf r q gr ur lr mr tF tR nF nR hj hk).mem_iff.mpr (List.mem_append_left _ hz)))) rfl rfl rfl hl.1 rfl (Nat.le_of_ble_eq_true rfl) dL_law_1594 ⟨Nat.le_of_ble_eq_true rfl, Nat.le_of_ble_eq_true rfl⟩ hS hA hP (fun r4 H locs hr4 hP hS => ?_)
  have hX2 : XS G x xa tA a b ga ua la lb gA tF tR (xFull G x xa tA a b ga ua la lb gA xf f qf gf uf lf mf r q gr ur lr mr tF tR nF nR) := ⟨xf, f, qf, gf, uf, lf, mf, r, q, gr, ur, lr, mr, nF, nR, hI, rfl⟩
  obtain ⟨wX2, hwX⟩ : ∃ wX2 : va_W, wX2 = xFull G x xa tA a b ga ua la lb gA xf f qf gf uf lf mf r q gr ur lr mr tF tR nF nR := ⟨_, rfl⟩
  rw [← hwX] at hX2 hP hD
  refine lv_pop hx hb dL_law_1597 rfl ?_
  refine lv_aload_n hx hb dL_law_1598 rfl (lv_at hl 2 rfl) ?_
  refine lv_aload_n hx hb dL_law_1599 rfl (lv_at hl 0 rfl) ?_
  refine lv_iload_n hx hb dL_law_1600 rfl (lv_at hl 3 rfl) ?_
  refine lv_iconst (v := 1) hx hb dL_law_1601 (by decide) ?_
  refine lv_iadd hx hb dL_law_1602 ?_
  refine lv_topi (fun v5 ev5 => ?_)
  obtain rfl : v5 = nI (n + 1) := nI_plus ev5 rfl rfl
  refine xsld ((n + 1)) hx hb hXs hbl hbA hS rfl (by omega) (by omega) dL_law_1603 ?_
  refine lv_aload_n hx hb dL_law_1604 rfl (lv_at hl 0 rfl) ?_
  refine lv_iload_n hx hb dL_law_1605 rfl (lv_at hl 3 rfl) ?_
  refine lv_iconst (v := 2) hx hb dL_law_1606 (by decide) ?_
  refine lv_iadd hx hb dL_law_1607 ?_
  refine lv_topi (fun v6 ev6 => ?_)
  obtain rfl : v6 = nI (n + 2) := nI_plus ev6 rfl rfl
  refine xsld ((n + 2)) hx hb hXs hbl hbA hS rfl (by omega) (by omega) dL_law_1608 ?_
  refine lv_aload_n hx hb dL_law_1609 rfl (lv_at hl 0 rfl) ?_
  refine lv_iload_n hx hb dL_law_1610 rfl (lv_at hl 3 rfl) ?_
  refine lv_iconst (v := 3) hx hb dL_law_1611 (by decide) ?_
  refine lv_iadd hx hb dL_law_1612 ?_
  refine lv_topi (fun v7 ev7 => ?_)
  obtain rfl : v7 = nI (n + 3) := nI_plus ev7 rfl rfl
  refine xsld ((n + 3)) hx hb hXs hbl hbA hS rfl (by omega) (by omega) dL_law_1613 ?_
  refine rdV (rest := []) (q0 := 0) ⟨hx, hb, hml, hown, hts⟩ (m_X7_gift l G y bb f7 r7 (xs ((n + 1))) (xs ((n + 2))) (xs ((n + 3))) hMi.2.2.2.2.2.2.2.2.1 hMi.2.2.2.2.2.2.2.2.2.1 hMi.2.2.2.2.2.2.2.2.2.2) mi_yX7_gift mv_yX7_gift ml_L_164 ⟨rfl, rfl, Nat.le_of_ble_eq_true rfl, Nat.le_of_ble_eq_true rfl⟩ hK (P_sub hP (fun z hz => List.mem_append_right _ hz)) rfl rfl rfl hl.1 rfl (Nat.le_of_ble_eq_true rfl) dL_law_1614 ⟨Nat.le_of_ble_eq_true rfl, Nat.le_of_ble_eq_true rfl⟩ hS hA hP (fun r8 H locs hr8 hP hS => ?_)
  have hM2 : MS G y bb r7 (mM G y bb f7 r7) := ⟨f7, hMi, rfl⟩
  refine lv_pop hx hb dL_law_1617 rfl ?_
  refine lv_goto (tgt := 1654) hx hb dL_law_1618 (by decide) ?_
  have hJ2 : (JT tF tR r7 ∧ JC tF tR r7) := ⟨hJ, hC⟩
  exact fin _ _ _ _ _ _ _ _ hX2 hM2 hJ2 hP hD hS (lv_sub hl [0, 1, 2, 3] rfl)
set_option maxHeartbeats 4000000 in
set_option maxRecDepth 100000 in
theorem law_c35 {p : Program} {l : Launch} {e : Env} {s : State} {m : MethodId} {below : List Frame} {meth : Method} {c : Code} {b_ L n : Nat} {xs : Nat → Int32} (C0 : lw_At p s m meth c b_ L xs) (hL : L ≤ 3072) (hn6 : n + 6 ≤ L) {G : GG} (hK : KK G s) (hT : ST (fun q => s.heap.size ≤ q) s s.heap) {x : Nat} {xa : Nat → Nat} {tA : Nat → Nat → Nat} {a b ga ua la lb : Nat → Nat} {gA : Nat → Nat → Nat} {y : Nat} {bb : Nat → Nat} {tF : Nat → Nat → Int32} {tR : Nat → Nat → Nat → Int32} {r7 : Nat → Nat → Int32} {wX wM : va_W} (hX : XS G x xa tA a b ga ua la lb gA tF tR wX) (hM : MS G y bb r7 wM) (hJ : (JT tF tR r7 ∧ JC tF tR r7)) {H : Heap} {locs : List Loc} {ls : Array Slot} (hP : PP G (wX ++ wM) H) (hD : va_D (fun q => s.heap.size ≤ q) (wX ++ wM)) (hS : va_S (fun q => s.heap.size ≤ q) s.heap H locs) (hl : lv_has ls 4 [(0, .ref b_), (1, .ref x), (2, .ref y), (3, .int (nI n))]) (fin : ∀ (tF2 : Nat → Nat → Int32) (tR2 : Nat → Nat → Nat → Int32) (r2 : Nat → Nat → Int32) (wX2 wM2 : va_W) (H : Heap) (locs : List Loc) (ls : Array Slot), XS G x xa tA a b ga ua la lb gA tF2 tR2 wX2 → MS G y bb r2 wM2 → (JT tF2 tR2 r2 ∧ JC tF2 tR2 r2) → PP G (wX2 ++ wM2) H → va_D (fun q => s.heap.size ≤ q) (wX2 ++ wM2) → va_S (fun q => s.heap.size ≤ q) s.heap H locs → lv_has ls 4 [(0, .ref b_), (1, .ref x), (2, .ref y), (3, .int (nI n))] → W p l e room_1 s m #[Value.ref b_] below meth c H locs 160 27087 (lw_Z below #[Value.ref b_] s) (F0 m 1654 ls [])) : W p l e room_1 s m #[Value.ref b_] below meth c H locs 160 27087 (lw_Z below #[Value.ref b_] s) (F0 m 1621 ls []) := by
  obtain ⟨hx, hb, hr, hml, hown, hts0, hXs, hbl, hlocks, hgv⟩ := id C0
  have hts : ∀ w ∈ TB, w.before #[Value.ref b_] s = true := fun w h => hts0 w (List.mem_filter.mp h).1
  have hown : s.vm.findClass RL = some m.cls := hown
  have hA : ∀ q : Nat, s.heap.size ≤ q → (fun q => s.heap.size ≤ q) q := fun _ h => h
  have hbA : ¬ (fun q => s.heap.size ≤ q) b_ := Nat.not_le.mpr hbl
  obtain ⟨xf, f, qf, gf, uf, lf, mf, r, q, gr, ur, lr, mr, nF, nR, hI, rfl⟩ := hX
  obtain ⟨f7, hMi, rfl⟩ := hM
  obtain ⟨hJ, hC⟩ := hJ
  refine lv_aload_n hx hb dL_law_1621 rfl (lv_at hl 1 rfl) ?_
  refine lv_aload_n hx hb dL_law_1622 rfl (lv_at hl 0 rfl) ?_
  refine lv_iload_n hx hb dL_law_1623 rfl (lv_at hl 3 rfl) ?_
  refine lv_iconst (v := 1) hx hb dL_law_1624 (by decide) ?_
  refine lv_iadd hx hb dL_law_1625 ?_
  refine lv_topi (fun v1 ev1 => ?_)
  obtain rfl : v1 = nI (n + 1) := nI_plus ev1 rfl rfl
  refine xsld ((n + 1)) hx hb hXs hbl hbA hS rfl (by omega) (by omega) dL_law_1626 ?_
  refine lv_aload_n hx hb dL_law_1627 rfl (lv_at hl 0 rfl) ?_
  refine lv_iload_n hx hb dL_law_1628 rfl (lv_at hl 3 rfl) ?_
  refine lv_iconst (v := 2) hx hb dL_law_1629 (by decide) ?_
  refine lv_iadd hx hb dL_law_1630 ?_
  refine lv_topi (fun v2 ev2 => ?_)
  obtain rfl : v2 = nI (n + 2) := nI_plus ev2 rfl rfl
  refine xsld ((n + 2)) hx hb hXs hbl hbA hS rfl (by omega) (by omega) dL_law_1631 ?_
  obtain ⟨j, hj⟩ : ∃ j, j < 6 := ⟨0, by decide⟩
  obtain ⟨ka, hka, hJa⟩ := gfJ_ex (xs ((n + 1)))
  obtain ⟨kb, hkb, hJb⟩ := gfJ_ex (xs ((n + 2)))
  obtain ⟨k, hk⟩ : ∃ k, k < 16 := ⟨0, by decide⟩
  refine rdV (rest := []) (q0 := 0) ⟨hx, hb, hml, hown, hts⟩ (x_agree l G x xa a ga ua la lb (gA ka) (gA kb) (rfn gA 16) xf (nF ka) (nF kb) (nR ka) (nR kb) (xs ((n + 1))) (xs ((n + 2))) ka kb hI.2.2.2.2.2 hJa hJb (fun h => if_pos h) (fun h => if_pos h) (hI.2.2.2.2.1 ka hka).1 (hI.2.2.2.2.1 ka hka).2 (hI.2.2.2.2.1 kb hkb).1 (hI.2.2.2.2.1 kb hkb).2) mi_yX6_agree mv_yX6_agree ml_L_165 ⟨rfl, rfl, Nat.le_of_ble_eq_true rfl, Nat.le_of_ble_eq_true rfl⟩ hK (agr_sub hka hkb hP) rfl rfl rfl hl.1 rfl (Nat.le_of_ble_eq_true rfl) dL_law_1632 ⟨Nat.le_of_ble_eq_true rfl, Nat.le_of_ble_eq_true rfl⟩ hS hA hP (fun r3 H locs hr3 hP hS => ?_)
  have hX2 : XS G x xa tA a b ga ua la lb gA tF tR (xFull G x xa tA a b ga ua la lb gA xf f qf gf uf lf mf r q gr ur lr mr tF tR nF nR) := ⟨xf, f, qf, gf, uf, lf, mf, r, q, gr, ur, lr, mr, nF, nR, hI, rfl⟩
  obtain ⟨wX2, hwX⟩ : ∃ wX2 : va_W, wX2 = xFull G x xa tA a b ga ua la lb gA xf f qf gf uf lf mf r q gr ur lr mr tF tR nF nR := ⟨_, rfl⟩
  rw [← hwX] at hX2 hP hD
  refine lv_pop hx hb dL_law_1635 rfl ?_
  refine lv_aload_n hx hb dL_law_1636 rfl (lv_at hl 2 rfl) ?_
  refine lv_aload_n hx hb dL_law_1637 rfl (lv_at hl 0 rfl) ?_
  refine lv_iload_n hx hb dL_law_1638 rfl (lv_at hl 3 rfl) ?_
  refine lv_iconst (v := 1) hx hb dL_law_1639 (by decide) ?_
  refine lv_iadd hx hb dL_law_1640 ?_
  refine lv_topi (fun v4 ev4 => ?_)
  obtain rfl : v4 = nI (n + 1) := nI_plus ev4 rfl rfl
  refine xsld ((n + 1)) hx hb hXs hbl hbA hS rfl (by omega) (by omega) dL_law_1641 ?_
  refine lv_aload_n hx hb dL_law_1642 rfl (lv_at hl 0 rfl) ?_
  refine lv_iload_n hx hb dL_law_1643 rfl (lv_at hl 3 rfl) ?_
  refine lv_iconst (v := 2) hx hb dL_law_1644 (by decide) ?_
  refine lv_iadd hx hb dL_law_1645 ?_
  refine lv_topi (fun v5 ev5 => ?_)
  obtain rfl : v5 = nI (n + 2) := nI_plus ev5 rfl rfl
  refine xsld ((n + 2)) hx hb hXs hbl hbA hS rfl (by omega) (by omega) dL_law_1646 ?_
  refine rdV (rest := []) (q0 := 0) ⟨hx, hb, hml, hown, hts⟩ (m_X7_agree l G y bb f7 r7 (xs ((n + 1))) (xs ((n + 2))) hMi.2.2.2.2.2.2.2.2.1 hMi.2.2.2.2.2.2.2.2.2.1 hMi.2.2.2.2.2.2.2.2.2.2) mi_yX7_agree mv_yX7_agree ml_L_168 ⟨rfl, rfl, Nat.le_of_ble_eq_true rfl, Nat.le_of_ble_eq_true rfl⟩ hK (P_sub hP (fun z hz => List.mem_append_right _ hz)) rfl rfl rfl hl.1 rfl (Nat.le_of_ble_eq_true rfl) dL_law_1647 ⟨Nat.le_of_ble_eq_true rfl, Nat.le_of_ble_eq_true rfl⟩ hS hA hP (fun r6 H locs hr6 hP hS => ?_)
  have hM2 : MS G y bb r7 (mM G y bb f7 r7) := ⟨f7, hMi, rfl⟩
  refine lv_pop hx hb dL_law_1650 rfl ?_
  refine lv_goto (tgt := 1654) hx hb dL_law_1651 (by decide) ?_
  have hJ2 : (JT tF tR r7 ∧ JC tF tR r7) := ⟨hJ, hC⟩
  exact fin _ _ _ _ _ _ _ _ hX2 hM2 hJ2 hP hD hS (lv_sub hl [0, 1, 2, 3] rfl)
