theorem ml_X6_69 : Cond.methodLink RX6 69 yX4_begin ∈ TB := TB_t2 65 (by decide +kernel) rfl
theorem mcode_yX4_begin : Cond.code yX4_begin cX4_begin 5 none ∈ TB := TB_t2 68 (by decide +kernel) rfl
theorem mi_yX4_begin : MI yX4_begin cX4_begin 5 none 2 := ⟨mz_RX4, mcode_yX4_begin, by decide +kernel, by decide +kernel, by decide +kernel⟩
theorem mim_yX4_begin : Cond.instanceMethod yX4_begin ∈ TB := TB_t2 66 (by decide +kernel) rfl
theorem msel_yX4_begin : Cond.selects yX4_begin.cls yX4_begin yX4_begin ∈ TB := TB_t2 67 (by decide +kernel) rfl
theorem mv_yX4_begin : Cond.instanceMethod yX4_begin ∈ TB ∧ Cond.selects yX4_begin.cls yX4_begin yX4_begin ∈ TB := ⟨mim_yX4_begin, msel_yX4_begin⟩
theorem mf_X7_23 : Cond.fieldLink RX7 23 "CellKeeperModel" "kinds" "[I" ∈ TB := TB_t4 105 (by decide +kernel) rfl
theorem mf_X7_26 : Cond.fieldLink RX7 26 "CellKeeperModel" "numbers" "[I" ∈ TB := TB_t4 106 (by decide +kernel) rfl
theorem mf_X7_29 : Cond.fieldLink RX7 29 "CellKeeperModel" "giverMany" "[I" ∈ TB := TB_t4 107 (by decide +kernel) rfl
theorem mf_X7_35 : Cond.fieldLink RX7 35 "CellKeeperModel" "byHand" "[Z" ∈ TB := TB_t4 109 (by decide +kernel) rfl
theorem mf_X7_38 : Cond.fieldLink RX7 38 "CellKeeperModel" "toKeep" "[Z" ∈ TB := TB_t4 110 (by decide +kernel) rfl
theorem mf_X7_13 : Cond.fieldLink RX7 13 "CellKeeperModel" "rows" "[I" ∈ TB := TB_t4 102 (by decide +kernel) rfl
theorem mf_X7_17 : Cond.fieldLink RX7 17 "CellKeeperModel" "columns" "[I" ∈ TB := TB_t4 103 (by decide +kernel) rfl
theorem mf_X7_44 : Cond.fieldLink RX7 44 "CellKeeperModel" "blockMany" "[I" ∈ TB := TB_t4 112 (by decide +kernel) rfl
theorem mf_X7_20 : Cond.fieldLink RX7 20 "CellKeeperModel" "rules" "[I" ∈ TB := TB_t4 104 (by decide +kernel) rfl
theorem ml_X7_138 : Cond.methodLink RX7 138 yX7_good ∈ TB := TB_t5 6 (by decide +kernel) rfl
theorem mcode_yX7_good : Cond.code yX7_good cX7_good 1 (some .boolean) ∈ TB := TB_t5 9 (by decide +kernel) rfl
theorem mi_yX7_good : MI yX7_good cX7_good 1 (some .boolean) 0 := ⟨mz_RX7, mcode_yX7_good, by decide +kernel, by decide +kernel, by decide +kernel⟩
theorem mim_yX7_good : Cond.instanceMethod yX7_good ∈ TB := TB_t5 8 (by decide +kernel) rfl
theorem msel_yX7_good : Cond.selects yX7_good.cls yX7_good yX7_good ∈ TB := TB_s (n := 43) 43 (by decide +kernel)
theorem mv_yX7_good : Cond.instanceMethod yX7_good ∈ TB ∧ Cond.selects yX7_good.cls yX7_good yX7_good ∈ TB := ⟨mim_yX7_good, msel_yX7_good⟩
theorem mf_X7_41 : Cond.fieldLink RX7 41 "CellKeeperModel" "places" "[I" ∈ TB := TB_t4 111 (by decide +kernel) rfl
theorem ml_X7_134 : Cond.methodLink RX7 134 yX7_empty ∈ TB := TB_t5 2 (by decide +kernel) rfl
theorem mcode_yX7_empty : Cond.code yX7_empty cX7_empty 2 none ∈ TB := TB_t5 5 (by decide +kernel) rfl
theorem mi_yX7_empty : MI yX7_empty cX7_empty 2 none 1 := ⟨mz_RX7, mcode_yX7_empty, by decide +kernel, by decide +kernel, by decide +kernel⟩
theorem mim_yX7_empty : Cond.instanceMethod yX7_empty ∈ TB := TB_t5 4 (by decide +kernel) rfl
theorem msel_yX7_empty : Cond.selects yX7_empty.cls yX7_empty yX7_empty ∈ TB := TB_s (n := 43) 42 (by decide +kernel)
theorem mv_yX7_empty : Cond.instanceMethod yX7_empty ∈ TB ∧ Cond.selects yX7_empty.cls yX7_empty yX7_empty ∈ TB := ⟨mim_yX7_empty, msel_yX7_empty⟩
theorem dX6_open_0 : decode cX6_open 0 = .ok (.iload_n 1, 1) := by decide +kernel
theorem dX6_open_1 : decode cX6_open 1 = .ok (.ifCond .lt 21, 3) := by decide +kernel
theorem dX6_open_22 : decode cX6_open 22 = .ok (.aload_n 0, 1) := by decide +kernel
theorem dX6_open_23 : decode cX6_open 23 = .ok (.iconst 1, 1) := by decide +kernel
theorem dX6_open_24 : decode cX6_open 24 = .ok (.invokevirtual 65, 3) := by decide +kernel
theorem dX6_open_27 : decode cX6_open 27 = .ok (.ireturn, 1) := by decide +kernel
theorem dX6_open_4 : decode cX6_open 4 = .ok (.iload_n 1, 1) := by decide +kernel
theorem dX6_open_5 : decode cX6_open 5 = .ok (.bipush 6, 2) := by decide +kernel
theorem dX6_open_7 : decode cX6_open 7 = .ok (.if_icmp .ge 15, 3) := by decide +kernel
theorem dX6_open_10 : decode cX6_open 10 = .ok (.aload_n 0, 1) := by decide +kernel
theorem dX6_open_11 : decode cX6_open 11 = .ok (.getfield 15, 3) := by decide +kernel
theorem dX6_open_14 : decode cX6_open 14 = .ok (.iload_n 1, 1) := by decide +kernel
theorem dX6_open_15 : decode cX6_open 15 = .ok (.aaload, 1) := by decide +kernel
theorem dX6_open_16 : decode cX6_open 16 = .ok (.getfield 61, 3) := by decide +kernel
theorem dX6_open_19 : decode cX6_open 19 = .ok (.ifCond .eq 9, 3) := by decide +kernel
theorem dX6_open_28 : decode cX6_open 28 = .ok (.iload_n 2, 1) := by decide +kernel
theorem dX6_open_29 : decode cX6_open 29 = .ok (.iconst 1, 1) := by decide +kernel
theorem dX6_open_30 : decode cX6_open 30 = .ok (.if_icmp .lt 20, 3) := by decide +kernel
theorem dX6_open_50 : decode cX6_open 50 = .ok (.aload_n 0, 1) := by decide +kernel
theorem dX6_open_51 : decode cX6_open 51 = .ok (.iconst 2, 1) := by decide +kernel
theorem dX6_open_52 : decode cX6_open 52 = .ok (.invokevirtual 65, 3) := by decide +kernel
theorem dX6_open_55 : decode cX6_open 55 = .ok (.ireturn, 1) := by decide +kernel
theorem dX6_open_33 : decode cX6_open 33 = .ok (.iload_n 2, 1) := by decide +kernel
theorem dX6_open_34 : decode cX6_open 34 = .ok (.bipush 12, 2) := by decide +kernel
theorem dX6_open_36 : decode cX6_open 36 = .ok (.if_icmp .gt 14, 3) := by decide +kernel
theorem dX6_open_39 : decode cX6_open 39 = .ok (.iload_n 3, 1) := by decide +kernel
theorem dX6_open_40 : decode cX6_open 40 = .ok (.iconst 1, 1) := by decide +kernel
theorem dX6_open_41 : decode cX6_open 41 = .ok (.if_icmp .lt 9, 3) := by decide +kernel
theorem dX6_open_44 : decode cX6_open 44 = .ok (.iload_n 3, 1) := by decide +kernel
theorem dX6_open_45 : decode cX6_open 45 = .ok (.bipush 12, 2) := by decide +kernel
theorem dX6_open_47 : decode cX6_open 47 = .ok (.if_icmp .le 9, 3) := by decide +kernel
theorem dX6_open_56 : decode cX6_open 56 = .ok (.aload_n 0, 1) := by decide +kernel
theorem dX6_open_57 : decode cX6_open 57 = .ok (.getfield 15, 3) := by decide +kernel
theorem dX6_open_60 : decode cX6_open 60 = .ok (.iload_n 1, 1) := by decide +kernel
theorem dX6_open_61 : decode cX6_open 61 = .ok (.aaload, 1) := by decide +kernel
theorem dX6_open_62 : decode cX6_open 62 = .ok (.iload_n 2, 1) := by decide +kernel
theorem dX6_open_63 : decode cX6_open 63 = .ok (.iload_n 3, 1) := by decide +kernel
theorem dX6_open_64 : decode cX6_open 64 = .ok (.invokevirtual 69, 3) := by decide +kernel
theorem dX6_open_67 : decode cX6_open 67 = .ok (.aload_n 0, 1) := by decide +kernel
theorem dX6_open_68 : decode cX6_open 68 = .ok (.iconst 0, 1) := by decide +kernel
theorem dX6_open_69 : decode cX6_open 69 = .ok (.invokevirtual 65, 3) := by decide +kernel
theorem dX6_open_72 : decode cX6_open 72 = .ok (.ireturn, 1) := by decide +kernel
theorem dX7_empty_0 : decode cX7_empty 0 = .ok (.aload_n 0, 1) := by decide +kernel
theorem dX7_empty_1 : decode cX7_empty 1 = .ok (.getfield 23, 3) := by decide +kernel
theorem dX7_empty_4 : decode cX7_empty 4 = .ok (.iload_n 1, 1) := by decide +kernel
theorem dX7_empty_5 : decode cX7_empty 5 = .ok (.iconst 0, 1) := by decide +kernel
theorem dX7_empty_6 : decode cX7_empty 6 = .ok (.iastore, 1) := by decide +kernel
theorem dX7_empty_7 : decode cX7_empty 7 = .ok (.aload_n 0, 1) := by decide +kernel
theorem dX7_empty_8 : decode cX7_empty 8 = .ok (.getfield 26, 3) := by decide +kernel
theorem dX7_empty_11 : decode cX7_empty 11 = .ok (.iload_n 1, 1) := by decide +kernel
theorem dX7_empty_12 : decode cX7_empty 12 = .ok (.iconst 0, 1) := by decide +kernel
theorem dX7_empty_13 : decode cX7_empty 13 = .ok (.iastore, 1) := by decide +kernel
theorem dX7_empty_14 : decode cX7_empty 14 = .ok (.aload_n 0, 1) := by decide +kernel
theorem dX7_empty_15 : decode cX7_empty 15 = .ok (.getfield 29, 3) := by decide +kernel
theorem dX7_empty_18 : decode cX7_empty 18 = .ok (.iload_n 1, 1) := by decide +kernel
theorem dX7_empty_19 : decode cX7_empty 19 = .ok (.iconst 0, 1) := by decide +kernel
theorem dX7_empty_20 : decode cX7_empty 20 = .ok (.iastore, 1) := by decide +kernel
theorem dX7_empty_21 : decode cX7_empty 21 = .ok (.aload_n 0, 1) := by decide +kernel
theorem dX7_empty_22 : decode cX7_empty 22 = .ok (.getfield 35, 3) := by decide +kernel
theorem dX7_empty_25 : decode cX7_empty 25 = .ok (.iload_n 1, 1) := by decide +kernel
theorem dX7_empty_26 : decode cX7_empty 26 = .ok (.iconst 0, 1) := by decide +kernel
theorem dX7_empty_27 : decode cX7_empty 27 = .ok (.bastore, 1) := by decide +kernel
theorem dX7_empty_28 : decode cX7_empty 28 = .ok (.aload_n 0, 1) := by decide +kernel
theorem dX7_empty_29 : decode cX7_empty 29 = .ok (.getfield 38, 3) := by decide +kernel
theorem dX7_empty_32 : decode cX7_empty 32 = .ok (.iload_n 1, 1) := by decide +kernel
theorem dX7_empty_33 : decode cX7_empty 33 = .ok (.iconst 0, 1) := by decide +kernel
theorem dX7_empty_34 : decode cX7_empty 34 = .ok (.bastore, 1) := by decide +kernel
theorem dX7_empty_35 : decode cX7_empty 35 = .ok (.return_, 1) := by decide +kernel
theorem dX7_open_0 : decode cX7_open 0 = .ok (.iload_n 1, 1) := by decide +kernel
theorem dX7_open_1 : decode cX7_open 1 = .ok (.ifCond .lt 18, 3) := by decide +kernel
theorem dX7_open_19 : decode cX7_open 19 = .ok (.aload_n 0, 1) := by decide +kernel
theorem dX7_open_20 : decode cX7_open 20 = .ok (.iconst 1, 1) := by decide +kernel
theorem dX7_open_21 : decode cX7_open 21 = .ok (.invokevirtual 131, 3) := by decide +kernel
theorem dX7_open_24 : decode cX7_open 24 = .ok (.ireturn, 1) := by decide +kernel
theorem dX7_open_4 : decode cX7_open 4 = .ok (.iload_n 1, 1) := by decide +kernel
theorem dX7_open_5 : decode cX7_open 5 = .ok (.bipush 6, 2) := by decide +kernel
theorem dX7_open_7 : decode cX7_open 7 = .ok (.if_icmp .ge 12, 3) := by decide +kernel
theorem dX7_open_10 : decode cX7_open 10 = .ok (.aload_n 0, 1) := by decide +kernel
theorem dX7_open_11 : decode cX7_open 11 = .ok (.getfield 7, 3) := by decide +kernel
theorem dX7_open_14 : decode cX7_open 14 = .ok (.iload_n 1, 1) := by decide +kernel
theorem dX7_open_15 : decode cX7_open 15 = .ok (.baload, 1) := by decide +kernel
theorem dX7_open_16 : decode cX7_open 16 = .ok (.ifCond .eq 9, 3) := by decide +kernel
theorem dX7_open_25 : decode cX7_open 25 = .ok (.iload_n 2, 1) := by decide +kernel
theorem dX7_open_26 : decode cX7_open 26 = .ok (.iconst 1, 1) := by decide +kernel
theorem dX7_open_27 : decode cX7_open 27 = .ok (.if_icmp .lt 20, 3) := by decide +kernel
theorem dX7_open_47 : decode cX7_open 47 = .ok (.aload_n 0, 1) := by decide +kernel
theorem dX7_open_48 : decode cX7_open 48 = .ok (.iconst 2, 1) := by decide +kernel
theorem dX7_open_49 : decode cX7_open 49 = .ok (.invokevirtual 131, 3) := by decide +kernel
theorem dX7_open_52 : decode cX7_open 52 = .ok (.ireturn, 1) := by decide +kernel
theorem dX7_open_30 : decode cX7_open 30 = .ok (.iload_n 2, 1) := by decide +kernel
theorem dX7_open_31 : decode cX7_open 31 = .ok (.bipush 12, 2) := by decide +kernel
theorem dX7_open_33 : decode cX7_open 33 = .ok (.if_icmp .gt 14, 3) := by decide +kernel
theorem dX7_open_36 : decode cX7_open 36 = .ok (.iload_n 3, 1) := by decide +kernel
theorem dX7_open_37 : decode cX7_open 37 = .ok (.iconst 1, 1) := by decide +kernel
theorem dX7_open_38 : decode cX7_open 38 = .ok (.if_icmp .lt 9, 3) := by decide +kernel
theorem dX7_open_41 : decode cX7_open 41 = .ok (.iload_n 3, 1) := by decide +kernel
theorem dX7_open_42 : decode cX7_open 42 = .ok (.bipush 12, 2) := by decide +kernel
theorem dX7_open_44 : decode cX7_open 44 = .ok (.if_icmp .le 9, 3) := by decide +kernel
theorem dX7_open_53 : decode cX7_open 53 = .ok (.aload_n 0, 1) := by decide +kernel
theorem dX7_open_54 : decode cX7_open 54 = .ok (.getfield 7, 3) := by decide +kernel
theorem dX7_open_57 : decode cX7_open 57 = .ok (.iload_n 1, 1) := by decide +kernel
theorem dX7_open_58 : decode cX7_open 58 = .ok (.iconst 1, 1) := by decide +kernel
theorem dX7_open_59 : decode cX7_open 59 = .ok (.bastore, 1) := by decide +kernel
theorem dX7_open_60 : decode cX7_open 60 = .ok (.aload_n 0, 1) := by decide +kernel
theorem dX7_open_61 : decode cX7_open 61 = .ok (.getfield 13, 3) := by decide +kernel
theorem dX7_open_64 : decode cX7_open 64 = .ok (.iload_n 1, 1) := by decide +kernel
theorem dX7_open_65 : decode cX7_open 65 = .ok (.iload_n 2, 1) := by decide +kernel
theorem dX7_open_66 : decode cX7_open 66 = .ok (.iastore, 1) := by decide +kernel
theorem dX7_open_67 : decode cX7_open 67 = .ok (.aload_n 0, 1) := by decide +kernel
theorem dX7_open_68 : decode cX7_open 68 = .ok (.getfield 17, 3) := by decide +kernel
theorem dX7_open_71 : decode cX7_open 71 = .ok (.iload_n 1, 1) := by decide +kernel
theorem dX7_open_72 : decode cX7_open 72 = .ok (.iload_n 3, 1) := by decide +kernel
theorem dX7_open_73 : decode cX7_open 73 = .ok (.iastore, 1) := by decide +kernel
theorem dX7_open_74 : decode cX7_open 74 = .ok (.aload_n 0, 1) := by decide +kernel
theorem dX7_open_75 : decode cX7_open 75 = .ok (.getfield 44, 3) := by decide +kernel
theorem dX7_open_78 : decode cX7_open 78 = .ok (.iload_n 1, 1) := by decide +kernel
theorem dX7_open_79 : decode cX7_open 79 = .ok (.iconst 0, 1) := by decide +kernel
theorem dX7_open_80 : decode cX7_open 80 = .ok (.iastore, 1) := by decide +kernel
theorem dX7_open_81 : decode cX7_open 81 = .ok (.aload_n 0, 1) := by decide +kernel
theorem dX7_open_82 : decode cX7_open 82 = .ok (.getfield 20, 3) := by decide +kernel
theorem dX7_open_85 : decode cX7_open 85 = .ok (.bipush 6, 2) := by decide +kernel
theorem dX7_open_87 : decode cX7_open 87 = .ok (.iload_n 1, 1) := by decide +kernel
theorem dX7_open_88 : decode cX7_open 88 = .ok (.imul, 1) := by decide +kernel
theorem dX7_open_89 : decode cX7_open 89 = .ok (.iconst 3, 1) := by decide +kernel
theorem dX7_open_90 : decode cX7_open 90 = .ok (.iastore, 1) := by decide +kernel
theorem dX7_open_91 : decode cX7_open 91 = .ok (.aload_n 0, 1) := by decide +kernel
theorem dX7_open_92 : decode cX7_open 92 = .ok (.getfield 20, 3) := by decide +kernel
theorem dX7_open_95 : decode cX7_open 95 = .ok (.bipush 6, 2) := by decide +kernel
theorem dX7_open_97 : decode cX7_open 97 = .ok (.iload_n 1, 1) := by decide +kernel
theorem dX7_open_98 : decode cX7_open 98 = .ok (.imul, 1) := by decide +kernel
theorem dX7_open_99 : decode cX7_open 99 = .ok (.iconst 1, 1) := by decide +kernel
theorem dX7_open_100 : decode cX7_open 100 = .ok (.iadd, 1) := by decide +kernel
theorem dX7_open_101 : decode cX7_open 101 = .ok (.iconst 2, 1) := by decide +kernel
theorem dX7_open_102 : decode cX7_open 102 = .ok (.iastore, 1) := by decide +kernel
theorem dX7_open_103 : decode cX7_open 103 = .ok (.aload_n 0, 1) := by decide +kernel
theorem dX7_open_104 : decode cX7_open 104 = .ok (.getfield 20, 3) := by decide +kernel
theorem dX7_open_107 : decode cX7_open 107 = .ok (.bipush 6, 2) := by decide +kernel
theorem dX7_open_109 : decode cX7_open 109 = .ok (.iload_n 1, 1) := by decide +kernel
theorem dX7_open_110 : decode cX7_open 110 = .ok (.imul, 1) := by decide +kernel
theorem dX7_open_111 : decode cX7_open 111 = .ok (.iconst 2, 1) := by decide +kernel
theorem dX7_open_112 : decode cX7_open 112 = .ok (.iadd, 1) := by decide +kernel
theorem dX7_open_113 : decode cX7_open 113 = .ok (.bipush 10, 2) := by decide +kernel
theorem dX7_open_115 : decode cX7_open 115 = .ok (.iastore, 1) := by decide +kernel
theorem dX7_open_116 : decode cX7_open 116 = .ok (.aload_n 0, 1) := by decide +kernel
theorem dX7_open_117 : decode cX7_open 117 = .ok (.getfield 20, 3) := by decide +kernel
theorem dX7_open_120 : decode cX7_open 120 = .ok (.bipush 6, 2) := by decide +kernel
theorem dX7_open_122 : decode cX7_open 122 = .ok (.iload_n 1, 1) := by decide +kernel
theorem dX7_open_123 : decode cX7_open 123 = .ok (.imul, 1) := by decide +kernel
theorem dX7_open_124 : decode cX7_open 124 = .ok (.iconst 3, 1) := by decide +kernel
theorem dX7_open_125 : decode cX7_open 125 = .ok (.iadd, 1) := by decide +kernel
theorem dX7_open_126 : decode cX7_open 126 = .ok (.iconst 1, 1) := by decide +kernel
theorem dX7_open_127 : decode cX7_open 127 = .ok (.iastore, 1) := by decide +kernel
theorem dX7_open_128 : decode cX7_open 128 = .ok (.aload_n 0, 1) := by decide +kernel
theorem dX7_open_129 : decode cX7_open 129 = .ok (.getfield 20, 3) := by decide +kernel
theorem dX7_open_132 : decode cX7_open 132 = .ok (.bipush 6, 2) := by decide +kernel
theorem dX7_open_134 : decode cX7_open 134 = .ok (.iload_n 1, 1) := by decide +kernel
theorem dX7_open_135 : decode cX7_open 135 = .ok (.imul, 1) := by decide +kernel
theorem dX7_open_136 : decode cX7_open 136 = .ok (.iconst 4, 1) := by decide +kernel
theorem dX7_open_137 : decode cX7_open 137 = .ok (.iadd, 1) := by decide +kernel
theorem dX7_open_138 : decode cX7_open 138 = .ok (.iconst 1, 1) := by decide +kernel
theorem dX7_open_139 : decode cX7_open 139 = .ok (.iastore, 1) := by decide +kernel
theorem dX7_open_140 : decode cX7_open 140 = .ok (.aload_n 0, 1) := by decide +kernel
theorem dX7_open_141 : decode cX7_open 141 = .ok (.getfield 20, 3) := by decide +kernel
theorem dX7_open_144 : decode cX7_open 144 = .ok (.bipush 6, 2) := by decide +kernel
theorem dX7_open_146 : decode cX7_open 146 = .ok (.iload_n 1, 1) := by decide +kernel
theorem dX7_open_147 : decode cX7_open 147 = .ok (.imul, 1) := by decide +kernel
theorem dX7_open_148 : decode cX7_open 148 = .ok (.iconst 5, 1) := by decide +kernel
theorem dX7_open_149 : decode cX7_open 149 = .ok (.iadd, 1) := by decide +kernel
theorem dX7_open_150 : decode cX7_open 150 = .ok (.iconst 0, 1) := by decide +kernel
theorem dX7_open_151 : decode cX7_open 151 = .ok (.iastore, 1) := by decide +kernel
theorem dX7_open_152 : decode cX7_open 152 = .ok (.iconst 0, 1) := by decide +kernel
theorem dX7_open_153 : decode cX7_open 153 = .ok (.istore 4, 2) := by decide +kernel
theorem dX7_open_155 : decode cX7_open 155 = .ok (.iload 4, 2) := by decide +kernel
theorem dX7_open_157 : decode cX7_open 157 = .ok (.sipush 144, 3) := by decide +kernel
theorem dX7_open_160 : decode cX7_open 160 = .ok (.if_icmp .ge 21, 3) := by decide +kernel
theorem dX7_open_181 : decode cX7_open 181 = .ok (.iconst 0, 1) := by decide +kernel
theorem dX7_open_182 : decode cX7_open 182 = .ok (.istore 4, 2) := by decide +kernel
theorem dX7_open_184 : decode cX7_open 184 = .ok (.iload 4, 2) := by decide +kernel
theorem dX7_open_186 : decode cX7_open 186 = .ok (.bipush 12, 2) := by decide +kernel
theorem dX7_open_188 : decode cX7_open 188 = .ok (.if_icmp .ge 22, 3) := by decide +kernel
theorem dX7_open_210 : decode cX7_open 210 = .ok (.aload_n 0, 1) := by decide +kernel
theorem dX7_open_211 : decode cX7_open 211 = .ok (.invokevirtual 138, 3) := by decide +kernel
theorem dX7_open_214 : decode cX7_open 214 = .ok (.ireturn, 1) := by decide +kernel
theorem dX7_open_191 : decode cX7_open 191 = .ok (.aload_n 0, 1) := by decide +kernel
theorem dX7_open_192 : decode cX7_open 192 = .ok (.getfield 41, 3) := by decide +kernel
theorem dX7_open_195 : decode cX7_open 195 = .ok (.bipush 12, 2) := by decide +kernel
theorem dX7_open_197 : decode cX7_open 197 = .ok (.iload_n 1, 1) := by decide +kernel
theorem dX7_open_198 : decode cX7_open 198 = .ok (.imul, 1) := by decide +kernel
theorem dX7_open_199 : decode cX7_open 199 = .ok (.iload 4, 2) := by decide +kernel
theorem dX7_open_201 : decode cX7_open 201 = .ok (.iadd, 1) := by decide +kernel
theorem dX7_open_202 : decode cX7_open 202 = .ok (.iload_n 3, 1) := by decide +kernel
theorem dX7_open_203 : decode cX7_open 203 = .ok (.iastore, 1) := by decide +kernel
theorem dX7_open_204 : decode cX7_open 204 = .ok (.iinc 4 1, 3) := by decide +kernel
theorem dX7_open_207 : decode cX7_open 207 = .ok (.goto (-23), 3) := by decide +kernel
theorem dX7_open_163 : decode cX7_open 163 = .ok (.aload_n 0, 1) := by decide +kernel
theorem dX7_open_164 : decode cX7_open 164 = .ok (.sipush 144, 3) := by decide +kernel
theorem dX7_open_167 : decode cX7_open 167 = .ok (.iload_n 1, 1) := by decide +kernel
theorem dX7_open_168 : decode cX7_open 168 = .ok (.imul, 1) := by decide +kernel
theorem dX7_open_169 : decode cX7_open 169 = .ok (.iload 4, 2) := by decide +kernel
theorem dX7_open_171 : decode cX7_open 171 = .ok (.iadd, 1) := by decide +kernel
theorem dX7_open_172 : decode cX7_open 172 = .ok (.invokevirtual 134, 3) := by decide +kernel
theorem dX7_open_175 : decode cX7_open 175 = .ok (.iinc 4 1, 3) := by decide +kernel
theorem dX7_open_178 : decode cX7_open 178 = .ok (.goto (-23), 3) := by decide +kernel
def opOk (t r c : Int32) : Prop := ¬ t < 0 ∧ ¬ 6 ≤ t ∧ ¬ r < 1 ∧ ¬ 12 < r ∧ ¬ c < 1 ∧ c ≤ 12
theorem le_12 {x : Int32} (h1 : ¬ x < 1) (h2 : ¬ 12 < x) : ∃ k, k ≤ 12 ∧ x = nI k := by
  rcases pk_ix x (n := 13) (by decide) with h | h | ⟨j, hj, rfl⟩
  · exact absurd (Int32.lt_trans h (by decide : (0 : Int32) < 1)) h1
  · exact absurd (Int32.lt_of_lt_of_le (by decide : (12 : Int32) < nI 13) h) h2
  · exact ⟨j, by omega, rfl⟩
theorem le_n {x y : Int32} (h : x ≤ y) : ¬ y < x := Int32.not_lt.mpr h
theorem n_le {x y : Int32} (h : ¬ x ≤ y) : y < x := Int32.not_le.mp h
abbrev xT (G : GG) (x : Nat) (a : Nat → Nat) (ad : Nat → Nat → Nat) (tf : Nat → Nat → Int32) (tr : Nat → Nat → Nat → Int32) (st cn gv : Int32) : va_W := ((x, .inr (6, [.int st, .ref (a 1), .ref (a 2), .ref (a 3), .ref (a 4), .ref (a 5), .ref (a 6), .int cn, .ref (a 8), .int gv])) :: ((a 1), .inl (G.2.2.2.1, 6, .inr (.inr (.inr (.inr (fun j => some (ad j 0))))))) :: ((ad 0 0), .inr (4, [.int (tf 0 0), .int (tf 0 1), .int (tf 0 2), .int (tf 0 3), .ref (ad 0 4), .ref (ad 0 5), .ref (ad 0 6), .ref (ad 0 7), .ref (ad 0 8), .ref (ad 0 9), .ref (ad 0 10), .ref (ad 0 11)])) :: ((ad 1 0), .inr (4, [.int (tf 1 0), .int (tf 1 1), .int (tf 1 2), .int (tf 1 3), .ref (ad 1 4), .ref (ad 1 5), .ref (ad 1 6), .ref (ad 1 7), .ref (ad 1 8), .ref (ad 1 9), .ref (ad 1 10), .ref (ad 1 11)])) :: ((ad 2 0), .inr (4, [.int (tf 2 0), .int (tf 2 1), .int (tf 2 2), .int (tf 2 3), .ref (ad 2 4), .ref (ad 2 5), .ref (ad 2 6), .ref (ad 2 7), .ref (ad 2 8), .ref (ad 2 9), .ref (ad 2 10), .ref (ad 2 11)])) :: ((ad 3 0), .inr (4, [.int (tf 3 0), .int (tf 3 1), .int (tf 3 2), .int (tf 3 3), .ref (ad 3 4), .ref (ad 3 5), .ref (ad 3 6), .ref (ad 3 7), .ref (ad 3 8), .ref (ad 3 9), .ref (ad 3 10), .ref (ad 3 11)])) :: ((ad 4 0), .inr (4, [.int (tf 4 0), .int (tf 4 1), .int (tf 4 2), .int (tf 4 3), .ref (ad 4 4), .ref (ad 4 5), .ref (ad 4 6), .ref (ad 4 7), .ref (ad 4 8), .ref (ad 4 9), .ref (ad 4 10), .ref (ad 4 11)])) :: ((ad 5 0), .inr (4, [.int (tf 5 0), .int (tf 5 1), .int (tf 5 2), .int (tf 5 3), .ref (ad 5 4), .ref (ad 5 5), .ref (ad 5 6), .ref (ad 5 7), .ref (ad 5 8), .ref (ad 5 9), .ref (ad 5 10), .ref (ad 5 11)])) :: ((ad 0 4), .inl (G.2.1, 12, .inl (tr 0 4))) :: ((ad 0 5), .inl (G.2.1, 144, .inl (tr 0 5))) :: ((ad 0 6), .inl (G.2.1, 144, .inl (tr 0 6))) :: ((ad 0 7), .inl (G.2.1, 144, .inl (tr 0 7))) :: ((ad 0 8), .inl (G.2.1, 864, .inl (tr 0 8))) :: ((ad 0 9), .inl (G.2.1, 6, .inl (tr 0 9))) :: ((ad 0 10), .inl (G.2.1, 12, .inl (tr 0 10))) :: ((ad 0 11), .inl (G.2.1, 12, .inl (tr 0 11))) :: ((ad 1 4), .inl (G.2.1, 12, .inl (tr 1 4))) :: ((ad 1 5), .inl (G.2.1, 144, .inl (tr 1 5))) :: ((ad 1 6), .inl (G.2.1, 144, .inl (tr 1 6))) :: ((ad 1 7), .inl (G.2.1, 144, .inl (tr 1 7))) :: ((ad 1 8), .inl (G.2.1, 864, .inl (tr 1 8))) :: ((ad 1 9), .inl (G.2.1, 6, .inl (tr 1 9))) :: ((ad 1 10), .inl (G.2.1, 12, .inl (tr 1 10))) :: ((ad 1 11), .inl (G.2.1, 12, .inl (tr 1 11))) :: ((ad 2 4), .inl (G.2.1, 12, .inl (tr 2 4))) :: ((ad 2 5), .inl (G.2.1, 144, .inl (tr 2 5))) :: ((ad 2 6), .inl (G.2.1, 144, .inl (tr 2 6))) :: ((ad 2 7), .inl (G.2.1, 144, .inl (tr 2 7))) :: ((ad 2 8), .inl (G.2.1, 864, .inl (tr 2 8))) :: ((ad 2 9), .inl (G.2.1, 6, .inl (tr 2 9))) :: ((ad 2 10), .inl (G.2.1, 12, .inl (tr 2 10))) :: ((ad 2 11), .inl (G.2.1, 12, .inl (tr 2 11))) :: ((ad 3 4), .inl (G.2.1, 12, .inl (tr 3 4))) :: ((ad 3 5), .inl (G.2.1, 144, .inl (tr 3 5))) :: ((ad 3 6), .inl (G.2.1, 144, .inl (tr 3 6))) :: ((ad 3 7), .inl (G.2.1, 144, .inl (tr 3 7))) :: ((ad 3 8), .inl (G.2.1, 864, .inl (tr 3 8))) :: ((ad 3 9), .inl (G.2.1, 6, .inl (tr 3 9))) :: ((ad 3 10), .inl (G.2.1, 12, .inl (tr 3 10))) :: ((ad 3 11), .inl (G.2.1, 12, .inl (tr 3 11))) :: ((ad 4 4), .inl (G.2.1, 12, .inl (tr 4 4))) :: ((ad 4 5), .inl (G.2.1, 144, .inl (tr 4 5))) :: ((ad 4 6), .inl (G.2.1, 144, .inl (tr 4 6))) :: ((ad 4 7), .inl (G.2.1, 144, .inl (tr 4 7))) :: ((ad 4 8), .inl (G.2.1, 864, .inl (tr 4 8))) :: ((ad 4 9), .inl (G.2.1, 6, .inl (tr 4 9))) :: ((ad 4 10), .inl (G.2.1, 12, .inl (tr 4 10))) :: ((ad 4 11), .inl (G.2.1, 12, .inl (tr 4 11))) :: ((ad 5 4), .inl (G.2.1, 12, .inl (tr 5 4))) :: ((ad 5 5), .inl (G.2.1, 144, .inl (tr 5 5))) :: ((ad 5 6), .inl (G.2.1, 144, .inl (tr 5 6))) :: ((ad 5 7), .inl (G.2.1, 144, .inl (tr 5 7))) :: ((ad 5 8), .inl (G.2.1, 864, .inl (tr 5 8))) :: ((ad 5 9), .inl (G.2.1, 6, .inl (tr 5 9))) :: ((ad 5 10), .inl (G.2.1, 12, .inl (tr 5 10))) :: ((ad 5 11), .inl (G.2.1, 12, .inl (tr 5 11))) :: [])
abbrev tIs (j : Nat) : List Nat := [j + 2, 8 * j + 0 + 8, 8 * j + 1 + 8, 8 * j + 2 + 8, 8 * j + 3 + 8, 8 * j + 4 + 8, 8 * j + 5 + 8, 8 * j + 6 + 8, 8 * j + 7 + 8]
abbrev tW (G : GG) (a : Nat → Nat) (f : Nat → Int32) (r : Nat → Nat → Int32) : va_W := [((a 0), .inr (4, [.int (f 0), .int (f 1), .int (f 2), .int (f 3), .ref (a 4), .ref (a 5), .ref (a 6), .ref (a 7), .ref (a 8), .ref (a 9), .ref (a 10), .ref (a 11)])), ((a 4), .inl (G.2.1, 12, .inl (r 4))), ((a 5), .inl (G.2.1, 144, .inl (r 5))), ((a 6), .inl (G.2.1, 144, .inl (r 6))), ((a 7), .inl (G.2.1, 144, .inl (r 7))), ((a 8), .inl (G.2.1, 864, .inl (r 8))), ((a 9), .inl (G.2.1, 6, .inl (r 9))), ((a 10), .inl (G.2.1, 12, .inl (r 10))), ((a 11), .inl (G.2.1, 12, .inl (r 11)))]
theorem xT_t (G : GG) (x : Nat) (a : Nat → Nat) (ad : Nat → Nat → Nat) (tf : Nat → Nat → Int32) (tr : Nat → Nat → Nat → Int32) (st cn gv : Int32) {j : Nat} (hj : j < 6) : (xT G x a ad tf tr st cn gv)[j + 2]? = some ((ad j 0), .inr (4, [.int (tf j 0), .int (tf j 1), .int (tf j 2), .int (tf j 3), .ref (ad j 4), .ref (ad j 5), .ref (ad j 6), .ref (ad j 7), .ref (ad j 8), .ref (ad j 9), .ref (ad j 10), .ref (ad j 11)])) := by
  rcases (show j = 0 ∨ j = 1 ∨ j = 2 ∨ j = 3 ∨ j = 4 ∨ j = 5 by omega) with rfl | rfl | rfl | rfl | rfl | rfl <;> rfl
theorem xT_C (G : GG) (x : Nat) (a : Nat → Nat) (ad : Nat → Nat → Nat) (tf : Nat → Nat → Int32) (tr : Nat → Nat → Nat → Int32) (st cn gv : Int32) {j : Nat} (hj : j < 6) : (tIs j).map (fun i => (xT G x a ad tf tr st cn gv)[i]?) = (tW G (ad j) (tf j) (tr j)).map some := by
  rcases (show j = 0 ∨ j = 1 ∨ j = 2 ∨ j = 3 ∨ j = 4 ∨ j = 5 by omega) with rfl | rfl | rfl | rfl | rfl | rfl <;> rfl
theorem tIs_nd {j : Nat} (hj : j < 6) : va_nd (tIs j) = true := by
  rcases (show j = 0 ∨ j = 1 ∨ j = 2 ∨ j = 3 ∨ j = 4 ∨ j = 5 by omega) with rfl | rfl | rfl | rfl | rfl | rfl <;> decide
set_option maxHeartbeats 4000000 in
set_option maxRecDepth 100000 in
theorem k_X6_open (l : Launch) (G : GG) (x : Nat) (a : Nat → Nat) (ad : Nat → Nat → Nat) (tf : Nat → Nat → Int32) (tr : Nat → Nat → Nat → Int32) (st cn gv : Int32) (p1 p2 p3 : Int32) (hcl : ∀ j, j < 6 → tf j 0 = 0) : WrIs l yX6_open cX6_open 4 (some .boolean) ({ frames := 2, cells := 0, slots := 0, locals := 84 }) G (xT G x a ad tf tr st cn gv) [.ref x, .int p1, .int p2, .int p3] (fun r _ => (opOk p1 p2 p3 ∧ r = 1) ∨ (¬ opOk p1 p2 p3 ∧ r = 0)) := by
  refine ws_entryI (by decide +kernel) (Nat.le_of_ble_eq_true rfl) ?_
  intro p e s m below meth c A C0 hP hK hD hA hT ls hl
  have hS : va_S A s.heap s.heap [] := va_S.rf
  obtain ⟨hx, hb, hml, hown, hts, hr, hlocks, hin⟩ := C0
  have hown : s.vm.findClass RX6 = some m.cls := hown
  have hl : lv_has ls 4 [(0, .ref x), (1, .int p1), (2, .int p2), (3, .int p3)] := hl
  refine lv_iload_n hx hb dX6_open_0 rfl (lv_at hl 1 rfl) ?_
  refine lv_if_lt (tgt := 22) hx hb dX6_open_1 (by decide) (fun c1 => ?_) (fun c1 => ?_)
  · refine lv_aload_n hx hb dX6_open_22 rfl (lv_at hl 0 rfl) ?_
    refine lv_iconst (v := 1) hx hb dX6_open_23 (by decide) ?_
    have hP : PP G [(x, .inr (6, [.int st, .ref (a 1), .ref (a 2), .ref (a 3), .ref (a 4), .ref (a 5), .ref (a 6), .int cn, .ref (a 8), .int gv]))] _ := hP.sub [0] rfl
    have hD : va_D A [(x, .inr (6, [.int st, .ref (a 1), .ref (a 2), .ref (a 3), .ref (a 4), .ref (a 5), .ref (a 6), .int cn, .ref (a 8), .int gv]))] := hD.sub [0] (by decide) rfl
    refine wrVI (rest := []) (q0 := 0) ⟨hx, hb, hml, hown, hts⟩ (c_X6_settled l G x a st cn gv 1) mi_yX6_settled mv_yX6_settled ml_X6_65 ⟨rfl, rfl, Nat.le_of_ble_eq_true rfl, Nat.le_of_ble_eq_true rfl⟩ hK hP hD [0] rfl (by decide) rfl rfl rfl hl.1 rfl (Nat.le_of_ble_eq_true rfl) dX6_open_24 ⟨Nat.zero_le _, Nat.zero_le _⟩ hS hA (fun r2 w3 H locs hw3 hP hS => ?_)
    obtain ⟨hr2, rfl⟩ := hw3
    obtain rfl : r2 = 0 := hr2.trans (if_neg (by decide))
    have hP : PP G [(x, .inr (6, [.int 1, .ref (a 1), .ref (a 2), .ref (a 3), .ref (a 4), .ref (a 5), .ref (a 6), .int cn, .ref (a 8), .int gv]))] H := hP rfl
    have hD : va_D A [(x, .inr (6, [.int 1, .ref (a 1), .ref (a 2), .ref (a 3), .ref (a 4), .ref (a 5), .ref (a 6), .int cn, .ref (a 8), .int gv]))] := D_same hD rfl
    exact wr_zret hx hb hr hlocks (Or.inl rfl) hS hP (Or.inr ⟨fun h => h.1 c1, rfl⟩) dX6_open_27
  · refine lv_iload_n hx hb dX6_open_4 rfl (lv_at hl 1 rfl) ?_
    refine lv_bipush (v := 6) hx hb dX6_open_5 (by decide) ?_
    refine lv_icmp_ge (tgt := 22) hx hb dX6_open_7 (by decide) (fun c4 => ?_) (fun c4 => ?_)
    · refine lv_aload_n hx hb dX6_open_22 rfl (lv_at hl 0 rfl) ?_
      refine lv_iconst (v := 1) hx hb dX6_open_23 (by decide) ?_
      have hP : PP G [(x, .inr (6, [.int st, .ref (a 1), .ref (a 2), .ref (a 3), .ref (a 4), .ref (a 5), .ref (a 6), .int cn, .ref (a 8), .int gv]))] _ := hP.sub [0] rfl
      have hD : va_D A [(x, .inr (6, [.int st, .ref (a 1), .ref (a 2), .ref (a 3), .ref (a 4), .ref (a 5), .ref (a 6), .int cn, .ref (a 8), .int gv]))] := hD.sub [0] (by decide) rfl
      refine wrVI (rest := []) (q0 := 0) ⟨hx, hb, hml, hown, hts⟩ (c_X6_settled l G x a st cn gv 1) mi_yX6_settled mv_yX6_settled ml_X6_65 ⟨rfl, rfl, Nat.le_of_ble_eq_true rfl, Nat.le_of_ble_eq_true rfl⟩ hK hP hD [0] rfl (by decide) rfl rfl rfl hl.1 rfl (Nat.le_of_ble_eq_true rfl) dX6_open_24 ⟨Nat.zero_le _, Nat.zero_le _⟩ hS hA (fun r5 w6 H locs hw6 hP hS => ?_)
      obtain ⟨hr5, rfl⟩ := hw6
      obtain rfl : r5 = 0 := hr5.trans (if_neg (by decide))
      have hP : PP G [(x, .inr (6, [.int 1, .ref (a 1), .ref (a 2), .ref (a 3), .ref (a 4), .ref (a 5), .ref (a 6), .int cn, .ref (a 8), .int gv]))] H := hP rfl
      have hD : va_D A [(x, .inr (6, [.int 1, .ref (a 1), .ref (a 2), .ref (a 3), .ref (a 4), .ref (a 5), .ref (a 6), .int cn, .ref (a 8), .int gv]))] := D_same hD rfl
      exact wr_zret hx hb hr hlocks (Or.inl rfl) hS hP (Or.inr ⟨fun h => h.2.1 c4, rfl⟩) dX6_open_27
    · refine lv_aload_n hx hb dX6_open_10 rfl (lv_at hl 0 rfl) ?_
      refine va_get (D := G.1) (ci := 6) (v := .ref (a 1)) (C := RX6) (T := TX6) (N := 10) hx hb hts inX6 hown hK.1 hP 0 rfl rfl 1 (by decide) (hts _ mf_X6_15) (fun _ h9 => h9) rfl dX6_open_11 ?_
      refine lv_iload_n hx hb dX6_open_14 rfl (lv_at hl 1 rfl) ?_
      obtain ⟨j, hj, ej⟩ := lt_ix (x := p1) (n := 6) (by decide) c1 c4
      refine xaldT hx hb hK hP 1 j (b := ad j 0) ej hj (by decide) rfl rfl dX6_open_15 ?_
      refine va_get (D := G.1) (ci := 4) (v := .int (tf j 0)) (C := RX4) (T := TX4) (N := 12) hx hb hts inX4 hown hK.1 hP (j + 2) (xT_t G x a ad tf tr st cn gv hj) rfl 0 (by decide) (hts _ mf_X6_61) (fun _ h9 => h9) rfl dX6_open_16 ?_
      refine lv_if_eq (tgt := 28) hx hb dX6_open_19 (by decide) (fun _ => ?_) (fun c7 => absurd (hcl j hj) c7)
      refine lv_iload_n hx hb dX6_open_28 rfl (lv_at hl 2 rfl) ?_
      refine lv_iconst (v := 1) hx hb dX6_open_29 (by decide) ?_
      refine lv_icmp_lt (tgt := 50) hx hb dX6_open_30 (by decide) (fun c8 => ?_) (fun c8 => ?_)
      · refine lv_aload_n hx hb dX6_open_50 rfl (lv_at hl 0 rfl) ?_
        refine lv_iconst (v := 2) hx hb dX6_open_51 (by decide) ?_
        have hP : PP G [(x, .inr (6, [.int st, .ref (a 1), .ref (a 2), .ref (a 3), .ref (a 4), .ref (a 5), .ref (a 6), .int cn, .ref (a 8), .int gv]))] _ := hP.sub [0] rfl
        have hD : va_D A [(x, .inr (6, [.int st, .ref (a 1), .ref (a 2), .ref (a 3), .ref (a 4), .ref (a 5), .ref (a 6), .int cn, .ref (a 8), .int gv]))] := hD.sub [0] (by decide) rfl
        refine wrVI (rest := []) (q0 := 0) ⟨hx, hb, hml, hown, hts⟩ (c_X6_settled l G x a st cn gv 2) mi_yX6_settled mv_yX6_settled ml_X6_65 ⟨rfl, rfl, Nat.le_of_ble_eq_true rfl, Nat.le_of_ble_eq_true rfl⟩ hK hP hD [0] rfl (by decide) rfl rfl rfl hl.1 rfl (Nat.le_of_ble_eq_true rfl) dX6_open_52 ⟨Nat.zero_le _, Nat.zero_le _⟩ hS hA (fun r9 w10 H locs hw10 hP hS => ?_)
        obtain ⟨hr9, rfl⟩ := hw10
        obtain rfl : r9 = 0 := hr9.trans (if_neg (by decide))
        have hP : PP G [(x, .inr (6, [.int 2, .ref (a 1), .ref (a 2), .ref (a 3), .ref (a 4), .ref (a 5), .ref (a 6), .int cn, .ref (a 8), .int gv]))] H := hP rfl
        have hD : va_D A [(x, .inr (6, [.int 2, .ref (a 1), .ref (a 2), .ref (a 3), .ref (a 4), .ref (a 5), .ref (a 6), .int cn, .ref (a 8), .int gv]))] := D_same hD rfl
        exact wr_zret hx hb hr hlocks (Or.inl rfl) hS hP (Or.inr ⟨fun h => h.2.2.1 c8, rfl⟩) dX6_open_55
      · refine lv_iload_n hx hb dX6_open_33 rfl (lv_at hl 2 rfl) ?_
        refine lv_bipush (v := 12) hx hb dX6_open_34 (by decide) ?_
        refine lv_icmp_gt (tgt := 50) hx hb dX6_open_36 (by decide) (fun c11 => ?_) (fun c11 => ?_)
        · refine lv_aload_n hx hb dX6_open_50 rfl (lv_at hl 0 rfl) ?_
          refine lv_iconst (v := 2) hx hb dX6_open_51 (by decide) ?_
          have hP : PP G [(x, .inr (6, [.int st, .ref (a 1), .ref (a 2), .ref (a 3), .ref (a 4), .ref (a 5), .ref (a 6), .int cn, .ref (a 8), .int gv]))] _ := hP.sub [0] rfl
          have hD : va_D A [(x, .inr (6, [.int st, .ref (a 1), .ref (a 2), .ref (a 3), .ref (a 4), .ref (a 5), .ref (a 6), .int cn, .ref (a 8), .int gv]))] := hD.sub [0] (by decide) rfl
          refine wrVI (rest := []) (q0 := 0) ⟨hx, hb, hml, hown, hts⟩ (c_X6_settled l G x a st cn gv 2) mi_yX6_settled mv_yX6_settled ml_X6_65 ⟨rfl, rfl, Nat.le_of_ble_eq_true rfl, Nat.le_of_ble_eq_true rfl⟩ hK hP hD [0] rfl (by decide) rfl rfl rfl hl.1 rfl (Nat.le_of_ble_eq_true rfl) dX6_open_52 ⟨Nat.zero_le _, Nat.zero_le _⟩ hS hA (fun r12 w13 H locs hw13 hP hS => ?_)
          obtain ⟨hr12, rfl⟩ := hw13
          obtain rfl : r12 = 0 := hr12.trans (if_neg (by decide))
          have hP : PP G [(x, .inr (6, [.int 2, .ref (a 1), .ref (a 2), .ref (a 3), .ref (a 4), .ref (a 5), .ref (a 6), .int cn, .ref (a 8), .int gv]))] H := hP rfl
          have hD : va_D A [(x, .inr (6, [.int 2, .ref (a 1), .ref (a 2), .ref (a 3), .ref (a 4), .ref (a 5), .ref (a 6), .int cn, .ref (a 8), .int gv]))] := D_same hD rfl
          exact wr_zret hx hb hr hlocks (Or.inl rfl) hS hP (Or.inr ⟨fun h => h.2.2.2.1 c11, rfl⟩) dX6_open_55
        · refine lv_iload_n hx hb dX6_open_39 rfl (lv_at hl 3 rfl) ?_
          refine lv_iconst (v := 1) hx hb dX6_open_40 (by decide) ?_
          refine lv_icmp_lt (tgt := 50) hx hb dX6_open_41 (by decide) (fun c14 => ?_) (fun c14 => ?_)
          · refine lv_aload_n hx hb dX6_open_50 rfl (lv_at hl 0 rfl) ?_
            refine lv_iconst (v := 2) hx hb dX6_open_51 (by decide) ?_
            have hP : PP G [(x, .inr (6, [.int st, .ref (a 1), .ref (a 2), .ref (a 3), .ref (a 4), .ref (a 5), .ref (a 6), .int cn, .ref (a 8), .int gv]))] _ := hP.sub [0] rfl
            have hD : va_D A [(x, .inr (6, [.int st, .ref (a 1), .ref (a 2), .ref (a 3), .ref (a 4), .ref (a 5), .ref (a 6), .int cn, .ref (a 8), .int gv]))] := hD.sub [0] (by decide) rfl
            refine wrVI (rest := []) (q0 := 0) ⟨hx, hb, hml, hown, hts⟩ (c_X6_settled l G x a st cn gv 2) mi_yX6_settled mv_yX6_settled ml_X6_65 ⟨rfl, rfl, Nat.le_of_ble_eq_true rfl, Nat.le_of_ble_eq_true rfl⟩ hK hP hD [0] rfl (by decide) rfl rfl rfl hl.1 rfl (Nat.le_of_ble_eq_true rfl) dX6_open_52 ⟨Nat.zero_le _, Nat.zero_le _⟩ hS hA (fun r15 w16 H locs hw16 hP hS => ?_)
            obtain ⟨hr15, rfl⟩ := hw16
            obtain rfl : r15 = 0 := hr15.trans (if_neg (by decide))
            have hP : PP G [(x, .inr (6, [.int 2, .ref (a 1), .ref (a 2), .ref (a 3), .ref (a 4), .ref (a 5), .ref (a 6), .int cn, .ref (a 8), .int gv]))] H := hP rfl
            have hD : va_D A [(x, .inr (6, [.int 2, .ref (a 1), .ref (a 2), .ref (a 3), .ref (a 4), .ref (a 5), .ref (a 6), .int cn, .ref (a 8), .int gv]))] := D_same hD rfl
            exact wr_zret hx hb hr hlocks (Or.inl rfl) hS hP (Or.inr ⟨fun h => h.2.2.2.2.1 c14, rfl⟩) dX6_open_55
          · refine lv_iload_n hx hb dX6_open_44 rfl (lv_at hl 3 rfl) ?_
            refine lv_bipush (v := 12) hx hb dX6_open_45 (by decide) ?_
            refine lv_icmp_le (tgt := 56) hx hb dX6_open_47 (by decide) (fun c17 => ?_) (fun c17 => ?_)
            · refine lv_aload_n hx hb dX6_open_56 rfl (lv_at hl 0 rfl) ?_
              refine va_get (D := G.1) (ci := 6) (v := .ref (a 1)) (C := RX6) (T := TX6) (N := 10) hx hb hts inX6 hown hK.1 hP 0 rfl rfl 1 (by decide) (hts _ mf_X6_15) (fun _ h9 => h9) rfl dX6_open_57 ?_
              refine lv_iload_n hx hb dX6_open_60 rfl (lv_at hl 1 rfl) ?_
              refine xaldT hx hb hK hP 1 j (b := ad j 0) ej hj (by decide) rfl rfl dX6_open_61 ?_
              refine lv_iload_n hx hb dX6_open_62 rfl (lv_at hl 2 rfl) ?_
              refine lv_iload_n hx hb dX6_open_63 rfl (lv_at hl 3 rfl) ?_
              obtain ⟨rw_, hrw, e2⟩ := le_12 c8 c11
              obtain ⟨cl_, hcl_, e3⟩ := le_12 c14 (le_n c17)
              subst e2
              subst e3
              refine wsVV (rest := []) (q0 := 0) ⟨hx, hb, hml, hown, hts⟩ (c_X4_begin l G (ad j) (tf j) (tr j) rw_ cl_ hrw hcl_) mi_yX4_begin mv_yX4_begin ml_X6_69 ⟨rfl, rfl, Nat.le_of_ble_eq_true rfl, Nat.le_of_ble_eq_true rfl⟩ hK hT hP hD (tIs j) (xT_C G x a ad tf tr st cn gv hj) (tIs_nd hj) rfl rfl rfl hl.1 rfl (Nat.le_of_ble_eq_true rfl) dX6_open_64 ⟨Nat.zero_le _, Nat.zero_le _⟩ hS hA (fun u H locs hu hP hS => ?_)
              obtain rfl := hu
              have hP : PP G [(x, .inr (6, [.int st, .ref (a 1), .ref (a 2), .ref (a 3), .ref (a 4), .ref (a 5), .ref (a 6), .int cn, .ref (a 8), .int gv]))] H := (hP rfl).sub [0] rfl
              have hD : va_D A [(x, .inr (6, [.int st, .ref (a 1), .ref (a 2), .ref (a 3), .ref (a 4), .ref (a 5), .ref (a 6), .int cn, .ref (a 8), .int gv]))] := hD.sub [0] (by decide) rfl
              refine lv_aload_n hx hb dX6_open_67 rfl (lv_at hl 0 rfl) ?_
              refine lv_iconst (v := 0) hx hb dX6_open_68 (by decide) ?_
              refine wrVI (rest := []) (q0 := 0) ⟨hx, hb, hml, hown, hts⟩ (c_X6_settled l G x a st cn gv 0) mi_yX6_settled mv_yX6_settled ml_X6_65 ⟨rfl, rfl, Nat.le_of_ble_eq_true rfl, Nat.le_of_ble_eq_true rfl⟩ hK hP hD [0] rfl (by decide) rfl rfl rfl hl.1 rfl (Nat.le_of_ble_eq_true rfl) dX6_open_69 ⟨Nat.zero_le _, Nat.zero_le _⟩ hS hA (fun r18 w19 H locs hw19 hP hS => ?_)
              obtain ⟨hr18, rfl⟩ := hw19
              obtain rfl : r18 = 1 := hr18.trans (if_pos rfl)
              have hP : PP G [(x, .inr (6, [.int 0, .ref (a 1), .ref (a 2), .ref (a 3), .ref (a 4), .ref (a 5), .ref (a 6), .int cn, .ref (a 8), .int gv]))] H := hP rfl
              have hD : va_D A [(x, .inr (6, [.int 0, .ref (a 1), .ref (a 2), .ref (a 3), .ref (a 4), .ref (a 5), .ref (a 6), .int cn, .ref (a 8), .int gv]))] := D_same hD rfl
              exact wr_zret hx hb hr hlocks (Or.inr rfl) hS hP (Or.inl ⟨⟨c1, c4, c8, c11, c14, c17⟩, rfl⟩) dX6_open_72
            · refine lv_aload_n hx hb dX6_open_50 rfl (lv_at hl 0 rfl) ?_
              refine lv_iconst (v := 2) hx hb dX6_open_51 (by decide) ?_
              have hP : PP G [(x, .inr (6, [.int st, .ref (a 1), .ref (a 2), .ref (a 3), .ref (a 4), .ref (a 5), .ref (a 6), .int cn, .ref (a 8), .int gv]))] _ := hP.sub [0] rfl
              have hD : va_D A [(x, .inr (6, [.int st, .ref (a 1), .ref (a 2), .ref (a 3), .ref (a 4), .ref (a 5), .ref (a 6), .int cn, .ref (a 8), .int gv]))] := hD.sub [0] (by decide) rfl
              refine wrVI (rest := []) (q0 := 0) ⟨hx, hb, hml, hown, hts⟩ (c_X6_settled l G x a st cn gv 2) mi_yX6_settled mv_yX6_settled ml_X6_65 ⟨rfl, rfl, Nat.le_of_ble_eq_true rfl, Nat.le_of_ble_eq_true rfl⟩ hK hP hD [0] rfl (by decide) rfl rfl rfl hl.1 rfl (Nat.le_of_ble_eq_true rfl) dX6_open_52 ⟨Nat.zero_le _, Nat.zero_le _⟩ hS hA (fun r20 w21 H locs hw21 hP hS => ?_)
              obtain ⟨hr20, rfl⟩ := hw21
              obtain rfl : r20 = 0 := hr20.trans (if_neg (by decide))
              have hP : PP G [(x, .inr (6, [.int 2, .ref (a 1), .ref (a 2), .ref (a 3), .ref (a 4), .ref (a 5), .ref (a 6), .int cn, .ref (a 8), .int gv]))] H := hP rfl
              have hD : va_D A [(x, .inr (6, [.int 2, .ref (a 1), .ref (a 2), .ref (a 3), .ref (a 4), .ref (a 5), .ref (a 6), .int cn, .ref (a 8), .int gv]))] := D_same hD rfl
              exact wr_zret hx hb hr hlocks (Or.inl rfl) hS hP (Or.inr ⟨fun h => c17 h.2.2.2.2.2, rfl⟩) dX6_open_55
set_option maxHeartbeats 4000000 in
set_option maxRecDepth 100000 in
theorem c_X7_empty (l : Launch) (G : GG) (y : Nat) (b : Nat → Nat) (mf : Nat → Int32) (mr : Nat → Nat → Int32) (q : Nat) (hq : q < 864) : WrV l yX7_empty cX7_empty 2 ({ frames := 0, cells := 0, slots := 0, locals := 0 }) G ([(y, .inr (7, [.int (mf 0), .ref (b 1), .ref (b 2), .ref (b 3), .ref (b 4), .ref (b 5), .ref (b 6), .ref (b 7), .ref (b 8), .ref (b 9), .ref (b 10), .ref (b 11), .ref (b 12), .ref (b 13), .ref (b 14), .ref (b 15), .ref (b 16), .ref (b 17), .ref (b 18), .ref (b 19), .int (mf 20), .int (mf 21), .ref (b 22), .ref (b 23), .ref (b 24), .ref (b 25), .ref (b 26), .int (mf 27), .int (mf 28), .ref (b 29), .ref (b 30), .ref (b 31), .ref (b 32), .ref (b 33), .int (mf 34), .int (mf 35), .ref (b 36), .ref (b 37), .ref (b 38), .ref (b 39), .ref (b 40), .ref (b 41), .int (mf 42)])), ((b 5), .inl (G.2.1, 864, .inl (mr 5))), ((b 6), .inl (G.2.1, 864, .inl (mr 6))), ((b 7), .inl (G.2.1, 864, .inl (mr 7))), ((b 9), .inl (G.2.2.1, 864, .inl (mr 9))), ((b 10), .inl (G.2.2.1, 864, .inl (mr 10)))]) [.ref y, .int (nI q)] (fun w => w = [(y, .inr (7, [.int (mf 0), .ref (b 1), .ref (b 2), .ref (b 3), .ref (b 4), .ref (b 5), .ref (b 6), .ref (b 7), .ref (b 8), .ref (b 9), .ref (b 10), .ref (b 11), .ref (b 12), .ref (b 13), .ref (b 14), .ref (b 15), .ref (b 16), .ref (b 17), .ref (b 18), .ref (b 19), .int (mf 20), .int (mf 21), .ref (b 22), .ref (b 23), .ref (b 24), .ref (b 25), .ref (b 26), .int (mf 27), .int (mf 28), .ref (b 29), .ref (b 30), .ref (b 31), .ref (b 32), .ref (b 33), .int (mf 34), .int (mf 35), .ref (b 36), .ref (b 37), .ref (b 38), .ref (b 39), .ref (b 40), .ref (b 41), .int (mf 42)])), ((b 5), .inl (G.2.1, 864, .inl (upd (mr 5) (q) (0)))), ((b 6), .inl (G.2.1, 864, .inl (upd (mr 6) (q) (0)))), ((b 7), .inl (G.2.1, 864, .inl (upd (mr 7) (q) (0)))), ((b 9), .inl (G.2.2.1, 864, .inl (upd (mr 9) (q) (0)))), ((b 10), .inl (G.2.2.1, 864, .inl (upd (mr 10) (q) (0))))]) := by
  refine wr_entryV (by decide +kernel) (Nat.le_of_ble_eq_true rfl) ?_
  intro p e s m below meth c A C0 hP hK hD hA ls hl
  have hS : va_S A s.heap s.heap [] := va_S.rf
  obtain ⟨hx, hb, hml, hown, hts, hr, hlocks, hin⟩ := C0
  have hown : s.vm.findClass RX7 = some m.cls := hown
  have hl : lv_has ls 2 [(0, .ref y), (1, .int (nI q))] := hl
  refine lv_aload_n hx hb dX7_empty_0 rfl (lv_at hl 0 rfl) ?_
  refine va_get (D := G.1) (ci := 7) (v := .ref (b 5)) (C := RX7) (T := TX7) (N := 43) hx hb hts inX7 hown hK.1 hP 0 rfl rfl 5 (by decide) (hts _ mf_X7_23) (fun _ h9 => h9) rfl dX7_empty_1 ?_
  refine lv_iload_n hx hb dX7_empty_4 rfl (lv_at hl 1 rfl) ?_
  refine lv_iconst (v := 0) hx hb dX7_empty_5 (by decide) ?_
  refine xiast (x := 0) hx hb hK hP hD hS 1 (q) (rfl) (hq) (by omega) rfl dX7_empty_6 (fun H locs hP hD hS => ?_)
  have hP : PP G [(y, .inr (7, [.int (mf 0), .ref (b 1), .ref (b 2), .ref (b 3), .ref (b 4), .ref (b 5), .ref (b 6), .ref (b 7), .ref (b 8), .ref (b 9), .ref (b 10), .ref (b 11), .ref (b 12), .ref (b 13), .ref (b 14), .ref (b 15), .ref (b 16), .ref (b 17), .ref (b 18), .ref (b 19), .int (mf 20), .int (mf 21), .ref (b 22), .ref (b 23), .ref (b 24), .ref (b 25), .ref (b 26), .int (mf 27), .int (mf 28), .ref (b 29), .ref (b 30), .ref (b 31), .ref (b 32), .ref (b 33), .int (mf 34), .int (mf 35), .ref (b 36), .ref (b 37), .ref (b 38), .ref (b 39), .ref (b 40), .ref (b 41), .int (mf 42)])), ((b 5), .inl (G.2.1, 864, .inl (upd (mr 5) (q) (0)))), ((b 6), .inl (G.2.1, 864, .inl (mr 6))), ((b 7), .inl (G.2.1, 864, .inl (mr 7))), ((b 9), .inl (G.2.2.1, 864, .inl (mr 9))), ((b 10), .inl (G.2.2.1, 864, .inl (mr 10)))] H := hP
  have hD : va_D A [(y, .inr (7, [.int (mf 0), .ref (b 1), .ref (b 2), .ref (b 3), .ref (b 4), .ref (b 5), .ref (b 6), .ref (b 7), .ref (b 8), .ref (b 9), .ref (b 10), .ref (b 11), .ref (b 12), .ref (b 13), .ref (b 14), .ref (b 15), .ref (b 16), .ref (b 17), .ref (b 18), .ref (b 19), .int (mf 20), .int (mf 21), .ref (b 22), .ref (b 23), .ref (b 24), .ref (b 25), .ref (b 26), .int (mf 27), .int (mf 28), .ref (b 29), .ref (b 30), .ref (b 31), .ref (b 32), .ref (b 33), .int (mf 34), .int (mf 35), .ref (b 36), .ref (b 37), .ref (b 38), .ref (b 39), .ref (b 40), .ref (b 41), .int (mf 42)])), ((b 5), .inl (G.2.1, 864, .inl (upd (mr 5) (q) (0)))), ((b 6), .inl (G.2.1, 864, .inl (mr 6))), ((b 7), .inl (G.2.1, 864, .inl (mr 7))), ((b 9), .inl (G.2.2.1, 864, .inl (mr 9))), ((b 10), .inl (G.2.2.1, 864, .inl (mr 10)))] := hD
  refine lv_aload_n hx hb dX7_empty_7 rfl (lv_at hl 0 rfl) ?_
  refine va_get (D := G.1) (ci := 7) (v := .ref (b 6)) (C := RX7) (T := TX7) (N := 43) hx hb hts inX7 hown hK.1 hP 0 rfl rfl 6 (by decide) (hts _ mf_X7_26) (fun _ h9 => h9) rfl dX7_empty_8 ?_
  refine lv_iload_n hx hb dX7_empty_11 rfl (lv_at hl 1 rfl) ?_
  refine lv_iconst (v := 0) hx hb dX7_empty_12 (by decide) ?_
  refine xiast (x := 0) hx hb hK hP hD hS 2 (q) (rfl) (hq) (by omega) rfl dX7_empty_13 (fun H locs hP hD hS => ?_)
  have hP : PP G [(y, .inr (7, [.int (mf 0), .ref (b 1), .ref (b 2), .ref (b 3), .ref (b 4), .ref (b 5), .ref (b 6), .ref (b 7), .ref (b 8), .ref (b 9), .ref (b 10), .ref (b 11), .ref (b 12), .ref (b 13), .ref (b 14), .ref (b 15), .ref (b 16), .ref (b 17), .ref (b 18), .ref (b 19), .int (mf 20), .int (mf 21), .ref (b 22), .ref (b 23), .ref (b 24), .ref (b 25), .ref (b 26), .int (mf 27), .int (mf 28), .ref (b 29), .ref (b 30), .ref (b 31), .ref (b 32), .ref (b 33), .int (mf 34), .int (mf 35), .ref (b 36), .ref (b 37), .ref (b 38), .ref (b 39), .ref (b 40), .ref (b 41), .int (mf 42)])), ((b 5), .inl (G.2.1, 864, .inl (upd (mr 5) (q) (0)))), ((b 6), .inl (G.2.1, 864, .inl (upd (mr 6) (q) (0)))), ((b 7), .inl (G.2.1, 864, .inl (mr 7))), ((b 9), .inl (G.2.2.1, 864, .inl (mr 9))), ((b 10), .inl (G.2.2.1, 864, .inl (mr 10)))] H := hP
  have hD : va_D A [(y, .inr (7, [.int (mf 0), .ref (b 1), .ref (b 2), .ref (b 3), .ref (b 4), .ref (b 5), .ref (b 6), .ref (b 7), .ref (b 8), .ref (b 9), .ref (b 10), .ref (b 11), .ref (b 12), .ref (b 13), .ref (b 14), .ref (b 15), .ref (b 16), .ref (b 17), .ref (b 18), .ref (b 19), .int (mf 20), .int (mf 21), .ref (b 22), .ref (b 23), .ref (b 24), .ref (b 25), .ref (b 26), .int (mf 27), .int (mf 28), .ref (b 29), .ref (b 30), .ref (b 31), .ref (b 32), .ref (b 33), .int (mf 34), .int (mf 35), .ref (b 36), .ref (b 37), .ref (b 38), .ref (b 39), .ref (b 40), .ref (b 41), .int (mf 42)])), ((b 5), .inl (G.2.1, 864, .inl (upd (mr 5) (q) (0)))), ((b 6), .inl (G.2.1, 864, .inl (upd (mr 6) (q) (0)))), ((b 7), .inl (G.2.1, 864, .inl (mr 7))), ((b 9), .inl (G.2.2.1, 864, .inl (mr 9))), ((b 10), .inl (G.2.2.1, 864, .inl (mr 10)))] := hD
  refine lv_aload_n hx hb dX7_empty_14 rfl (lv_at hl 0 rfl) ?_
  refine va_get (D := G.1) (ci := 7) (v := .ref (b 7)) (C := RX7) (T := TX7) (N := 43) hx hb hts inX7 hown hK.1 hP 0 rfl rfl 7 (by decide) (hts _ mf_X7_29) (fun _ h9 => h9) rfl dX7_empty_15 ?_
  refine lv_iload_n hx hb dX7_empty_18 rfl (lv_at hl 1 rfl) ?_
  refine lv_iconst (v := 0) hx hb dX7_empty_19 (by decide) ?_
  refine xiast (x := 0) hx hb hK hP hD hS 3 (q) (rfl) (hq) (by omega) rfl dX7_empty_20 (fun H locs hP hD hS => ?_)
  have hP : PP G [(y, .inr (7, [.int (mf 0), .ref (b 1), .ref (b 2), .ref (b 3), .ref (b 4), .ref (b 5), .ref (b 6), .ref (b 7), .ref (b 8), .ref (b 9), .ref (b 10), .ref (b 11), .ref (b 12), .ref (b 13), .ref (b 14), .ref (b 15), .ref (b 16), .ref (b 17), .ref (b 18), .ref (b 19), .int (mf 20), .int (mf 21), .ref (b 22), .ref (b 23), .ref (b 24), .ref (b 25), .ref (b 26), .int (mf 27), .int (mf 28), .ref (b 29), .ref (b 30), .ref (b 31), .ref (b 32), .ref (b 33), .int (mf 34), .int (mf 35), .ref (b 36), .ref (b 37), .ref (b 38), .ref (b 39), .ref (b 40), .ref (b 41), .int (mf 42)])), ((b 5), .inl (G.2.1, 864, .inl (upd (mr 5) (q) (0)))), ((b 6), .inl (G.2.1, 864, .inl (upd (mr 6) (q) (0)))), ((b 7), .inl (G.2.1, 864, .inl (upd (mr 7) (q) (0)))), ((b 9), .inl (G.2.2.1, 864, .inl (mr 9))), ((b 10), .inl (G.2.2.1, 864, .inl (mr 10)))] H := hP
  have hD : va_D A [(y, .inr (7, [.int (mf 0), .ref (b 1), .ref (b 2), .ref (b 3), .ref (b 4), .ref (b 5), .ref (b 6), .ref (b 7), .ref (b 8), .ref (b 9), .ref (b 10), .ref (b 11), .ref (b 12), .ref (b 13), .ref (b 14), .ref (b 15), .ref (b 16), .ref (b 17), .ref (b 18), .ref (b 19), .int (mf 20), .int (mf 21), .ref (b 22), .ref (b 23), .ref (b 24), .ref (b 25), .ref (b 26), .int (mf 27), .int (mf 28), .ref (b 29), .ref (b 30), .ref (b 31), .ref (b 32), .ref (b 33), .int (mf 34), .int (mf 35), .ref (b 36), .ref (b 37), .ref (b 38), .ref (b 39), .ref (b 40), .ref (b 41), .int (mf 42)])), ((b 5), .inl (G.2.1, 864, .inl (upd (mr 5) (q) (0)))), ((b 6), .inl (G.2.1, 864, .inl (upd (mr 6) (q) (0)))), ((b 7), .inl (G.2.1, 864, .inl (upd (mr 7) (q) (0)))), ((b 9), .inl (G.2.2.1, 864, .inl (mr 9))), ((b 10), .inl (G.2.2.1, 864, .inl (mr 10)))] := hD
  refine lv_aload_n hx hb dX7_empty_21 rfl (lv_at hl 0 rfl) ?_
  refine va_get (D := G.1) (ci := 7) (v := .ref (b 9)) (C := RX7) (T := TX7) (N := 43) hx hb hts inX7 hown hK.1 hP 0 rfl rfl 9 (by decide) (hts _ mf_X7_35) (fun _ h9 => h9) rfl dX7_empty_22 ?_
  refine lv_iload_n hx hb dX7_empty_25 rfl (lv_at hl 1 rfl) ?_
  refine lv_iconst (v := 0) hx hb dX7_empty_26 (by decide) ?_
  refine xzast (x := 0) hx hb hK hP hD hS 4 (q) (rfl) (hq) (by omega) (Or.inl rfl) rfl dX7_empty_27 (fun H locs hP hD hS => ?_)
  have hP : PP G [(y, .inr (7, [.int (mf 0), .ref (b 1), .ref (b 2), .ref (b 3), .ref (b 4), .ref (b 5), .ref (b 6), .ref (b 7), .ref (b 8), .ref (b 9), .ref (b 10), .ref (b 11), .ref (b 12), .ref (b 13), .ref (b 14), .ref (b 15), .ref (b 16), .ref (b 17), .ref (b 18), .ref (b 19), .int (mf 20), .int (mf 21), .ref (b 22), .ref (b 23), .ref (b 24), .ref (b 25), .ref (b 26), .int (mf 27), .int (mf 28), .ref (b 29), .ref (b 30), .ref (b 31), .ref (b 32), .ref (b 33), .int (mf 34), .int (mf 35), .ref (b 36), .ref (b 37), .ref (b 38), .ref (b 39), .ref (b 40), .ref (b 41), .int (mf 42)])), ((b 5), .inl (G.2.1, 864, .inl (upd (mr 5) (q) (0)))), ((b 6), .inl (G.2.1, 864, .inl (upd (mr 6) (q) (0)))), ((b 7), .inl (G.2.1, 864, .inl (upd (mr 7) (q) (0)))), ((b 9), .inl (G.2.2.1, 864, .inl (upd (mr 9) (q) (0)))), ((b 10), .inl (G.2.2.1, 864, .inl (mr 10)))] H := hP
  have hD : va_D A [(y, .inr (7, [.int (mf 0), .ref (b 1), .ref (b 2), .ref (b 3), .ref (b 4), .ref (b 5), .ref (b 6), .ref (b 7), .ref (b 8), .ref (b 9), .ref (b 10), .ref (b 11), .ref (b 12), .ref (b 13), .ref (b 14), .ref (b 15), .ref (b 16), .ref (b 17), .ref (b 18), .ref (b 19), .int (mf 20), .int (mf 21), .ref (b 22), .ref (b 23), .ref (b 24), .ref (b 25), .ref (b 26), .int (mf 27), .int (mf 28), .ref (b 29), .ref (b 30), .ref (b 31), .ref (b 32), .ref (b 33), .int (mf 34), .int (mf 35), .ref (b 36), .ref (b 37), .ref (b 38), .ref (b 39), .ref (b 40), .ref (b 41), .int (mf 42)])), ((b 5), .inl (G.2.1, 864, .inl (upd (mr 5) (q) (0)))), ((b 6), .inl (G.2.1, 864, .inl (upd (mr 6) (q) (0)))), ((b 7), .inl (G.2.1, 864, .inl (upd (mr 7) (q) (0)))), ((b 9), .inl (G.2.2.1, 864, .inl (upd (mr 9) (q) (0)))), ((b 10), .inl (G.2.2.1, 864, .inl (mr 10)))] := hD
  refine lv_aload_n hx hb dX7_empty_28 rfl (lv_at hl 0 rfl) ?_
  refine va_get (D := G.1) (ci := 7) (v := .ref (b 10)) (C := RX7) (T := TX7) (N := 43) hx hb hts inX7 hown hK.1 hP 0 rfl rfl 10 (by decide) (hts _ mf_X7_38) (fun _ h9 => h9) rfl dX7_empty_29 ?_
  refine lv_iload_n hx hb dX7_empty_32 rfl (lv_at hl 1 rfl) ?_
  refine lv_iconst (v := 0) hx hb dX7_empty_33 (by decide) ?_
  refine xzast (x := 0) hx hb hK hP hD hS 5 (q) (rfl) (hq) (by omega) (Or.inl rfl) rfl dX7_empty_34 (fun H locs hP hD hS => ?_)
  have hP : PP G [(y, .inr (7, [.int (mf 0), .ref (b 1), .ref (b 2), .ref (b 3), .ref (b 4), .ref (b 5), .ref (b 6), .ref (b 7), .ref (b 8), .ref (b 9), .ref (b 10), .ref (b 11), .ref (b 12), .ref (b 13), .ref (b 14), .ref (b 15), .ref (b 16), .ref (b 17), .ref (b 18), .ref (b 19), .int (mf 20), .int (mf 21), .ref (b 22), .ref (b 23), .ref (b 24), .ref (b 25), .ref (b 26), .int (mf 27), .int (mf 28), .ref (b 29), .ref (b 30), .ref (b 31), .ref (b 32), .ref (b 33), .int (mf 34), .int (mf 35), .ref (b 36), .ref (b 37), .ref (b 38), .ref (b 39), .ref (b 40), .ref (b 41), .int (mf 42)])), ((b 5), .inl (G.2.1, 864, .inl (upd (mr 5) (q) (0)))), ((b 6), .inl (G.2.1, 864, .inl (upd (mr 6) (q) (0)))), ((b 7), .inl (G.2.1, 864, .inl (upd (mr 7) (q) (0)))), ((b 9), .inl (G.2.2.1, 864, .inl (upd (mr 9) (q) (0)))), ((b 10), .inl (G.2.2.1, 864, .inl (upd (mr 10) (q) (0))))] H := hP
  have hD : va_D A [(y, .inr (7, [.int (mf 0), .ref (b 1), .ref (b 2), .ref (b 3), .ref (b 4), .ref (b 5), .ref (b 6), .ref (b 7), .ref (b 8), .ref (b 9), .ref (b 10), .ref (b 11), .ref (b 12), .ref (b 13), .ref (b 14), .ref (b 15), .ref (b 16), .ref (b 17), .ref (b 18), .ref (b 19), .int (mf 20), .int (mf 21), .ref (b 22), .ref (b 23), .ref (b 24), .ref (b 25), .ref (b 26), .int (mf 27), .int (mf 28), .ref (b 29), .ref (b 30), .ref (b 31), .ref (b 32), .ref (b 33), .int (mf 34), .int (mf 35), .ref (b 36), .ref (b 37), .ref (b 38), .ref (b 39), .ref (b 40), .ref (b 41), .int (mf 42)])), ((b 5), .inl (G.2.1, 864, .inl (upd (mr 5) (q) (0)))), ((b 6), .inl (G.2.1, 864, .inl (upd (mr 6) (q) (0)))), ((b 7), .inl (G.2.1, 864, .inl (upd (mr 7) (q) (0)))), ((b 9), .inl (G.2.2.1, 864, .inl (upd (mr 9) (q) (0)))), ((b 10), .inl (G.2.2.1, 864, .inl (upd (mr 10) (q) (0))))] := hD
  exact wr_vret hx hb hr hlocks hS hP rfl dX7_empty_35
theorem nI_mulL {v x : Int32} {i : Nat} (n : Nat) (h : v = nI n * x) (hx : x = nI i) : v = nI (n * i) := by rw [h, hx]; exact pk_mul n i
set_option maxHeartbeats 4000000 in
set_option maxRecDepth 100000 in
theorem k_X7_open (l : Launch) (G : GG) (y : Nat) (b : Nat → Nat) (mf : Nat → Int32) (mr : Nat → Nat → Int32) (p1 p2 p3 : Int32) (hcl : ∀ j, j < 6 → mr 1 j = 0) : WrI l yX7_open cX7_open 5 (some .boolean) ({ frames := 1, cells := 0, slots := 0, locals := 21 }) G ([(y, .inr (7, [.int (mf 0), .ref (b 1), .ref (b 2), .ref (b 3), .ref (b 4), .ref (b 5), .ref (b 6), .ref (b 7), .ref (b 8), .ref (b 9), .ref (b 10), .ref (b 11), .ref (b 12), .ref (b 13), .ref (b 14), .ref (b 15), .ref (b 16), .ref (b 17), .ref (b 18), .ref (b 19), .int (mf 20), .int (mf 21), .ref (b 22), .ref (b 23), .ref (b 24), .ref (b 25), .ref (b 26), .int (mf 27), .int (mf 28), .ref (b 29), .ref (b 30), .ref (b 31), .ref (b 32), .ref (b 33), .int (mf 34), .int (mf 35), .ref (b 36), .ref (b 37), .ref (b 38), .ref (b 39), .ref (b 40), .ref (b 41), .int (mf 42)])), ((b 1), .inl (G.2.2.1, 6, .inl (mr 1))), ((b 2), .inl (G.2.1, 6, .inl (mr 2))), ((b 3), .inl (G.2.1, 6, .inl (mr 3))), ((b 4), .inl (G.2.1, 36, .inl (mr 4))), ((b 5), .inl (G.2.1, 864, .inl (mr 5))), ((b 6), .inl (G.2.1, 864, .inl (mr 6))), ((b 7), .inl (G.2.1, 864, .inl (mr 7))), ((b 9), .inl (G.2.2.1, 864, .inl (mr 9))), ((b 10), .inl (G.2.2.1, 864, .inl (mr 10))), ((b 11), .inl (G.2.1, 72, .inl (mr 11))), ((b 12), .inl (G.2.1, 6, .inl (mr 12)))]) [.ref y, .int p1, .int p2, .int p3] (fun r _ => (opOk p1 p2 p3 ∧ r = 1) ∨ (¬ opOk p1 p2 p3 ∧ r = 0)) := by
  refine wr_entryI (by decide +kernel) (Nat.le_of_ble_eq_true rfl) ?_
  intro p e s m below meth c A C0 hP hK hD hA ls hl
  have hS : va_S A s.heap s.heap [] := va_S.rf
  obtain ⟨hx, hb, hml, hown, hts, hr, hlocks, hin⟩ := C0
  have hown : s.vm.findClass RX7 = some m.cls := hown
  have hl : lv_has ls 5 [(0, .ref y), (1, .int p1), (2, .int p2), (3, .int p3)] := hl
  refine lv_iload_n hx hb dX7_open_0 rfl (lv_at hl 1 rfl) ?_
  refine lv_if_lt (tgt := 19) hx hb dX7_open_1 (by decide) (fun c1 => ?_) (fun c1 => ?_)
  · refine lv_aload_n hx hb dX7_open_19 rfl (lv_at hl 0 rfl) ?_
    refine lv_iconst (v := 1) hx hb dX7_open_20 (by decide) ?_
    have hP : PP G [(y, .inr (7, [.int (mf 0), .ref (b 1), .ref (b 2), .ref (b 3), .ref (b 4), .ref (b 5), .ref (b 6), .ref (b 7), .ref (b 8), .ref (b 9), .ref (b 10), .ref (b 11), .ref (b 12), .ref (b 13), .ref (b 14), .ref (b 15), .ref (b 16), .ref (b 17), .ref (b 18), .ref (b 19), .int (mf 20), .int (mf 21), .ref (b 22), .ref (b 23), .ref (b 24), .ref (b 25), .ref (b 26), .int (mf 27), .int (mf 28), .ref (b 29), .ref (b 30), .ref (b 31), .ref (b 32), .ref (b 33), .int (mf 34), .int (mf 35), .ref (b 36), .ref (b 37), .ref (b 38), .ref (b 39), .ref (b 40), .ref (b 41), .int (mf 42)]))] _ := hP.sub [0] rfl
    have hD : va_D A [(y, .inr (7, [.int (mf 0), .ref (b 1), .ref (b 2), .ref (b 3), .ref (b 4), .ref (b 5), .ref (b 6), .ref (b 7), .ref (b 8), .ref (b 9), .ref (b 10), .ref (b 11), .ref (b 12), .ref (b 13), .ref (b 14), .ref (b 15), .ref (b 16), .ref (b 17), .ref (b 18), .ref (b 19), .int (mf 20), .int (mf 21), .ref (b 22), .ref (b 23), .ref (b 24), .ref (b 25), .ref (b 26), .int (mf 27), .int (mf 28), .ref (b 29), .ref (b 30), .ref (b 31), .ref (b 32), .ref (b 33), .int (mf 34), .int (mf 35), .ref (b 36), .ref (b 37), .ref (b 38), .ref (b 39), .ref (b 40), .ref (b 41), .int (mf 42)]))] := hD.sub [0] (by decide) rfl
    refine wrVI (rest := []) (q0 := 0) ⟨hx, hb, hml, hown, hts⟩ (c_X7_refuse l G y b mf 1) mi_yX7_refuse mv_yX7_refuse ml_X7_131 ⟨rfl, rfl, Nat.le_of_ble_eq_true rfl, Nat.le_of_ble_eq_true rfl⟩ hK hP hD [0] rfl (by decide) rfl rfl rfl hl.1 rfl (Nat.le_of_ble_eq_true rfl) dX7_open_21 ⟨Nat.zero_le _, Nat.zero_le _⟩ hS hA (fun r2 w3 H locs hw3 hP hS => ?_)
    obtain ⟨rfl, rfl⟩ := hw3
    have hP : PP G [(y, .inr (7, [.int 1, .ref (b 1), .ref (b 2), .ref (b 3), .ref (b 4), .ref (b 5), .ref (b 6), .ref (b 7), .ref (b 8), .ref (b 9), .ref (b 10), .ref (b 11), .ref (b 12), .ref (b 13), .ref (b 14), .ref (b 15), .ref (b 16), .ref (b 17), .ref (b 18), .ref (b 19), .int (mf 20), .int (mf 21), .ref (b 22), .ref (b 23), .ref (b 24), .ref (b 25), .ref (b 26), .int (mf 27), .int (mf 28), .ref (b 29), .ref (b 30), .ref (b 31), .ref (b 32), .ref (b 33), .int (mf 34), .int (mf 35), .ref (b 36), .ref (b 37), .ref (b 38), .ref (b 39), .ref (b 40), .ref (b 41), .int (mf 42)]))] H := hP rfl
    have hD : va_D A [(y, .inr (7, [.int 1, .ref (b 1), .ref (b 2), .ref (b 3), .ref (b 4), .ref (b 5), .ref (b 6), .ref (b 7), .ref (b 8), .ref (b 9), .ref (b 10), .ref (b 11), .ref (b 12), .ref (b 13), .ref (b 14), .ref (b 15), .ref (b 16), .ref (b 17), .ref (b 18), .ref (b 19), .int (mf 20), .int (mf 21), .ref (b 22), .ref (b 23), .ref (b 24), .ref (b 25), .ref (b 26), .int (mf 27), .int (mf 28), .ref (b 29), .ref (b 30), .ref (b 31), .ref (b 32), .ref (b 33), .int (mf 34), .int (mf 35), .ref (b 36), .ref (b 37), .ref (b 38), .ref (b 39), .ref (b 40), .ref (b 41), .int (mf 42)]))] := D_same hD rfl
    exact wr_zret hx hb hr hlocks (Or.inl rfl) hS hP (Or.inr ⟨fun h => h.1 c1, rfl⟩) dX7_open_24
  · refine lv_iload_n hx hb dX7_open_4 rfl (lv_at hl 1 rfl) ?_
    refine lv_bipush (v := 6) hx hb dX7_open_5 (by decide) ?_
    refine lv_icmp_ge (tgt := 19) hx hb dX7_open_7 (by decide) (fun c4 => ?_) (fun c4 => ?_)
    · refine lv_aload_n hx hb dX7_open_19 rfl (lv_at hl 0 rfl) ?_
      refine lv_iconst (v := 1) hx hb dX7_open_20 (by decide) ?_
      have hP : PP G [(y, .inr (7, [.int (mf 0), .ref (b 1), .ref (b 2), .ref (b 3), .ref (b 4), .ref (b 5), .ref (b 6), .ref (b 7), .ref (b 8), .ref (b 9), .ref (b 10), .ref (b 11), .ref (b 12), .ref (b 13), .ref (b 14), .ref (b 15), .ref (b 16), .ref (b 17), .ref (b 18), .ref (b 19), .int (mf 20), .int (mf 21), .ref (b 22), .ref (b 23), .ref (b 24), .ref (b 25), .ref (b 26), .int (mf 27), .int (mf 28), .ref (b 29), .ref (b 30), .ref (b 31), .ref (b 32), .ref (b 33), .int (mf 34), .int (mf 35), .ref (b 36), .ref (b 37), .ref (b 38), .ref (b 39), .ref (b 40), .ref (b 41), .int (mf 42)]))] _ := hP.sub [0] rfl
      have hD : va_D A [(y, .inr (7, [.int (mf 0), .ref (b 1), .ref (b 2), .ref (b 3), .ref (b 4), .ref (b 5), .ref (b 6), .ref (b 7), .ref (b 8), .ref (b 9), .ref (b 10), .ref (b 11), .ref (b 12), .ref (b 13), .ref (b 14), .ref (b 15), .ref (b 16), .ref (b 17), .ref (b 18), .ref (b 19), .int (mf 20), .int (mf 21), .ref (b 22), .ref (b 23), .ref (b 24), .ref (b 25), .ref (b 26), .int (mf 27), .int (mf 28), .ref (b 29), .ref (b 30), .ref (b 31), .ref (b 32), .ref (b 33), .int (mf 34), .int (mf 35), .ref (b 36), .ref (b 37), .ref (b 38), .ref (b 39), .ref (b 40), .ref (b 41), .int (mf 42)]))] := hD.sub [0] (by decide) rfl
      refine wrVI (rest := []) (q0 := 0) ⟨hx, hb, hml, hown, hts⟩ (c_X7_refuse l G y b mf 1) mi_yX7_refuse mv_yX7_refuse ml_X7_131 ⟨rfl, rfl, Nat.le_of_ble_eq_true rfl, Nat.le_of_ble_eq_true rfl⟩ hK hP hD [0] rfl (by decide) rfl rfl rfl hl.1 rfl (Nat.le_of_ble_eq_true rfl) dX7_open_21 ⟨Nat.zero_le _, Nat.zero_le _⟩ hS hA (fun r5 w6 H locs hw6 hP hS => ?_)
      obtain ⟨rfl, rfl⟩ := hw6
      have hP : PP G [(y, .inr (7, [.int 1, .ref (b 1), .ref (b 2), .ref (b 3), .ref (b 4), .ref (b 5), .ref (b 6), .ref (b 7), .ref (b 8), .ref (b 9), .ref (b 10), .ref (b 11), .ref (b 12), .ref (b 13), .ref (b 14), .ref (b 15), .ref (b 16), .ref (b 17), .ref (b 18), .ref (b 19), .int (mf 20), .int (mf 21), .ref (b 22), .ref (b 23), .ref (b 24), .ref (b 25), .ref (b 26), .int (mf 27), .int (mf 28), .ref (b 29), .ref (b 30), .ref (b 31), .ref (b 32), .ref (b 33), .int (mf 34), .int (mf 35), .ref (b 36), .ref (b 37), .ref (b 38), .ref (b 39), .ref (b 40), .ref (b 41), .int (mf 42)]))] H := hP rfl
      have hD : va_D A [(y, .inr (7, [.int 1, .ref (b 1), .ref (b 2), .ref (b 3), .ref (b 4), .ref (b 5), .ref (b 6), .ref (b 7), .ref (b 8), .ref (b 9), .ref (b 10), .ref (b 11), .ref (b 12), .ref (b 13), .ref (b 14), .ref (b 15), .ref (b 16), .ref (b 17), .ref (b 18), .ref (b 19), .int (mf 20), .int (mf 21), .ref (b 22), .ref (b 23), .ref (b 24), .ref (b 25), .ref (b 26), .int (mf 27), .int (mf 28), .ref (b 29), .ref (b 30), .ref (b 31), .ref (b 32), .ref (b 33), .int (mf 34), .int (mf 35), .ref (b 36), .ref (b 37), .ref (b 38), .ref (b 39), .ref (b 40), .ref (b 41), .int (mf 42)]))] := D_same hD rfl
      exact wr_zret hx hb hr hlocks (Or.inl rfl) hS hP (Or.inr ⟨fun h => h.2.1 c4, rfl⟩) dX7_open_24
    · refine lv_aload_n hx hb dX7_open_10 rfl (lv_at hl 0 rfl) ?_
      refine va_get (D := G.1) (ci := 7) (v := .ref (b 1)) (C := RX7) (T := TX7) (N := 43) hx hb hts inX7 hown hK.1 hP 0 rfl rfl 1 (by decide) (hts _ mf_X7_7) (fun _ h9 => h9) rfl dX7_open_11 ?_
      refine lv_iload_n hx hb dX7_open_14 rfl (lv_at hl 1 rfl) ?_
      obtain ⟨j, hj, ej⟩ := lt_ix (x := p1) (n := 6) (by decide) c1 c4
      refine xzald hx hb hK hP 1 j ej hj (by decide) rfl dX7_open_15 ?_
      refine lv_if_eq (tgt := 25) hx hb dX7_open_16 (by decide) (fun _ => ?_) (fun c7 => absurd (hcl j hj) c7)
      refine lv_iload_n hx hb dX7_open_25 rfl (lv_at hl 2 rfl) ?_
      refine lv_iconst (v := 1) hx hb dX7_open_26 (by decide) ?_
      refine lv_icmp_lt (tgt := 47) hx hb dX7_open_27 (by decide) (fun c8 => ?_) (fun c8 => ?_)
      · refine lv_aload_n hx hb dX7_open_47 rfl (lv_at hl 0 rfl) ?_
        refine lv_iconst (v := 2) hx hb dX7_open_48 (by decide) ?_
        have hP : PP G [(y, .inr (7, [.int (mf 0), .ref (b 1), .ref (b 2), .ref (b 3), .ref (b 4), .ref (b 5), .ref (b 6), .ref (b 7), .ref (b 8), .ref (b 9), .ref (b 10), .ref (b 11), .ref (b 12), .ref (b 13), .ref (b 14), .ref (b 15), .ref (b 16), .ref (b 17), .ref (b 18), .ref (b 19), .int (mf 20), .int (mf 21), .ref (b 22), .ref (b 23), .ref (b 24), .ref (b 25), .ref (b 26), .int (mf 27), .int (mf 28), .ref (b 29), .ref (b 30), .ref (b 31), .ref (b 32), .ref (b 33), .int (mf 34), .int (mf 35), .ref (b 36), .ref (b 37), .ref (b 38), .ref (b 39), .ref (b 40), .ref (b 41), .int (mf 42)]))] _ := hP.sub [0] rfl
        have hD : va_D A [(y, .inr (7, [.int (mf 0), .ref (b 1), .ref (b 2), .ref (b 3), .ref (b 4), .ref (b 5), .ref (b 6), .ref (b 7), .ref (b 8), .ref (b 9), .ref (b 10), .ref (b 11), .ref (b 12), .ref (b 13), .ref (b 14), .ref (b 15), .ref (b 16), .ref (b 17), .ref (b 18), .ref (b 19), .int (mf 20), .int (mf 21), .ref (b 22), .ref (b 23), .ref (b 24), .ref (b 25), .ref (b 26), .int (mf 27), .int (mf 28), .ref (b 29), .ref (b 30), .ref (b 31), .ref (b 32), .ref (b 33), .int (mf 34), .int (mf 35), .ref (b 36), .ref (b 37), .ref (b 38), .ref (b 39), .ref (b 40), .ref (b 41), .int (mf 42)]))] := hD.sub [0] (by decide) rfl
        refine wrVI (rest := []) (q0 := 0) ⟨hx, hb, hml, hown, hts⟩ (c_X7_refuse l G y b mf 2) mi_yX7_refuse mv_yX7_refuse ml_X7_131 ⟨rfl, rfl, Nat.le_of_ble_eq_true rfl, Nat.le_of_ble_eq_true rfl⟩ hK hP hD [0] rfl (by decide) rfl rfl rfl hl.1 rfl (Nat.le_of_ble_eq_true rfl) dX7_open_49 ⟨Nat.zero_le _, Nat.zero_le _⟩ hS hA (fun r9 w10 H locs hw10 hP hS => ?_)
        obtain ⟨rfl, rfl⟩ := hw10
        have hP : PP G [(y, .inr (7, [.int 2, .ref (b 1), .ref (b 2), .ref (b 3), .ref (b 4), .ref (b 5), .ref (b 6), .ref (b 7), .ref (b 8), .ref (b 9), .ref (b 10), .ref (b 11), .ref (b 12), .ref (b 13), .ref (b 14), .ref (b 15), .ref (b 16), .ref (b 17), .ref (b 18), .ref (b 19), .int (mf 20), .int (mf 21), .ref (b 22), .ref (b 23), .ref (b 24), .ref (b 25), .ref (b 26), .int (mf 27), .int (mf 28), .ref (b 29), .ref (b 30), .ref (b 31), .ref (b 32), .ref (b 33), .int (mf 34), .int (mf 35), .ref (b 36), .ref (b 37), .ref (b 38), .ref (b 39), .ref (b 40), .ref (b 41), .int (mf 42)]))] H := hP rfl
        have hD : va_D A [(y, .inr (7, [.int 2, .ref (b 1), .ref (b 2), .ref (b 3), .ref (b 4), .ref (b 5), .ref (b 6), .ref (b 7), .ref (b 8), .ref (b 9), .ref (b 10), .ref (b 11), .ref (b 12), .ref (b 13), .ref (b 14), .ref (b 15), .ref (b 16), .ref (b 17), .ref (b 18), .ref (b 19), .int (mf 20), .int (mf 21), .ref (b 22), .ref (b 23), .ref (b 24), .ref (b 25), .ref (b 26), .int (mf 27), .int (mf 28), .ref (b 29), .ref (b 30), .ref (b 31), .ref (b 32), .ref (b 33), .int (mf 34), .int (mf 35), .ref (b 36), .ref (b 37), .ref (b 38), .ref (b 39), .ref (b 40), .ref (b 41), .int (mf 42)]))] := D_same hD rfl
        exact wr_zret hx hb hr hlocks (Or.inl rfl) hS hP (Or.inr ⟨fun h => h.2.2.1 c8, rfl⟩) dX7_open_52
      · refine lv_iload_n hx hb dX7_open_30 rfl (lv_at hl 2 rfl) ?_
        refine lv_bipush (v := 12) hx hb dX7_open_31 (by decide) ?_
        refine lv_icmp_gt (tgt := 47) hx hb dX7_open_33 (by decide) (fun c11 => ?_) (fun c11 => ?_)
        · refine lv_aload_n hx hb dX7_open_47 rfl (lv_at hl 0 rfl) ?_
          refine lv_iconst (v := 2) hx hb dX7_open_48 (by decide) ?_
          have hP : PP G [(y, .inr (7, [.int (mf 0), .ref (b 1), .ref (b 2), .ref (b 3), .ref (b 4), .ref (b 5), .ref (b 6), .ref (b 7), .ref (b 8), .ref (b 9), .ref (b 10), .ref (b 11), .ref (b 12), .ref (b 13), .ref (b 14), .ref (b 15), .ref (b 16), .ref (b 17), .ref (b 18), .ref (b 19), .int (mf 20), .int (mf 21), .ref (b 22), .ref (b 23), .ref (b 24), .ref (b 25), .ref (b 26), .int (mf 27), .int (mf 28), .ref (b 29), .ref (b 30), .ref (b 31), .ref (b 32), .ref (b 33), .int (mf 34), .int (mf 35), .ref (b 36), .ref (b 37), .ref (b 38), .ref (b 39), .ref (b 40), .ref (b 41), .int (mf 42)]))] _ := hP.sub [0] rfl
          have hD : va_D A [(y, .inr (7, [.int (mf 0), .ref (b 1), .ref (b 2), .ref (b 3), .ref (b 4), .ref (b 5), .ref (b 6), .ref (b 7), .ref (b 8), .ref (b 9), .ref (b 10), .ref (b 11), .ref (b 12), .ref (b 13), .ref (b 14), .ref (b 15), .ref (b 16), .ref (b 17), .ref (b 18), .ref (b 19), .int (mf 20), .int (mf 21), .ref (b 22), .ref (b 23), .ref (b 24), .ref (b 25), .ref (b 26), .int (mf 27), .int (mf 28), .ref (b 29), .ref (b 30), .ref (b 31), .ref (b 32), .ref (b 33), .int (mf 34), .int (mf 35), .ref (b 36), .ref (b 37), .ref (b 38), .ref (b 39), .ref (b 40), .ref (b 41), .int (mf 42)]))] := hD.sub [0] (by decide) rfl
          refine wrVI (rest := []) (q0 := 0) ⟨hx, hb, hml, hown, hts⟩ (c_X7_refuse l G y b mf 2) mi_yX7_refuse mv_yX7_refuse ml_X7_131 ⟨rfl, rfl, Nat.le_of_ble_eq_true rfl, Nat.le_of_ble_eq_true rfl⟩ hK hP hD [0] rfl (by decide) rfl rfl rfl hl.1 rfl (Nat.le_of_ble_eq_true rfl) dX7_open_49 ⟨Nat.zero_le _, Nat.zero_le _⟩ hS hA (fun r12 w13 H locs hw13 hP hS => ?_)
          obtain ⟨rfl, rfl⟩ := hw13
          have hP : PP G [(y, .inr (7, [.int 2, .ref (b 1), .ref (b 2), .ref (b 3), .ref (b 4), .ref (b 5), .ref (b 6), .ref (b 7), .ref (b 8), .ref (b 9), .ref (b 10), .ref (b 11), .ref (b 12), .ref (b 13), .ref (b 14), .ref (b 15), .ref (b 16), .ref (b 17), .ref (b 18), .ref (b 19), .int (mf 20), .int (mf 21), .ref (b 22), .ref (b 23), .ref (b 24), .ref (b 25), .ref (b 26), .int (mf 27), .int (mf 28), .ref (b 29), .ref (b 30), .ref (b 31), .ref (b 32), .ref (b 33), .int (mf 34), .int (mf 35), .ref (b 36), .ref (b 37), .ref (b 38), .ref (b 39), .ref (b 40), .ref (b 41), .int (mf 42)]))] H := hP rfl
          have hD : va_D A [(y, .inr (7, [.int 2, .ref (b 1), .ref (b 2), .ref (b 3), .ref (b 4), .ref (b 5), .ref (b 6), .ref (b 7), .ref (b 8), .ref (b 9), .ref (b 10), .ref (b 11), .ref (b 12), .ref (b 13), .ref (b 14), .ref (b 15), .ref (b 16), .ref (b 17), .ref (b 18), .ref (b 19), .int (mf 20), .int (mf 21), .ref (b 22), .ref (b 23), .ref (b 24), .ref (b 25), .ref (b 26), .int (mf 27), .int (mf 28), .ref (b 29), .ref (b 30), .ref (b 31), .ref (b 32), .ref (b 33), .int (mf 34), .int (mf 35), .ref (b 36), .ref (b 37), .ref (b 38), .ref (b 39), .ref (b 40), .ref (b 41), .int (mf 42)]))] := D_same hD rfl
          exact wr_zret hx hb hr hlocks (Or.inl rfl) hS hP (Or.inr ⟨fun h => h.2.2.2.1 c11, rfl⟩) dX7_open_52
        · refine lv_iload_n hx hb dX7_open_36 rfl (lv_at hl 3 rfl) ?_
          refine lv_iconst (v := 1) hx hb dX7_open_37 (by decide) ?_
          refine lv_icmp_lt (tgt := 47) hx hb dX7_open_38 (by decide) (fun c14 => ?_) (fun c14 => ?_)
          · refine lv_aload_n hx hb dX7_open_47 rfl (lv_at hl 0 rfl) ?_
            refine lv_iconst (v := 2) hx hb dX7_open_48 (by decide) ?_
            have hP : PP G [(y, .inr (7, [.int (mf 0), .ref (b 1), .ref (b 2), .ref (b 3), .ref (b 4), .ref (b 5), .ref (b 6), .ref (b 7), .ref (b 8), .ref (b 9), .ref (b 10), .ref (b 11), .ref (b 12), .ref (b 13), .ref (b 14), .ref (b 15), .ref (b 16), .ref (b 17), .ref (b 18), .ref (b 19), .int (mf 20), .int (mf 21), .ref (b 22), .ref (b 23), .ref (b 24), .ref (b 25), .ref (b 26), .int (mf 27), .int (mf 28), .ref (b 29), .ref (b 30), .ref (b 31), .ref (b 32), .ref (b 33), .int (mf 34), .int (mf 35), .ref (b 36), .ref (b 37), .ref (b 38), .ref (b 39), .ref (b 40), .ref (b 41), .int (mf 42)]))] _ := hP.sub [0] rfl
            have hD : va_D A [(y, .inr (7, [.int (mf 0), .ref (b 1), .ref (b 2), .ref (b 3), .ref (b 4), .ref (b 5), .ref (b 6), .ref (b 7), .ref (b 8), .ref (b 9), .ref (b 10), .ref (b 11), .ref (b 12), .ref (b 13), .ref (b 14), .ref (b 15), .ref (b 16), .ref (b 17), .ref (b 18), .ref (b 19), .int (mf 20), .int (mf 21), .ref (b 22), .ref (b 23), .ref (b 24), .ref (b 25), .ref (b 26), .int (mf 27), .int (mf 28), .ref (b 29), .ref (b 30), .ref (b 31), .ref (b 32), .ref (b 33), .int (mf 34), .int (mf 35), .ref (b 36), .ref (b 37), .ref (b 38), .ref (b 39), .ref (b 40), .ref (b 41), .int (mf 42)]))] := hD.sub [0] (by decide) rfl
            refine wrVI (rest := []) (q0 := 0) ⟨hx, hb, hml, hown, hts⟩ (c_X7_refuse l G y b mf 2) mi_yX7_refuse mv_yX7_refuse ml_X7_131 ⟨rfl, rfl, Nat.le_of_ble_eq_true rfl, Nat.le_of_ble_eq_true rfl⟩ hK hP hD [0] rfl (by decide) rfl rfl rfl hl.1 rfl (Nat.le_of_ble_eq_true rfl) dX7_open_49 ⟨Nat.zero_le _, Nat.zero_le _⟩ hS hA (fun r15 w16 H locs hw16 hP hS => ?_)
            obtain ⟨rfl, rfl⟩ := hw16
            have hP : PP G [(y, .inr (7, [.int 2, .ref (b 1), .ref (b 2), .ref (b 3), .ref (b 4), .ref (b 5), .ref (b 6), .ref (b 7), .ref (b 8), .ref (b 9), .ref (b 10), .ref (b 11), .ref (b 12), .ref (b 13), .ref (b 14), .ref (b 15), .ref (b 16), .ref (b 17), .ref (b 18), .ref (b 19), .int (mf 20), .int (mf 21), .ref (b 22), .ref (b 23), .ref (b 24), .ref (b 25), .ref (b 26), .int (mf 27), .int (mf 28), .ref (b 29), .ref (b 30), .ref (b 31), .ref (b 32), .ref (b 33), .int (mf 34), .int (mf 35), .ref (b 36), .ref (b 37), .ref (b 38), .ref (b 39), .ref (b 40), .ref (b 41), .int (mf 42)]))] H := hP rfl
            have hD : va_D A [(y, .inr (7, [.int 2, .ref (b 1), .ref (b 2), .ref (b 3), .ref (b 4), .ref (b 5), .ref (b 6), .ref (b 7), .ref (b 8), .ref (b 9), .ref (b 10), .ref (b 11), .ref (b 12), .ref (b 13), .ref (b 14), .ref (b 15), .ref (b 16), .ref (b 17), .ref (b 18), .ref (b 19), .int (mf 20), .int (mf 21), .ref (b 22), .ref (b 23), .ref (b 24), .ref (b 25), .ref (b 26), .int (mf 27), .int (mf 28), .ref (b 29), .ref (b 30), .ref (b 31), .ref (b 32), .ref (b 33), .int (mf 34), .int (mf 35), .ref (b 36), .ref (b 37), .ref (b 38), .ref (b 39), .ref (b 40), .ref (b 41), .int (mf 42)]))] := D_same hD rfl
            exact wr_zret hx hb hr hlocks (Or.inl rfl) hS hP (Or.inr ⟨fun h => h.2.2.2.2.1 c14, rfl⟩) dX7_open_52
          · refine lv_iload_n hx hb dX7_open_41 rfl (lv_at hl 3 rfl) ?_
            refine lv_bipush (v := 12) hx hb dX7_open_42 (by decide) ?_
            refine lv_icmp_le (tgt := 53) hx hb dX7_open_44 (by decide) (fun c17 => ?_) (fun c17 => ?_)
            · refine lv_aload_n hx hb dX7_open_53 rfl (lv_at hl 0 rfl) ?_
              refine va_get (D := G.1) (ci := 7) (v := .ref (b 1)) (C := RX7) (T := TX7) (N := 43) hx hb hts inX7 hown hK.1 hP 0 rfl rfl 1 (by decide) (hts _ mf_X7_7) (fun _ h9 => h9) rfl dX7_open_54 ?_
              refine lv_iload_n hx hb dX7_open_57 rfl (lv_at hl 1 rfl) ?_
              refine lv_iconst (v := 1) hx hb dX7_open_58 (by decide) ?_
              refine xzast (x := 1) hx hb hK hP hD hS 1 (j) (ej) (hj) (by omega) (Or.inr rfl) rfl dX7_open_59 (fun H locs hP hD hS => ?_)
              have hP : PP G [(y, .inr (7, [.int (mf 0), .ref (b 1), .ref (b 2), .ref (b 3), .ref (b 4), .ref (b 5), .ref (b 6), .ref (b 7), .ref (b 8), .ref (b 9), .ref (b 10), .ref (b 11), .ref (b 12), .ref (b 13), .ref (b 14), .ref (b 15), .ref (b 16), .ref (b 17), .ref (b 18), .ref (b 19), .int (mf 20), .int (mf 21), .ref (b 22), .ref (b 23), .ref (b 24), .ref (b 25), .ref (b 26), .int (mf 27), .int (mf 28), .ref (b 29), .ref (b 30), .ref (b 31), .ref (b 32), .ref (b 33), .int (mf 34), .int (mf 35), .ref (b 36), .ref (b 37), .ref (b 38), .ref (b 39), .ref (b 40), .ref (b 41), .int (mf 42)])), ((b 1), .inl (G.2.2.1, 6, .inl (upd (mr 1) (j) (1)))), ((b 2), .inl (G.2.1, 6, .inl (mr 2))), ((b 3), .inl (G.2.1, 6, .inl (mr 3))), ((b 4), .inl (G.2.1, 36, .inl (mr 4))), ((b 5), .inl (G.2.1, 864, .inl (mr 5))), ((b 6), .inl (G.2.1, 864, .inl (mr 6))), ((b 7), .inl (G.2.1, 864, .inl (mr 7))), ((b 9), .inl (G.2.2.1, 864, .inl (mr 9))), ((b 10), .inl (G.2.2.1, 864, .inl (mr 10))), ((b 11), .inl (G.2.1, 72, .inl (mr 11))), ((b 12), .inl (G.2.1, 6, .inl (mr 12)))] H := hP
              have hD : va_D A [(y, .inr (7, [.int (mf 0), .ref (b 1), .ref (b 2), .ref (b 3), .ref (b 4), .ref (b 5), .ref (b 6), .ref (b 7), .ref (b 8), .ref (b 9), .ref (b 10), .ref (b 11), .ref (b 12), .ref (b 13), .ref (b 14), .ref (b 15), .ref (b 16), .ref (b 17), .ref (b 18), .ref (b 19), .int (mf 20), .int (mf 21), .ref (b 22), .ref (b 23), .ref (b 24), .ref (b 25), .ref (b 26), .int (mf 27), .int (mf 28), .ref (b 29), .ref (b 30), .ref (b 31), .ref (b 32), .ref (b 33), .int (mf 34), .int (mf 35), .ref (b 36), .ref (b 37), .ref (b 38), .ref (b 39), .ref (b 40), .ref (b 41), .int (mf 42)])), ((b 1), .inl (G.2.2.1, 6, .inl (upd (mr 1) (j) (1)))), ((b 2), .inl (G.2.1, 6, .inl (mr 2))), ((b 3), .inl (G.2.1, 6, .inl (mr 3))), ((b 4), .inl (G.2.1, 36, .inl (mr 4))), ((b 5), .inl (G.2.1, 864, .inl (mr 5))), ((b 6), .inl (G.2.1, 864, .inl (mr 6))), ((b 7), .inl (G.2.1, 864, .inl (mr 7))), ((b 9), .inl (G.2.2.1, 864, .inl (mr 9))), ((b 10), .inl (G.2.2.1, 864, .inl (mr 10))), ((b 11), .inl (G.2.1, 72, .inl (mr 11))), ((b 12), .inl (G.2.1, 6, .inl (mr 12)))] := hD
              refine lv_aload_n hx hb dX7_open_60 rfl (lv_at hl 0 rfl) ?_
              refine va_get (D := G.1) (ci := 7) (v := .ref (b 2)) (C := RX7) (T := TX7) (N := 43) hx hb hts inX7 hown hK.1 hP 0 rfl rfl 2 (by decide) (hts _ mf_X7_13) (fun _ h9 => h9) rfl dX7_open_61 ?_
              refine lv_iload_n hx hb dX7_open_64 rfl (lv_at hl 1 rfl) ?_
              refine lv_iload_n hx hb dX7_open_65 rfl (lv_at hl 2 rfl) ?_
              refine xiast (x := p2) hx hb hK hP hD hS 2 (j) (ej) (hj) (by omega) rfl dX7_open_66 (fun H locs hP hD hS => ?_)
              have hP : PP G [(y, .inr (7, [.int (mf 0), .ref (b 1), .ref (b 2), .ref (b 3), .ref (b 4), .ref (b 5), .ref (b 6), .ref (b 7), .ref (b 8), .ref (b 9), .ref (b 10), .ref (b 11), .ref (b 12), .ref (b 13), .ref (b 14), .ref (b 15), .ref (b 16), .ref (b 17), .ref (b 18), .ref (b 19), .int (mf 20), .int (mf 21), .ref (b 22), .ref (b 23), .ref (b 24), .ref (b 25), .ref (b 26), .int (mf 27), .int (mf 28), .ref (b 29), .ref (b 30), .ref (b 31), .ref (b 32), .ref (b 33), .int (mf 34), .int (mf 35), .ref (b 36), .ref (b 37), .ref (b 38), .ref (b 39), .ref (b 40), .ref (b 41), .int (mf 42)])), ((b 1), .inl (G.2.2.1, 6, .inl (upd (mr 1) (j) (1)))), ((b 2), .inl (G.2.1, 6, .inl (upd (mr 2) (j) (p2)))), ((b 3), .inl (G.2.1, 6, .inl (mr 3))), ((b 4), .inl (G.2.1, 36, .inl (mr 4))), ((b 5), .inl (G.2.1, 864, .inl (mr 5))), ((b 6), .inl (G.2.1, 864, .inl (mr 6))), ((b 7), .inl (G.2.1, 864, .inl (mr 7))), ((b 9), .inl (G.2.2.1, 864, .inl (mr 9))), ((b 10), .inl (G.2.2.1, 864, .inl (mr 10))), ((b 11), .inl (G.2.1, 72, .inl (mr 11))), ((b 12), .inl (G.2.1, 6, .inl (mr 12)))] H := hP
              have hD : va_D A [(y, .inr (7, [.int (mf 0), .ref (b 1), .ref (b 2), .ref (b 3), .ref (b 4), .ref (b 5), .ref (b 6), .ref (b 7), .ref (b 8), .ref (b 9), .ref (b 10), .ref (b 11), .ref (b 12), .ref (b 13), .ref (b 14), .ref (b 15), .ref (b 16), .ref (b 17), .ref (b 18), .ref (b 19), .int (mf 20), .int (mf 21), .ref (b 22), .ref (b 23), .ref (b 24), .ref (b 25), .ref (b 26), .int (mf 27), .int (mf 28), .ref (b 29), .ref (b 30), .ref (b 31), .ref (b 32), .ref (b 33), .int (mf 34), .int (mf 35), .ref (b 36), .ref (b 37), .ref (b 38), .ref (b 39), .ref (b 40), .ref (b 41), .int (mf 42)])), ((b 1), .inl (G.2.2.1, 6, .inl (upd (mr 1) (j) (1)))), ((b 2), .inl (G.2.1, 6, .inl (upd (mr 2) (j) (p2)))), ((b 3), .inl (G.2.1, 6, .inl (mr 3))), ((b 4), .inl (G.2.1, 36, .inl (mr 4))), ((b 5), .inl (G.2.1, 864, .inl (mr 5))), ((b 6), .inl (G.2.1, 864, .inl (mr 6))), ((b 7), .inl (G.2.1, 864, .inl (mr 7))), ((b 9), .inl (G.2.2.1, 864, .inl (mr 9))), ((b 10), .inl (G.2.2.1, 864, .inl (mr 10))), ((b 11), .inl (G.2.1, 72, .inl (mr 11))), ((b 12), .inl (G.2.1, 6, .inl (mr 12)))] := hD
              refine lv_aload_n hx hb dX7_open_67 rfl (lv_at hl 0 rfl) ?_
              refine va_get (D := G.1) (ci := 7) (v := .ref (b 3)) (C := RX7) (T := TX7) (N := 43) hx hb hts inX7 hown hK.1 hP 0 rfl rfl 3 (by decide) (hts _ mf_X7_17) (fun _ h9 => h9) rfl dX7_open_68 ?_
              refine lv_iload_n hx hb dX7_open_71 rfl (lv_at hl 1 rfl) ?_
              refine lv_iload_n hx hb dX7_open_72 rfl (lv_at hl 3 rfl) ?_
              refine xiast (x := p3) hx hb hK hP hD hS 3 (j) (ej) (hj) (by omega) rfl dX7_open_73 (fun H locs hP hD hS => ?_)
              have hP : PP G [(y, .inr (7, [.int (mf 0), .ref (b 1), .ref (b 2), .ref (b 3), .ref (b 4), .ref (b 5), .ref (b 6), .ref (b 7), .ref (b 8), .ref (b 9), .ref (b 10), .ref (b 11), .ref (b 12), .ref (b 13), .ref (b 14), .ref (b 15), .ref (b 16), .ref (b 17), .ref (b 18), .ref (b 19), .int (mf 20), .int (mf 21), .ref (b 22), .ref (b 23), .ref (b 24), .ref (b 25), .ref (b 26), .int (mf 27), .int (mf 28), .ref (b 29), .ref (b 30), .ref (b 31), .ref (b 32), .ref (b 33), .int (mf 34), .int (mf 35), .ref (b 36), .ref (b 37), .ref (b 38), .ref (b 39), .ref (b 40), .ref (b 41), .int (mf 42)])), ((b 1), .inl (G.2.2.1, 6, .inl (upd (mr 1) (j) (1)))), ((b 2), .inl (G.2.1, 6, .inl (upd (mr 2) (j) (p2)))), ((b 3), .inl (G.2.1, 6, .inl (upd (mr 3) (j) (p3)))), ((b 4), .inl (G.2.1, 36, .inl (mr 4))), ((b 5), .inl (G.2.1, 864, .inl (mr 5))), ((b 6), .inl (G.2.1, 864, .inl (mr 6))), ((b 7), .inl (G.2.1, 864, .inl (mr 7))), ((b 9), .inl (G.2.2.1, 864, .inl (mr 9))), ((b 10), .inl (G.2.2.1, 864, .inl (mr 10))), ((b 11), .inl (G.2.1, 72, .inl (mr 11))), ((b 12), .inl (G.2.1, 6, .inl (mr 12)))] H := hP
              have hD : va_D A [(y, .inr (7, [.int (mf 0), .ref (b 1), .ref (b 2), .ref (b 3), .ref (b 4), .ref (b 5), .ref (b 6), .ref (b 7), .ref (b 8), .ref (b 9), .ref (b 10), .ref (b 11), .ref (b 12), .ref (b 13), .ref (b 14), .ref (b 15), .ref (b 16), .ref (b 17), .ref (b 18), .ref (b 19), .int (mf 20), .int (mf 21), .ref (b 22), .ref (b 23), .ref (b 24), .ref (b 25), .ref (b 26), .int (mf 27), .int (mf 28), .ref (b 29), .ref (b 30), .ref (b 31), .ref (b 32), .ref (b 33), .int (mf 34), .int (mf 35), .ref (b 36), .ref (b 37), .ref (b 38), .ref (b 39), .ref (b 40), .ref (b 41), .int (mf 42)])), ((b 1), .inl (G.2.2.1, 6, .inl (upd (mr 1) (j) (1)))), ((b 2), .inl (G.2.1, 6, .inl (upd (mr 2) (j) (p2)))), ((b 3), .inl (G.2.1, 6, .inl (upd (mr 3) (j) (p3)))), ((b 4), .inl (G.2.1, 36, .inl (mr 4))), ((b 5), .inl (G.2.1, 864, .inl (mr 5))), ((b 6), .inl (G.2.1, 864, .inl (mr 6))), ((b 7), .inl (G.2.1, 864, .inl (mr 7))), ((b 9), .inl (G.2.2.1, 864, .inl (mr 9))), ((b 10), .inl (G.2.2.1, 864, .inl (mr 10))), ((b 11), .inl (G.2.1, 72, .inl (mr 11))), ((b 12), .inl (G.2.1, 6, .inl (mr 12)))] := hD
              refine lv_aload_n hx hb dX7_open_74 rfl (lv_at hl 0 rfl) ?_
              refine va_get (D := G.1) (ci := 7) (v := .ref (b 12)) (C := RX7) (T := TX7) (N := 43) hx hb hts inX7 hown hK.1 hP 0 rfl rfl 12 (by decide) (hts _ mf_X7_44) (fun _ h9 => h9) rfl dX7_open_75 ?_
              refine lv_iload_n hx hb dX7_open_78 rfl (lv_at hl 1 rfl) ?_
              refine lv_iconst (v := 0) hx hb dX7_open_79 (by decide) ?_
              refine xiast (x := 0) hx hb hK hP hD hS 11 (j) (ej) (hj) (by omega) rfl dX7_open_80 (fun H locs hP hD hS => ?_)
              have hP : PP G [(y, .inr (7, [.int (mf 0), .ref (b 1), .ref (b 2), .ref (b 3), .ref (b 4), .ref (b 5), .ref (b 6), .ref (b 7), .ref (b 8), .ref (b 9), .ref (b 10), .ref (b 11), .ref (b 12), .ref (b 13), .ref (b 14), .ref (b 15), .ref (b 16), .ref (b 17), .ref (b 18), .ref (b 19), .int (mf 20), .int (mf 21), .ref (b 22), .ref (b 23), .ref (b 24), .ref (b 25), .ref (b 26), .int (mf 27), .int (mf 28), .ref (b 29), .ref (b 30), .ref (b 31), .ref (b 32), .ref (b 33), .int (mf 34), .int (mf 35), .ref (b 36), .ref (b 37), .ref (b 38), .ref (b 39), .ref (b 40), .ref (b 41), .int (mf 42)])), ((b 1), .inl (G.2.2.1, 6, .inl (upd (mr 1) (j) (1)))), ((b 2), .inl (G.2.1, 6, .inl (upd (mr 2) (j) (p2)))), ((b 3), .inl (G.2.1, 6, .inl (upd (mr 3) (j) (p3)))), ((b 4), .inl (G.2.1, 36, .inl (mr 4))), ((b 5), .inl (G.2.1, 864, .inl (mr 5))), ((b 6), .inl (G.2.1, 864, .inl (mr 6))), ((b 7), .inl (G.2.1, 864, .inl (mr 7))), ((b 9), .inl (G.2.2.1, 864, .inl (mr 9))), ((b 10), .inl (G.2.2.1, 864, .inl (mr 10))), ((b 11), .inl (G.2.1, 72, .inl (mr 11))), ((b 12), .inl (G.2.1, 6, .inl (upd (mr 12) (j) (0))))] H := hP
              have hD : va_D A [(y, .inr (7, [.int (mf 0), .ref (b 1), .ref (b 2), .ref (b 3), .ref (b 4), .ref (b 5), .ref (b 6), .ref (b 7), .ref (b 8), .ref (b 9), .ref (b 10), .ref (b 11), .ref (b 12), .ref (b 13), .ref (b 14), .ref (b 15), .ref (b 16), .ref (b 17), .ref (b 18), .ref (b 19), .int (mf 20), .int (mf 21), .ref (b 22), .ref (b 23), .ref (b 24), .ref (b 25), .ref (b 26), .int (mf 27), .int (mf 28), .ref (b 29), .ref (b 30), .ref (b 31), .ref (b 32), .ref (b 33), .int (mf 34), .int (mf 35), .ref (b 36), .ref (b 37), .ref (b 38), .ref (b 39), .ref (b 40), .ref (b 41), .int (mf 42)])), ((b 1), .inl (G.2.2.1, 6, .inl (upd (mr 1) (j) (1)))), ((b 2), .inl (G.2.1, 6, .inl (upd (mr 2) (j) (p2)))), ((b 3), .inl (G.2.1, 6, .inl (upd (mr 3) (j) (p3)))), ((b 4), .inl (G.2.1, 36, .inl (mr 4))), ((b 5), .inl (G.2.1, 864, .inl (mr 5))), ((b 6), .inl (G.2.1, 864, .inl (mr 6))), ((b 7), .inl (G.2.1, 864, .inl (mr 7))), ((b 9), .inl (G.2.2.1, 864, .inl (mr 9))), ((b 10), .inl (G.2.2.1, 864, .inl (mr 10))), ((b 11), .inl (G.2.1, 72, .inl (mr 11))), ((b 12), .inl (G.2.1, 6, .inl (upd (mr 12) (j) (0))))] := hD
              refine lv_aload_n hx hb dX7_open_81 rfl (lv_at hl 0 rfl) ?_
              refine va_get (D := G.1) (ci := 7) (v := .ref (b 4)) (C := RX7) (T := TX7) (N := 43) hx hb hts inX7 hown hK.1 hP 0 rfl rfl 4 (by decide) (hts _ mf_X7_20) (fun _ h9 => h9) rfl dX7_open_82 ?_
              refine lv_bipush (v := 6) hx hb dX7_open_85 (by decide) ?_
              refine lv_iload_n hx hb dX7_open_87 rfl (lv_at hl 1 rfl) ?_
              refine lv_imul hx hb dX7_open_88 ?_
              refine lv_topi (fun v18 ev18 => ?_)
              refine lv_iconst (v := 3) hx hb dX7_open_89 (by decide) ?_
              refine xiast (x := 3) hx hb hK hP hD hS 4 (6 * j) (nI_mulL 6 ev18 ej) (by omega) (by omega) rfl dX7_open_90 (fun H locs hP hD hS => ?_)
              have hP : PP G [(y, .inr (7, [.int (mf 0), .ref (b 1), .ref (b 2), .ref (b 3), .ref (b 4), .ref (b 5), .ref (b 6), .ref (b 7), .ref (b 8), .ref (b 9), .ref (b 10), .ref (b 11), .ref (b 12), .ref (b 13), .ref (b 14), .ref (b 15), .ref (b 16), .ref (b 17), .ref (b 18), .ref (b 19), .int (mf 20), .int (mf 21), .ref (b 22), .ref (b 23), .ref (b 24), .ref (b 25), .ref (b 26), .int (mf 27), .int (mf 28), .ref (b 29), .ref (b 30), .ref (b 31), .ref (b 32), .ref (b 33), .int (mf 34), .int (mf 35), .ref (b 36), .ref (b 37), .ref (b 38), .ref (b 39), .ref (b 40), .ref (b 41), .int (mf 42)])), ((b 1), .inl (G.2.2.1, 6, .inl (upd (mr 1) (j) (1)))), ((b 2), .inl (G.2.1, 6, .inl (upd (mr 2) (j) (p2)))), ((b 3), .inl (G.2.1, 6, .inl (upd (mr 3) (j) (p3)))), ((b 4), .inl (G.2.1, 36, .inl (upd (mr 4) (6 * j) (3)))), ((b 5), .inl (G.2.1, 864, .inl (mr 5))), ((b 6), .inl (G.2.1, 864, .inl (mr 6))), ((b 7), .inl (G.2.1, 864, .inl (mr 7))), ((b 9), .inl (G.2.2.1, 864, .inl (mr 9))), ((b 10), .inl (G.2.2.1, 864, .inl (mr 10))), ((b 11), .inl (G.2.1, 72, .inl (mr 11))), ((b 12), .inl (G.2.1, 6, .inl (upd (mr 12) (j) (0))))] H := hP
              have hD : va_D A [(y, .inr (7, [.int (mf 0), .ref (b 1), .ref (b 2), .ref (b 3), .ref (b 4), .ref (b 5), .ref (b 6), .ref (b 7), .ref (b 8), .ref (b 9), .ref (b 10), .ref (b 11), .ref (b 12), .ref (b 13), .ref (b 14), .ref (b 15), .ref (b 16), .ref (b 17), .ref (b 18), .ref (b 19), .int (mf 20), .int (mf 21), .ref (b 22), .ref (b 23), .ref (b 24), .ref (b 25), .ref (b 26), .int (mf 27), .int (mf 28), .ref (b 29), .ref (b 30), .ref (b 31), .ref (b 32), .ref (b 33), .int (mf 34), .int (mf 35), .ref (b 36), .ref (b 37), .ref (b 38), .ref (b 39), .ref (b 40), .ref (b 41), .int (mf 42)])), ((b 1), .inl (G.2.2.1, 6, .inl (upd (mr 1) (j) (1)))), ((b 2), .inl (G.2.1, 6, .inl (upd (mr 2) (j) (p2)))), ((b 3), .inl (G.2.1, 6, .inl (upd (mr 3) (j) (p3)))), ((b 4), .inl (G.2.1, 36, .inl (upd (mr 4) (6 * j) (3)))), ((b 5), .inl (G.2.1, 864, .inl (mr 5))), ((b 6), .inl (G.2.1, 864, .inl (mr 6))), ((b 7), .inl (G.2.1, 864, .inl (mr 7))), ((b 9), .inl (G.2.2.1, 864, .inl (mr 9))), ((b 10), .inl (G.2.2.1, 864, .inl (mr 10))), ((b 11), .inl (G.2.1, 72, .inl (mr 11))), ((b 12), .inl (G.2.1, 6, .inl (upd (mr 12) (j) (0))))] := hD
              refine lv_aload_n hx hb dX7_open_91 rfl (lv_at hl 0 rfl) ?_
              refine va_get (D := G.1) (ci := 7) (v := .ref (b 4)) (C := RX7) (T := TX7) (N := 43) hx hb hts inX7 hown hK.1 hP 0 rfl rfl 4 (by decide) (hts _ mf_X7_20) (fun _ h9 => h9) rfl dX7_open_92 ?_
              refine lv_bipush (v := 6) hx hb dX7_open_95 (by decide) ?_
              refine lv_iload_n hx hb dX7_open_97 rfl (lv_at hl 1 rfl) ?_
              refine lv_imul hx hb dX7_open_98 ?_
              refine lv_topi (fun v19 ev19 => ?_)
              refine lv_iconst (v := 1) hx hb dX7_open_99 (by decide) ?_
              refine lv_iadd hx hb dX7_open_100 ?_
              refine lv_topi (fun v20 ev20 => ?_)
              refine lv_iconst (v := 2) hx hb dX7_open_101 (by decide) ?_
              refine xiast (x := 2) hx hb hK hP hD hS 4 (6 * j + 1) (nI_plus (j := 1) ev20 (nI_mulL 6 ev19 ej) rfl) (by omega) (by omega) rfl dX7_open_102 (fun H locs hP hD hS => ?_)
              have hP : PP G [(y, .inr (7, [.int (mf 0), .ref (b 1), .ref (b 2), .ref (b 3), .ref (b 4), .ref (b 5), .ref (b 6), .ref (b 7), .ref (b 8), .ref (b 9), .ref (b 10), .ref (b 11), .ref (b 12), .ref (b 13), .ref (b 14), .ref (b 15), .ref (b 16), .ref (b 17), .ref (b 18), .ref (b 19), .int (mf 20), .int (mf 21), .ref (b 22), .ref (b 23), .ref (b 24), .ref (b 25), .ref (b 26), .int (mf 27), .int (mf 28), .ref (b 29), .ref (b 30), .ref (b 31), .ref (b 32), .ref (b 33), .int (mf 34), .int (mf 35), .ref (b 36), .ref (b 37), .ref (b 38), .ref (b 39), .ref (b 40), .ref (b 41), .int (mf 42)])), ((b 1), .inl (G.2.2.1, 6, .inl (upd (mr 1) (j) (1)))), ((b 2), .inl (G.2.1, 6, .inl (upd (mr 2) (j) (p2)))), ((b 3), .inl (G.2.1, 6, .inl (upd (mr 3) (j) (p3)))), ((b 4), .inl (G.2.1, 36, .inl (upd (upd (mr 4) (6 * j) (3)) (6 * j + 1) (2)))), ((b 5), .inl (G.2.1, 864, .inl (mr 5))), ((b 6), .inl (G.2.1, 864, .inl (mr 6))), ((b 7), .inl (G.2.1, 864, .inl (mr 7))), ((b 9), .inl (G.2.2.1, 864, .inl (mr 9))), ((b 10), .inl (G.2.2.1, 864, .inl (mr 10))), ((b 11), .inl (G.2.1, 72, .inl (mr 11))), ((b 12), .inl (G.2.1, 6, .inl (upd (mr 12) (j) (0))))] H := hP
              have hD : va_D A [(y, .inr (7, [.int (mf 0), .ref (b 1), .ref (b 2), .ref (b 3), .ref (b 4), .ref (b 5), .ref (b 6), .ref (b 7), .ref (b 8), .ref (b 9), .ref (b 10), .ref (b 11), .ref (b 12), .ref (b 13), .ref (b 14), .ref (b 15), .ref (b 16), .ref (b 17), .ref (b 18), .ref (b 19), .int (mf 20), .int (mf 21), .ref (b 22), .ref (b 23), .ref (b 24), .ref (b 25), .ref (b 26), .int (mf 27), .int (mf 28), .ref (b 29), .ref (b 30), .ref (b 31), .ref (b 32), .ref (b 33), .int (mf 34), .int (mf 35), .ref (b 36), .ref (b 37), .ref (b 38), .ref (b 39), .ref (b 40), .ref (b 41), .int (mf 42)])), ((b 1), .inl (G.2.2.1, 6, .inl (upd (mr 1) (j) (1)))), ((b 2), .inl (G.2.1, 6, .inl (upd (mr 2) (j) (p2)))), ((b 3), .inl (G.2.1, 6, .inl (upd (mr 3) (j) (p3)))), ((b 4), .inl (G.2.1, 36, .inl (upd (upd (mr 4) (6 * j) (3)) (6 * j + 1) (2)))), ((b 5), .inl (G.2.1, 864, .inl (mr 5))), ((b 6), .inl (G.2.1, 864, .inl (mr 6))), ((b 7), .inl (G.2.1, 864, .inl (mr 7))), ((b 9), .inl (G.2.2.1, 864, .inl (mr 9))), ((b 10), .inl (G.2.2.1, 864, .inl (mr 10))), ((b 11), .inl (G.2.1, 72, .inl (mr 11))), ((b 12), .inl (G.2.1, 6, .inl (upd (mr 12) (j) (0))))] := hD
              refine lv_aload_n hx hb dX7_open_103 rfl (lv_at hl 0 rfl) ?_
              refine va_get (D := G.1) (ci := 7) (v := .ref (b 4)) (C := RX7) (T := TX7) (N := 43) hx hb hts inX7 hown hK.1 hP 0 rfl rfl 4 (by decide) (hts _ mf_X7_20) (fun _ h9 => h9) rfl dX7_open_104 ?_
              refine lv_bipush (v := 6) hx hb dX7_open_107 (by decide) ?_
              refine lv_iload_n hx hb dX7_open_109 rfl (lv_at hl 1 rfl) ?_
              refine lv_imul hx hb dX7_open_110 ?_
              refine lv_topi (fun v21 ev21 => ?_)
              refine lv_iconst (v := 2) hx hb dX7_open_111 (by decide) ?_
              refine lv_iadd hx hb dX7_open_112 ?_
              refine lv_topi (fun v22 ev22 => ?_)
              refine lv_bipush (v := 10) hx hb dX7_open_113 (by decide) ?_
              refine xiast (x := 10) hx hb hK hP hD hS 4 (6 * j + 2) (nI_plus (j := 2) ev22 (nI_mulL 6 ev21 ej) rfl) (by omega) (by omega) rfl dX7_open_115 (fun H locs hP hD hS => ?_)
              have hP : PP G [(y, .inr (7, [.int (mf 0), .ref (b 1), .ref (b 2), .ref (b 3), .ref (b 4), .ref (b 5), .ref (b 6), .ref (b 7), .ref (b 8), .ref (b 9), .ref (b 10), .ref (b 11), .ref (b 12), .ref (b 13), .ref (b 14), .ref (b 15), .ref (b 16), .ref (b 17), .ref (b 18), .ref (b 19), .int (mf 20), .int (mf 21), .ref (b 22), .ref (b 23), .ref (b 24), .ref (b 25), .ref (b 26), .int (mf 27), .int (mf 28), .ref (b 29), .ref (b 30), .ref (b 31), .ref (b 32), .ref (b 33), .int (mf 34), .int (mf 35), .ref (b 36), .ref (b 37), .ref (b 38), .ref (b 39), .ref (b 40), .ref (b 41), .int (mf 42)])), ((b 1), .inl (G.2.2.1, 6, .inl (upd (mr 1) (j) (1)))), ((b 2), .inl (G.2.1, 6, .inl (upd (mr 2) (j) (p2)))), ((b 3), .inl (G.2.1, 6, .inl (upd (mr 3) (j) (p3)))), ((b 4), .inl (G.2.1, 36, .inl (upd (upd (upd (mr 4) (6 * j) (3)) (6 * j + 1) (2)) (6 * j + 2) (10)))), ((b 5), .inl (G.2.1, 864, .inl (mr 5))), ((b 6), .inl (G.2.1, 864, .inl (mr 6))), ((b 7), .inl (G.2.1, 864, .inl (mr 7))), ((b 9), .inl (G.2.2.1, 864, .inl (mr 9))), ((b 10), .inl (G.2.2.1, 864, .inl (mr 10))), ((b 11), .inl (G.2.1, 72, .inl (mr 11))), ((b 12), .inl (G.2.1, 6, .inl (upd (mr 12) (j) (0))))] H := hP
              have hD : va_D A [(y, .inr (7, [.int (mf 0), .ref (b 1), .ref (b 2), .ref (b 3), .ref (b 4), .ref (b 5), .ref (b 6), .ref (b 7), .ref (b 8), .ref (b 9), .ref (b 10), .ref (b 11), .ref (b 12), .ref (b 13), .ref (b 14), .ref (b 15), .ref (b 16), .ref (b 17), .ref (b 18), .ref (b 19), .int (mf 20), .int (mf 21), .ref (b 22), .ref (b 23), .ref (b 24), .ref (b 25), .ref (b 26), .int (mf 27), .int (mf 28), .ref (b 29), .ref (b 30), .ref (b 31), .ref (b 32), .ref (b 33), .int (mf 34), .int (mf 35), .ref (b 36), .ref (b 37), .ref (b 38), .ref (b 39), .ref (b 40), .ref (b 41), .int (mf 42)])), ((b 1), .inl (G.2.2.1, 6, .inl (upd (mr 1) (j) (1)))), ((b 2), .inl (G.2.1, 6, .inl (upd (mr 2) (j) (p2)))), ((b 3), .inl (G.2.1, 6, .inl (upd (mr 3) (j) (p3)))), ((b 4), .inl (G.2.1, 36, .inl (upd (upd (upd (mr 4) (6 * j) (3)) (6 * j + 1) (2)) (6 * j + 2) (10)))), ((b 5), .inl (G.2.1, 864, .inl (mr 5))), ((b 6), .inl (G.2.1, 864, .inl (mr 6))), ((b 7), .inl (G.2.1, 864, .inl (mr 7))), ((b 9), .inl (G.2.2.1, 864, .inl (mr 9))), ((b 10), .inl (G.2.2.1, 864, .inl (mr 10))), ((b 11), .inl (G.2.1, 72, .inl (mr 11))), ((b 12), .inl (G.2.1, 6, .inl (upd (mr 12) (j) (0))))] := hD
              refine lv_aload_n hx hb dX7_open_116 rfl (lv_at hl 0 rfl) ?_
              refine va_get (D := G.1) (ci := 7) (v := .ref (b 4)) (C := RX7) (T := TX7) (N := 43) hx hb hts inX7 hown hK.1 hP 0 rfl rfl 4 (by decide) (hts _ mf_X7_20) (fun _ h9 => h9) rfl dX7_open_117 ?_
              refine lv_bipush (v := 6) hx hb dX7_open_120 (by decide) ?_
              refine lv_iload_n hx hb dX7_open_122 rfl (lv_at hl 1 rfl) ?_
              refine lv_imul hx hb dX7_open_123 ?_
              refine lv_topi (fun v23 ev23 => ?_)
              refine lv_iconst (v := 3) hx hb dX7_open_124 (by decide) ?_
              refine lv_iadd hx hb dX7_open_125 ?_
              refine lv_topi (fun v24 ev24 => ?_)
              refine lv_iconst (v := 1) hx hb dX7_open_126 (by decide) ?_
              refine xiast (x := 1) hx hb hK hP hD hS 4 (6 * j + 3) (nI_plus (j := 3) ev24 (nI_mulL 6 ev23 ej) rfl) (by omega) (by omega) rfl dX7_open_127 (fun H locs hP hD hS => ?_)
              have hP : PP G [(y, .inr (7, [.int (mf 0), .ref (b 1), .ref (b 2), .ref (b 3), .ref (b 4), .ref (b 5), .ref (b 6), .ref (b 7), .ref (b 8), .ref (b 9), .ref (b 10), .ref (b 11), .ref (b 12), .ref (b 13), .ref (b 14), .ref (b 15), .ref (b 16), .ref (b 17), .ref (b 18), .ref (b 19), .int (mf 20), .int (mf 21), .ref (b 22), .ref (b 23), .ref (b 24), .ref (b 25), .ref (b 26), .int (mf 27), .int (mf 28), .ref (b 29), .ref (b 30), .ref (b 31), .ref (b 32), .ref (b 33), .int (mf 34), .int (mf 35), .ref (b 36), .ref (b 37), .ref (b 38), .ref (b 39), .ref (b 40), .ref (b 41), .int (mf 42)])), ((b 1), .inl (G.2.2.1, 6, .inl (upd (mr 1) (j) (1)))), ((b 2), .inl (G.2.1, 6, .inl (upd (mr 2) (j) (p2)))), ((b 3), .inl (G.2.1, 6, .inl (upd (mr 3) (j) (p3)))), ((b 4), .inl (G.2.1, 36, .inl (upd (upd (upd (upd (mr 4) (6 * j) (3)) (6 * j + 1) (2)) (6 * j + 2) (10)) (6 * j + 3) (1)))), ((b 5), .inl (G.2.1, 864, .inl (mr 5))), ((b 6), .inl (G.2.1, 864, .inl (mr 6))), ((b 7), .inl (G.2.1, 864, .inl (mr 7))), ((b 9), .inl (G.2.2.1, 864, .inl (mr 9))), ((b 10), .inl (G.2.2.1, 864, .inl (mr 10))), ((b 11), .inl (G.2.1, 72, .inl (mr 11))), ((b 12), .inl (G.2.1, 6, .inl (upd (mr 12) (j) (0))))] H := hP
              have hD : va_D A [(y, .inr (7, [.int (mf 0), .ref (b 1), .ref (b 2), .ref (b 3), .ref (b 4), .ref (b 5), .ref (b 6), .ref (b 7), .ref (b 8), .ref (b 9), .ref (b 10), .ref (b 11), .ref (b 12), .ref (b 13), .ref (b 14), .ref (b 15), .ref (b 16), .ref (b 17), .ref (b 18), .ref (b 19), .int (mf 20), .int (mf 21), .ref (b 22), .ref (b 23), .ref (b 24), .ref (b 25), .ref (b 26), .int (mf 27), .int (mf 28), .ref (b 29), .ref (b 30), .ref (b 31), .ref (b 32), .ref (b 33), .int (mf 34), .int (mf 35), .ref (b 36), .ref (b 37), .ref (b 38), .ref (b 39), .ref (b 40), .ref (b 41), .int (mf 42)])), ((b 1), .inl (G.2.2.1, 6, .inl (upd (mr 1) (j) (1)))), ((b 2), .inl (G.2.1, 6, .inl (upd (mr 2) (j) (p2)))), ((b 3), .inl (G.2.1, 6, .inl (upd (mr 3) (j) (p3)))), ((b 4), .inl (G.2.1, 36, .inl (upd (upd (upd (upd (mr 4) (6 * j) (3)) (6 * j + 1) (2)) (6 * j + 2) (10)) (6 * j + 3) (1)))), ((b 5), .inl (G.2.1, 864, .inl (mr 5))), ((b 6), .inl (G.2.1, 864, .inl (mr 6))), ((b 7), .inl (G.2.1, 864, .inl (mr 7))), ((b 9), .inl (G.2.2.1, 864, .inl (mr 9))), ((b 10), .inl (G.2.2.1, 864, .inl (mr 10))), ((b 11), .inl (G.2.1, 72, .inl (mr 11))), ((b 12), .inl (G.2.1, 6, .inl (upd (mr 12) (j) (0))))] := hD
              refine lv_aload_n hx hb dX7_open_128 rfl (lv_at hl 0 rfl) ?_
              refine va_get (D := G.1) (ci := 7) (v := .ref (b 4)) (C := RX7) (T := TX7) (N := 43) hx hb hts inX7 hown hK.1 hP 0 rfl rfl 4 (by decide) (hts _ mf_X7_20) (fun _ h9 => h9) rfl dX7_open_129 ?_
              refine lv_bipush (v := 6) hx hb dX7_open_132 (by decide) ?_
              refine lv_iload_n hx hb dX7_open_134 rfl (lv_at hl 1 rfl) ?_
              refine lv_imul hx hb dX7_open_135 ?_
              refine lv_topi (fun v25 ev25 => ?_)
              refine lv_iconst (v := 4) hx hb dX7_open_136 (by decide) ?_
              refine lv_iadd hx hb dX7_open_137 ?_
              refine lv_topi (fun v26 ev26 => ?_)
              refine lv_iconst (v := 1) hx hb dX7_open_138 (by decide) ?_
              refine xiast (x := 1) hx hb hK hP hD hS 4 (6 * j + 4) (nI_plus (j := 4) ev26 (nI_mulL 6 ev25 ej) rfl) (by omega) (by omega) rfl dX7_open_139 (fun H locs hP hD hS => ?_)
              have hP : PP G [(y, .inr (7, [.int (mf 0), .ref (b 1), .ref (b 2), .ref (b 3), .ref (b 4), .ref (b 5), .ref (b 6), .ref (b 7), .ref (b 8), .ref (b 9), .ref (b 10), .ref (b 11), .ref (b 12), .ref (b 13), .ref (b 14), .ref (b 15), .ref (b 16), .ref (b 17), .ref (b 18), .ref (b 19), .int (mf 20), .int (mf 21), .ref (b 22), .ref (b 23), .ref (b 24), .ref (b 25), .ref (b 26), .int (mf 27), .int (mf 28), .ref (b 29), .ref (b 30), .ref (b 31), .ref (b 32), .ref (b 33), .int (mf 34), .int (mf 35), .ref (b 36), .ref (b 37), .ref (b 38), .ref (b 39), .ref (b 40), .ref (b 41), .int (mf 42)])), ((b 1), .inl (G.2.2.1, 6, .inl (upd (mr 1) (j) (1)))), ((b 2), .inl (G.2.1, 6, .inl (upd (mr 2) (j) (p2)))), ((b 3), .inl (G.2.1, 6, .inl (upd (mr 3) (j) (p3)))), ((b 4), .inl (G.2.1, 36, .inl (upd (upd (upd (upd (upd (mr 4) (6 * j) (3)) (6 * j + 1) (2)) (6 * j + 2) (10)) (6 * j + 3) (1)) (6 * j + 4) (1)))), ((b 5), .inl (G.2.1, 864, .inl (mr 5))), ((b 6), .inl (G.2.1, 864, .inl (mr 6))), ((b 7), .inl (G.2.1, 864, .inl (mr 7))), ((b 9), .inl (G.2.2.1, 864, .inl (mr 9))), ((b 10), .inl (G.2.2.1, 864, .inl (mr 10))), ((b 11), .inl (G.2.1, 72, .inl (mr 11))), ((b 12), .inl (G.2.1, 6, .inl (upd (mr 12) (j) (0))))] H := hP
              have hD : va_D A [(y, .inr (7, [.int (mf 0), .ref (b 1), .ref (b 2), .ref (b 3), .ref (b 4), .ref (b 5), .ref (b 6), .ref (b 7), .ref (b 8), .ref (b 9), .ref (b 10), .ref (b 11), .ref (b 12), .ref (b 13), .ref (b 14), .ref (b 15), .ref (b 16), .ref (b 17), .ref (b 18), .ref (b 19), .int (mf 20), .int (mf 21), .ref (b 22), .ref (b 23), .ref (b 24), .ref (b 25), .ref (b 26), .int (mf 27), .int (mf 28), .ref (b 29), .ref (b 30), .ref (b 31), .ref (b 32), .ref (b 33), .int (mf 34), .int (mf 35), .ref (b 36), .ref (b 37), .ref (b 38), .ref (b 39), .ref (b 40), .ref (b 41), .int (mf 42)])), ((b 1), .inl (G.2.2.1, 6, .inl (upd (mr 1) (j) (1)))), ((b 2), .inl (G.2.1, 6, .inl (upd (mr 2) (j) (p2)))), ((b 3), .inl (G.2.1, 6, .inl (upd (mr 3) (j) (p3)))), ((b 4), .inl (G.2.1, 36, .inl (upd (upd (upd (upd (upd (mr 4) (6 * j) (3)) (6 * j + 1) (2)) (6 * j + 2) (10)) (6 * j + 3) (1)) (6 * j + 4) (1)))), ((b 5), .inl (G.2.1, 864, .inl (mr 5))), ((b 6), .inl (G.2.1, 864, .inl (mr 6))), ((b 7), .inl (G.2.1, 864, .inl (mr 7))), ((b 9), .inl (G.2.2.1, 864, .inl (mr 9))), ((b 10), .inl (G.2.2.1, 864, .inl (mr 10))), ((b 11), .inl (G.2.1, 72, .inl (mr 11))), ((b 12), .inl (G.2.1, 6, .inl (upd (mr 12) (j) (0))))] := hD
              refine lv_aload_n hx hb dX7_open_140 rfl (lv_at hl 0 rfl) ?_
              refine va_get (D := G.1) (ci := 7) (v := .ref (b 4)) (C := RX7) (T := TX7) (N := 43) hx hb hts inX7 hown hK.1 hP 0 rfl rfl 4 (by decide) (hts _ mf_X7_20) (fun _ h9 => h9) rfl dX7_open_141 ?_
              refine lv_bipush (v := 6) hx hb dX7_open_144 (by decide) ?_
              refine lv_iload_n hx hb dX7_open_146 rfl (lv_at hl 1 rfl) ?_
              refine lv_imul hx hb dX7_open_147 ?_
              refine lv_topi (fun v27 ev27 => ?_)
              refine lv_iconst (v := 5) hx hb dX7_open_148 (by decide) ?_
              refine lv_iadd hx hb dX7_open_149 ?_
              refine lv_topi (fun v28 ev28 => ?_)
              refine lv_iconst (v := 0) hx hb dX7_open_150 (by decide) ?_
              refine xiast (x := 0) hx hb hK hP hD hS 4 (6 * j + 5) (nI_plus (j := 5) ev28 (nI_mulL 6 ev27 ej) rfl) (by omega) (by omega) rfl dX7_open_151 (fun H locs hP hD hS => ?_)
              have hP : PP G [(y, .inr (7, [.int (mf 0), .ref (b 1), .ref (b 2), .ref (b 3), .ref (b 4), .ref (b 5), .ref (b 6), .ref (b 7), .ref (b 8), .ref (b 9), .ref (b 10), .ref (b 11), .ref (b 12), .ref (b 13), .ref (b 14), .ref (b 15), .ref (b 16), .ref (b 17), .ref (b 18), .ref (b 19), .int (mf 20), .int (mf 21), .ref (b 22), .ref (b 23), .ref (b 24), .ref (b 25), .ref (b 26), .int (mf 27), .int (mf 28), .ref (b 29), .ref (b 30), .ref (b 31), .ref (b 32), .ref (b 33), .int (mf 34), .int (mf 35), .ref (b 36), .ref (b 37), .ref (b 38), .ref (b 39), .ref (b 40), .ref (b 41), .int (mf 42)])), ((b 1), .inl (G.2.2.1, 6, .inl (upd (mr 1) (j) (1)))), ((b 2), .inl (G.2.1, 6, .inl (upd (mr 2) (j) (p2)))), ((b 3), .inl (G.2.1, 6, .inl (upd (mr 3) (j) (p3)))), ((b 4), .inl (G.2.1, 36, .inl (upd (upd (upd (upd (upd (upd (mr 4) (6 * j) (3)) (6 * j + 1) (2)) (6 * j + 2) (10)) (6 * j + 3) (1)) (6 * j + 4) (1)) (6 * j + 5) (0)))), ((b 5), .inl (G.2.1, 864, .inl (mr 5))), ((b 6), .inl (G.2.1, 864, .inl (mr 6))), ((b 7), .inl (G.2.1, 864, .inl (mr 7))), ((b 9), .inl (G.2.2.1, 864, .inl (mr 9))), ((b 10), .inl (G.2.2.1, 864, .inl (mr 10))), ((b 11), .inl (G.2.1, 72, .inl (mr 11))), ((b 12), .inl (G.2.1, 6, .inl (upd (mr 12) (j) (0))))] H := hP
              have hD : va_D A [(y, .inr (7, [.int (mf 0), .ref (b 1), .ref (b 2), .ref (b 3), .ref (b 4), .ref (b 5), .ref (b 6), .ref (b 7), .ref (b 8), .ref (b 9), .ref (b 10), .ref (b 11), .ref (b 12), .ref (b 13), .ref (b 14), .ref (b 15), .ref (b 16), .ref (b 17), .ref (b 18), .ref (b 19), .int (mf 20), .int (mf 21), .ref (b 22), .ref (b 23), .ref (b 24), .ref (b 25), .ref (b 26), .int (mf 27), .int (mf 28), .ref (b 29), .ref (b 30), .ref (b 31), .ref (b 32), .ref (b 33), .int (mf 34), .int (mf 35), .ref (b 36), .ref (b 37), .ref (b 38), .ref (b 39), .ref (b 40), .ref (b 41), .int (mf 42)])), ((b 1), .inl (G.2.2.1, 6, .inl (upd (mr 1) (j) (1)))), ((b 2), .inl (G.2.1, 6, .inl (upd (mr 2) (j) (p2)))), ((b 3), .inl (G.2.1, 6, .inl (upd (mr 3) (j) (p3)))), ((b 4), .inl (G.2.1, 36, .inl (upd (upd (upd (upd (upd (upd (mr 4) (6 * j) (3)) (6 * j + 1) (2)) (6 * j + 2) (10)) (6 * j + 3) (1)) (6 * j + 4) (1)) (6 * j + 5) (0)))), ((b 5), .inl (G.2.1, 864, .inl (mr 5))), ((b 6), .inl (G.2.1, 864, .inl (mr 6))), ((b 7), .inl (G.2.1, 864, .inl (mr 7))), ((b 9), .inl (G.2.2.1, 864, .inl (mr 9))), ((b 10), .inl (G.2.2.1, 864, .inl (mr 10))), ((b 11), .inl (G.2.1, 72, .inl (mr 11))), ((b 12), .inl (G.2.1, 6, .inl (upd (mr 12) (j) (0))))] := hD
              refine lv_iconst (v := 0) hx hb dX7_open_152 (by decide) ?_
              refine lv_istore (lv' := [(4, .int 0), (0, .ref y), (1, .int p1), (2, .int p2), (3, .int p3)]) hx hb dX7_open_153 hl (by decide) rfl (fun ls hl => ?_)
              have loop1 : ∀ (k i : Nat), i ≤ 144 → 144 < i + k → ∀ (H : Heap) (locs : List Loc) (ls : Array Slot), PP G ([(y, .inr (7, [.int (mf 0), .ref (b 1), .ref (b 2), .ref (b 3), .ref (b 4), .ref (b 5), .ref (b 6), .ref (b 7), .ref (b 8), .ref (b 9), .ref (b 10), .ref (b 11), .ref (b 12), .ref (b 13), .ref (b 14), .ref (b 15), .ref (b 16), .ref (b 17), .ref (b 18), .ref (b 19), .int (mf 20), .int (mf 21), .ref (b 22), .ref (b 23), .ref (b 24), .ref (b 25), .ref (b 26), .int (mf 27), .int (mf 28), .ref (b 29), .ref (b 30), .ref (b 31), .ref (b 32), .ref (b 33), .int (mf 34), .int (mf 35), .ref (b 36), .ref (b 37), .ref (b 38), .ref (b 39), .ref (b 40), .ref (b 41), .int (mf 42)])), ((b 1), .inl (G.2.2.1, 6, .inl (upd (mr 1) (j) (1)))), ((b 2), .inl (G.2.1, 6, .inl (upd (mr 2) (j) (p2)))), ((b 3), .inl (G.2.1, 6, .inl (upd (mr 3) (j) (p3)))), ((b 4), .inl (G.2.1, 36, .inl (upd (upd (upd (upd (upd (upd (mr 4) (6 * j) (3)) (6 * j + 1) (2)) (6 * j + 2) (10)) (6 * j + 3) (1)) (6 * j + 4) (1)) (6 * j + 5) (0)))), ((b 5), .inl (G.2.1, 864, .inl (rgF (mr 5) 0 (144 * j) i))), ((b 6), .inl (G.2.1, 864, .inl (rgF (mr 6) 0 (144 * j) i))), ((b 7), .inl (G.2.1, 864, .inl (rgF (mr 7) 0 (144 * j) i))), ((b 9), .inl (G.2.2.1, 864, .inl (rgF (mr 9) 0 (144 * j) i))), ((b 10), .inl (G.2.2.1, 864, .inl (rgF (mr 10) 0 (144 * j) i))), ((b 11), .inl (G.2.1, 72, .inl (rgF (mr 11) p3 (12 * j) 0))), ((b 12), .inl (G.2.1, 6, .inl (upd (mr 12) (j) (0))))]) H → va_S A s.heap H locs → lv_has ls 5 [(0, .ref y), (1, .int p1), (2, .int p2), (3, .int p3), (4, .int (nI i))] → W p l e ({ frames := 1, cells := 0, slots := 0, locals := 21 }) s m ([.ref y, .int p1, .int p2, .int p3] : List Value).toArray below meth c H locs 0 0 (MQ below (QwI G (fun r _ => (opOk p1 p2 p3 ∧ r = 1) ∨ (¬ opOk p1 p2 p3 ∧ r = 0)) A) ([.ref y, .int p1, .int p2, .int p3] : List Value).toArray s 0 0 A) (F0 m 155 ls []) := by
                intro k
                induction k with
                | zero => intro i  h1 h2; omega
                | succ k ih =>
                  intro i  hi_i hk_i  H locs ls hP hS hl
                  have hD : va_D A [(y, .inr (7, [.int (mf 0), .ref (b 1), .ref (b 2), .ref (b 3), .ref (b 4), .ref (b 5), .ref (b 6), .ref (b 7), .ref (b 8), .ref (b 9), .ref (b 10), .ref (b 11), .ref (b 12), .ref (b 13), .ref (b 14), .ref (b 15), .ref (b 16), .ref (b 17), .ref (b 18), .ref (b 19), .int (mf 20), .int (mf 21), .ref (b 22), .ref (b 23), .ref (b 24), .ref (b 25), .ref (b 26), .int (mf 27), .int (mf 28), .ref (b 29), .ref (b 30), .ref (b 31), .ref (b 32), .ref (b 33), .int (mf 34), .int (mf 35), .ref (b 36), .ref (b 37), .ref (b 38), .ref (b 39), .ref (b 40), .ref (b 41), .int (mf 42)])), ((b 1), .inl (G.2.2.1, 6, .inl (upd (mr 1) (j) (1)))), ((b 2), .inl (G.2.1, 6, .inl (upd (mr 2) (j) (p2)))), ((b 3), .inl (G.2.1, 6, .inl (upd (mr 3) (j) (p3)))), ((b 4), .inl (G.2.1, 36, .inl (upd (upd (upd (upd (upd (upd (mr 4) (6 * j) (3)) (6 * j + 1) (2)) (6 * j + 2) (10)) (6 * j + 3) (1)) (6 * j + 4) (1)) (6 * j + 5) (0)))), ((b 5), .inl (G.2.1, 864, .inl (rgF (mr 5) 0 (144 * j) i))), ((b 6), .inl (G.2.1, 864, .inl (rgF (mr 6) 0 (144 * j) i))), ((b 7), .inl (G.2.1, 864, .inl (rgF (mr 7) 0 (144 * j) i))), ((b 9), .inl (G.2.2.1, 864, .inl (rgF (mr 9) 0 (144 * j) i))), ((b 10), .inl (G.2.2.1, 864, .inl (rgF (mr 10) 0 (144 * j) i))), ((b 11), .inl (G.2.1, 72, .inl (rgF (mr 11) p3 (12 * j) 0))), ((b 12), .inl (G.2.1, 6, .inl (upd (mr 12) (j) (0))))] := D_same hD rfl
                  refine lv_iload hx hb dX7_open_155 (lv_at hl 4 rfl) ?_
                  refine lv_sipush (v := 144) hx hb dX7_open_157 (by decide) ?_
                  refine lv_icmp_ge (tgt := 181) hx hb dX7_open_160 (by decide) (fun c29 => ?_) (fun c29 => ?_)
                  · have hge := ge_t (b := 144) (by omega) (by omega) c29
                    obtain rfl : i = 144 := by omega
                    refine lv_iconst (v := 0) hx hb dX7_open_181 (by decide) ?_
                    refine lv_istore (lv' := [(4, .int 0), (0, .ref y), (1, .int p1), (2, .int p2), (3, .int p3)]) hx hb dX7_open_182 hl (by decide) rfl (fun ls hl => ?_)
                    have loop2 : ∀ (k2 n : Nat), n ≤ 12 → 12 < n + k2 → ∀ (H : Heap) (locs : List Loc) (ls : Array Slot), PP G ([(y, .inr (7, [.int (mf 0), .ref (b 1), .ref (b 2), .ref (b 3), .ref (b 4), .ref (b 5), .ref (b 6), .ref (b 7), .ref (b 8), .ref (b 9), .ref (b 10), .ref (b 11), .ref (b 12), .ref (b 13), .ref (b 14), .ref (b 15), .ref (b 16), .ref (b 17), .ref (b 18), .ref (b 19), .int (mf 20), .int (mf 21), .ref (b 22), .ref (b 23), .ref (b 24), .ref (b 25), .ref (b 26), .int (mf 27), .int (mf 28), .ref (b 29), .ref (b 30), .ref (b 31), .ref (b 32), .ref (b 33), .int (mf 34), .int (mf 35), .ref (b 36), .ref (b 37), .ref (b 38), .ref (b 39), .ref (b 40), .ref (b 41), .int (mf 42)])), ((b 1), .inl (G.2.2.1, 6, .inl (upd (mr 1) (j) (1)))), ((b 2), .inl (G.2.1, 6, .inl (upd (mr 2) (j) (p2)))), ((b 3), .inl (G.2.1, 6, .inl (upd (mr 3) (j) (p3)))), ((b 4), .inl (G.2.1, 36, .inl (upd (upd (upd (upd (upd (upd (mr 4) (6 * j) (3)) (6 * j + 1) (2)) (6 * j + 2) (10)) (6 * j + 3) (1)) (6 * j + 4) (1)) (6 * j + 5) (0)))), ((b 5), .inl (G.2.1, 864, .inl (rgF (mr 5) 0 (144 * j) 144))), ((b 6), .inl (G.2.1, 864, .inl (rgF (mr 6) 0 (144 * j) 144))), ((b 7), .inl (G.2.1, 864, .inl (rgF (mr 7) 0 (144 * j) 144))), ((b 9), .inl (G.2.2.1, 864, .inl (rgF (mr 9) 0 (144 * j) 144))), ((b 10), .inl (G.2.2.1, 864, .inl (rgF (mr 10) 0 (144 * j) 144))), ((b 11), .inl (G.2.1, 72, .inl (rgF (mr 11) p3 (12 * j) n))), ((b 12), .inl (G.2.1, 6, .inl (upd (mr 12) (j) (0))))]) H → va_S A s.heap H locs → lv_has ls 5 [(0, .ref y), (1, .int p1), (2, .int p2), (3, .int p3), (4, .int (nI n))] → W p l e ({ frames := 1, cells := 0, slots := 0, locals := 21 }) s m ([.ref y, .int p1, .int p2, .int p3] : List Value).toArray below meth c H locs 0 0 (MQ below (QwI G (fun r _ => (opOk p1 p2 p3 ∧ r = 1) ∨ (¬ opOk p1 p2 p3 ∧ r = 0)) A) ([.ref y, .int p1, .int p2, .int p3] : List Value).toArray s 0 0 A) (F0 m 184 ls []) := by
                      intro k2
                      induction k2 with
                      | zero => intro n  h1 h2; omega
                      | succ k2 ih2 =>
                        intro n  hi_n hk_n  H locs ls hP hS hl
                        have hD : va_D A [(y, .inr (7, [.int (mf 0), .ref (b 1), .ref (b 2), .ref (b 3), .ref (b 4), .ref (b 5), .ref (b 6), .ref (b 7), .ref (b 8), .ref (b 9), .ref (b 10), .ref (b 11), .ref (b 12), .ref (b 13), .ref (b 14), .ref (b 15), .ref (b 16), .ref (b 17), .ref (b 18), .ref (b 19), .int (mf 20), .int (mf 21), .ref (b 22), .ref (b 23), .ref (b 24), .ref (b 25), .ref (b 26), .int (mf 27), .int (mf 28), .ref (b 29), .ref (b 30), .ref (b 31), .ref (b 32), .ref (b 33), .int (mf 34), .int (mf 35), .ref (b 36), .ref (b 37), .ref (b 38), .ref (b 39), .ref (b 40), .ref (b 41), .int (mf 42)])), ((b 1), .inl (G.2.2.1, 6, .inl (upd (mr 1) (j) (1)))), ((b 2), .inl (G.2.1, 6, .inl (upd (mr 2) (j) (p2)))), ((b 3), .inl (G.2.1, 6, .inl (upd (mr 3) (j) (p3)))), ((b 4), .inl (G.2.1, 36, .inl (upd (upd (upd (upd (upd (upd (mr 4) (6 * j) (3)) (6 * j + 1) (2)) (6 * j + 2) (10)) (6 * j + 3) (1)) (6 * j + 4) (1)) (6 * j + 5) (0)))), ((b 5), .inl (G.2.1, 864, .inl (rgF (mr 5) 0 (144 * j) 144))), ((b 6), .inl (G.2.1, 864, .inl (rgF (mr 6) 0 (144 * j) 144))), ((b 7), .inl (G.2.1, 864, .inl (rgF (mr 7) 0 (144 * j) 144))), ((b 9), .inl (G.2.2.1, 864, .inl (rgF (mr 9) 0 (144 * j) 144))), ((b 10), .inl (G.2.2.1, 864, .inl (rgF (mr 10) 0 (144 * j) 144))), ((b 11), .inl (G.2.1, 72, .inl (rgF (mr 11) p3 (12 * j) n))), ((b 12), .inl (G.2.1, 6, .inl (upd (mr 12) (j) (0))))] := D_same hD rfl
                        refine lv_iload hx hb dX7_open_184 (lv_at hl 4 rfl) ?_
                        refine lv_bipush (v := 12) hx hb dX7_open_186 (by decide) ?_
                        refine lv_icmp_ge (tgt := 210) hx hb dX7_open_188 (by decide) (fun c30 => ?_) (fun c30 => ?_)
                        · have hge2 := ge_t (b := 12) (by omega) (by omega) c30
                          obtain rfl : n = 12 := by omega
                          refine lv_aload_n hx hb dX7_open_210 rfl (lv_at hl 0 rfl) ?_
                          have hP : PP G [(y, .inr (7, [.int (mf 0), .ref (b 1), .ref (b 2), .ref (b 3), .ref (b 4), .ref (b 5), .ref (b 6), .ref (b 7), .ref (b 8), .ref (b 9), .ref (b 10), .ref (b 11), .ref (b 12), .ref (b 13), .ref (b 14), .ref (b 15), .ref (b 16), .ref (b 17), .ref (b 18), .ref (b 19), .int (mf 20), .int (mf 21), .ref (b 22), .ref (b 23), .ref (b 24), .ref (b 25), .ref (b 26), .int (mf 27), .int (mf 28), .ref (b 29), .ref (b 30), .ref (b 31), .ref (b 32), .ref (b 33), .int (mf 34), .int (mf 35), .ref (b 36), .ref (b 37), .ref (b 38), .ref (b 39), .ref (b 40), .ref (b 41), .int (mf 42)]))] _ := hP.sub [0] rfl
                          have hD : va_D A [(y, .inr (7, [.int (mf 0), .ref (b 1), .ref (b 2), .ref (b 3), .ref (b 4), .ref (b 5), .ref (b 6), .ref (b 7), .ref (b 8), .ref (b 9), .ref (b 10), .ref (b 11), .ref (b 12), .ref (b 13), .ref (b 14), .ref (b 15), .ref (b 16), .ref (b 17), .ref (b 18), .ref (b 19), .int (mf 20), .int (mf 21), .ref (b 22), .ref (b 23), .ref (b 24), .ref (b 25), .ref (b 26), .int (mf 27), .int (mf 28), .ref (b 29), .ref (b 30), .ref (b 31), .ref (b 32), .ref (b 33), .int (mf 34), .int (mf 35), .ref (b 36), .ref (b 37), .ref (b 38), .ref (b 39), .ref (b 40), .ref (b 41), .int (mf 42)]))] := hD.sub [0] (by decide) rfl
                          refine wrVI (rest := []) (q0 := 0) ⟨hx, hb, hml, hown, hts⟩ (c_X7_good l G y b mf) mi_yX7_good mv_yX7_good ml_X7_138 ⟨rfl, rfl, Nat.le_of_ble_eq_true rfl, Nat.le_of_ble_eq_true rfl⟩ hK hP hD [0] rfl (by decide) rfl rfl rfl hl.1 rfl (Nat.le_of_ble_eq_true rfl) dX7_open_211 ⟨Nat.zero_le _, Nat.zero_le _⟩ hS hA (fun r31 w32 H locs hw32 hP hS => ?_)
                          obtain ⟨rfl, rfl⟩ := hw32
                          have hP : PP G [(y, .inr (7, [.int 0, .ref (b 1), .ref (b 2), .ref (b 3), .ref (b 4), .ref (b 5), .ref (b 6), .ref (b 7), .ref (b 8), .ref (b 9), .ref (b 10), .ref (b 11), .ref (b 12), .ref (b 13), .ref (b 14), .ref (b 15), .ref (b 16), .ref (b 17), .ref (b 18), .ref (b 19), .int (mf 20), .int (mf 21), .ref (b 22), .ref (b 23), .ref (b 24), .ref (b 25), .ref (b 26), .int (mf 27), .int (mf 28), .ref (b 29), .ref (b 30), .ref (b 31), .ref (b 32), .ref (b 33), .int (mf 34), .int (mf 35), .ref (b 36), .ref (b 37), .ref (b 38), .ref (b 39), .ref (b 40), .ref (b 41), .int (mf 42)]))] H := hP rfl
                          have hD : va_D A [(y, .inr (7, [.int 0, .ref (b 1), .ref (b 2), .ref (b 3), .ref (b 4), .ref (b 5), .ref (b 6), .ref (b 7), .ref (b 8), .ref (b 9), .ref (b 10), .ref (b 11), .ref (b 12), .ref (b 13), .ref (b 14), .ref (b 15), .ref (b 16), .ref (b 17), .ref (b 18), .ref (b 19), .int (mf 20), .int (mf 21), .ref (b 22), .ref (b 23), .ref (b 24), .ref (b 25), .ref (b 26), .int (mf 27), .int (mf 28), .ref (b 29), .ref (b 30), .ref (b 31), .ref (b 32), .ref (b 33), .int (mf 34), .int (mf 35), .ref (b 36), .ref (b 37), .ref (b 38), .ref (b 39), .ref (b 40), .ref (b 41), .int (mf 42)]))] := D_same hD rfl
                          exact wr_zret hx hb hr hlocks (Or.inr rfl) hS hP (Or.inl ⟨⟨c1, c4, c8, c11, c14, c17⟩, rfl⟩) dX7_open_214
                        · have hlt2 := ge_f (b := 12) (by omega) (by omega) c30
                          refine lv_aload_n hx hb dX7_open_191 rfl (lv_at hl 0 rfl) ?_
                          refine va_get (D := G.1) (ci := 7) (v := .ref (b 11)) (C := RX7) (T := TX7) (N := 43) hx hb hts inX7 hown hK.1 hP 0 rfl rfl 11 (by decide) (hts _ mf_X7_41) (fun _ h9 => h9) rfl dX7_open_192 ?_
                          refine lv_bipush (v := 12) hx hb dX7_open_195 (by decide) ?_
                          refine lv_iload_n hx hb dX7_open_197 rfl (lv_at hl 1 rfl) ?_
                          refine lv_imul hx hb dX7_open_198 ?_
                          refine lv_topi (fun v33 ev33 => ?_)
                          refine lv_iload hx hb dX7_open_199 (lv_at hl 4 rfl) ?_
                          refine lv_iadd hx hb dX7_open_201 ?_
                          refine lv_topi (fun v34 ev34 => ?_)
                          refine lv_iload_n hx hb dX7_open_202 rfl (lv_at hl 3 rfl) ?_
                          refine xiast (x := p3) hx hb hK hP hD hS 10 (12 * j + n) (nI_plus ev34 (nI_mulL 12 ev33 ej) rfl) (by omega) (by omega) rfl dX7_open_203 (fun H locs hP hD hS => ?_)
                          have hP : PP G [(y, .inr (7, [.int (mf 0), .ref (b 1), .ref (b 2), .ref (b 3), .ref (b 4), .ref (b 5), .ref (b 6), .ref (b 7), .ref (b 8), .ref (b 9), .ref (b 10), .ref (b 11), .ref (b 12), .ref (b 13), .ref (b 14), .ref (b 15), .ref (b 16), .ref (b 17), .ref (b 18), .ref (b 19), .int (mf 20), .int (mf 21), .ref (b 22), .ref (b 23), .ref (b 24), .ref (b 25), .ref (b 26), .int (mf 27), .int (mf 28), .ref (b 29), .ref (b 30), .ref (b 31), .ref (b 32), .ref (b 33), .int (mf 34), .int (mf 35), .ref (b 36), .ref (b 37), .ref (b 38), .ref (b 39), .ref (b 40), .ref (b 41), .int (mf 42)])), ((b 1), .inl (G.2.2.1, 6, .inl (upd (mr 1) (j) (1)))), ((b 2), .inl (G.2.1, 6, .inl (upd (mr 2) (j) (p2)))), ((b 3), .inl (G.2.1, 6, .inl (upd (mr 3) (j) (p3)))), ((b 4), .inl (G.2.1, 36, .inl (upd (upd (upd (upd (upd (upd (mr 4) (6 * j) (3)) (6 * j + 1) (2)) (6 * j + 2) (10)) (6 * j + 3) (1)) (6 * j + 4) (1)) (6 * j + 5) (0)))), ((b 5), .inl (G.2.1, 864, .inl (rgF (mr 5) 0 (144 * j) 144))), ((b 6), .inl (G.2.1, 864, .inl (rgF (mr 6) 0 (144 * j) 144))), ((b 7), .inl (G.2.1, 864, .inl (rgF (mr 7) 0 (144 * j) 144))), ((b 9), .inl (G.2.2.1, 864, .inl (rgF (mr 9) 0 (144 * j) 144))), ((b 10), .inl (G.2.2.1, 864, .inl (rgF (mr 10) 0 (144 * j) 144))), ((b 11), .inl (G.2.1, 72, .inl (upd (rgF (mr 11) p3 (12 * j) n) (12 * j + n) (p3)))), ((b 12), .inl (G.2.1, 6, .inl (upd (mr 12) (j) (0))))] H := hP
                          have hD : va_D A [(y, .inr (7, [.int (mf 0), .ref (b 1), .ref (b 2), .ref (b 3), .ref (b 4), .ref (b 5), .ref (b 6), .ref (b 7), .ref (b 8), .ref (b 9), .ref (b 10), .ref (b 11), .ref (b 12), .ref (b 13), .ref (b 14), .ref (b 15), .ref (b 16), .ref (b 17), .ref (b 18), .ref (b 19), .int (mf 20), .int (mf 21), .ref (b 22), .ref (b 23), .ref (b 24), .ref (b 25), .ref (b 26), .int (mf 27), .int (mf 28), .ref (b 29), .ref (b 30), .ref (b 31), .ref (b 32), .ref (b 33), .int (mf 34), .int (mf 35), .ref (b 36), .ref (b 37), .ref (b 38), .ref (b 39), .ref (b 40), .ref (b 41), .int (mf 42)])), ((b 1), .inl (G.2.2.1, 6, .inl (upd (mr 1) (j) (1)))), ((b 2), .inl (G.2.1, 6, .inl (upd (mr 2) (j) (p2)))), ((b 3), .inl (G.2.1, 6, .inl (upd (mr 3) (j) (p3)))), ((b 4), .inl (G.2.1, 36, .inl (upd (upd (upd (upd (upd (upd (mr 4) (6 * j) (3)) (6 * j + 1) (2)) (6 * j + 2) (10)) (6 * j + 3) (1)) (6 * j + 4) (1)) (6 * j + 5) (0)))), ((b 5), .inl (G.2.1, 864, .inl (rgF (mr 5) 0 (144 * j) 144))), ((b 6), .inl (G.2.1, 864, .inl (rgF (mr 6) 0 (144 * j) 144))), ((b 7), .inl (G.2.1, 864, .inl (rgF (mr 7) 0 (144 * j) 144))), ((b 9), .inl (G.2.2.1, 864, .inl (rgF (mr 9) 0 (144 * j) 144))), ((b 10), .inl (G.2.2.1, 864, .inl (rgF (mr 10) 0 (144 * j) 144))), ((b 11), .inl (G.2.1, 72, .inl (upd (rgF (mr 11) p3 (12 * j) n) (12 * j + n) (p3)))), ((b 12), .inl (G.2.1, 6, .inl (upd (mr 12) (j) (0))))] := hD
                          obtain ⟨v35, ev35⟩ : ∃ y : Int32, y = (nI n) + Int32.ofInt (1) := ⟨_, rfl⟩
                          refine lv_iinc (v := v35) (lv' := [(4, .int v35), (0, .ref y), (1, .int p1), (2, .int p2), (3, .int p3)]) hx hb dX7_open_204 hl (k := 4) rfl ev35.symm (by decide) rfl (fun ls hl => ?_)
                          refine lv_goto (tgt := 184) hx hb dX7_open_207 (by decide) ?_
                          rw [rgF_s] at hP
                          exact ih2 (n + 1) (by omega) (by omega) _ _ _ hP hS (by have e := nI_inc ev35; rw [e] at hl; exact lv_sub hl [1, 2, 3, 4, 0] rfl)
                    exact loop2 13 0 (Nat.zero_le _) (by omega) _ _ _ hP hS (lv_sub hl [1, 2, 3, 4, 0] rfl)
                  · have hlt := ge_f (b := 144) (by omega) (by omega) c29
                    refine lv_aload_n hx hb dX7_open_163 rfl (lv_at hl 0 rfl) ?_
                    refine lv_sipush (v := 144) hx hb dX7_open_164 (by decide) ?_
                    refine lv_iload_n hx hb dX7_open_167 rfl (lv_at hl 1 rfl) ?_
                    refine lv_imul hx hb dX7_open_168 ?_
                    refine lv_topi (fun v36 ev36 => ?_)
                    refine lv_iload hx hb dX7_open_169 (lv_at hl 4 rfl) ?_
                    refine lv_iadd hx hb dX7_open_171 ?_
                    refine lv_topi (fun v37 ev37 => ?_)
                    have e_q : v37 = nI (144 * j + i) := nI_plus ev37 (nI_mulL 144 ev36 ej) rfl
                    subst e_q
                    refine wrVV (rest := []) (q0 := 0) ⟨hx, hb, hml, hown, hts⟩ (c_X7_empty l G y b mf (fun k => match k with | 5 => rgF (mr 5) 0 (144 * j) i | 6 => rgF (mr 6) 0 (144 * j) i | 7 => rgF (mr 7) 0 (144 * j) i | 9 => rgF (mr 9) 0 (144 * j) i | _ => rgF (mr 10) 0 (144 * j) i) (144 * j + i) (by omega)) mi_yX7_empty mv_yX7_empty ml_X7_134 ⟨rfl, rfl, Nat.le_of_ble_eq_true rfl, Nat.le_of_ble_eq_true rfl⟩ hK hP hD [0, 5, 6, 7, 8, 9] rfl (by decide) rfl rfl rfl hl.1 rfl (Nat.le_of_ble_eq_true rfl) dX7_open_172 ⟨Nat.zero_le _, Nat.zero_le _⟩ hS hA (fun w39 H locs hw39 hP hS => ?_)
                    obtain rfl := hw39
                    have hP : PP G [(y, .inr (7, [.int (mf 0), .ref (b 1), .ref (b 2), .ref (b 3), .ref (b 4), .ref (b 5), .ref (b 6), .ref (b 7), .ref (b 8), .ref (b 9), .ref (b 10), .ref (b 11), .ref (b 12), .ref (b 13), .ref (b 14), .ref (b 15), .ref (b 16), .ref (b 17), .ref (b 18), .ref (b 19), .int (mf 20), .int (mf 21), .ref (b 22), .ref (b 23), .ref (b 24), .ref (b 25), .ref (b 26), .int (mf 27), .int (mf 28), .ref (b 29), .ref (b 30), .ref (b 31), .ref (b 32), .ref (b 33), .int (mf 34), .int (mf 35), .ref (b 36), .ref (b 37), .ref (b 38), .ref (b 39), .ref (b 40), .ref (b 41), .int (mf 42)])), ((b 1), .inl (G.2.2.1, 6, .inl (upd (mr 1) (j) (1)))), ((b 2), .inl (G.2.1, 6, .inl (upd (mr 2) (j) (p2)))), ((b 3), .inl (G.2.1, 6, .inl (upd (mr 3) (j) (p3)))), ((b 4), .inl (G.2.1, 36, .inl (upd (upd (upd (upd (upd (upd (mr 4) (6 * j) (3)) (6 * j + 1) (2)) (6 * j + 2) (10)) (6 * j + 3) (1)) (6 * j + 4) (1)) (6 * j + 5) (0)))), ((b 5), .inl (G.2.1, 864, .inl (rgF (mr 5) 0 (144 * j) (i + 1)))), ((b 6), .inl (G.2.1, 864, .inl (rgF (mr 6) 0 (144 * j) (i + 1)))), ((b 7), .inl (G.2.1, 864, .inl (rgF (mr 7) 0 (144 * j) (i + 1)))), ((b 9), .inl (G.2.2.1, 864, .inl (rgF (mr 9) 0 (144 * j) (i + 1)))), ((b 10), .inl (G.2.2.1, 864, .inl (rgF (mr 10) 0 (144 * j) (i + 1)))), ((b 11), .inl (G.2.1, 72, .inl (rgF (mr 11) p3 (12 * j) 0))), ((b 12), .inl (G.2.1, 6, .inl (upd (mr 12) (j) (0))))] H := by
                      have h := hP rfl
                      rw [← rgF_s, ← rgF_s, ← rgF_s, ← rgF_s, ← rgF_s]
                      exact h
                    have hD : va_D A [(y, .inr (7, [.int (mf 0), .ref (b 1), .ref (b 2), .ref (b 3), .ref (b 4), .ref (b 5), .ref (b 6), .ref (b 7), .ref (b 8), .ref (b 9), .ref (b 10), .ref (b 11), .ref (b 12), .ref (b 13), .ref (b 14), .ref (b 15), .ref (b 16), .ref (b 17), .ref (b 18), .ref (b 19), .int (mf 20), .int (mf 21), .ref (b 22), .ref (b 23), .ref (b 24), .ref (b 25), .ref (b 26), .int (mf 27), .int (mf 28), .ref (b 29), .ref (b 30), .ref (b 31), .ref (b 32), .ref (b 33), .int (mf 34), .int (mf 35), .ref (b 36), .ref (b 37), .ref (b 38), .ref (b 39), .ref (b 40), .ref (b 41), .int (mf 42)])), ((b 1), .inl (G.2.2.1, 6, .inl (upd (mr 1) (j) (1)))), ((b 2), .inl (G.2.1, 6, .inl (upd (mr 2) (j) (p2)))), ((b 3), .inl (G.2.1, 6, .inl (upd (mr 3) (j) (p3)))), ((b 4), .inl (G.2.1, 36, .inl (upd (upd (upd (upd (upd (upd (mr 4) (6 * j) (3)) (6 * j + 1) (2)) (6 * j + 2) (10)) (6 * j + 3) (1)) (6 * j + 4) (1)) (6 * j + 5) (0)))), ((b 5), .inl (G.2.1, 864, .inl (rgF (mr 5) 0 (144 * j) (i + 1)))), ((b 6), .inl (G.2.1, 864, .inl (rgF (mr 6) 0 (144 * j) (i + 1)))), ((b 7), .inl (G.2.1, 864, .inl (rgF (mr 7) 0 (144 * j) (i + 1)))), ((b 9), .inl (G.2.2.1, 864, .inl (rgF (mr 9) 0 (144 * j) (i + 1)))), ((b 10), .inl (G.2.2.1, 864, .inl (rgF (mr 10) 0 (144 * j) (i + 1)))), ((b 11), .inl (G.2.1, 72, .inl (rgF (mr 11) p3 (12 * j) 0))), ((b 12), .inl (G.2.1, 6, .inl (upd (mr 12) (j) (0))))] := D_same hD rfl
                    obtain ⟨v40, ev40⟩ : ∃ y : Int32, y = (nI i) + Int32.ofInt (1) := ⟨_, rfl⟩
                    refine lv_iinc (v := v40) (lv' := [(4, .int v40), (0, .ref y), (1, .int p1), (2, .int p2), (3, .int p3)]) hx hb dX7_open_175 hl (k := 4) rfl ev40.symm (by decide) rfl (fun ls hl => ?_)
                    refine lv_goto (tgt := 155) hx hb dX7_open_178 (by decide) ?_
                    exact ih (i + 1) (by omega) (by omega) _ _ _ hP hS (by have e := nI_inc ev40; rw [e] at hl; exact lv_sub hl [1, 2, 3, 4, 0] rfl)
              exact loop1 145 0 (Nat.zero_le _) (by omega) _ _ _ (by rw [rgF_0, rgF_0, rgF_0, rgF_0, rgF_0, rgF_0]; exact hP) hS (lv_sub hl [1, 2, 3, 4, 0] rfl)
            · refine lv_aload_n hx hb dX7_open_47 rfl (lv_at hl 0 rfl) ?_
              refine lv_iconst (v := 2) hx hb dX7_open_48 (by decide) ?_
              have hP : PP G [(y, .inr (7, [.int (mf 0), .ref (b 1), .ref (b 2), .ref (b 3), .ref (b 4), .ref (b 5), .ref (b 6), .ref (b 7), .ref (b 8), .ref (b 9), .ref (b 10), .ref (b 11), .ref (b 12), .ref (b 13), .ref (b 14), .ref (b 15), .ref (b 16), .ref (b 17), .ref (b 18), .ref (b 19), .int (mf 20), .int (mf 21), .ref (b 22), .ref (b 23), .ref (b 24), .ref (b 25), .ref (b 26), .int (mf 27), .int (mf 28), .ref (b 29), .ref (b 30), .ref (b 31), .ref (b 32), .ref (b 33), .int (mf 34), .int (mf 35), .ref (b 36), .ref (b 37), .ref (b 38), .ref (b 39), .ref (b 40), .ref (b 41), .int (mf 42)]))] _ := hP.sub [0] rfl
              have hD : va_D A [(y, .inr (7, [.int (mf 0), .ref (b 1), .ref (b 2), .ref (b 3), .ref (b 4), .ref (b 5), .ref (b 6), .ref (b 7), .ref (b 8), .ref (b 9), .ref (b 10), .ref (b 11), .ref (b 12), .ref (b 13), .ref (b 14), .ref (b 15), .ref (b 16), .ref (b 17), .ref (b 18), .ref (b 19), .int (mf 20), .int (mf 21), .ref (b 22), .ref (b 23), .ref (b 24), .ref (b 25), .ref (b 26), .int (mf 27), .int (mf 28), .ref (b 29), .ref (b 30), .ref (b 31), .ref (b 32), .ref (b 33), .int (mf 34), .int (mf 35), .ref (b 36), .ref (b 37), .ref (b 38), .ref (b 39), .ref (b 40), .ref (b 41), .int (mf 42)]))] := hD.sub [0] (by decide) rfl
              refine wrVI (rest := []) (q0 := 0) ⟨hx, hb, hml, hown, hts⟩ (c_X7_refuse l G y b mf 2) mi_yX7_refuse mv_yX7_refuse ml_X7_131 ⟨rfl, rfl, Nat.le_of_ble_eq_true rfl, Nat.le_of_ble_eq_true rfl⟩ hK hP hD [0] rfl (by decide) rfl rfl rfl hl.1 rfl (Nat.le_of_ble_eq_true rfl) dX7_open_49 ⟨Nat.zero_le _, Nat.zero_le _⟩ hS hA (fun r41 w42 H locs hw42 hP hS => ?_)
              obtain ⟨rfl, rfl⟩ := hw42
              have hP : PP G [(y, .inr (7, [.int 2, .ref (b 1), .ref (b 2), .ref (b 3), .ref (b 4), .ref (b 5), .ref (b 6), .ref (b 7), .ref (b 8), .ref (b 9), .ref (b 10), .ref (b 11), .ref (b 12), .ref (b 13), .ref (b 14), .ref (b 15), .ref (b 16), .ref (b 17), .ref (b 18), .ref (b 19), .int (mf 20), .int (mf 21), .ref (b 22), .ref (b 23), .ref (b 24), .ref (b 25), .ref (b 26), .int (mf 27), .int (mf 28), .ref (b 29), .ref (b 30), .ref (b 31), .ref (b 32), .ref (b 33), .int (mf 34), .int (mf 35), .ref (b 36), .ref (b 37), .ref (b 38), .ref (b 39), .ref (b 40), .ref (b 41), .int (mf 42)]))] H := hP rfl
              have hD : va_D A [(y, .inr (7, [.int 2, .ref (b 1), .ref (b 2), .ref (b 3), .ref (b 4), .ref (b 5), .ref (b 6), .ref (b 7), .ref (b 8), .ref (b 9), .ref (b 10), .ref (b 11), .ref (b 12), .ref (b 13), .ref (b 14), .ref (b 15), .ref (b 16), .ref (b 17), .ref (b 18), .ref (b 19), .int (mf 20), .int (mf 21), .ref (b 22), .ref (b 23), .ref (b 24), .ref (b 25), .ref (b 26), .int (mf 27), .int (mf 28), .ref (b 29), .ref (b 30), .ref (b 31), .ref (b 32), .ref (b 33), .int (mf 34), .int (mf 35), .ref (b 36), .ref (b 37), .ref (b 38), .ref (b 39), .ref (b 40), .ref (b 41), .int (mf 42)]))] := D_same hD rfl
              exact wr_zret hx hb hr hlocks (Or.inl rfl) hS hP (Or.inr ⟨fun h => c17 h.2.2.2.2.2, rfl⟩) dX7_open_52
