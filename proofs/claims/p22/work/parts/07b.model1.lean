theorem mf_X7_13 : Cond.fieldLink RX7 13 "CellKeeperModel" "rows" "[I" ∈ TB := TB_t4 102 rfl rfl
theorem mf_X7_17 : Cond.fieldLink RX7 17 "CellKeeperModel" "columns" "[I" ∈ TB := TB_t4 103 rfl rfl
theorem ml_X7_120 : Cond.methodLink RX7 120 yX7_isTable ∈ TB := TB_t5 14 rfl rfl
theorem mz_RX7 : Cond.initialized RX7 ∈ TB := TB_t1 8 rfl rfl
theorem mcode_yX7_isTable : Cond.code yX7_isTable cX7_isTable 2 (some .boolean) ∈ TB := TB_t5 17 rfl rfl
theorem mi_yX7_isTable : MI yX7_isTable cX7_isTable 2 (some .boolean) 1 := ⟨mz_RX7, mcode_yX7_isTable, by decide +kernel, by decide +kernel, by decide +kernel⟩
theorem mim_yX7_isTable : Cond.instanceMethod yX7_isTable ∈ TB := TB_t5 16 rfl rfl
theorem msel_yX7_isTable : Cond.selects yX7_isTable.cls yX7_isTable yX7_isTable ∈ TB := TB_s (n := 43) 44 (by decide +kernel)
theorem mv_yX7_isTable : Cond.instanceMethod yX7_isTable ∈ TB ∧ Cond.selects yX7_isTable.cls yX7_isTable yX7_isTable ∈ TB := ⟨mim_yX7_isTable, msel_yX7_isTable⟩
theorem ml_X7_124 : Cond.methodLink RX7 124 yX7_isRow ∈ TB := TB_t5 31 rfl rfl
theorem mcode_yX7_isRow : Cond.code yX7_isRow cX7_isRow 3 (some .boolean) ∈ TB := TB_t5 34 rfl rfl
theorem mi_yX7_isRow : MI yX7_isRow cX7_isRow 3 (some .boolean) 2 := ⟨mz_RX7, mcode_yX7_isRow, by decide +kernel, by decide +kernel, by decide +kernel⟩
theorem mim_yX7_isRow : Cond.instanceMethod yX7_isRow ∈ TB := TB_t5 33 rfl rfl
theorem msel_yX7_isRow : Cond.selects yX7_isRow.cls yX7_isRow yX7_isRow ∈ TB := TB_s (n := 43) 46 (by decide +kernel)
theorem mv_yX7_isRow : Cond.instanceMethod yX7_isRow ∈ TB ∧ Cond.selects yX7_isRow.cls yX7_isRow yX7_isRow ∈ TB := ⟨mim_yX7_isRow, msel_yX7_isRow⟩
theorem ml_X7_128 : Cond.methodLink RX7 128 yX7_isColumn ∈ TB := TB_t5 35 rfl rfl
theorem mcode_yX7_isColumn : Cond.code yX7_isColumn cX7_isColumn 3 (some .boolean) ∈ TB := TB_t5 38 rfl rfl
theorem mi_yX7_isColumn : MI yX7_isColumn cX7_isColumn 3 (some .boolean) 2 := ⟨mz_RX7, mcode_yX7_isColumn, by decide +kernel, by decide +kernel, by decide +kernel⟩
theorem mim_yX7_isColumn : Cond.instanceMethod yX7_isColumn ∈ TB := TB_t5 37 rfl rfl
theorem msel_yX7_isColumn : Cond.selects yX7_isColumn.cls yX7_isColumn yX7_isColumn ∈ TB := TB_s (n := 43) 47 (by decide +kernel)
theorem mv_yX7_isColumn : Cond.instanceMethod yX7_isColumn ∈ TB ∧ Cond.selects yX7_isColumn.cls yX7_isColumn yX7_isColumn ∈ TB := ⟨mim_yX7_isColumn, msel_yX7_isColumn⟩
theorem mf_X7_41 : Cond.fieldLink RX7 41 "CellKeeperModel" "places" "[I" ∈ TB := TB_t4 111 rfl rfl
theorem kcX7_at_0 : CHb cX7_at 0 [17, 0, 144, 26, 104, 16, 12, 27, 104, 96, 28, 96, 172] := CHb_of (by decide +kernel)
theorem dX7_at_0 : decode cX7_at 0 = .ok (.sipush 144, 3) := dw_17 (kcX7_at_0 0 17 rfl) (kcX7_at_0 1 0 rfl) (kcX7_at_0 2 144 rfl) rfl
theorem dX7_at_3 : decode cX7_at 3 = .ok (.iload_n 0, 1) := dw_26 (kcX7_at_0 3 26 rfl)
theorem dX7_at_4 : decode cX7_at 4 = .ok (.imul, 1) := dw_104 (kcX7_at_0 4 104 rfl)
theorem dX7_at_5 : decode cX7_at 5 = .ok (.bipush 12, 2) := dw_16 (kcX7_at_0 5 16 rfl) (kcX7_at_0 6 12 rfl) rfl
theorem dX7_at_7 : decode cX7_at 7 = .ok (.iload_n 1, 1) := dw_27 (kcX7_at_0 7 27 rfl)
theorem dX7_at_8 : decode cX7_at 8 = .ok (.imul, 1) := dw_104 (kcX7_at_0 8 104 rfl)
theorem dX7_at_9 : decode cX7_at 9 = .ok (.iadd, 1) := dw_96 (kcX7_at_0 9 96 rfl)
theorem dX7_at_10 : decode cX7_at 10 = .ok (.iload_n 2, 1) := dw_28 (kcX7_at_0 10 28 rfl)
theorem dX7_at_11 : decode cX7_at 11 = .ok (.iadd, 1) := dw_96 (kcX7_at_0 11 96 rfl)
theorem dX7_at_12 : decode cX7_at 12 = .ok (.ireturn, 1) := dw_172 (kcX7_at_0 12 172 rfl)
theorem kcX7_isRow_0 : CHb cX7_isRow 0 [28, 155, 0, 17, 28, 42, 180, 0, 13, 27, 46, 162, 0, 7, 4, 167, 0, 4, 3, 172] := CHb_of (by decide +kernel)
theorem dX7_isRow_0 : decode cX7_isRow 0 = .ok (.iload_n 2, 1) := dw_28 (kcX7_isRow_0 0 28 rfl)
theorem dX7_isRow_1 : decode cX7_isRow 1 = .ok (.ifCond .lt 17, 3) := dw_155 (kcX7_isRow_0 1 155 rfl) (kcX7_isRow_0 2 0 rfl) (kcX7_isRow_0 3 17 rfl) rfl
theorem dX7_isRow_18 : decode cX7_isRow 18 = .ok (.iconst 0, 1) := dw_3 (kcX7_isRow_0 18 3 rfl)
theorem dX7_isRow_19 : decode cX7_isRow 19 = .ok (.ireturn, 1) := dw_172 (kcX7_isRow_0 19 172 rfl)
theorem dX7_isRow_4 : decode cX7_isRow 4 = .ok (.iload_n 2, 1) := dw_28 (kcX7_isRow_0 4 28 rfl)
theorem dX7_isRow_5 : decode cX7_isRow 5 = .ok (.aload_n 0, 1) := dw_42 (kcX7_isRow_0 5 42 rfl)
theorem dX7_isRow_6 : decode cX7_isRow 6 = .ok (.getfield 13, 3) := dw_180 (kcX7_isRow_0 6 180 rfl) (kcX7_isRow_0 7 0 rfl) (kcX7_isRow_0 8 13 rfl) rfl
theorem dX7_isRow_9 : decode cX7_isRow 9 = .ok (.iload_n 1, 1) := dw_27 (kcX7_isRow_0 9 27 rfl)
theorem dX7_isRow_10 : decode cX7_isRow 10 = .ok (.iaload, 1) := dw_46 (kcX7_isRow_0 10 46 rfl)
theorem dX7_isRow_11 : decode cX7_isRow 11 = .ok (.if_icmp .ge 7, 3) := dw_162 (kcX7_isRow_0 11 162 rfl) (kcX7_isRow_0 12 0 rfl) (kcX7_isRow_0 13 7 rfl) rfl
theorem dX7_isRow_14 : decode cX7_isRow 14 = .ok (.iconst 1, 1) := dw_4 (kcX7_isRow_0 14 4 rfl)
theorem dX7_isRow_15 : decode cX7_isRow 15 = .ok (.goto 4, 3) := dw_167 (kcX7_isRow_0 15 167 rfl) (kcX7_isRow_0 16 0 rfl) (kcX7_isRow_0 17 4 rfl) rfl
theorem kcX7_isColumn_0 : CHb cX7_isColumn 0 [28, 155, 0, 17, 28, 42, 180, 0, 17, 27, 46, 162, 0, 7, 4, 167, 0, 4, 3, 172] := CHb_of (by decide +kernel)
theorem dX7_isColumn_0 : decode cX7_isColumn 0 = .ok (.iload_n 2, 1) := dw_28 (kcX7_isColumn_0 0 28 rfl)
theorem dX7_isColumn_1 : decode cX7_isColumn 1 = .ok (.ifCond .lt 17, 3) := dw_155 (kcX7_isColumn_0 1 155 rfl) (kcX7_isColumn_0 2 0 rfl) (kcX7_isColumn_0 3 17 rfl) rfl
theorem dX7_isColumn_18 : decode cX7_isColumn 18 = .ok (.iconst 0, 1) := dw_3 (kcX7_isColumn_0 18 3 rfl)
theorem dX7_isColumn_19 : decode cX7_isColumn 19 = .ok (.ireturn, 1) := dw_172 (kcX7_isColumn_0 19 172 rfl)
theorem dX7_isColumn_4 : decode cX7_isColumn 4 = .ok (.iload_n 2, 1) := dw_28 (kcX7_isColumn_0 4 28 rfl)
theorem dX7_isColumn_5 : decode cX7_isColumn 5 = .ok (.aload_n 0, 1) := dw_42 (kcX7_isColumn_0 5 42 rfl)
theorem dX7_isColumn_6 : decode cX7_isColumn 6 = .ok (.getfield 17, 3) := dw_180 (kcX7_isColumn_0 6 180 rfl) (kcX7_isColumn_0 7 0 rfl) (kcX7_isColumn_0 8 17 rfl) rfl
theorem dX7_isColumn_9 : decode cX7_isColumn 9 = .ok (.iload_n 1, 1) := dw_27 (kcX7_isColumn_0 9 27 rfl)
theorem dX7_isColumn_10 : decode cX7_isColumn 10 = .ok (.iaload, 1) := dw_46 (kcX7_isColumn_0 10 46 rfl)
theorem dX7_isColumn_11 : decode cX7_isColumn 11 = .ok (.if_icmp .ge 7, 3) := dw_162 (kcX7_isColumn_0 11 162 rfl) (kcX7_isColumn_0 12 0 rfl) (kcX7_isColumn_0 13 7 rfl) rfl
theorem dX7_isColumn_14 : decode cX7_isColumn 14 = .ok (.iconst 1, 1) := dw_4 (kcX7_isColumn_0 14 4 rfl)
theorem dX7_isColumn_15 : decode cX7_isColumn 15 = .ok (.goto 4, 3) := dw_167 (kcX7_isColumn_0 15 167 rfl) (kcX7_isColumn_0 16 0 rfl) (kcX7_isColumn_0 17 4 rfl) rfl
theorem kcX7_wrongPlace_0 : CHb cX7_wrongPlace 0 [42, 27, 182, 0, 120, 154, 0, 5, 4, 172, 42, 27, 28, 182, 0, 124, 153, 0, 12, 42, 27, 29, 182, 0, 128, 154, 0, 5, 5, 172, 42, 180, 0, 41, 16, 12, 27, 104, 28, 96, 46, 154, 0, 5, 6, 172, 29, 42, 180, 0, 41, 16, 12, 27, 104, 28, 96, 46, 161, 0, 7, 7, 167, 0] := CHb_of (by decide +kernel)
theorem dX7_wrongPlace_0 : decode cX7_wrongPlace 0 = .ok (.aload_n 0, 1) := dw_42 (kcX7_wrongPlace_0 0 42 rfl)
theorem dX7_wrongPlace_1 : decode cX7_wrongPlace 1 = .ok (.iload_n 1, 1) := dw_27 (kcX7_wrongPlace_0 1 27 rfl)
theorem dX7_wrongPlace_2 : decode cX7_wrongPlace 2 = .ok (.invokevirtual 120, 3) := dw_182 (kcX7_wrongPlace_0 2 182 rfl) (kcX7_wrongPlace_0 3 0 rfl) (kcX7_wrongPlace_0 4 120 rfl) rfl
theorem dX7_wrongPlace_5 : decode cX7_wrongPlace 5 = .ok (.ifCond .ne 5, 3) := dw_154 (kcX7_wrongPlace_0 5 154 rfl) (kcX7_wrongPlace_0 6 0 rfl) (kcX7_wrongPlace_0 7 5 rfl) rfl
theorem dX7_wrongPlace_10 : decode cX7_wrongPlace 10 = .ok (.aload_n 0, 1) := dw_42 (kcX7_wrongPlace_0 10 42 rfl)
theorem dX7_wrongPlace_11 : decode cX7_wrongPlace 11 = .ok (.iload_n 1, 1) := dw_27 (kcX7_wrongPlace_0 11 27 rfl)
theorem dX7_wrongPlace_12 : decode cX7_wrongPlace 12 = .ok (.iload_n 2, 1) := dw_28 (kcX7_wrongPlace_0 12 28 rfl)
theorem dX7_wrongPlace_13 : decode cX7_wrongPlace 13 = .ok (.invokevirtual 124, 3) := dw_182 (kcX7_wrongPlace_0 13 182 rfl) (kcX7_wrongPlace_0 14 0 rfl) (kcX7_wrongPlace_0 15 124 rfl) rfl
theorem dX7_wrongPlace_16 : decode cX7_wrongPlace 16 = .ok (.ifCond .eq 12, 3) := dw_153 (kcX7_wrongPlace_0 16 153 rfl) (kcX7_wrongPlace_0 17 0 rfl) (kcX7_wrongPlace_0 18 12 rfl) rfl
theorem dX7_wrongPlace_28 : decode cX7_wrongPlace 28 = .ok (.iconst 2, 1) := dw_5 (kcX7_wrongPlace_0 28 5 rfl)
theorem dX7_wrongPlace_29 : decode cX7_wrongPlace 29 = .ok (.ireturn, 1) := dw_172 (kcX7_wrongPlace_0 29 172 rfl)
theorem dX7_wrongPlace_19 : decode cX7_wrongPlace 19 = .ok (.aload_n 0, 1) := dw_42 (kcX7_wrongPlace_0 19 42 rfl)
theorem dX7_wrongPlace_20 : decode cX7_wrongPlace 20 = .ok (.iload_n 1, 1) := dw_27 (kcX7_wrongPlace_0 20 27 rfl)
theorem dX7_wrongPlace_21 : decode cX7_wrongPlace 21 = .ok (.iload_n 3, 1) := dw_29 (kcX7_wrongPlace_0 21 29 rfl)
theorem dX7_wrongPlace_22 : decode cX7_wrongPlace 22 = .ok (.invokevirtual 128, 3) := dw_182 (kcX7_wrongPlace_0 22 182 rfl) (kcX7_wrongPlace_0 23 0 rfl) (kcX7_wrongPlace_0 24 128 rfl) rfl
theorem dX7_wrongPlace_25 : decode cX7_wrongPlace 25 = .ok (.ifCond .ne 5, 3) := dw_154 (kcX7_wrongPlace_0 25 154 rfl) (kcX7_wrongPlace_0 26 0 rfl) (kcX7_wrongPlace_0 27 5 rfl) rfl
theorem dX7_wrongPlace_30 : decode cX7_wrongPlace 30 = .ok (.aload_n 0, 1) := dw_42 (kcX7_wrongPlace_0 30 42 rfl)
theorem dX7_wrongPlace_31 : decode cX7_wrongPlace 31 = .ok (.getfield 41, 3) := dw_180 (kcX7_wrongPlace_0 31 180 rfl) (kcX7_wrongPlace_0 32 0 rfl) (kcX7_wrongPlace_0 33 41 rfl) rfl
theorem dX7_wrongPlace_34 : decode cX7_wrongPlace 34 = .ok (.bipush 12, 2) := dw_16 (kcX7_wrongPlace_0 34 16 rfl) (kcX7_wrongPlace_0 35 12 rfl) rfl
theorem dX7_wrongPlace_36 : decode cX7_wrongPlace 36 = .ok (.iload_n 1, 1) := dw_27 (kcX7_wrongPlace_0 36 27 rfl)
theorem dX7_wrongPlace_37 : decode cX7_wrongPlace 37 = .ok (.imul, 1) := dw_104 (kcX7_wrongPlace_0 37 104 rfl)
theorem dX7_wrongPlace_38 : decode cX7_wrongPlace 38 = .ok (.iload_n 2, 1) := dw_28 (kcX7_wrongPlace_0 38 28 rfl)
theorem dX7_wrongPlace_39 : decode cX7_wrongPlace 39 = .ok (.iadd, 1) := dw_96 (kcX7_wrongPlace_0 39 96 rfl)
theorem dX7_wrongPlace_40 : decode cX7_wrongPlace 40 = .ok (.iaload, 1) := dw_46 (kcX7_wrongPlace_0 40 46 rfl)
theorem dX7_wrongPlace_41 : decode cX7_wrongPlace 41 = .ok (.ifCond .ne 5, 3) := dw_154 (kcX7_wrongPlace_0 41 154 rfl) (kcX7_wrongPlace_0 42 0 rfl) (kcX7_wrongPlace_0 43 5 rfl) rfl
theorem dX7_wrongPlace_46 : decode cX7_wrongPlace 46 = .ok (.iload_n 3, 1) := dw_29 (kcX7_wrongPlace_0 46 29 rfl)
theorem dX7_wrongPlace_47 : decode cX7_wrongPlace 47 = .ok (.aload_n 0, 1) := dw_42 (kcX7_wrongPlace_0 47 42 rfl)
theorem dX7_wrongPlace_48 : decode cX7_wrongPlace 48 = .ok (.getfield 41, 3) := dw_180 (kcX7_wrongPlace_0 48 180 rfl) (kcX7_wrongPlace_0 49 0 rfl) (kcX7_wrongPlace_0 50 41 rfl) rfl
theorem dX7_wrongPlace_51 : decode cX7_wrongPlace 51 = .ok (.bipush 12, 2) := dw_16 (kcX7_wrongPlace_0 51 16 rfl) (kcX7_wrongPlace_0 52 12 rfl) rfl
theorem dX7_wrongPlace_53 : decode cX7_wrongPlace 53 = .ok (.iload_n 1, 1) := dw_27 (kcX7_wrongPlace_0 53 27 rfl)
theorem dX7_wrongPlace_54 : decode cX7_wrongPlace 54 = .ok (.imul, 1) := dw_104 (kcX7_wrongPlace_0 54 104 rfl)
theorem dX7_wrongPlace_55 : decode cX7_wrongPlace 55 = .ok (.iload_n 2, 1) := dw_28 (kcX7_wrongPlace_0 55 28 rfl)
theorem dX7_wrongPlace_56 : decode cX7_wrongPlace 56 = .ok (.iadd, 1) := dw_96 (kcX7_wrongPlace_0 56 96 rfl)
theorem dX7_wrongPlace_57 : decode cX7_wrongPlace 57 = .ok (.iaload, 1) := dw_46 (kcX7_wrongPlace_0 57 46 rfl)
theorem dX7_wrongPlace_58 : decode cX7_wrongPlace 58 = .ok (.if_icmp .lt 7, 3) := dw_161 (kcX7_wrongPlace_0 58 161 rfl) (kcX7_wrongPlace_0 59 0 rfl) (kcX7_wrongPlace_0 60 7 rfl) rfl
theorem kcX7_wrongPlace_1 : CHb cX7_wrongPlace 64 [4, 3, 172] := CHb_of (by decide +kernel)
theorem dX7_wrongPlace_65 : decode cX7_wrongPlace 65 = .ok (.iconst 0, 1) := dw_3 (kcX7_wrongPlace_1 1 3 rfl)
theorem dX7_wrongPlace_66 : decode cX7_wrongPlace 66 = .ok (.ireturn, 1) := dw_172 (kcX7_wrongPlace_1 2 172 rfl)
theorem dX7_wrongPlace_61 : decode cX7_wrongPlace 61 = .ok (.iconst 4, 1) := dw_7 (kcX7_wrongPlace_0 61 7 rfl)
theorem dX7_wrongPlace_62 : decode cX7_wrongPlace 62 = .ok (.goto 4, 3) := dw_167 (kcX7_wrongPlace_0 62 167 rfl) (kcX7_wrongPlace_0 63 0 rfl) (kcX7_wrongPlace_1 0 4 rfl) rfl
theorem dX7_wrongPlace_44 : decode cX7_wrongPlace 44 = .ok (.iconst 3, 1) := dw_6 (kcX7_wrongPlace_0 44 6 rfl)
theorem dX7_wrongPlace_45 : decode cX7_wrongPlace 45 = .ok (.ireturn, 1) := dw_172 (kcX7_wrongPlace_0 45 172 rfl)
theorem dX7_wrongPlace_8 : decode cX7_wrongPlace 8 = .ok (.iconst 1, 1) := dw_4 (kcX7_wrongPlace_0 8 4 rfl)
theorem dX7_wrongPlace_9 : decode cX7_wrongPlace 9 = .ok (.ireturn, 1) := dw_172 (kcX7_wrongPlace_0 9 172 rfl)
/-! rows for the walks that are laid by themselves -/
def up2 (r : Nat → Nat → Int32) (k : Nat) (x : Nat → Int32) : Nat → Nat → Int32 := fun j => if j = k then x else r j
abbrev mM (G : GG) (y : Nat) (b : Nat → Nat) (f : Nat → Int32) (r : Nat → Nat → Int32) : va_W := ((y, .inr (7, [.int (f 0), .ref (b 1), .ref (b 2), .ref (b 3), .ref (b 4), .ref (b 5), .ref (b 6), .ref (b 7), .ref (b 8), .ref (b 9), .ref (b 10), .ref (b 11), .ref (b 12), .ref (b 13), .ref (b 14), .ref (b 15), .ref (b 16), .ref (b 17), .ref (b 18), .ref (b 19), .int (f 20), .int (f 21), .ref (b 22), .ref (b 23), .ref (b 24), .ref (b 25), .ref (b 26), .int (f 27), .int (f 28), .ref (b 29), .ref (b 30), .ref (b 31), .ref (b 32), .ref (b 33), .int (f 34), .int (f 35), .ref (b 36), .ref (b 37), .ref (b 38), .ref (b 39), .ref (b 40), .ref (b 41), .int (f 42)])) :: ((b 1), .inl (G.2.2.1, 6, .inl (r 1))) :: ((b 2), .inl (G.2.1, 6, .inl (r 2))) :: ((b 3), .inl (G.2.1, 6, .inl (r 3))) :: ((b 4), .inl (G.2.1, 36, .inl (r 4))) :: ((b 5), .inl (G.2.1, 864, .inl (r 5))) :: ((b 6), .inl (G.2.1, 864, .inl (r 6))) :: ((b 7), .inl (G.2.1, 864, .inl (r 7))) :: ((b 8), .inl (G.2.1, 5184, .inl (r 8))) :: ((b 9), .inl (G.2.2.1, 864, .inl (r 9))) :: ((b 10), .inl (G.2.2.1, 864, .inl (r 10))) :: ((b 11), .inl (G.2.1, 72, .inl (r 11))) :: ((b 12), .inl (G.2.1, 6, .inl (r 12))) :: ((b 13), .inl (G.2.1, 72, .inl (r 13))) :: ((b 14), .inl (G.2.1, 72, .inl (r 14))) :: ((b 15), .inl (G.2.1, 144, .inl (r 15))) :: ((b 16), .inl (G.2.1, 144, .inl (r 16))) :: ((b 17), .inl (G.2.1, 144, .inl (r 17))) :: ((b 18), .inl (G.2.1, 12, .inl (r 18))) :: ((b 19), .inl (G.2.2.1, 144, .inl (r 19))) :: ((b 22), .inl (G.2.1, 24, .inl (r 22))) :: ((b 23), .inl (G.2.1, 24, .inl (r 23))) :: ((b 24), .inl (G.2.1, 144, .inl (r 24))) :: ((b 25), .inl (G.2.1, 12, .inl (r 25))) :: ((b 26), .inl (G.2.2.1, 24, .inl (r 26))) :: ((b 29), .inl (G.2.2.1, 144, .inl (r 29))) :: ((b 30), .inl (G.2.1, 12, .inl (r 30))) :: ((b 31), .inl (G.2.1, 144, .inl (r 31))) :: ((b 32), .inl (G.2.1, 144, .inl (r 32))) :: ((b 33), .inl (G.2.1, 12, .inl (r 33))) :: ((b 36), .inl (G.2.1, 784, .inl (r 36))) :: ((b 37), .inl (G.2.1, 28, .inl (r 37))) :: ((b 38), .inl (G.2.1, 28, .inl (r 38))) :: ((b 39), .inl (G.2.1, 2304, .inl (r 39))) :: ((b 40), .inl (G.2.1, 16, .inl (r 40))) :: ((b 41), .inl (G.2.1, 16, .inl (r 41))) :: [])
theorem qlt_t {a b : Nat} (ha : a < 2147483648) (hb : b < 2147483648) (h : nI a < nI b) : a < b := (nI_ltI ha hb).mp h
theorem qlt_f {a b : Nat} (ha : a < 2147483648) (hb : b < 2147483648) (h : ¬ nI a < nI b) : b ≤ a := Nat.not_lt.mp (fun q => h ((nI_ltI ha hb).mpr q))
theorem qge_t {a b : Nat} (ha : a < 2147483648) (hb : b < 2147483648) (h : nI b ≤ nI a) : b ≤ a := (nI_leI hb ha).mp h
theorem qge_f {a b : Nat} (ha : a < 2147483648) (hb : b < 2147483648) (h : ¬ nI b ≤ nI a) : a < b := Nat.not_le.mp (fun q => h ((nI_leI hb ha).mpr q))
theorem qle_t {a b : Nat} (ha : a < 2147483648) (hb : b < 2147483648) (h : nI a ≤ nI b) : a ≤ b := (nI_leI ha hb).mp h
theorem qle_f {a b : Nat} (ha : a < 2147483648) (hb : b < 2147483648) (h : ¬ nI a ≤ nI b) : b < a := Nat.not_le.mp (fun q => h ((nI_leI ha hb).mpr q))
theorem qeq_t {a b : Nat} (ha : a < 2147483648) (hb : b < 2147483648) (h : nI a = nI b) : a = b := (nI_eq ha hb).mp h
theorem qeq_f {a b : Nat} (_ : a < 2147483648) (_ : b < 2147483648) (h : ¬ nI a = nI b) : a ≠ b := fun q => h (by rw [q])
theorem nI_times {v x z : Int32} {i j : Nat} (h : v = x * z) (hx : x = nI i) (hz : z = nI j) : v = nI (i * j) := by rw [h, hx, hz]; exact pk_mul i j
theorem nI_minus {v x z : Int32} {i j : Nat} (h : v = x - z) (hx : x = nI i) (hz : z = nI j) (hle : j ≤ i) : v = nI (i - j) := by rw [h, hx, hz]; exact pk_sub hle
theorem nI_quo {v x z : Int32} {i j : Nat} (h : v = x / z) (hx : x = nI i) (hz : z = nI j) (h1 : i < 2147483648) (h2 : 0 < j) (h3 : j < 2147483648) : v = nI (i / j) := by rw [h, hx, hz]; exact pk_div h1 h2 h3
theorem nI_mod {v x z : Int32} {i j : Nat} (h : v = x - x / z * z) (hx : x = nI i) (hz : z = nI j) (h1 : i < 2147483648) (h2 : 0 < j) (h3 : j < 2147483648) : v = nI (i % j) := by rw [h, hx, hz]; exact pk_rem h1 h2 h3
section XB
variable {p : Program} {l : Launch} {e : Env} {R : Room} {s : State} {m : MethodId} {args : Array Value} {below : List Frame} {meth : Method} {c : Code} {H H0 : Heap} {locs : List Loc} {cells slots : Nat} {Q : State → Prop}
variable {cc bytes : ByteArray} {pc a n nL maxL index : Nat} {ls : Array Slot} {rest st0 As : List Value} {A0 : Nat → Prop} {G : GG} {wa : va_W} {f : Nat → Int32} {i x : Int32} {y : MethodName} {ret : Option FieldType} {rm : Room} {own : String} {b : Nat} {postW : Int32 → va_W → Prop} {postV : va_W → Prop}
theorem xzastn (hx : p.tables.exec = Jvm.exec) (hb : c.code = cc) (hK : KK G s) (hP : PP G wa H) (hD : va_D A0 wa) (hS : va_S A0 H0 H locs) (q0 j : Nat) (hi : i = nI j) (hj : j < n) (hn : n < 2147483648) (ha : wa[q0]? = some (a, .inl (G.2.2.1, n, .inl f))) (hdg : decode cc pc = .ok (.bastore, 1))
    (kk : ∀ (H1 : Heap) (locs1 : List Loc), PP G (wa.set q0 (a, .inl (G.2.2.1, n, .inl (upd f j (vp_nar .boolean x))))) H1 → va_D A0 (wa.set q0 (a, .inl (G.2.2.1, n, .inl (upd f j (vp_nar .boolean x))))) → va_S A0 H0 H1 locs1 → W p l e R s m args below meth c H1 locs1 cells slots Q (F0 m (pc + 1) ls rest)) : W p l e R s m args below meth c H locs cells slots Q (F0 m pc ls (.int x :: .int i :: .ref a :: rest)) := by
  subst hi
  refine va_zast hx hb hK.1 hP hD hS q0 1 ha rfl (vp_in_nI hj hn) hdg ?_
  rw [nI_clamp (by omega)]; exact kk
theorem xalen (hx : p.tables.exec = Jvm.exec) (hb : c.code = cc) (hK : KK G s) (hP : PP G wa H) (q0 : Nat) (ha : wa[q0]? = some (a, .inl (G.2.1, n, .inl f))) (hdg : decode cc pc = .ok (.arraylength, 1))
    (kk : W p l e R s m args below meth c H locs cells slots Q (F0 m (pc + 1) ls (.int (nI n) :: rest))) : W p l e R s m args below meth c H locs cells slots Q (F0 m pc ls (.ref a :: rest)) :=
  va_alen hx hb hK.1 hP q0 0 ha rfl rfl hdg kk
theorem free_all {ws : va_W} (hD : va_D A0 ws) (hS : va_S A0 H0 H locs) (hA : ∀ q, H0.size ≤ q → A0 q) : ∀ q, va_A ws H.size q → A0 q := fun q h => by
  rcases va_A_iff.mp h with ⟨r, hr, rfl⟩ | h
  · exact (nd_iff.mp hD).2 r hr
  · exact hA q (Nat.le_trans hS.1 h)
theorem wrVIa {ci N q0 : Nat} {T : u_T} {fs : List Value} (S : CallFix p m c cc nL s args TB own) (hM : WrI l y bytes maxL ret rm G wa (.ref b :: As) postW) (mi : MI y bytes maxL ret n) (hv : Cond.instanceMethod y ∈ TB ∧ Cond.selects y.cls y y ∈ TB) (hlk : Cond.methodLink own index y ∈ TB) (hR : RmOk R rm maxL 0 0) (hK : KK G s)
    (hP : PP G wa H) (hD : va_D A0 wa)
    (he : wa[q0]? = some (b, .inr (ci, fs))) (hc : vwCl[ci]? = some (y.cls, T, N)) (hn : As.length = n) (hsize : ls.size = nL) (hst : st0 = As.reverse ++ .ref b :: rest) (hW : (rest.map fun v => v.category).sum ≤ 8) (hdg : decode cc pc = .ok (.invokevirtual index, 3)) (hcs : cells ≤ R.cells ∧ slots ≤ R.slots)
    (hS : va_S A0 H0 H locs) (hA : ∀ q, H0.size ≤ q → A0 q)
    (kk : ∀ (r : Int32) (w : va_W) (H1 : Heap) (locs1 : List Loc), postW r w → PP G w H1 → va_S A0 H0 H1 locs1 → W p l e R s m args below meth c H1 locs1 cells slots Q (F0 m (pc + 3) ls (.int r :: rest))) : W p l e R s m args below meth c H locs cells slots Q (F0 m pc ls st0) := by
  subst hst
  obtain ⟨hx, hb, hml, hown, hts⟩ := id S
  have hF := free_all hD hS hA
  refine va_calli (va_runV (As := As) (rest := rest) S (hM H.size) ⟨mi_callB hts mi hlk hR, hts _ hv.1, hts _ hv.2⟩ ⟨Wr_blind, va_recv hK.1 hP hc he, fun U hU hW => ⟨rfl, by rw [hU], by rw [hU]; exact hP, hK.warm hW, hD.weaken (fun _ _ _ _ => trivial)⟩⟩ rfl hn hsize rfl (lv_room hW) hdg hcs) hS (fun q _ h => hF q h) hF (fun r w t H1 locs1 ht _ hp hB _ hk1 hS1 => ?_)
  rw [ht] at hB
  exact kk r w H1 locs1 hp hB hS1
theorem wrVVa {ci N q0 : Nat} {T : u_T} {fs : List Value} (S : CallFix p m c cc nL s args TB own) (hM : WrV l y bytes maxL rm G wa (.ref b :: As) postV) (mi : MI y bytes maxL none n) (hv : Cond.instanceMethod y ∈ TB ∧ Cond.selects y.cls y y ∈ TB) (hlk : Cond.methodLink own index y ∈ TB) (hR : RmOk R rm maxL 0 0) (hK : KK G s)
    (hP : PP G wa H) (hD : va_D A0 wa)
    (he : wa[q0]? = some (b, .inr (ci, fs))) (hc : vwCl[ci]? = some (y.cls, T, N)) (hn : As.length = n) (hsize : ls.size = nL) (hst : st0 = As.reverse ++ .ref b :: rest) (hW : (rest.map fun v => v.category).sum ≤ 8) (hdg : decode cc pc = .ok (.invokevirtual index, 3)) (hcs : cells ≤ R.cells ∧ slots ≤ R.slots)
    (hS : va_S A0 H0 H locs) (hA : ∀ q, H0.size ≤ q → A0 q)
    (kk : ∀ (w : va_W) (H1 : Heap) (locs1 : List Loc), postV w → PP G w H1 → va_S A0 H0 H1 locs1 → W p l e R s m args below meth c H1 locs1 cells slots Q (F0 m (pc + 3) ls rest)) : W p l e R s m args below meth c H locs cells slots Q (F0 m pc ls st0) := by
  subst hst
  obtain ⟨hx, hb, hml, hown, hts⟩ := id S
  have hF := free_all hD hS hA
  refine va_callv (va_runV (As := As) (rest := rest) S (hM H.size) ⟨mi_callB hts mi hlk hR, hts _ hv.1, hts _ hv.2⟩ ⟨Wr_blind, va_recv hK.1 hP hc he, fun U hU hW => ⟨rfl, by rw [hU], by rw [hU]; exact hP, hK.warm hW, hD.weaken (fun _ _ _ _ => trivial)⟩⟩ rfl hn hsize rfl (lv_room hW) hdg hcs) hS (fun q _ h => hF q h) hF (fun w t H1 locs1 ht _ hp hB _ hk1 hS1 => ?_)
  rw [ht] at hB
  exact kk w H1 locs1 hp hB hS1
end XB
/-- what the reference's rows keep -/
def nOK (n m : Nat) (x : Nat → Int32) : Prop := ∀ t, t < n → ∃ k, k ≤ m ∧ x t = nI k
theorem nOK_u {n m t k : Nat} {x : Nat → Int32} (h : nOK n m x) (hk : k ≤ m) : nOK n m (upd x t (nI k)) := fun j hj => by
  by_cases e : j = t
  · subst e; exact ⟨k, hk, pk_us⟩
  · rw [pk_un e]; exact h j hj
def opn (op : Nat → Int32) (t : Int32) : Prop := ∃ j, j < 6 ∧ t = nI j ∧ ¬ op j = 0
def inR (n x : Int32) : Prop := ¬ x < 0 ∧ ¬ n ≤ x
theorem inR_n {n : Nat} {x : Int32} (hn : n < 2147483648) (h : inR (nI n) x) : ∃ i, i < n ∧ x = nI i := lt_ix hn h.1 h.2
def plQ (rw cl : Int32) (pl : Nat → Int32) (row col q : Int32) : Prop := (q = 2 ∧ ¬ (inR rw row ∧ inR cl col)) ∨ (inR rw row ∧ inR cl col ∧ ((q = 3 ∧ pl row.toNatClampNeg = 0) ∨ (q = 4 ∧ ¬ pl row.toNatClampNeg = 0 ∧ ¬ col < pl row.toNatClampNeg) ∨ (q = 0 ∧ ¬ pl row.toNatClampNeg = 0 ∧ col < pl row.toNatClampNeg)))
def plS (op rs cs pl : Nat → Int32) (t row col q : Int32) : Prop := (q = 1 ∧ ¬ opn op t) ∨ (∃ j, j < 6 ∧ t = nI j ∧ ¬ op j = 0 ∧ plQ (rs j) (cs j) (fun i => pl (12 * j + i)) row col q)
def okR (rs cs : Nat → Int32) (t row col : Int32) : Prop := ∃ j i k rw cl : Nat, j < 6 ∧ i < rw ∧ k < cl ∧ rw ≤ 12 ∧ cl ≤ 12 ∧ t = nI j ∧ row = nI i ∧ col = nI k ∧ rs j = nI rw ∧ cs j = nI cl
def wS (rs cs : Nat → Int32) (t row col q : Int32) : Prop := 0 < q ∨ (q = 0 ∧ okR rs cs t row col)
theorem wS_of {op rs cs pl : Nat → Int32} {t row col q : Int32} (h1 : nOK 6 12 rs) (h2 : nOK 6 12 cs) (h : plS op rs cs pl t row col q) : wS rs cs t row col q := by
  rcases h with ⟨rfl, _⟩ | ⟨j, hj, rfl, _, h⟩
  · exact Or.inl (by decide)
  · rcases h with ⟨rfl, _⟩ | ⟨ha, hb, ⟨rfl, _⟩ | ⟨rfl, _⟩ | ⟨rfl, _⟩⟩
    · exact Or.inl (by decide)
    · exact Or.inl (by decide)
    · exact Or.inl (by decide)
    · obtain ⟨rw, hrw, e1⟩ := h1 j hj
      obtain ⟨cl, hcl, e2⟩ := h2 j hj
      rw [e1] at ha
      rw [e2] at hb
      obtain ⟨i, hi, rfl⟩ := inR_n (by omega) ha
      obtain ⟨k, hk, rfl⟩ := inR_n (by omega) hb
      exact Or.inr ⟨rfl, j, i, k, rw, cl, hj, hi, hk, hrw, hcl, rfl, rfl, rfl, e1, e2⟩
theorem wS_ok {rs cs : Nat → Int32} {t row col q : Int32} (h : wS rs cs t row col q) (hq : ¬ 0 < q) : okR rs cs t row col := (h.resolve_left hq).2
theorem wS_pos {rs cs : Nat → Int32} {t row col q : Int32} (h : wS rs cs t row col q) (hq : ¬ q = 0) : 0 < q := h.elim id (fun z => absurd z.1 hq)
theorem npos_of_le {q : Int32} (h : q ≤ 0) : ¬ 0 < q := Int32.not_lt.mpr h
theorem npos_of_eq {q : Int32} (h : q = 0) : ¬ 0 < q := by rw [h]; decide
set_option maxHeartbeats 4000000 in
set_option maxRecDepth 100000 in
theorem m_X7_at (l : Launch) (G : GG) (y : Nat) (b : Nat → Nat) (f : Nat → Int32) (r : Nat → Nat → Int32) (t : Nat) (rr : Nat) (cc : Nat) : RdI l yX7_at cX7_at 3 (some .int) ({ frames := 0, cells := 0, slots := 0, locals := 0 }) G (mM G y b f r) [.int (nI t), .int (nI rr), .int (nI cc)] (fun q => q = nI (144 * t + 12 * rr + cc)) := by
  refine rd_entry (by decide +kernel) (Nat.le_of_ble_eq_true rfl) ?_
  intro p e s m below meth c C0 hP hK ls hl
  have hS : va_S (fun q => s.heap.size ≤ q) s.heap s.heap [] := va_S.rf
  have hA : ∀ q, s.heap.size ≤ q → (fun q => s.heap.size ≤ q) q := fun _ h => h
  obtain ⟨hx, hb, hml, hown, hts, hr, hlocks, hin⟩ := C0
  have hown : s.vm.findClass RX7 = some m.cls := hown
  have hl : lv_has ls 3 [(0, .int (nI t)), (1, .int (nI rr)), (2, .int (nI cc))] := hl
  refine lv_sipush (v := 144) hx hb dX7_at_0 (by decide) ?_
  refine lv_iload_n hx hb dX7_at_3 rfl (lv_at hl 0 rfl) ?_
  refine lv_imul hx hb dX7_at_4 ?_
  refine lv_topi (fun v1 ev1 => ?_)
  obtain rfl : v1 = nI (144 * t) := nI_times ev1 rfl rfl
  refine lv_bipush (v := 12) hx hb dX7_at_5 (by decide) ?_
  refine lv_iload_n hx hb dX7_at_7 rfl (lv_at hl 1 rfl) ?_
  refine lv_imul hx hb dX7_at_8 ?_
  refine lv_topi (fun v2 ev2 => ?_)
  obtain rfl : v2 = nI (12 * rr) := nI_times ev2 rfl rfl
  refine lv_iadd hx hb dX7_at_9 ?_
  refine lv_topi (fun v3 ev3 => ?_)
  obtain rfl : v3 = nI ((144 * t) + (12 * rr)) := nI_plus ev3 rfl rfl
  refine lv_iload_n hx hb dX7_at_10 rfl (lv_at hl 2 rfl) ?_
  refine lv_iadd hx hb dX7_at_11 ?_
  refine lv_topi (fun v4 ev4 => ?_)
  obtain rfl : v4 = nI (((144 * t) + (12 * rr)) + cc) := nI_plus ev4 rfl rfl
  exact rd_iret hx hb hr hlocks hS (rfl) dX7_at_12
set_option maxHeartbeats 4000000 in
set_option maxRecDepth 100000 in
theorem m_X7_refuse (l : Launch) (G : GG) (y : Nat) (b : Nat → Nat) (f : Nat → Int32) (r : Nat → Nat → Int32) (why : Int32) : WrI l yX7_refuse cX7_refuse 2 (some .boolean) ({ frames := 0, cells := 0, slots := 0, locals := 0 }) G (mM G y b f r) [.ref y, .int why] (fun q w => ∃ (n_f_0 : Int32), w = mM G y b (upd f 0 n_f_0) r ∧ q = 0 ∧ (n_f_0 = why)) := by
  refine wr_entryI (by decide +kernel) (Nat.le_of_ble_eq_true rfl) ?_
  intro p e s m below meth c A C0 hP hK hD hA ls hl
  have hS : va_S A s.heap s.heap [] := va_S.rf
  obtain ⟨hx, hb, hml, hown, hts, hr, hlocks, hin⟩ := C0
  have hown : s.vm.findClass RX7 = some m.cls := hown
  have hDD : ∀ f' r', va_D A (mM G y b f' r') := fun f' r' => D_same hD rfl
  have hl : lv_has ls 2 [(0, .ref y), (1, .int why)] := hl
  refine lv_aload_n hx hb dX7_refuse_0 rfl (lv_at hl 0 rfl) ?_
  refine lv_iload_n hx hb dX7_refuse_1 rfl (lv_at hl 1 rfl) ?_
  refine va_put (D := G.1) (ci := 7) (v := .int why) (C := RX7) (T := TX7) (N := 43) hx hb hts inX7 tyX7 tyX7_ok nmX7 hown hK.1 hP (hDD _ _) hS 0 rfl rfl 0 (by decide) (hts _ mf_X7_116) (fun _ h9 => h9) rfl (tyX7_ok 0 (by decide)) (rfl) (rfl) (Nat.le_of_ble_eq_true rfl) dX7_refuse_2 (fun H locs hP _ hS => ?_)
  have hP : PP G (mM G y b (upd f 0 why) r) H := hP
  refine lv_iconst (v := 0) hx hb dX7_refuse_5 (by decide) ?_
  exact wr_zret hx hb hr hlocks (Or.inl rfl) hS hP ⟨why, rfl, rfl, rfl⟩ dX7_refuse_6
set_option maxHeartbeats 4000000 in
set_option maxRecDepth 100000 in
theorem m_X7_good (l : Launch) (G : GG) (y : Nat) (b : Nat → Nat) (f : Nat → Int32) (r : Nat → Nat → Int32) : WrI l yX7_good cX7_good 1 (some .boolean) ({ frames := 0, cells := 0, slots := 0, locals := 0 }) G (mM G y b f r) [.ref y] (fun q w => ∃ (n_f_0 : Int32), w = mM G y b (upd f 0 n_f_0) r ∧ q = 1 ∧ (n_f_0 = 0)) := by
  refine wr_entryI (by decide +kernel) (Nat.le_of_ble_eq_true rfl) ?_
  intro p e s m below meth c A C0 hP hK hD hA ls hl
  have hS : va_S A s.heap s.heap [] := va_S.rf
  obtain ⟨hx, hb, hml, hown, hts, hr, hlocks, hin⟩ := C0
  have hown : s.vm.findClass RX7 = some m.cls := hown
  have hDD : ∀ f' r', va_D A (mM G y b f' r') := fun f' r' => D_same hD rfl
  have hl : lv_has ls 1 [(0, .ref y)] := hl
  refine lv_aload_n hx hb dX7_good_0 rfl (lv_at hl 0 rfl) ?_
  refine lv_iconst (v := 0) hx hb dX7_good_1 (by decide) ?_
  refine va_put (D := G.1) (ci := 7) (v := .int 0) (C := RX7) (T := TX7) (N := 43) hx hb hts inX7 tyX7 tyX7_ok nmX7 hown hK.1 hP (hDD _ _) hS 0 rfl rfl 0 (by decide) (hts _ mf_X7_116) (fun _ h9 => h9) rfl (tyX7_ok 0 (by decide)) (rfl) (rfl) (Nat.le_of_ble_eq_true rfl) dX7_good_2 (fun H locs hP _ hS => ?_)
  have hP : PP G (mM G y b (upd f 0 0) r) H := hP
  refine lv_iconst (v := 1) hx hb dX7_good_5 (by decide) ?_
  exact wr_zret hx hb hr hlocks (Or.inr rfl) hS hP ⟨0, rfl, rfl, rfl⟩ dX7_good_6
set_option maxHeartbeats 4000000 in
set_option maxRecDepth 100000 in
theorem m_X7_isTable (l : Launch) (G : GG) (y : Nat) (b : Nat → Nat) (f : Nat → Int32) (r : Nat → Nat → Int32) (tb : Int32) : RdI l yX7_isTable cX7_isTable 2 (some .boolean) ({ frames := 0, cells := 0, slots := 0, locals := 0 }) G (mM G y b f r) [.ref y, .int tb] (fun q => ((q = 1 ∧ (opn (r 1) tb)) ∨ (q = 0 ∧ ¬ (opn (r 1) tb)))) := by
  refine rd_entry (by decide +kernel) (Nat.le_of_ble_eq_true rfl) ?_
  intro p e s m below meth c C0 hP hK ls hl
  have hS : va_S (fun q => s.heap.size ≤ q) s.heap s.heap [] := va_S.rf
  have hA : ∀ q, s.heap.size ≤ q → (fun q => s.heap.size ≤ q) q := fun _ h => h
  obtain ⟨hx, hb, hml, hown, hts, hr, hlocks, hin⟩ := C0
  have hown : s.vm.findClass RX7 = some m.cls := hown
  have hl : lv_has ls 2 [(0, .ref y), (1, .int tb)] := hl
  refine lv_iload_n hx hb dX7_isTable_0 rfl (lv_at hl 1 rfl) ?_
  refine lv_if_lt (tgt := 23) hx hb dX7_isTable_1 (by decide) (fun c1 => ?_) (fun c1 => ?_)
  · refine lv_iconst (v := 0) hx hb dX7_isTable_23 (by decide) ?_
    exact rd_zret hx hb hr hlocks (Or.inl rfl) hS (Or.inr ⟨rfl, fun ⟨j, hj, e, _⟩ => absurd (e ▸ c1) (nI_pos (by omega))⟩) dX7_isTable_24
  · refine lv_iload_n hx hb dX7_isTable_4 rfl (lv_at hl 1 rfl) ?_
    refine lv_bipush (v := 6) hx hb dX7_isTable_5 (by decide) ?_
    refine lv_icmp_ge (tgt := 23) hx hb dX7_isTable_7 (by decide) (fun c2 => ?_) (fun c2 => ?_)
    · refine lv_iconst (v := 0) hx hb dX7_isTable_23 (by decide) ?_
      exact rd_zret hx hb hr hlocks (Or.inl rfl) hS (Or.inr ⟨rfl, fun ⟨j, hj, e, _⟩ => absurd (e ▸ c2) (nI_ge hj (by decide))⟩) dX7_isTable_24
    · refine lv_aload_n hx hb dX7_isTable_10 rfl (lv_at hl 0 rfl) ?_
      refine va_get (D := G.1) (ci := 7) (v := .ref (b 1)) (C := RX7) (T := TX7) (N := 43) hx hb hts inX7 hown hK.1 hP 0 rfl rfl 1 (by decide) (hts _ mf_X7_7) (fun _ h9 => h9) rfl dX7_isTable_11 ?_
      refine lv_iload_n hx hb dX7_isTable_14 rfl (lv_at hl 1 rfl) ?_
      obtain ⟨t, ht, rfl⟩ := lt_ix (x := tb) (n := 6) (by decide) c1 c2
      refine xzald (f := (r 1)) hx hb hK hP 1 (t) (rfl) (by omega) (by decide) rfl dX7_isTable_15 ?_
      refine lv_topi (fun v3 ev3 => ?_)
      refine lv_if_eq (tgt := 23) hx hb dX7_isTable_16 (by decide) (fun c4 => ?_) (fun c4 => ?_)
      · refine lv_iconst (v := 0) hx hb dX7_isTable_23 (by decide) ?_
        exact rd_zret hx hb hr hlocks (Or.inl rfl) hS (Or.inr ⟨rfl, fun ⟨j, hj, e, hn⟩ => by have := (nI_eq (by omega) (by omega)).mp e; subst this; exact hn (by rw [← ev3]; exact c4)⟩) dX7_isTable_24
      · refine lv_iconst (v := 1) hx hb dX7_isTable_19 (by decide) ?_
        refine lv_goto (tgt := 24) hx hb dX7_isTable_20 (by decide) ?_
        exact rd_zret hx hb hr hlocks (Or.inr rfl) hS (Or.inl ⟨rfl, t, ht, rfl, by rw [← ev3]; exact c4⟩) dX7_isTable_24
set_option maxHeartbeats 4000000 in
set_option maxRecDepth 100000 in
theorem m_X7_isRow (l : Launch) (G : GG) (y : Nat) (b : Nat → Nat) (f : Nat → Int32) (r : Nat → Nat → Int32) (t : Nat) (x : Int32) (ht : t < 6) : RdI l yX7_isRow cX7_isRow 3 (some .boolean) ({ frames := 0, cells := 0, slots := 0, locals := 0 }) G (mM G y b f r) [.ref y, .int (nI t), .int x] (fun q => ((q = 1 ∧ (inR ((r 2) t) x)) ∨ (q = 0 ∧ ¬ (inR ((r 2) t) x)))) := by
  refine rd_entry (by decide +kernel) (Nat.le_of_ble_eq_true rfl) ?_
  intro p e s m below meth c C0 hP hK ls hl
  have hS : va_S (fun q => s.heap.size ≤ q) s.heap s.heap [] := va_S.rf
  have hA : ∀ q, s.heap.size ≤ q → (fun q => s.heap.size ≤ q) q := fun _ h => h
  obtain ⟨hx, hb, hml, hown, hts, hr, hlocks, hin⟩ := C0
  have hown : s.vm.findClass RX7 = some m.cls := hown
  have hl : lv_has ls 3 [(0, .ref y), (1, .int (nI t)), (2, .int x)] := hl
  refine lv_iload_n hx hb dX7_isRow_0 rfl (lv_at hl 2 rfl) ?_
  refine lv_if_lt (tgt := 18) hx hb dX7_isRow_1 (by decide) (fun c1 => ?_) (fun c1 => ?_)
  · refine lv_iconst (v := 0) hx hb dX7_isRow_18 (by decide) ?_
    exact rd_zret hx hb hr hlocks (Or.inl rfl) hS (Or.inr ⟨rfl, fun h => h.1 c1⟩) dX7_isRow_19
  · refine lv_iload_n hx hb dX7_isRow_4 rfl (lv_at hl 2 rfl) ?_
    refine lv_aload_n hx hb dX7_isRow_5 rfl (lv_at hl 0 rfl) ?_
    refine va_get (D := G.1) (ci := 7) (v := .ref (b 2)) (C := RX7) (T := TX7) (N := 43) hx hb hts inX7 hown hK.1 hP 0 rfl rfl 2 (by decide) (hts _ mf_X7_13) (fun _ h9 => h9) rfl dX7_isRow_6 ?_
    refine lv_iload_n hx hb dX7_isRow_9 rfl (lv_at hl 1 rfl) ?_
    refine xiald (f := (r 2)) hx hb hK hP 2 (t) (rfl) (by omega) (by decide) rfl dX7_isRow_10 ?_
    refine lv_topi (fun v2 ev2 => ?_)
    refine lv_icmp_ge (tgt := 18) hx hb dX7_isRow_11 (by decide) (fun c3 => ?_) (fun c3 => ?_)
    · refine lv_iconst (v := 0) hx hb dX7_isRow_18 (by decide) ?_
      exact rd_zret hx hb hr hlocks (Or.inl rfl) hS (Or.inr ⟨rfl, fun h => h.2 (by rw [← ev2]; exact c3)⟩) dX7_isRow_19
    · refine lv_iconst (v := 1) hx hb dX7_isRow_14 (by decide) ?_
      refine lv_goto (tgt := 19) hx hb dX7_isRow_15 (by decide) ?_
      exact rd_zret hx hb hr hlocks (Or.inr rfl) hS (Or.inl ⟨rfl, c1, by rw [← ev2]; exact c3⟩) dX7_isRow_19
set_option maxHeartbeats 4000000 in
set_option maxRecDepth 100000 in
theorem m_X7_isColumn (l : Launch) (G : GG) (y : Nat) (b : Nat → Nat) (f : Nat → Int32) (r : Nat → Nat → Int32) (t : Nat) (x : Int32) (ht : t < 6) : RdI l yX7_isColumn cX7_isColumn 3 (some .boolean) ({ frames := 0, cells := 0, slots := 0, locals := 0 }) G (mM G y b f r) [.ref y, .int (nI t), .int x] (fun q => ((q = 1 ∧ (inR ((r 3) t) x)) ∨ (q = 0 ∧ ¬ (inR ((r 3) t) x)))) := by
  refine rd_entry (by decide +kernel) (Nat.le_of_ble_eq_true rfl) ?_
  intro p e s m below meth c C0 hP hK ls hl
  have hS : va_S (fun q => s.heap.size ≤ q) s.heap s.heap [] := va_S.rf
  have hA : ∀ q, s.heap.size ≤ q → (fun q => s.heap.size ≤ q) q := fun _ h => h
  obtain ⟨hx, hb, hml, hown, hts, hr, hlocks, hin⟩ := C0
  have hown : s.vm.findClass RX7 = some m.cls := hown
  have hl : lv_has ls 3 [(0, .ref y), (1, .int (nI t)), (2, .int x)] := hl
  refine lv_iload_n hx hb dX7_isColumn_0 rfl (lv_at hl 2 rfl) ?_
  refine lv_if_lt (tgt := 18) hx hb dX7_isColumn_1 (by decide) (fun c1 => ?_) (fun c1 => ?_)
  · refine lv_iconst (v := 0) hx hb dX7_isColumn_18 (by decide) ?_
    exact rd_zret hx hb hr hlocks (Or.inl rfl) hS (Or.inr ⟨rfl, fun h => h.1 c1⟩) dX7_isColumn_19
  · refine lv_iload_n hx hb dX7_isColumn_4 rfl (lv_at hl 2 rfl) ?_
    refine lv_aload_n hx hb dX7_isColumn_5 rfl (lv_at hl 0 rfl) ?_
    refine va_get (D := G.1) (ci := 7) (v := .ref (b 3)) (C := RX7) (T := TX7) (N := 43) hx hb hts inX7 hown hK.1 hP 0 rfl rfl 3 (by decide) (hts _ mf_X7_17) (fun _ h9 => h9) rfl dX7_isColumn_6 ?_
    refine lv_iload_n hx hb dX7_isColumn_9 rfl (lv_at hl 1 rfl) ?_
    refine xiald (f := (r 3)) hx hb hK hP 3 (t) (rfl) (by omega) (by decide) rfl dX7_isColumn_10 ?_
    refine lv_topi (fun v2 ev2 => ?_)
    refine lv_icmp_ge (tgt := 18) hx hb dX7_isColumn_11 (by decide) (fun c3 => ?_) (fun c3 => ?_)
    · refine lv_iconst (v := 0) hx hb dX7_isColumn_18 (by decide) ?_
      exact rd_zret hx hb hr hlocks (Or.inl rfl) hS (Or.inr ⟨rfl, fun h => h.2 (by rw [← ev2]; exact c3)⟩) dX7_isColumn_19
    · refine lv_iconst (v := 1) hx hb dX7_isColumn_14 (by decide) ?_
      refine lv_goto (tgt := 19) hx hb dX7_isColumn_15 (by decide) ?_
      exact rd_zret hx hb hr hlocks (Or.inr rfl) hS (Or.inl ⟨rfl, c1, by rw [← ev2]; exact c3⟩) dX7_isColumn_19
set_option maxHeartbeats 4000000 in
set_option maxRecDepth 100000 in
theorem m_X7_wrongPlace (l : Launch) (G : GG) (y : Nat) (b : Nat → Nat) (f : Nat → Int32) (r : Nat → Nat → Int32) (tb : Int32) (row : Int32) (col : Int32) (hM2 : nOK 6 12 (r 2)) (hM3 : nOK 6 12 (r 3)) (hM12 : nOK 6 12 (r 12)) : RdI l yX7_wrongPlace cX7_wrongPlace 4 (some .int) ({ frames := 1, cells := 0, slots := 0, locals := 22 }) G (mM G y b f r) [.ref y, .int tb, .int row, .int col] (fun q => plS (r 1) (r 2) (r 3) (r 11) tb row col q) := by
  refine rd_entry (by decide +kernel) (Nat.le_of_ble_eq_true rfl) ?_
  intro p e s m below meth c C0 hP hK ls hl
  have hS : va_S (fun q => s.heap.size ≤ q) s.heap s.heap [] := va_S.rf
  have hA : ∀ q, s.heap.size ≤ q → (fun q => s.heap.size ≤ q) q := fun _ h => h
  obtain ⟨hx, hb, hml, hown, hts, hr, hlocks, hin⟩ := C0
  have hown : s.vm.findClass RX7 = some m.cls := hown
  have hl : lv_has ls 4 [(0, .ref y), (1, .int tb), (2, .int row), (3, .int col)] := hl
  refine lv_aload_n hx hb dX7_wrongPlace_0 rfl (lv_at hl 0 rfl) ?_
  refine lv_iload_n hx hb dX7_wrongPlace_1 rfl (lv_at hl 1 rfl) ?_
  refine rdV (rest := []) (q0 := 0) ⟨hx, hb, hml, hown, hts⟩ (m_X7_isTable l G y b f r tb  ) mi_yX7_isTable mv_yX7_isTable ml_X7_120 ⟨rfl, rfl, Nat.le_of_ble_eq_true rfl, Nat.le_of_ble_eq_true rfl⟩ hK (hP) rfl rfl rfl hl.1 rfl (Nat.le_of_ble_eq_true rfl) dX7_wrongPlace_2 ⟨Nat.zero_le _, Nat.zero_le _⟩ hS hA hP (fun r1 H locs hr1 hP hS => ?_)
  have hr1 : ((r1 = 1 ∧ (opn (r 1) tb)) ∨ (r1 = 0 ∧ ¬ (opn (r 1) tb))) := hr1
  refine lv_if_ne (tgt := 10) hx hb dX7_wrongPlace_5 (by decide) (fun c2 => ?_) (fun c2 => ?_)
  · have b5 := bT hr1 c2
    obtain ⟨t, ht, rfl, hop⟩ := b5
    obtain ⟨rw, hrw, h2⟩ := hM2 t ht
    obtain ⟨cl, hcl, h3⟩ := hM3 t ht
    obtain ⟨bk, hbk, h12⟩ := hM12 t ht
    refine lv_aload_n hx hb dX7_wrongPlace_10 rfl (lv_at hl 0 rfl) ?_
    refine lv_iload_n hx hb dX7_wrongPlace_11 rfl (lv_at hl 1 rfl) ?_
    refine lv_iload_n hx hb dX7_wrongPlace_12 rfl (lv_at hl 2 rfl) ?_
    refine rdV (rest := []) (q0 := 0) ⟨hx, hb, hml, hown, hts⟩ (m_X7_isRow l G y b f r t row  (by omega)) mi_yX7_isRow mv_yX7_isRow ml_X7_124 ⟨rfl, rfl, Nat.le_of_ble_eq_true rfl, Nat.le_of_ble_eq_true rfl⟩ hK (hP) rfl rfl rfl hl.1 rfl (Nat.le_of_ble_eq_true rfl) dX7_wrongPlace_13 ⟨Nat.zero_le _, Nat.zero_le _⟩ hS hA hP (fun r3 H locs hr3 hP hS => ?_)
    have hr3 : ((r3 = 1 ∧ (inR ((r 2) t) row)) ∨ (r3 = 0 ∧ ¬ (inR ((r 2) t) row))) := hr3
    refine lv_if_eq (tgt := 28) hx hb dX7_wrongPlace_16 (by decide) (fun c4 => ?_) (fun c4 => ?_)
    · have b16 := bF hr3 c4
      refine lv_iconst (v := 2) hx hb dX7_wrongPlace_28 (by decide) ?_
      exact rd_iret hx hb hr hlocks hS (Or.inr ⟨t, ht, rfl, hop, Or.inl ⟨rfl, fun h => b16 h.1⟩⟩) dX7_wrongPlace_29
    · have b16 := bT hr3 c4
      refine lv_aload_n hx hb dX7_wrongPlace_19 rfl (lv_at hl 0 rfl) ?_
      refine lv_iload_n hx hb dX7_wrongPlace_20 rfl (lv_at hl 1 rfl) ?_
      refine lv_iload_n hx hb dX7_wrongPlace_21 rfl (lv_at hl 3 rfl) ?_
      refine rdV (rest := []) (q0 := 0) ⟨hx, hb, hml, hown, hts⟩ (m_X7_isColumn l G y b f r t col  (by omega)) mi_yX7_isColumn mv_yX7_isColumn ml_X7_128 ⟨rfl, rfl, Nat.le_of_ble_eq_true rfl, Nat.le_of_ble_eq_true rfl⟩ hK (hP) rfl rfl rfl hl.1 rfl (Nat.le_of_ble_eq_true rfl) dX7_wrongPlace_22 ⟨Nat.zero_le _, Nat.zero_le _⟩ hS hA hP (fun r5 H locs hr5 hP hS => ?_)
      have hr5 : ((r5 = 1 ∧ (inR ((r 3) t) col)) ∨ (r5 = 0 ∧ ¬ (inR ((r 3) t) col))) := hr5
      refine lv_if_ne (tgt := 30) hx hb dX7_wrongPlace_25 (by decide) (fun c6 => ?_) (fun c6 => ?_)
      · have b25 := bT hr5 c6
        have q1 := b16
        have q2 := b25
        rw [h2] at q1
        rw [h3] at q2
        obtain ⟨i, hi, rfl⟩ := inR_n (by omega) q1
        obtain ⟨k, hk, rfl⟩ := inR_n (by omega) q2
        refine lv_aload_n hx hb dX7_wrongPlace_30 rfl (lv_at hl 0 rfl) ?_
        refine va_get (D := G.1) (ci := 7) (v := .ref (b 11)) (C := RX7) (T := TX7) (N := 43) hx hb hts inX7 hown hK.1 hP 0 rfl rfl 11 (by decide) (hts _ mf_X7_41) (fun _ h9 => h9) rfl dX7_wrongPlace_31 ?_
        refine lv_bipush (v := 12) hx hb dX7_wrongPlace_34 (by decide) ?_
        refine lv_iload_n hx hb dX7_wrongPlace_36 rfl (lv_at hl 1 rfl) ?_
        refine lv_imul hx hb dX7_wrongPlace_37 ?_
        refine lv_topi (fun v7 ev7 => ?_)
        obtain rfl : v7 = nI (12 * t) := nI_times ev7 rfl rfl
        refine lv_iload_n hx hb dX7_wrongPlace_38 rfl (lv_at hl 2 rfl) ?_
        refine lv_iadd hx hb dX7_wrongPlace_39 ?_
        refine lv_topi (fun v8 ev8 => ?_)
        obtain rfl : v8 = nI ((12 * t) + i) := nI_plus ev8 rfl rfl
        refine xiald (f := (r 11)) hx hb hK hP 11 (((12 * t) + i)) (rfl) (by omega) (by decide) rfl dX7_wrongPlace_40 ?_
        refine lv_topi (fun v9 ev9 => ?_)
        refine lv_if_ne (tgt := 46) hx hb dX7_wrongPlace_41 (by decide) (fun c10 => ?_) (fun c10 => ?_)
        · refine lv_iload_n hx hb dX7_wrongPlace_46 rfl (lv_at hl 3 rfl) ?_
          refine lv_aload_n hx hb dX7_wrongPlace_47 rfl (lv_at hl 0 rfl) ?_
          refine va_get (D := G.1) (ci := 7) (v := .ref (b 11)) (C := RX7) (T := TX7) (N := 43) hx hb hts inX7 hown hK.1 hP 0 rfl rfl 11 (by decide) (hts _ mf_X7_41) (fun _ h9 => h9) rfl dX7_wrongPlace_48 ?_
          refine lv_bipush (v := 12) hx hb dX7_wrongPlace_51 (by decide) ?_
          refine lv_iload_n hx hb dX7_wrongPlace_53 rfl (lv_at hl 1 rfl) ?_
          refine lv_imul hx hb dX7_wrongPlace_54 ?_
          refine lv_topi (fun v11 ev11 => ?_)
          obtain rfl : v11 = nI (12 * t) := nI_times ev11 rfl rfl
          refine lv_iload_n hx hb dX7_wrongPlace_55 rfl (lv_at hl 2 rfl) ?_
          refine lv_iadd hx hb dX7_wrongPlace_56 ?_
          refine lv_topi (fun v12 ev12 => ?_)
          obtain rfl : v12 = nI ((12 * t) + i) := nI_plus ev12 rfl rfl
          refine xiald (f := (r 11)) hx hb hK hP 11 (((12 * t) + i)) (rfl) (by omega) (by decide) rfl dX7_wrongPlace_57 ?_
          refine lv_topi (fun v13 ev13 => ?_)
          refine lv_icmp_lt (tgt := 65) hx hb dX7_wrongPlace_58 (by decide) (fun c14 => ?_) (fun c14 => ?_)
          · refine lv_iconst (v := 0) hx hb dX7_wrongPlace_65 (by decide) ?_
            exact rd_iret hx hb hr hlocks hS (Or.inr ⟨t, ht, rfl, hop, Or.inr ⟨b16, b25, Or.inr (Or.inr ⟨rfl, by rw [nI_clamp (by omega)]; exact fun h9 => c10 (ev9.trans h9), by rw [nI_clamp (by omega)]; have h9 := c14; rw [ev13] at h9; exact h9⟩)⟩⟩) dX7_wrongPlace_66
          · refine lv_iconst (v := 4) hx hb dX7_wrongPlace_61 (by decide) ?_
            refine lv_goto (tgt := 66) hx hb dX7_wrongPlace_62 (by decide) ?_
            exact rd_iret hx hb hr hlocks hS (Or.inr ⟨t, ht, rfl, hop, Or.inr ⟨b16, b25, Or.inr (Or.inl ⟨rfl, by rw [nI_clamp (by omega)]; exact fun h9 => c10 (ev9.trans h9), by rw [nI_clamp (by omega)]; have h9 := c14; rw [ev13] at h9; exact h9⟩)⟩⟩) dX7_wrongPlace_66
        · refine lv_iconst (v := 3) hx hb dX7_wrongPlace_44 (by decide) ?_
          exact rd_iret hx hb hr hlocks hS (Or.inr ⟨t, ht, rfl, hop, Or.inr ⟨b16, b25, Or.inl ⟨rfl, by rw [nI_clamp (by omega)]; exact ev9.symm.trans c10⟩⟩⟩) dX7_wrongPlace_45
      · have b25 := bF hr5 c6
        refine lv_iconst (v := 2) hx hb dX7_wrongPlace_28 (by decide) ?_
        exact rd_iret hx hb hr hlocks hS (Or.inr ⟨t, ht, rfl, hop, Or.inl ⟨rfl, fun h => b25 h.2⟩⟩) dX7_wrongPlace_29
  · have b5 := bF hr1 c2
    refine lv_iconst (v := 1) hx hb dX7_wrongPlace_8 (by decide) ?_
    exact rd_iret hx hb hr hlocks hS (Or.inl ⟨rfl, b5⟩) dX7_wrongPlace_9
