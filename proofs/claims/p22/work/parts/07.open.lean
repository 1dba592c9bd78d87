theorem mf_X4_29 : Cond.fieldLink RX4 29 "CellKeeper$Table" "kind" "[I" ∈ TB := TB_t1 223 rfl rfl
theorem mf_X4_32 : Cond.fieldLink RX4 32 "CellKeeper$Table" "number" "[I" ∈ TB := TB_t1 226 rfl rfl
theorem mf_X4_35 : Cond.fieldLink RX4 35 "CellKeeper$Table" "told" "[I" ∈ TB := TB_t1 229 rfl rfl
theorem mf_X4_38 : Cond.fieldLink RX4 38 "CellKeeper$Table" "parts" "[I" ∈ TB := TB_t1 230 rfl rfl
theorem mf_X4_9 : Cond.fieldLink RX4 9 "CellKeeper$Table" "isOpen" "Z" ∈ TB := TB_t1 211 rfl rfl
theorem mf_X4_15 : Cond.fieldLink RX4 15 "CellKeeper$Table" "rows" "I" ∈ TB := TB_t1 213 rfl rfl
theorem mf_X4_19 : Cond.fieldLink RX4 19 "CellKeeper$Table" "columns" "I" ∈ TB := TB_t1 216 rfl rfl
theorem mf_X4_22 : Cond.fieldLink RX4 22 "CellKeeper$Table" "blocks" "I" ∈ TB := TB_t1 219 rfl rfl
theorem mf_X4_25 : Cond.fieldLink RX4 25 "CellKeeper$Table" "places" "[I" ∈ TB := TB_t1 221 rfl rfl
theorem ml_X4_53 : Cond.methodLink RX4 53 yJ7_fill_53178 ∈ TB := TB_t2 69 rfl rfl
theorem mz_RJ7 : Cond.initialized RJ7 ∈ TB := TB_t1 9 rfl rfl
theorem mcode_yJ7_fill_53178 : Cond.code yJ7_fill_53178 cJ7_fill_53178 4 none ∈ TB := TB_t2 71 rfl rfl
theorem mi_yJ7_fill_53178 : MI yJ7_fill_53178 cJ7_fill_53178 4 none 2 := ⟨mz_RJ7, mcode_yJ7_fill_53178, by decide +kernel, by decide +kernel, by decide +kernel⟩
theorem mst_yJ7_fill_53178 : Cond.static yJ7_fill_53178 ∈ TB := TB_t2 70 rfl rfl
theorem mf_X4_44 : Cond.fieldLink RX4 44 "CellKeeper$Table" "rules" "[I" ∈ TB := TB_t1 232 rfl rfl
theorem ml_X4_59 : Cond.methodLink RX4 59 arraycopyName ∈ TB := TB_t2 72 rfl rfl
theorem mnat_arraycopyName : Cond.native arraycopyName ∈ TB := TB_t2 74 rfl rfl
theorem mst_arraycopyName : Cond.static arraycopyName ∈ TB := TB_t2 73 rfl rfl
theorem mz_RJ10 : Cond.initialized RJ10 ∈ TB := TB_t1 10 rfl rfl
theorem mz_RX6 : Cond.initialized RX6 ∈ TB := TB_t1 1 rfl rfl
theorem mcode_yX6_spotOf : Cond.code yX6_spotOf cX6_spotOf 2 (some .int) ∈ TB := TB_t2 77 rfl rfl
theorem mi_yX6_spotOf : MI yX6_spotOf cX6_spotOf 2 (some .int) 2 := ⟨mz_RX6, mcode_yX6_spotOf, by decide +kernel, by decide +kernel, by decide +kernel⟩
theorem mst_yX6_spotOf : Cond.static yX6_spotOf ∈ TB := TB_t2 76 rfl rfl
theorem ml_X4_69 : Cond.methodLink RX4 69 yX4_put ∈ TB := TB_t2 78 rfl rfl
theorem mz_RX4 : Cond.initialized RX4 ∈ TB := TB_t1 7 rfl rfl
theorem mcode_yX4_put : Cond.code yX4_put cX4_put 5 none ∈ TB := TB_t2 81 rfl rfl
theorem mi_yX4_put : MI yX4_put cX4_put 5 none 3 := ⟨mz_RX4, mcode_yX4_put, by decide +kernel, by decide +kernel, by decide +kernel⟩
theorem mim_yX4_put : Cond.instanceMethod yX4_put ∈ TB := TB_t2 79 rfl rfl
theorem msel_yX4_put : Cond.selects yX4_put.cls yX4_put yX4_put ∈ TB := TB_t2 80 rfl rfl
theorem mv_yX4_put : Cond.instanceMethod yX4_put ∈ TB ∧ Cond.selects yX4_put.cls yX4_put yX4_put ∈ TB := ⟨mim_yX4_put, msel_yX4_put⟩
theorem kcX6_spotOf_0 : CHb cX6_spotOf 0 [26, 16, 12, 104, 27, 96, 172] := CHb_of (by decide +kernel)
theorem dX6_spotOf_0 : decode cX6_spotOf 0 = .ok (.iload_n 0, 1) := dw_26 (kcX6_spotOf_0 0 26 rfl)
theorem dX6_spotOf_1 : decode cX6_spotOf 1 = .ok (.bipush 12, 2) := dw_16 (kcX6_spotOf_0 1 16 rfl) (kcX6_spotOf_0 2 12 rfl) rfl
theorem dX6_spotOf_3 : decode cX6_spotOf 3 = .ok (.imul, 1) := dw_104 (kcX6_spotOf_0 3 104 rfl)
theorem dX6_spotOf_4 : decode cX6_spotOf 4 = .ok (.iload_n 1, 1) := dw_27 (kcX6_spotOf_0 4 27 rfl)
theorem dX6_spotOf_5 : decode cX6_spotOf 5 = .ok (.iadd, 1) := dw_96 (kcX6_spotOf_0 5 96 rfl)
theorem dX6_spotOf_6 : decode cX6_spotOf 6 = .ok (.ireturn, 1) := dw_172 (kcX6_spotOf_0 6 172 rfl)
theorem kcJ7_fill_53178_0 : CHb cJ7_fill_53178 0 [3, 61, 42, 190, 62, 28, 29, 162, 0, 13, 42, 28, 27, 79, 132, 2, 1, 167, 255, 244, 177] := CHb_of (by decide +kernel)
theorem dJ7_fill_53178_0 : decode cJ7_fill_53178 0 = .ok (.iconst 0, 1) := dw_3 (kcJ7_fill_53178_0 0 3 rfl)
theorem dJ7_fill_53178_1 : decode cJ7_fill_53178 1 = .ok (.istore_n 2, 1) := dw_61 (kcJ7_fill_53178_0 1 61 rfl)
theorem dJ7_fill_53178_2 : decode cJ7_fill_53178 2 = .ok (.aload_n 0, 1) := dw_42 (kcJ7_fill_53178_0 2 42 rfl)
theorem dJ7_fill_53178_3 : decode cJ7_fill_53178 3 = .ok (.arraylength, 1) := dw_190 (kcJ7_fill_53178_0 3 190 rfl)
theorem dJ7_fill_53178_4 : decode cJ7_fill_53178 4 = .ok (.istore_n 3, 1) := dw_62 (kcJ7_fill_53178_0 4 62 rfl)
theorem dJ7_fill_53178_5 : decode cJ7_fill_53178 5 = .ok (.iload_n 2, 1) := dw_28 (kcJ7_fill_53178_0 5 28 rfl)
theorem dJ7_fill_53178_6 : decode cJ7_fill_53178 6 = .ok (.iload_n 3, 1) := dw_29 (kcJ7_fill_53178_0 6 29 rfl)
theorem dJ7_fill_53178_7 : decode cJ7_fill_53178 7 = .ok (.if_icmp .ge 13, 3) := dw_162 (kcJ7_fill_53178_0 7 162 rfl) (kcJ7_fill_53178_0 8 0 rfl) (kcJ7_fill_53178_0 9 13 rfl) rfl
theorem dJ7_fill_53178_20 : decode cJ7_fill_53178 20 = .ok (.return_, 1) := dw_177 (kcJ7_fill_53178_0 20 177 rfl)
theorem dJ7_fill_53178_10 : decode cJ7_fill_53178 10 = .ok (.aload_n 0, 1) := dw_42 (kcJ7_fill_53178_0 10 42 rfl)
theorem dJ7_fill_53178_11 : decode cJ7_fill_53178 11 = .ok (.iload_n 2, 1) := dw_28 (kcJ7_fill_53178_0 11 28 rfl)
theorem dJ7_fill_53178_12 : decode cJ7_fill_53178 12 = .ok (.iload_n 1, 1) := dw_27 (kcJ7_fill_53178_0 12 27 rfl)
theorem dJ7_fill_53178_13 : decode cJ7_fill_53178 13 = .ok (.iastore, 1) := dw_79 (kcJ7_fill_53178_0 13 79 rfl)
theorem dJ7_fill_53178_14 : decode cJ7_fill_53178 14 = .ok (.iinc 2 1, 3) := dw_132 (kcJ7_fill_53178_0 14 132 rfl) (kcJ7_fill_53178_0 15 2 rfl) (kcJ7_fill_53178_0 16 1 rfl) rfl
theorem dJ7_fill_53178_17 : decode cJ7_fill_53178 17 = .ok (.goto (-12), 3) := dw_167 (kcJ7_fill_53178_0 17 167 rfl) (kcJ7_fill_53178_0 18 255 rfl) (kcJ7_fill_53178_0 19 244 rfl) rfl
theorem kcX4_put_0 : CHb cX4_put 0 [42, 180, 0, 29, 27, 28, 79, 42, 180, 0, 32, 27, 29, 79, 42, 180, 0, 35, 27, 3, 79, 3, 54, 4, 21, 4, 16, 6, 162, 0, 22, 42, 180, 0, 38, 27, 16, 6, 104, 21, 4, 96, 3, 79, 132, 4, 1, 167, 255, 233, 177] := CHb_of (by decide +kernel)
theorem dX4_put_0 : decode cX4_put 0 = .ok (.aload_n 0, 1) := dw_42 (kcX4_put_0 0 42 rfl)
theorem dX4_put_1 : decode cX4_put 1 = .ok (.getfield 29, 3) := dw_180 (kcX4_put_0 1 180 rfl) (kcX4_put_0 2 0 rfl) (kcX4_put_0 3 29 rfl) rfl
theorem dX4_put_4 : decode cX4_put 4 = .ok (.iload_n 1, 1) := dw_27 (kcX4_put_0 4 27 rfl)
theorem dX4_put_5 : decode cX4_put 5 = .ok (.iload_n 2, 1) := dw_28 (kcX4_put_0 5 28 rfl)
theorem dX4_put_6 : decode cX4_put 6 = .ok (.iastore, 1) := dw_79 (kcX4_put_0 6 79 rfl)
theorem dX4_put_7 : decode cX4_put 7 = .ok (.aload_n 0, 1) := dw_42 (kcX4_put_0 7 42 rfl)
theorem dX4_put_8 : decode cX4_put 8 = .ok (.getfield 32, 3) := dw_180 (kcX4_put_0 8 180 rfl) (kcX4_put_0 9 0 rfl) (kcX4_put_0 10 32 rfl) rfl
theorem dX4_put_11 : decode cX4_put 11 = .ok (.iload_n 1, 1) := dw_27 (kcX4_put_0 11 27 rfl)
theorem dX4_put_12 : decode cX4_put 12 = .ok (.iload_n 3, 1) := dw_29 (kcX4_put_0 12 29 rfl)
theorem dX4_put_13 : decode cX4_put 13 = .ok (.iastore, 1) := dw_79 (kcX4_put_0 13 79 rfl)
theorem dX4_put_14 : decode cX4_put 14 = .ok (.aload_n 0, 1) := dw_42 (kcX4_put_0 14 42 rfl)
theorem dX4_put_15 : decode cX4_put 15 = .ok (.getfield 35, 3) := dw_180 (kcX4_put_0 15 180 rfl) (kcX4_put_0 16 0 rfl) (kcX4_put_0 17 35 rfl) rfl
theorem dX4_put_18 : decode cX4_put 18 = .ok (.iload_n 1, 1) := dw_27 (kcX4_put_0 18 27 rfl)
theorem dX4_put_19 : decode cX4_put 19 = .ok (.iconst 0, 1) := dw_3 (kcX4_put_0 19 3 rfl)
theorem dX4_put_20 : decode cX4_put 20 = .ok (.iastore, 1) := dw_79 (kcX4_put_0 20 79 rfl)
theorem dX4_put_21 : decode cX4_put 21 = .ok (.iconst 0, 1) := dw_3 (kcX4_put_0 21 3 rfl)
theorem dX4_put_22 : decode cX4_put 22 = .ok (.istore 4, 2) := dw_54 (kcX4_put_0 22 54 rfl) (kcX4_put_0 23 4 rfl)
theorem dX4_put_24 : decode cX4_put 24 = .ok (.iload 4, 2) := dw_21 (kcX4_put_0 24 21 rfl) (kcX4_put_0 25 4 rfl)
theorem dX4_put_26 : decode cX4_put 26 = .ok (.bipush 6, 2) := dw_16 (kcX4_put_0 26 16 rfl) (kcX4_put_0 27 6 rfl) rfl
theorem dX4_put_28 : decode cX4_put 28 = .ok (.if_icmp .ge 22, 3) := dw_162 (kcX4_put_0 28 162 rfl) (kcX4_put_0 29 0 rfl) (kcX4_put_0 30 22 rfl) rfl
theorem dX4_put_50 : decode cX4_put 50 = .ok (.return_, 1) := dw_177 (kcX4_put_0 50 177 rfl)
theorem dX4_put_31 : decode cX4_put 31 = .ok (.aload_n 0, 1) := dw_42 (kcX4_put_0 31 42 rfl)
theorem dX4_put_32 : decode cX4_put 32 = .ok (.getfield 38, 3) := dw_180 (kcX4_put_0 32 180 rfl) (kcX4_put_0 33 0 rfl) (kcX4_put_0 34 38 rfl) rfl
theorem dX4_put_35 : decode cX4_put 35 = .ok (.iload_n 1, 1) := dw_27 (kcX4_put_0 35 27 rfl)
theorem dX4_put_36 : decode cX4_put 36 = .ok (.bipush 6, 2) := dw_16 (kcX4_put_0 36 16 rfl) (kcX4_put_0 37 6 rfl) rfl
theorem dX4_put_38 : decode cX4_put 38 = .ok (.imul, 1) := dw_104 (kcX4_put_0 38 104 rfl)
theorem dX4_put_39 : decode cX4_put 39 = .ok (.iload 4, 2) := dw_21 (kcX4_put_0 39 21 rfl) (kcX4_put_0 40 4 rfl)
theorem dX4_put_41 : decode cX4_put 41 = .ok (.iadd, 1) := dw_96 (kcX4_put_0 41 96 rfl)
theorem dX4_put_42 : decode cX4_put 42 = .ok (.iconst 0, 1) := dw_3 (kcX4_put_0 42 3 rfl)
theorem dX4_put_43 : decode cX4_put 43 = .ok (.iastore, 1) := dw_79 (kcX4_put_0 43 79 rfl)
theorem dX4_put_44 : decode cX4_put 44 = .ok (.iinc 4 1, 3) := dw_132 (kcX4_put_0 44 132 rfl) (kcX4_put_0 45 4 rfl) (kcX4_put_0 46 1 rfl) rfl
theorem dX4_put_47 : decode cX4_put 47 = .ok (.goto (-23), 3) := dw_167 (kcX4_put_0 47 167 rfl) (kcX4_put_0 48 255 rfl) (kcX4_put_0 49 233 rfl) rfl
theorem kcX4_begin_0 : CHb cX4_begin 0 [42, 4, 181, 0, 9, 42, 27, 181, 0, 15, 42, 28, 181, 0, 19, 42, 3, 181, 0, 22, 42, 180, 0, 25, 28, 184, 0, 53, 178, 0, 41, 3, 42, 180, 0, 44, 3, 178, 0, 41, 190, 184, 0, 59, 3, 62, 29, 27, 162, 0, 36, 3, 54, 4, 21, 4, 28, 162, 0, 21, 42, 29, 21, 4] := CHb_of (by decide +kernel)
theorem dX4_begin_0 : decode cX4_begin 0 = .ok (.aload_n 0, 1) := dw_42 (kcX4_begin_0 0 42 rfl)
theorem dX4_begin_1 : decode cX4_begin 1 = .ok (.iconst 1, 1) := dw_4 (kcX4_begin_0 1 4 rfl)
theorem dX4_begin_2 : decode cX4_begin 2 = .ok (.putfield 9, 3) := dw_181 (kcX4_begin_0 2 181 rfl) (kcX4_begin_0 3 0 rfl) (kcX4_begin_0 4 9 rfl) rfl
theorem dX4_begin_5 : decode cX4_begin 5 = .ok (.aload_n 0, 1) := dw_42 (kcX4_begin_0 5 42 rfl)
theorem dX4_begin_6 : decode cX4_begin 6 = .ok (.iload_n 1, 1) := dw_27 (kcX4_begin_0 6 27 rfl)
theorem dX4_begin_7 : decode cX4_begin 7 = .ok (.putfield 15, 3) := dw_181 (kcX4_begin_0 7 181 rfl) (kcX4_begin_0 8 0 rfl) (kcX4_begin_0 9 15 rfl) rfl
theorem dX4_begin_10 : decode cX4_begin 10 = .ok (.aload_n 0, 1) := dw_42 (kcX4_begin_0 10 42 rfl)
theorem dX4_begin_11 : decode cX4_begin 11 = .ok (.iload_n 2, 1) := dw_28 (kcX4_begin_0 11 28 rfl)
theorem dX4_begin_12 : decode cX4_begin 12 = .ok (.putfield 19, 3) := dw_181 (kcX4_begin_0 12 181 rfl) (kcX4_begin_0 13 0 rfl) (kcX4_begin_0 14 19 rfl) rfl
theorem dX4_begin_15 : decode cX4_begin 15 = .ok (.aload_n 0, 1) := dw_42 (kcX4_begin_0 15 42 rfl)
theorem dX4_begin_16 : decode cX4_begin 16 = .ok (.iconst 0, 1) := dw_3 (kcX4_begin_0 16 3 rfl)
theorem dX4_begin_17 : decode cX4_begin 17 = .ok (.putfield 22, 3) := dw_181 (kcX4_begin_0 17 181 rfl) (kcX4_begin_0 18 0 rfl) (kcX4_begin_0 19 22 rfl) rfl
theorem dX4_begin_20 : decode cX4_begin 20 = .ok (.aload_n 0, 1) := dw_42 (kcX4_begin_0 20 42 rfl)
theorem dX4_begin_21 : decode cX4_begin 21 = .ok (.getfield 25, 3) := dw_180 (kcX4_begin_0 21 180 rfl) (kcX4_begin_0 22 0 rfl) (kcX4_begin_0 23 25 rfl) rfl
theorem dX4_begin_24 : decode cX4_begin 24 = .ok (.iload_n 2, 1) := dw_28 (kcX4_begin_0 24 28 rfl)
theorem dX4_begin_25 : decode cX4_begin 25 = .ok (.invokestatic 53, 3) := dw_184 (kcX4_begin_0 25 184 rfl) (kcX4_begin_0 26 0 rfl) (kcX4_begin_0 27 53 rfl) rfl
theorem dX4_begin_28 : decode cX4_begin 28 = .ok (.getstatic 41, 3) := dw_178 (kcX4_begin_0 28 178 rfl) (kcX4_begin_0 29 0 rfl) (kcX4_begin_0 30 41 rfl) rfl
theorem dX4_begin_31 : decode cX4_begin 31 = .ok (.iconst 0, 1) := dw_3 (kcX4_begin_0 31 3 rfl)
theorem dX4_begin_32 : decode cX4_begin 32 = .ok (.aload_n 0, 1) := dw_42 (kcX4_begin_0 32 42 rfl)
theorem dX4_begin_33 : decode cX4_begin 33 = .ok (.getfield 44, 3) := dw_180 (kcX4_begin_0 33 180 rfl) (kcX4_begin_0 34 0 rfl) (kcX4_begin_0 35 44 rfl) rfl
theorem dX4_begin_36 : decode cX4_begin 36 = .ok (.iconst 0, 1) := dw_3 (kcX4_begin_0 36 3 rfl)
theorem dX4_begin_37 : decode cX4_begin 37 = .ok (.getstatic 41, 3) := dw_178 (kcX4_begin_0 37 178 rfl) (kcX4_begin_0 38 0 rfl) (kcX4_begin_0 39 41 rfl) rfl
theorem dX4_begin_40 : decode cX4_begin 40 = .ok (.arraylength, 1) := dw_190 (kcX4_begin_0 40 190 rfl)
theorem dX4_begin_41 : decode cX4_begin 41 = .ok (.invokestatic 59, 3) := dw_184 (kcX4_begin_0 41 184 rfl) (kcX4_begin_0 42 0 rfl) (kcX4_begin_0 43 59 rfl) rfl
theorem dX4_begin_44 : decode cX4_begin 44 = .ok (.iconst 0, 1) := dw_3 (kcX4_begin_0 44 3 rfl)
theorem dX4_begin_45 : decode cX4_begin 45 = .ok (.istore_n 3, 1) := dw_62 (kcX4_begin_0 45 62 rfl)
theorem dX4_begin_46 : decode cX4_begin 46 = .ok (.iload_n 3, 1) := dw_29 (kcX4_begin_0 46 29 rfl)
theorem dX4_begin_47 : decode cX4_begin 47 = .ok (.iload_n 1, 1) := dw_27 (kcX4_begin_0 47 27 rfl)
theorem dX4_begin_48 : decode cX4_begin 48 = .ok (.if_icmp .ge 36, 3) := dw_162 (kcX4_begin_0 48 162 rfl) (kcX4_begin_0 49 0 rfl) (kcX4_begin_0 50 36 rfl) rfl
theorem kcX4_begin_1 : CHb cX4_begin 64 [184, 0, 65, 3, 3, 182, 0, 69, 132, 4, 1, 167, 255, 235, 132, 3, 1, 167, 255, 221, 177] := CHb_of (by decide +kernel)
theorem dX4_begin_84 : decode cX4_begin 84 = .ok (.return_, 1) := dw_177 (kcX4_begin_1 20 177 rfl)
theorem dX4_begin_51 : decode cX4_begin 51 = .ok (.iconst 0, 1) := dw_3 (kcX4_begin_0 51 3 rfl)
theorem dX4_begin_52 : decode cX4_begin 52 = .ok (.istore 4, 2) := dw_54 (kcX4_begin_0 52 54 rfl) (kcX4_begin_0 53 4 rfl)
theorem dX4_begin_54 : decode cX4_begin 54 = .ok (.iload 4, 2) := dw_21 (kcX4_begin_0 54 21 rfl) (kcX4_begin_0 55 4 rfl)
theorem dX4_begin_56 : decode cX4_begin 56 = .ok (.iload_n 2, 1) := dw_28 (kcX4_begin_0 56 28 rfl)
theorem dX4_begin_57 : decode cX4_begin 57 = .ok (.if_icmp .ge 21, 3) := dw_162 (kcX4_begin_0 57 162 rfl) (kcX4_begin_0 58 0 rfl) (kcX4_begin_0 59 21 rfl) rfl
theorem dX4_begin_78 : decode cX4_begin 78 = .ok (.iinc 3 1, 3) := dw_132 (kcX4_begin_1 14 132 rfl) (kcX4_begin_1 15 3 rfl) (kcX4_begin_1 16 1 rfl) rfl
theorem dX4_begin_81 : decode cX4_begin 81 = .ok (.goto (-35), 3) := dw_167 (kcX4_begin_1 17 167 rfl) (kcX4_begin_1 18 255 rfl) (kcX4_begin_1 19 221 rfl) rfl
theorem dX4_begin_60 : decode cX4_begin 60 = .ok (.aload_n 0, 1) := dw_42 (kcX4_begin_0 60 42 rfl)
theorem dX4_begin_61 : decode cX4_begin 61 = .ok (.iload_n 3, 1) := dw_29 (kcX4_begin_0 61 29 rfl)
theorem dX4_begin_62 : decode cX4_begin 62 = .ok (.iload 4, 2) := dw_21 (kcX4_begin_0 62 21 rfl) (kcX4_begin_0 63 4 rfl)
theorem dX4_begin_64 : decode cX4_begin 64 = .ok (.invokestatic 65, 3) := dw_184 (kcX4_begin_1 0 184 rfl) (kcX4_begin_1 1 0 rfl) (kcX4_begin_1 2 65 rfl) rfl
theorem dX4_begin_67 : decode cX4_begin 67 = .ok (.iconst 0, 1) := dw_3 (kcX4_begin_1 3 3 rfl)
theorem dX4_begin_68 : decode cX4_begin 68 = .ok (.iconst 0, 1) := dw_3 (kcX4_begin_1 4 3 rfl)
theorem dX4_begin_69 : decode cX4_begin 69 = .ok (.invokevirtual 69, 3) := dw_182 (kcX4_begin_1 5 182 rfl) (kcX4_begin_1 6 0 rfl) (kcX4_begin_1 7 69 rfl) rfl
theorem dX4_begin_72 : decode cX4_begin 72 = .ok (.iinc 4 1, 3) := dw_132 (kcX4_begin_1 8 132 rfl) (kcX4_begin_1 9 4 rfl) (kcX4_begin_1 10 1 rfl) rfl
theorem dX4_begin_75 : decode cX4_begin 75 = .ok (.goto (-21), 3) := dw_167 (kcX4_begin_1 11 167 rfl) (kcX4_begin_1 12 255 rfl) (kcX4_begin_1 13 235 rfl) rfl
/-! a row of numbers whose first i are v -/
def flF (f : Nat → Int32) (v : Int32) (i : Nat) : Nat → Int32 := fun j => if j < i then v else f j
theorem flF_0 (f : Nat → Int32) (v : Int32) : flF f v 0 = f := by funext j; simp [flF]
theorem flF_s (f : Nat → Int32) (v : Int32) (i : Nat) : upd (flF f v i) i v = flF f v (i + 1) := by
  funext j
  simp only [flF, upd]
  by_cases h1 : j = i
  · subst h1; simp
  · by_cases h2 : j < i
    · rw [if_neg h1, if_pos h2, if_pos (by omega)]
    · rw [if_neg h1, if_neg h2, if_neg (by omega)]
/-- n places from a on hold v -/
def rgF (f : Nat → Int32) (v : Int32) (a n : Nat) : Nat → Int32 := fun j => if a ≤ j ∧ j < a + n then v else f j
theorem rgF_0 (f : Nat → Int32) (v : Int32) (a : Nat) : rgF f v a 0 = f := by funext j; simp only [rgF]; rw [if_neg (by omega)]
theorem rgF_s (f : Nat → Int32) (v : Int32) (a n : Nat) : upd (rgF f v a n) (a + n) v = rgF f v a (n + 1) := by
  funext j
  simp only [rgF, upd]
  by_cases h1 : j = a + n
  · rw [if_pos h1, if_pos (by omega)]
  · by_cases h2 : a ≤ j ∧ j < a + n
    · rw [if_neg h1, if_pos h2, if_pos (by omega)]
    · rw [if_neg h1, if_neg h2, if_neg (by omega)]
theorem ge_t {a b : Nat} (ha : a < 2147483648) (hb : b < 2147483648) (h : nI b ≤ nI a) : b ≤ a := (nI_leI hb ha).mp h
theorem ge_f {a b : Nat} (ha : a < 2147483648) (hb : b < 2147483648) (h : ¬ nI b ≤ nI a) : a < b := Nat.not_le.mp (fun q => h ((nI_leI hb ha).mpr q))
theorem nI_inc {v : Int32} {i : Nat} (h : v = nI i + Int32.ofInt 1) : v = nI (i + 1) := h.trans (nI_1 i)
theorem nI_mul12 {v x : Int32} {i : Nat} (h : v = x * 12) (hx : x = nI i) : v = nI (i * 12) := by rw [h, hx]; exact pk_mul i 12
theorem nI_mul6 {v x : Int32} {i : Nat} (h : v = x * 6) (hx : x = nI i) : v = nI (i * 6) := by rw [h, hx]; exact pk_mul i 6
theorem nI_plus {v x z : Int32} {i j : Nat} (h : v = x + z) (hx : x = nI i) (hz : z = nI j) : v = nI (i + j) := by rw [h, hx, hz]; exact nI_add i j

set_option maxHeartbeats 4000000 in
set_option maxRecDepth 100000 in
theorem c_X6_spotOf (l : Launch) (G : GG) (p1 p2 : Int32) : RdI l yX6_spotOf cX6_spotOf 2 (some .int) ({ frames := 0, cells := 0, slots := 0, locals := 0 }) G ([]) [.int p1, .int p2] (fun r => r = p1 * 12 + p2) := by
  refine rd_entry (by decide +kernel) (Nat.le_of_ble_eq_true rfl) ?_
  intro p e s m below meth c C0 hP hK ls hl
  have hS : va_S (fun q => s.heap.size ≤ q) s.heap s.heap [] := va_S.rf
  have hA : ∀ q, s.heap.size ≤ q → (fun q => s.heap.size ≤ q) q := fun _ h => h
  obtain ⟨hx, hb, hml, hown, hts, hr, hlocks, hin⟩ := C0
  have hown : s.vm.findClass RX6 = some m.cls := hown
  have hl : lv_has ls 2 [(0, .int p1), (1, .int p2)] := hl
  refine lv_iload_n hx hb dX6_spotOf_0 rfl (lv_at hl 0 rfl) ?_
  refine lv_bipush (v := 12) hx hb dX6_spotOf_1 (by decide) ?_
  refine lv_imul hx hb dX6_spotOf_3 ?_
  refine lv_topi (fun v1 ev1 => ?_)
  refine lv_iload_n hx hb dX6_spotOf_4 rfl (lv_at hl 1 rfl) ?_
  refine lv_iadd hx hb dX6_spotOf_5 ?_
  refine lv_topi (fun v2 ev2 => ?_)
  exact rd_iret hx hb hr hlocks hS (by rw [ev2, ev1]) dX6_spotOf_6
set_option maxHeartbeats 4000000 in
set_option maxRecDepth 100000 in
theorem c_J7_fill_53178 (l : Launch) (G : GG) (b n : Nat) (f : Nat → Int32) (v : Int32) (hn : n < 2147483648) : WrV l yJ7_fill_53178 cJ7_fill_53178 4 ({ frames := 0, cells := 0, slots := 0, locals := 0 }) G ([(b, .inl (G.2.1, n, .inl f))]) [.ref b, .int v] (fun w => w = [(b, .inl (G.2.1, n, .inl (flF f v n)))]) := by
  refine wr_entryV (by decide +kernel) (Nat.le_of_ble_eq_true rfl) ?_
  intro p e s m below meth c A C0 hP hK hD hA ls hl
  have hS : va_S A s.heap s.heap [] := va_S.rf
  obtain ⟨hx, hb, hml, hown, hts, hr, hlocks, hin⟩ := C0
  have hown : s.vm.findClass RJ7 = some m.cls := hown
  have hl : lv_has ls 4 [(0, .ref b), (1, .int v)] := hl
  refine lv_iconst (v := 0) hx hb dJ7_fill_53178_0 (by decide) ?_
  refine lv_istore_n (lv' := [(2, .int 0), (0, .ref b), (1, .int v)]) hx hb dJ7_fill_53178_1 rfl hl (by decide) rfl (fun ls hl => ?_)
  refine lv_aload_n hx hb dJ7_fill_53178_2 rfl (lv_at hl 1 rfl) ?_
  refine va_alen (v := nI n) hx hb hK.1 hP 0 0 rfl rfl rfl dJ7_fill_53178_3 ?_
  refine lv_istore_n (lv' := [(3, .int (nI n)), (2, .int 0), (0, .ref b), (1, .int v)]) hx hb dJ7_fill_53178_4 rfl hl (by decide) rfl (fun ls hl => ?_)
  have loop : ∀ (k i : Nat), i ≤ n → n < i + k → ∀ (H : Heap) (locs : List Loc) (ls : Array Slot), PP G ([(b, .inl (G.2.1, n, .inl (flF f v i)))]) H → va_S A s.heap H locs → lv_has ls 4 [(0, .ref b), (1, .int v), (2, .int (nI i)), (3, .int (nI n))] → W p l e ({ frames := 0, cells := 0, slots := 0, locals := 0 }) s m ([.ref b, .int v] : List Value).toArray below meth c H locs 0 0 (MQ below (QwV G (fun w => w = [(b, .inl (G.2.1, n, .inl (flF f v n)))]) A) ([.ref b, .int v] : List Value).toArray s 0 0 A) (F0 m 5 ls []) := by
    intro k
    induction k with
    | zero => intro i  h1 h2; omega
    | succ k ih =>
      intro i  hi_i hk_i  H locs ls hP hS hl
      have hD := D_as2 hP hD rfl
      refine lv_iload_n hx hb dJ7_fill_53178_5 rfl (lv_at hl 2 rfl) ?_
      refine lv_iload_n hx hb dJ7_fill_53178_6 rfl (lv_at hl 3 rfl) ?_
      refine lv_icmp_ge (tgt := 20) hx hb dJ7_fill_53178_7 (by decide) (fun c1 => ?_) (fun c1 => ?_)
      · have hge := ge_t (by omega) (by omega) c1
        obtain rfl : i = n := by omega
        exact wr_vret hx hb hr hlocks hS hP rfl dJ7_fill_53178_20
      · have hlt := ge_f (by omega) (by omega) c1
        refine lv_aload_n hx hb dJ7_fill_53178_10 rfl (lv_at hl 0 rfl) ?_
        refine lv_iload_n hx hb dJ7_fill_53178_11 rfl (lv_at hl 2 rfl) ?_
        refine lv_iload_n hx hb dJ7_fill_53178_12 rfl (lv_at hl 1 rfl) ?_
        refine xiast (x := v) hx hb hK hP hD hS 0 (i) (rfl) (hlt) (by omega) rfl dJ7_fill_53178_13 (fun H locs hP hD hS => ?_)
        have hP : PP G [(b, .inl (G.2.1, n, .inl (upd (flF f v i) (i) (v))))] H := hP
        have hD := D_as hP hD rfl
        obtain ⟨v2, ev2⟩ : ∃ y : Int32, y = (nI i) + Int32.ofInt (1) := ⟨_, rfl⟩
        refine lv_iinc (v := v2) (lv' := [(2, .int v2), (0, .ref b), (1, .int v), (3, .int (nI n))]) hx hb dJ7_fill_53178_14 hl (k := 2) rfl ev2.symm (by decide) rfl (fun ls hl => ?_)
        refine lv_goto (tgt := 5) hx hb dJ7_fill_53178_17 (by decide) ?_
        rw [flF_s] at hP
        exact ih (i + 1) (by omega) (by omega) _ _ _ hP hS (by have e := nI_inc ev2; rw [e] at hl; exact lv_sub hl [1, 2, 0, 3] rfl)
  exact loop (n + 1) 0 (Nat.zero_le _) (by omega) _ _ _ (by rw [flF_0]; exact hP) hS (lv_sub hl [2, 3, 1, 0] rfl)
set_option maxHeartbeats 4000000 in
set_option maxRecDepth 100000 in
theorem c_X4_put (l : Launch) (G : GG) (a : Nat → Nat) (f : Nat → Int32) (r : Nat → Nat → Int32) (sp : Nat) (kd nu : Int32) (hsp : sp < 144) : WrV l yX4_put cX4_put 5 ({ frames := 0, cells := 0, slots := 0, locals := 0 }) G ([((a 0), .inr (4, [.int (f 0), .int (f 1), .int (f 2), .int (f 3), .ref (a 4), .ref (a 5), .ref (a 6), .ref (a 7), .ref (a 8), .ref (a 9), .ref (a 10), .ref (a 11)])), ((a 5), .inl (G.2.1, 144, .inl (r 5))), ((a 6), .inl (G.2.1, 144, .inl (r 6))), ((a 7), .inl (G.2.1, 144, .inl (r 7))), ((a 8), .inl (G.2.1, 864, .inl (r 8)))]) [.ref (a 0), .int (nI sp), .int kd, .int nu] (fun w => w = [((a 0), .inr (4, [.int (f 0), .int (f 1), .int (f 2), .int (f 3), .ref (a 4), .ref (a 5), .ref (a 6), .ref (a 7), .ref (a 8), .ref (a 9), .ref (a 10), .ref (a 11)])), ((a 5), .inl (G.2.1, 144, .inl (upd (r 5) (sp) (kd)))), ((a 6), .inl (G.2.1, 144, .inl (upd (r 6) (sp) (nu)))), ((a 7), .inl (G.2.1, 144, .inl (upd (r 7) (sp) (0)))), ((a 8), .inl (G.2.1, 864, .inl (rgF (r 8) 0 (sp * 6) 6)))]) := by
  refine wr_entryV (by decide +kernel) (Nat.le_of_ble_eq_true rfl) ?_
  intro p e s m below meth c A C0 hP hK hD hA ls hl
  have hS : va_S A s.heap s.heap [] := va_S.rf
  obtain ⟨hx, hb, hml, hown, hts, hr, hlocks, hin⟩ := C0
  have hown : s.vm.findClass RX4 = some m.cls := hown
  have hl : lv_has ls 5 [(0, .ref (a 0)), (1, .int (nI sp)), (2, .int kd), (3, .int nu)] := hl
  refine lv_aload_n hx hb dX4_put_0 rfl (lv_at hl 0 rfl) ?_
  refine va_get (D := G.1) (ci := 4) (v := .ref (a 5)) (C := RX4) (T := TX4) (N := 12) hx hb hts inX4 hown hK.1 hP 0 rfl rfl 5 (by decide) (hts _ mf_X4_29) (fun _ h9 => h9) rfl dX4_put_1 ?_
  refine lv_iload_n hx hb dX4_put_4 rfl (lv_at hl 1 rfl) ?_
  refine lv_iload_n hx hb dX4_put_5 rfl (lv_at hl 2 rfl) ?_
  refine xiast (x := kd) hx hb hK hP hD hS 1 (sp) (rfl) (hsp) (by omega) rfl dX4_put_6 (fun H locs hP hD hS => ?_)
  have hP : PP G [((a 0), .inr (4, [.int (f 0), .int (f 1), .int (f 2), .int (f 3), .ref (a 4), .ref (a 5), .ref (a 6), .ref (a 7), .ref (a 8), .ref (a 9), .ref (a 10), .ref (a 11)])), ((a 5), .inl (G.2.1, 144, .inl (upd (r 5) (sp) (kd)))), ((a 6), .inl (G.2.1, 144, .inl (r 6))), ((a 7), .inl (G.2.1, 144, .inl (r 7))), ((a 8), .inl (G.2.1, 864, .inl (r 8)))] H := hP
  have hD := D_as hP hD rfl
  refine lv_aload_n hx hb dX4_put_7 rfl (lv_at hl 0 rfl) ?_
  refine va_get (D := G.1) (ci := 4) (v := .ref (a 6)) (C := RX4) (T := TX4) (N := 12) hx hb hts inX4 hown hK.1 hP 0 rfl rfl 6 (by decide) (hts _ mf_X4_32) (fun _ h9 => h9) rfl dX4_put_8 ?_
  refine lv_iload_n hx hb dX4_put_11 rfl (lv_at hl 1 rfl) ?_
  refine lv_iload_n hx hb dX4_put_12 rfl (lv_at hl 3 rfl) ?_
  refine xiast (x := nu) hx hb hK hP hD hS 2 (sp) (rfl) (hsp) (by omega) rfl dX4_put_13 (fun H locs hP hD hS => ?_)
  have hP : PP G [((a 0), .inr (4, [.int (f 0), .int (f 1), .int (f 2), .int (f 3), .ref (a 4), .ref (a 5), .ref (a 6), .ref (a 7), .ref (a 8), .ref (a 9), .ref (a 10), .ref (a 11)])), ((a 5), .inl (G.2.1, 144, .inl (upd (r 5) (sp) (kd)))), ((a 6), .inl (G.2.1, 144, .inl (upd (r 6) (sp) (nu)))), ((a 7), .inl (G.2.1, 144, .inl (r 7))), ((a 8), .inl (G.2.1, 864, .inl (r 8)))] H := hP
  have hD := D_as hP hD rfl
  refine lv_aload_n hx hb dX4_put_14 rfl (lv_at hl 0 rfl) ?_
  refine va_get (D := G.1) (ci := 4) (v := .ref (a 7)) (C := RX4) (T := TX4) (N := 12) hx hb hts inX4 hown hK.1 hP 0 rfl rfl 7 (by decide) (hts _ mf_X4_35) (fun _ h9 => h9) rfl dX4_put_15 ?_
  refine lv_iload_n hx hb dX4_put_18 rfl (lv_at hl 1 rfl) ?_
  refine lv_iconst (v := 0) hx hb dX4_put_19 (by decide) ?_
  refine xiast (x := 0) hx hb hK hP hD hS 3 (sp) (rfl) (hsp) (by omega) rfl dX4_put_20 (fun H locs hP hD hS => ?_)
  have hP : PP G [((a 0), .inr (4, [.int (f 0), .int (f 1), .int (f 2), .int (f 3), .ref (a 4), .ref (a 5), .ref (a 6), .ref (a 7), .ref (a 8), .ref (a 9), .ref (a 10), .ref (a 11)])), ((a 5), .inl (G.2.1, 144, .inl (upd (r 5) (sp) (kd)))), ((a 6), .inl (G.2.1, 144, .inl (upd (r 6) (sp) (nu)))), ((a 7), .inl (G.2.1, 144, .inl (upd (r 7) (sp) (0)))), ((a 8), .inl (G.2.1, 864, .inl (r 8)))] H := hP
  have hD := D_as hP hD rfl
  refine lv_iconst (v := 0) hx hb dX4_put_21 (by decide) ?_
  refine lv_istore (lv' := [(4, .int 0), (0, .ref (a 0)), (1, .int (nI sp)), (2, .int kd), (3, .int nu)]) hx hb dX4_put_22 hl (by decide) rfl (fun ls hl => ?_)
  have loop : ∀ (k i : Nat), i ≤ 6 → 6 < i + k → ∀ (H : Heap) (locs : List Loc) (ls : Array Slot), PP G ([((a 0), .inr (4, [.int (f 0), .int (f 1), .int (f 2), .int (f 3), .ref (a 4), .ref (a 5), .ref (a 6), .ref (a 7), .ref (a 8), .ref (a 9), .ref (a 10), .ref (a 11)])), ((a 5), .inl (G.2.1, 144, .inl (upd (r 5) (sp) (kd)))), ((a 6), .inl (G.2.1, 144, .inl (upd (r 6) (sp) (nu)))), ((a 7), .inl (G.2.1, 144, .inl (upd (r 7) (sp) (0)))), ((a 8), .inl (G.2.1, 864, .inl (rgF (r 8) 0 (sp * 6) i)))]) H → va_S A s.heap H locs → lv_has ls 5 [(0, .ref (a 0)), (1, .int (nI sp)), (2, .int kd), (3, .int nu), (4, .int (nI i))] → W p l e ({ frames := 0, cells := 0, slots := 0, locals := 0 }) s m ([.ref (a 0), .int (nI sp), .int kd, .int nu] : List Value).toArray below meth c H locs 0 0 (MQ below (QwV G (fun w => w = [((a 0), .inr (4, [.int (f 0), .int (f 1), .int (f 2), .int (f 3), .ref (a 4), .ref (a 5), .ref (a 6), .ref (a 7), .ref (a 8), .ref (a 9), .ref (a 10), .ref (a 11)])), ((a 5), .inl (G.2.1, 144, .inl (upd (r 5) (sp) (kd)))), ((a 6), .inl (G.2.1, 144, .inl (upd (r 6) (sp) (nu)))), ((a 7), .inl (G.2.1, 144, .inl (upd (r 7) (sp) (0)))), ((a 8), .inl (G.2.1, 864, .inl (rgF (r 8) 0 (sp * 6) 6)))]) A) ([.ref (a 0), .int (nI sp), .int kd, .int nu] : List Value).toArray s 0 0 A) (F0 m 24 ls []) := by
    intro k
    induction k with
    | zero => intro i  h1 h2; omega
    | succ k ih =>
      intro i  hi_i hk_i  H locs ls hP hS hl
      have hD := D_as2 hP hD rfl
      refine lv_iload hx hb dX4_put_24 (lv_at hl 4 rfl) ?_
      refine lv_bipush (v := 6) hx hb dX4_put_26 (by decide) ?_
      refine lv_icmp_ge (tgt := 50) hx hb dX4_put_28 (by decide) (fun c1 => ?_) (fun c1 => ?_)
      · have hge := ge_t (b := 6) (by omega) (by omega) c1
        obtain rfl : i = 6 := by omega
        exact wr_vret hx hb hr hlocks hS hP rfl dX4_put_50
      · have hlt := ge_f (b := 6) (by omega) (by omega) c1
        refine lv_aload_n hx hb dX4_put_31 rfl (lv_at hl 0 rfl) ?_
        refine va_get (D := G.1) (ci := 4) (v := .ref (a 8)) (C := RX4) (T := TX4) (N := 12) hx hb hts inX4 hown hK.1 hP 0 rfl rfl 8 (by decide) (hts _ mf_X4_38) (fun _ h9 => h9) rfl dX4_put_32 ?_
        refine lv_iload_n hx hb dX4_put_35 rfl (lv_at hl 1 rfl) ?_
        refine lv_bipush (v := 6) hx hb dX4_put_36 (by decide) ?_
        refine lv_imul hx hb dX4_put_38 ?_
        refine lv_topi (fun v2 ev2 => ?_)
        refine lv_iload hx hb dX4_put_39 (lv_at hl 4 rfl) ?_
        refine lv_iadd hx hb dX4_put_41 ?_
        refine lv_topi (fun v3 ev3 => ?_)
        refine lv_iconst (v := 0) hx hb dX4_put_42 (by decide) ?_
        refine xiast (x := 0) hx hb hK hP hD hS 4 (sp * 6 + i) (nI_plus ev3 (nI_mul6 ev2 rfl) rfl) (by omega) (by omega) rfl dX4_put_43 (fun H locs hP hD hS => ?_)
        have hP : PP G [((a 0), .inr (4, [.int (f 0), .int (f 1), .int (f 2), .int (f 3), .ref (a 4), .ref (a 5), .ref (a 6), .ref (a 7), .ref (a 8), .ref (a 9), .ref (a 10), .ref (a 11)])), ((a 5), .inl (G.2.1, 144, .inl (upd (r 5) (sp) (kd)))), ((a 6), .inl (G.2.1, 144, .inl (upd (r 6) (sp) (nu)))), ((a 7), .inl (G.2.1, 144, .inl (upd (r 7) (sp) (0)))), ((a 8), .inl (G.2.1, 864, .inl (upd (rgF (r 8) 0 (sp * 6) i) (sp * 6 + i) (0))))] H := hP
        have hD := D_as hP hD rfl
        obtain ⟨v4, ev4⟩ : ∃ y : Int32, y = (nI i) + Int32.ofInt (1) := ⟨_, rfl⟩
        refine lv_iinc (v := v4) (lv' := [(4, .int v4), (0, .ref (a 0)), (1, .int (nI sp)), (2, .int kd), (3, .int nu)]) hx hb dX4_put_44 hl (k := 4) rfl ev4.symm (by decide) rfl (fun ls hl => ?_)
        refine lv_goto (tgt := 24) hx hb dX4_put_47 (by decide) ?_
        rw [rgF_s] at hP
        exact ih (i + 1) (by omega) (by omega) _ _ _ hP hS (by have e := nI_inc ev4; rw [e] at hl; exact lv_sub hl [1, 2, 3, 4, 0] rfl)
  exact loop 7 0 (Nat.zero_le _) (by omega) _ _ _ (by rw [rgF_0]; exact hP) hS (lv_sub hl [1, 2, 3, 4, 0] rfl)
/-- the places of the first i rows, and the first j of row i, hold 0 (columns: c) -/
def clF (c i j : Nat) (f : Nat → Int32) : Nat → Int32 := fun q => if (q / 12 < i ∧ q % 12 < c) ∨ (q / 12 = i ∧ q % 12 < j) then 0 else f q
theorem clF_0 (c : Nat) (f : Nat → Int32) : clF c 0 0 f = f := by funext q; simp only [clF]; rw [if_neg (by omega)]
theorem clF_s (c i j : Nat) (f : Nat → Int32) (hj : j < 12) : upd (clF c i j f) (i * 12 + j) 0 = clF c i (j + 1) f := by
  funext q
  simp only [clF, upd]
  by_cases h1 : q = i * 12 + j
  · rw [if_pos h1, if_pos (by omega)]
  · rw [if_neg h1]
    by_cases h2 : (q / 12 < i ∧ q % 12 < c) ∨ (q / 12 = i ∧ q % 12 < j)
    · rw [if_pos h2, if_pos (by omega)]
    · rw [if_neg h2, if_neg (by omega)]
theorem clF_r (c i : Nat) (f : Nat → Int32) : clF c i c f = clF c (i + 1) 0 f := by
  funext q
  simp only [clF]
  by_cases h2 : (q / 12 < i ∧ q % 12 < c) ∨ (q / 12 = i ∧ q % 12 < c)
  · rw [if_pos h2, if_pos (by omega)]
  · rw [if_neg h2, if_neg (by omega)]
/-- the same of the parts: six to a place -/
def clP (c i j : Nat) (f : Nat → Int32) : Nat → Int32 := fun q => if (q / 6 / 12 < i ∧ q / 6 % 12 < c) ∨ (q / 6 / 12 = i ∧ q / 6 % 12 < j) then 0 else f q
theorem clP_0 (c : Nat) (f : Nat → Int32) : clP c 0 0 f = f := by funext q; simp only [clP]; rw [if_neg (by omega)]
theorem clP_s (c i j : Nat) (f : Nat → Int32) (hj : j < 12) : rgF (clP c i j f) 0 ((i * 12 + j) * 6) 6 = clP c i (j + 1) f := by
  funext q
  simp only [clP, rgF]
  by_cases h1 : (i * 12 + j) * 6 ≤ q ∧ q < (i * 12 + j) * 6 + 6
  · rw [if_pos h1, if_pos (by omega)]
  · rw [if_neg h1]
    by_cases h2 : (q / 6 / 12 < i ∧ q / 6 % 12 < c) ∨ (q / 6 / 12 = i ∧ q / 6 % 12 < j)
    · rw [if_pos h2, if_pos (by omega)]
    · rw [if_neg h2, if_neg (by omega)]
theorem clP_r (c i : Nat) (f : Nat → Int32) : clP c i c f = clP c (i + 1) 0 f := by
  funext q
  simp only [clP]
  by_cases h2 : (q / 6 / 12 < i ∧ q / 6 % 12 < c) ∨ (q / 6 / 12 = i ∧ q / 6 % 12 < c)
  · rw [if_pos h2, if_pos (by omega)]
  · rw [if_neg h2, if_neg (by omega)]
def ruI : Nat → Int32 := fun j => match j with | 0 => 3 | 1 => 2 | 2 => 10 | 3 => 1 | 4 => 1 | _ => 0
set_option maxHeartbeats 4000000 in
set_option maxRecDepth 100000 in
theorem c_X4_begin (l : Launch) (G : GG) (a : Nat → Nat) (f : Nat → Int32) (r : Nat → Nat → Int32) (rw cl : Nat) (hrw : rw ≤ 12) (hcl : cl ≤ 12) : WrVs l yX4_begin cX4_begin 5 ({ frames := 1, cells := 0, slots := 0, locals := 60 }) G ([((a 0), .inr (4, [.int (f 0), .int (f 1), .int (f 2), .int (f 3), .ref (a 4), .ref (a 5), .ref (a 6), .ref (a 7), .ref (a 8), .ref (a 9), .ref (a 10), .ref (a 11)])), ((a 4), .inl (G.2.1, 12, .inl (r 4))), ((a 5), .inl (G.2.1, 144, .inl (r 5))), ((a 6), .inl (G.2.1, 144, .inl (r 6))), ((a 7), .inl (G.2.1, 144, .inl (r 7))), ((a 8), .inl (G.2.1, 864, .inl (r 8))), ((a 9), .inl (G.2.1, 6, .inl (r 9))), ((a 10), .inl (G.2.1, 12, .inl (r 10))), ((a 11), .inl (G.2.1, 12, .inl (r 11)))]) [.ref (a 0), .int (nI rw), .int (nI cl)] (fun w => w = [((a 0), .inr (4, [.int 1, .int (nI rw), .int (nI cl), .int 0, .ref (a 4), .ref (a 5), .ref (a 6), .ref (a 7), .ref (a 8), .ref (a 9), .ref (a 10), .ref (a 11)])), ((a 4), .inl (G.2.1, 12, .inl (flF (r 4) (nI cl) 12))), ((a 5), .inl (G.2.1, 144, .inl (clF cl rw 0 (r 5)))), ((a 6), .inl (G.2.1, 144, .inl (clF cl rw 0 (r 6)))), ((a 7), .inl (G.2.1, 144, .inl (clF cl rw 0 (r 7)))), ((a 8), .inl (G.2.1, 864, .inl (clP cl rw 0 (r 8)))), ((a 9), .inl (G.2.1, 6, .inl (va_cpy ruI (r 9) 0 0 6))), ((a 10), .inl (G.2.1, 12, .inl (r 10))), ((a 11), .inl (G.2.1, 12, .inl (r 11)))]) := by
  refine ws_entryV (by decide +kernel) (Nat.le_of_ble_eq_true rfl) ?_
  intro p e s m below meth c A C0 hP hK hD hA hT ls hl
  have hS : va_S A s.heap s.heap [] := va_S.rf
  obtain ⟨hx, hb, hml, hown, hts, hr, hlocks, hin⟩ := C0
  have hown : s.vm.findClass RX4 = some m.cls := hown
  have hl : lv_has ls 5 [(0, .ref (a 0)), (1, .int (nI rw)), (2, .int (nI cl))] := hl
  obtain ⟨⟨t, hZ, hT⟩, -⟩ := hT
  refine lv_aload_n hx hb dX4_begin_0 rfl (lv_at hl 0 rfl) ?_
  refine lv_iconst (v := 1) hx hb dX4_begin_1 (by decide) ?_
  refine va_put (D := G.1) (ci := 4) (v := .int 1) (C := RX4) (T := TX4) (N := 12) hx hb hts inX4 tyX4 tyX4_ok nmX4 hown hK.1 hP hD hS 0 rfl rfl 0 (by decide) (hts _ mf_X4_9) (fun _ h9 => h9) rfl (tyX4_ok 0 (by decide)) (rfl) (rfl) (Nat.le_of_ble_eq_true rfl) dX4_begin_2 (fun H locs hP hD hS => ?_)
  have hP : PP G [((a 0), .inr (4, [.int 1, .int (f 1), .int (f 2), .int (f 3), .ref (a 4), .ref (a 5), .ref (a 6), .ref (a 7), .ref (a 8), .ref (a 9), .ref (a 10), .ref (a 11)])), ((a 4), .inl (G.2.1, 12, .inl (r 4))), ((a 5), .inl (G.2.1, 144, .inl (r 5))), ((a 6), .inl (G.2.1, 144, .inl (r 6))), ((a 7), .inl (G.2.1, 144, .inl (r 7))), ((a 8), .inl (G.2.1, 864, .inl (r 8))), ((a 9), .inl (G.2.1, 6, .inl (r 9))), ((a 10), .inl (G.2.1, 12, .inl (r 10))), ((a 11), .inl (G.2.1, 12, .inl (r 11)))] H := hP
  have hD := D_as hP hD rfl
  refine lv_aload_n hx hb dX4_begin_5 rfl (lv_at hl 0 rfl) ?_
  refine lv_iload_n hx hb dX4_begin_6 rfl (lv_at hl 1 rfl) ?_
  refine va_put (D := G.1) (ci := 4) (v := .int (nI rw)) (C := RX4) (T := TX4) (N := 12) hx hb hts inX4 tyX4 tyX4_ok nmX4 hown hK.1 hP hD hS 0 rfl rfl 1 (by decide) (hts _ mf_X4_15) (fun _ h9 => h9) rfl (tyX4_ok 1 (by decide)) (rfl) (rfl) (Nat.le_of_ble_eq_true rfl) dX4_begin_7 (fun H locs hP hD hS => ?_)
  have hP : PP G [((a 0), .inr (4, [.int 1, .int (nI rw), .int (f 2), .int (f 3), .ref (a 4), .ref (a 5), .ref (a 6), .ref (a 7), .ref (a 8), .ref (a 9), .ref (a 10), .ref (a 11)])), ((a 4), .inl (G.2.1, 12, .inl (r 4))), ((a 5), .inl (G.2.1, 144, .inl (r 5))), ((a 6), .inl (G.2.1, 144, .inl (r 6))), ((a 7), .inl (G.2.1, 144, .inl (r 7))), ((a 8), .inl (G.2.1, 864, .inl (r 8))), ((a 9), .inl (G.2.1, 6, .inl (r 9))), ((a 10), .inl (G.2.1, 12, .inl (r 10))), ((a 11), .inl (G.2.1, 12, .inl (r 11)))] H := hP
  have hD := D_as hP hD rfl
  refine lv_aload_n hx hb dX4_begin_10 rfl (lv_at hl 0 rfl) ?_
  refine lv_iload_n hx hb dX4_begin_11 rfl (lv_at hl 2 rfl) ?_
  refine va_put (D := G.1) (ci := 4) (v := .int (nI cl)) (C := RX4) (T := TX4) (N := 12) hx hb hts inX4 tyX4 tyX4_ok nmX4 hown hK.1 hP hD hS 0 rfl rfl 2 (by decide) (hts _ mf_X4_19) (fun _ h9 => h9) rfl (tyX4_ok 2 (by decide)) (rfl) (rfl) (Nat.le_of_ble_eq_true rfl) dX4_begin_12 (fun H locs hP hD hS => ?_)
  have hP : PP G [((a 0), .inr (4, [.int 1, .int (nI rw), .int (nI cl), .int (f 3), .ref (a 4), .ref (a 5), .ref (a 6), .ref (a 7), .ref (a 8), .ref (a 9), .ref (a 10), .ref (a 11)])), ((a 4), .inl (G.2.1, 12, .inl (r 4))), ((a 5), .inl (G.2.1, 144, .inl (r 5))), ((a 6), .inl (G.2.1, 144, .inl (r 6))), ((a 7), .inl (G.2.1, 144, .inl (r 7))), ((a 8), .inl (G.2.1, 864, .inl (r 8))), ((a 9), .inl (G.2.1, 6, .inl (r 9))), ((a 10), .inl (G.2.1, 12, .inl (r 10))), ((a 11), .inl (G.2.1, 12, .inl (r 11)))] H := hP
  have hD := D_as hP hD rfl
  refine lv_aload_n hx hb dX4_begin_15 rfl (lv_at hl 0 rfl) ?_
  refine lv_iconst (v := 0) hx hb dX4_begin_16 (by decide) ?_
  refine va_put (D := G.1) (ci := 4) (v := .int 0) (C := RX4) (T := TX4) (N := 12) hx hb hts inX4 tyX4 tyX4_ok nmX4 hown hK.1 hP hD hS 0 rfl rfl 3 (by decide) (hts _ mf_X4_22) (fun _ h9 => h9) rfl (tyX4_ok 3 (by decide)) (rfl) (rfl) (Nat.le_of_ble_eq_true rfl) dX4_begin_17 (fun H locs hP hD hS => ?_)
  have hP : PP G [((a 0), .inr (4, [.int 1, .int (nI rw), .int (nI cl), .int 0, .ref (a 4), .ref (a 5), .ref (a 6), .ref (a 7), .ref (a 8), .ref (a 9), .ref (a 10), .ref (a 11)])), ((a 4), .inl (G.2.1, 12, .inl (r 4))), ((a 5), .inl (G.2.1, 144, .inl (r 5))), ((a 6), .inl (G.2.1, 144, .inl (r 6))), ((a 7), .inl (G.2.1, 144, .inl (r 7))), ((a 8), .inl (G.2.1, 864, .inl (r 8))), ((a 9), .inl (G.2.1, 6, .inl (r 9))), ((a 10), .inl (G.2.1, 12, .inl (r 10))), ((a 11), .inl (G.2.1, 12, .inl (r 11)))] H := hP
  have hD := D_as hP hD rfl
  refine lv_aload_n hx hb dX4_begin_20 rfl (lv_at hl 0 rfl) ?_
  refine va_get (D := G.1) (ci := 4) (v := .ref (a 4)) (C := RX4) (T := TX4) (N := 12) hx hb hts inX4 hown hK.1 hP 0 rfl rfl 4 (by decide) (hts _ mf_X4_25) (fun _ h9 => h9) rfl dX4_begin_21 ?_
  refine lv_iload_n hx hb dX4_begin_24 rfl (lv_at hl 2 rfl) ?_
  refine wrSV (rest := []) ⟨hx, hb, hml, hown, hts⟩ (c_J7_fill_53178 l G (a 4) 12 (r 4) (nI cl) (by decide)) mi_yJ7_fill_53178 mst_yJ7_fill_53178 ml_X4_53 ⟨rfl, rfl, Nat.le_of_ble_eq_true rfl, Nat.le_of_ble_eq_true rfl⟩ hK hP hD [1] rfl (by decide) rfl hl.1 rfl (Nat.le_of_ble_eq_true rfl) dX4_begin_25 ⟨Nat.zero_le _, Nat.zero_le _⟩ hS hA (fun w2 H locs hw2 hP hS => ?_)
  obtain rfl := hw2
  have hP : PP G [((a 0), .inr (4, [.int 1, .int (nI rw), .int (nI cl), .int 0, .ref (a 4), .ref (a 5), .ref (a 6), .ref (a 7), .ref (a 8), .ref (a 9), .ref (a 10), .ref (a 11)])), ((a 4), .inl (G.2.1, 12, .inl (flF (r 4) (nI cl) 12))), ((a 5), .inl (G.2.1, 144, .inl (r 5))), ((a 6), .inl (G.2.1, 144, .inl (r 6))), ((a 7), .inl (G.2.1, 144, .inl (r 7))), ((a 8), .inl (G.2.1, 864, .inl (r 8))), ((a 9), .inl (G.2.1, 6, .inl (r 9))), ((a 10), .inl (G.2.1, 12, .inl (r 10))), ((a 11), .inl (G.2.1, 12, .inl (r 11)))] H := hP rfl
  have hD := D_as2 hP hD rfl
  refine va_getsN (C := "CellKeeper") (v := .ref t) hx hb hZ hS hown (va_Nw.use rfl hK.2.2.1) (fun _ h9 => h9) dX4_begin_28 ?_
  refine lv_iconst (v := 0) hx hb dX4_begin_31 (by decide) ?_
  refine lv_aload_n hx hb dX4_begin_32 rfl (lv_at hl 0 rfl) ?_
  refine va_get (D := G.1) (ci := 4) (v := .ref (a 9)) (C := RX4) (T := TX4) (N := 12) hx hb hts inX4 hown hK.1 hP 0 rfl rfl 9 (by decide) (hts _ mf_X4_44) (fun _ h9 => h9) rfl dX4_begin_33 ?_
  refine lv_iconst (v := 0) hx hb dX4_begin_36 (by decide) ?_
  refine va_getsN (C := "CellKeeper") (v := .ref t) hx hb hZ hS hown (va_Nw.use rfl hK.2.2.1) (fun _ h9 => h9) dX4_begin_37 ?_
  refine va_tlen (v := nI 6) hx hb hT hS rfl dX4_begin_40 ?_
  refine xcopyT (k := 6) (f := ruI) (q1 := 6) hx hb (hml.trans hl.1.symm) hown hts ml_X4_59 mnat_arraycopyName mst_arraycopyName mz_RJ10 hK hP hD hS hT (fun j hj => by rcases (show j = 0 ∨ j = 1 ∨ j = 2 ∨ j = 3 ∨ j = 4 ∨ j = 5 by omega) with rfl | rfl | rfl | rfl | rfl | rfl <;> rfl) rfl (by decide) (by decide) (by decide) (Nat.le_of_ble_eq_true rfl) (Nat.le_of_ble_eq_true rfl) dX4_begin_41 (fun H locs hP hD hS => ?_)
  have hP : PP G [((a 0), .inr (4, [.int 1, .int (nI rw), .int (nI cl), .int 0, .ref (a 4), .ref (a 5), .ref (a 6), .ref (a 7), .ref (a 8), .ref (a 9), .ref (a 10), .ref (a 11)])), ((a 4), .inl (G.2.1, 12, .inl (flF (r 4) (nI cl) 12))), ((a 5), .inl (G.2.1, 144, .inl (r 5))), ((a 6), .inl (G.2.1, 144, .inl (r 6))), ((a 7), .inl (G.2.1, 144, .inl (r 7))), ((a 8), .inl (G.2.1, 864, .inl (r 8))), ((a 9), .inl (G.2.1, 6, .inl (va_cpy ruI (r 9) 0 0 6))), ((a 10), .inl (G.2.1, 12, .inl (r 10))), ((a 11), .inl (G.2.1, 12, .inl (r 11)))] H := hP
  have hD := D_as hP hD rfl
  refine lv_iconst (v := 0) hx hb dX4_begin_44 (by decide) ?_
  refine lv_istore_n (lv' := [(3, .int 0), (0, .ref (a 0)), (1, .int (nI rw)), (2, .int (nI cl))]) hx hb dX4_begin_45 rfl hl (by decide) rfl (fun ls hl => ?_)
  have outer : ∀ (k i : Nat), i ≤ rw → rw < i + k → ∀ (H : Heap) (locs : List Loc) (ls : Array Slot), PP G ([((a 0), .inr (4, [.int 1, .int (nI rw), .int (nI cl), .int 0, .ref (a 4), .ref (a 5), .ref (a 6), .ref (a 7), .ref (a 8), .ref (a 9), .ref (a 10), .ref (a 11)])), ((a 4), .inl (G.2.1, 12, .inl (flF (r 4) (nI cl) 12))), ((a 5), .inl (G.2.1, 144, .inl (clF cl i 0 (r 5)))), ((a 6), .inl (G.2.1, 144, .inl (clF cl i 0 (r 6)))), ((a 7), .inl (G.2.1, 144, .inl (clF cl i 0 (r 7)))), ((a 8), .inl (G.2.1, 864, .inl (clP cl i 0 (r 8)))), ((a 9), .inl (G.2.1, 6, .inl (va_cpy ruI (r 9) 0 0 6))), ((a 10), .inl (G.2.1, 12, .inl (r 10))), ((a 11), .inl (G.2.1, 12, .inl (r 11)))]) H → va_S A s.heap H locs → lv_has ls 5 [(0, .ref (a 0)), (1, .int (nI rw)), (2, .int (nI cl)), (3, .int (nI i))] → W p l e ({ frames := 1, cells := 0, slots := 0, locals := 60 }) s m ([.ref (a 0), .int (nI rw), .int (nI cl)] : List Value).toArray below meth c H locs 0 0 (MQ below (QwV G (fun w => w = [((a 0), .inr (4, [.int 1, .int (nI rw), .int (nI cl), .int 0, .ref (a 4), .ref (a 5), .ref (a 6), .ref (a 7), .ref (a 8), .ref (a 9), .ref (a 10), .ref (a 11)])), ((a 4), .inl (G.2.1, 12, .inl (flF (r 4) (nI cl) 12))), ((a 5), .inl (G.2.1, 144, .inl (clF cl rw 0 (r 5)))), ((a 6), .inl (G.2.1, 144, .inl (clF cl rw 0 (r 6)))), ((a 7), .inl (G.2.1, 144, .inl (clF cl rw 0 (r 7)))), ((a 8), .inl (G.2.1, 864, .inl (clP cl rw 0 (r 8)))), ((a 9), .inl (G.2.1, 6, .inl (va_cpy ruI (r 9) 0 0 6))), ((a 10), .inl (G.2.1, 12, .inl (r 10))), ((a 11), .inl (G.2.1, 12, .inl (r 11)))]) A) ([.ref (a 0), .int (nI rw), .int (nI cl)] : List Value).toArray s 0 0 A) (F0 m 46 ls []) := by
    intro k
    induction k with
    | zero => intro i  h1 h2; omega
    | succ k ih =>
      intro i  hi_i hk_i  H locs ls hP hS hl
      have hD := D_as2 hP hD rfl
      refine lv_iload_n hx hb dX4_begin_46 rfl (lv_at hl 3 rfl) ?_
      refine lv_iload_n hx hb dX4_begin_47 rfl (lv_at hl 1 rfl) ?_
      refine lv_icmp_ge (tgt := 84) hx hb dX4_begin_48 (by decide) (fun c3 => ?_) (fun c3 => ?_)
      · have hge := ge_t (by omega) (by omega) c3
        obtain rfl : i = rw := by omega
        exact wr_vret hx hb hr hlocks hS hP rfl dX4_begin_84
      · have hlt := ge_f (by omega) (by omega) c3
        refine lv_iconst (v := 0) hx hb dX4_begin_51 (by decide) ?_
        refine lv_istore (lv' := [(4, .int 0), (0, .ref (a 0)), (1, .int (nI rw)), (2, .int (nI cl)), (3, .int (nI i))]) hx hb dX4_begin_52 hl (by decide) rfl (fun ls hl => ?_)
        have inner : ∀ (k2 j : Nat), j ≤ cl → cl < j + k2 → ∀ (H : Heap) (locs : List Loc) (ls : Array Slot), PP G ([((a 0), .inr (4, [.int 1, .int (nI rw), .int (nI cl), .int 0, .ref (a 4), .ref (a 5), .ref (a 6), .ref (a 7), .ref (a 8), .ref (a 9), .ref (a 10), .ref (a 11)])), ((a 4), .inl (G.2.1, 12, .inl (flF (r 4) (nI cl) 12))), ((a 5), .inl (G.2.1, 144, .inl (clF cl i j (r 5)))), ((a 6), .inl (G.2.1, 144, .inl (clF cl i j (r 6)))), ((a 7), .inl (G.2.1, 144, .inl (clF cl i j (r 7)))), ((a 8), .inl (G.2.1, 864, .inl (clP cl i j (r 8)))), ((a 9), .inl (G.2.1, 6, .inl (va_cpy ruI (r 9) 0 0 6))), ((a 10), .inl (G.2.1, 12, .inl (r 10))), ((a 11), .inl (G.2.1, 12, .inl (r 11)))]) H → va_S A s.heap H locs → lv_has ls 5 [(0, .ref (a 0)), (1, .int (nI rw)), (2, .int (nI cl)), (3, .int (nI i)), (4, .int (nI j))] → W p l e ({ frames := 1, cells := 0, slots := 0, locals := 60 }) s m ([.ref (a 0), .int (nI rw), .int (nI cl)] : List Value).toArray below meth c H locs 0 0 (MQ below (QwV G (fun w => w = [((a 0), .inr (4, [.int 1, .int (nI rw), .int (nI cl), .int 0, .ref (a 4), .ref (a 5), .ref (a 6), .ref (a 7), .ref (a 8), .ref (a 9), .ref (a 10), .ref (a 11)])), ((a 4), .inl (G.2.1, 12, .inl (flF (r 4) (nI cl) 12))), ((a 5), .inl (G.2.1, 144, .inl (clF cl rw 0 (r 5)))), ((a 6), .inl (G.2.1, 144, .inl (clF cl rw 0 (r 6)))), ((a 7), .inl (G.2.1, 144, .inl (clF cl rw 0 (r 7)))), ((a 8), .inl (G.2.1, 864, .inl (clP cl rw 0 (r 8)))), ((a 9), .inl (G.2.1, 6, .inl (va_cpy ruI (r 9) 0 0 6))), ((a 10), .inl (G.2.1, 12, .inl (r 10))), ((a 11), .inl (G.2.1, 12, .inl (r 11)))]) A) ([.ref (a 0), .int (nI rw), .int (nI cl)] : List Value).toArray s 0 0 A) (F0 m 54 ls []) := by
          intro k2
          induction k2 with
          | zero => intro j  h1 h2; omega
          | succ k2 ih2 =>
            intro j  hi_j hk_j  H locs ls hP hS hl
            have hD := D_as2 hP hD rfl
            refine lv_iload hx hb dX4_begin_54 (lv_at hl 4 rfl) ?_
            refine lv_iload_n hx hb dX4_begin_56 rfl (lv_at hl 2 rfl) ?_
            refine lv_icmp_ge (tgt := 78) hx hb dX4_begin_57 (by decide) (fun c4 => ?_) (fun c4 => ?_)
            · have hge2 := ge_t (by omega) (by omega) c4
              have hjc : j = cl := by omega
              obtain ⟨v5, ev5⟩ : ∃ y : Int32, y = (nI i) + Int32.ofInt (1) := ⟨_, rfl⟩
              refine lv_iinc (v := v5) (lv' := [(3, .int v5), (0, .ref (a 0)), (1, .int (nI rw)), (2, .int (nI cl)), (4, .int (nI j))]) hx hb dX4_begin_78 hl (k := 3) rfl ev5.symm (by decide) rfl (fun ls hl => ?_)
              refine lv_goto (tgt := 46) hx hb dX4_begin_81 (by decide) ?_
              subst hjc
              rw [clF_r, clF_r, clF_r, clP_r] at hP
              exact ih (i + 1) (by omega) (by omega) _ _ _ hP hS (by have e := nI_inc ev5; rw [e] at hl; exact lv_sub hl [1, 2, 3, 0] rfl)
            · have hlt2 := ge_f (by omega) (by omega) c4
              refine lv_aload_n hx hb dX4_begin_60 rfl (lv_at hl 0 rfl) ?_
              refine lv_iload_n hx hb dX4_begin_61 rfl (lv_at hl 3 rfl) ?_
              refine lv_iload hx hb dX4_begin_62 (lv_at hl 4 rfl) ?_
              refine rdSN (rest := [.ref (a 0)]) ⟨hx, hb, hml, hown, hts⟩ (c_X6_spotOf l G ((nI i)) ((nI j))) mi_yX6_spotOf mst_yX6_spotOf (by decide +kernel) ⟨rfl, rfl, Nat.le_of_ble_eq_true rfl, Nat.le_of_ble_eq_true rfl⟩ hK (fun k q h => by simp at h) rfl hl.1 rfl (Nat.le_of_ble_eq_true rfl) dX4_begin_64 ⟨Nat.zero_le _, Nat.zero_le _⟩ hS hA hP (fun r6 H locs hr6 hP hS => ?_)
              refine lv_iconst (v := 0) hx hb dX4_begin_67 (by decide) ?_
              refine lv_iconst (v := 0) hx hb dX4_begin_68 (by decide) ?_
              have e_sp : r6 = nI (i * 12 + j) := hr6.trans (nI_plus rfl (nI_mul12 rfl rfl) rfl)
              subst e_sp
              refine wrVV (rest := []) (q0 := 0) ⟨hx, hb, hml, hown, hts⟩ (c_X4_put l G a (fun k => match k with | 0 => 1 | 1 => nI rw | 2 => nI cl | _ => 0) (fun k => match k with | 5 => clF cl i j (r 5) | 6 => clF cl i j (r 6) | 7 => clF cl i j (r 7) | _ => clP cl i j (r 8)) (i * 12 + j) 0 0 (by omega)) mi_yX4_put mv_yX4_put ml_X4_69 ⟨rfl, rfl, Nat.le_of_ble_eq_true rfl, Nat.le_of_ble_eq_true rfl⟩ hK hP hD [0, 2, 3, 4, 5] rfl (by decide) rfl rfl rfl hl.1 rfl (Nat.le_of_ble_eq_true rfl) dX4_begin_69 ⟨Nat.zero_le _, Nat.zero_le _⟩ hS hA (fun w8 H locs hw8 hP hS => ?_)
              obtain rfl := hw8
              have hP : PP G [((a 0), .inr (4, [.int 1, .int (nI rw), .int (nI cl), .int 0, .ref (a 4), .ref (a 5), .ref (a 6), .ref (a 7), .ref (a 8), .ref (a 9), .ref (a 10), .ref (a 11)])), ((a 4), .inl (G.2.1, 12, .inl (flF (r 4) (nI cl) 12))), ((a 5), .inl (G.2.1, 144, .inl (clF cl i (j + 1) (r 5)))), ((a 6), .inl (G.2.1, 144, .inl (clF cl i (j + 1) (r 6)))), ((a 7), .inl (G.2.1, 144, .inl (clF cl i (j + 1) (r 7)))), ((a 8), .inl (G.2.1, 864, .inl (clP cl i (j + 1) (r 8)))), ((a 9), .inl (G.2.1, 6, .inl (va_cpy ruI (r 9) 0 0 6))), ((a 10), .inl (G.2.1, 12, .inl (r 10))), ((a 11), .inl (G.2.1, 12, .inl (r 11)))] H := by
                have h := hP rfl
                have e1 := clF_s cl i j (r 5) (by omega)
                have e2 := clF_s cl i j (r 6) (by omega)
                have e3 := clF_s cl i j (r 7) (by omega)
                have e4 := clP_s cl i j (r 8) (by omega)
                rw [← e1, ← e2, ← e3, ← e4]
                exact h
              have hD := D_as2 hP hD rfl
              obtain ⟨v9, ev9⟩ : ∃ y : Int32, y = (nI j) + Int32.ofInt (1) := ⟨_, rfl⟩
              refine lv_iinc (v := v9) (lv' := [(4, .int v9), (0, .ref (a 0)), (1, .int (nI rw)), (2, .int (nI cl)), (3, .int (nI i))]) hx hb dX4_begin_72 hl (k := 4) rfl ev9.symm (by decide) rfl (fun ls hl => ?_)
              refine lv_goto (tgt := 54) hx hb dX4_begin_75 (by decide) ?_
              exact ih2 (j + 1) (by omega) (by omega) _ _ _ hP hS (by have e := nI_inc ev9; rw [e] at hl; exact lv_sub hl [1, 2, 3, 4, 0] rfl)
        exact inner (cl + 1) 0 (Nat.zero_le _) (by omega) _ _ _ hP hS (lv_sub hl [1, 2, 3, 4, 0] rfl)
  exact outer (rw + 1) 0 (Nat.zero_le _) (by omega) _ _ _ (by rw [clF_0, clF_0, clF_0, clP_0]; exact hP) hS (lv_sub hl [1, 2, 3, 0] rfl)
abbrev tW (G : GG) (a : Nat → Nat) (f : Nat → Int32) (r : Nat → Nat → Int32) : va_W := [((a 0), .inr (4, [.int (f 0), .int (f 1), .int (f 2), .int (f 3), .ref (a 4), .ref (a 5), .ref (a 6), .ref (a 7), .ref (a 8), .ref (a 9), .ref (a 10), .ref (a 11)])), ((a 4), .inl (G.2.1, 12, .inl (r 4))), ((a 5), .inl (G.2.1, 144, .inl (r 5))), ((a 6), .inl (G.2.1, 144, .inl (r 6))), ((a 7), .inl (G.2.1, 144, .inl (r 7))), ((a 8), .inl (G.2.1, 864, .inl (r 8))), ((a 9), .inl (G.2.1, 6, .inl (r 9))), ((a 10), .inl (G.2.1, 12, .inl (r 10))), ((a 11), .inl (G.2.1, 12, .inl (r 11)))]
