theorem ml_X2_146 : Cond.methodLink RX2 146 yX2_enter ∈ TB := TB_t3 64 rfl rfl
theorem mcode_yX2_enter : Cond.code yX2_enter cX2_enter 5 none ∈ TB := TB_t3 67 rfl rfl
theorem mi_yX2_enter : MI yX2_enter cX2_enter 5 none 2 := ⟨mz_RX2, mcode_yX2_enter, by decide +kernel, by decide +kernel, by decide +kernel⟩
theorem mim_yX2_enter : Cond.instanceMethod yX2_enter ∈ TB := TB_t3 66 rfl rfl
theorem msel_yX2_enter : Cond.selects yX2_enter.cls yX2_enter yX2_enter ∈ TB := TB_s (n := 15) 15 (by decide +kernel)
theorem mv_yX2_enter : Cond.instanceMethod yX2_enter ∈ TB ∧ Cond.selects yX2_enter.cls yX2_enter yX2_enter ∈ TB := ⟨mim_yX2_enter, msel_yX2_enter⟩
theorem ml_X2_149 : Cond.methodLink RX2 149 yX2_draw ∈ TB := TB_t3 81 rfl rfl
theorem mcode_yX2_draw : Cond.code yX2_draw cX2_draw 11 none ∈ TB := TB_t3 84 rfl rfl
theorem mi_yX2_draw : MI yX2_draw cX2_draw 11 none 3 := ⟨mz_RX2, mcode_yX2_draw, by decide +kernel, by decide +kernel, by decide +kernel⟩
theorem mim_yX2_draw : Cond.instanceMethod yX2_draw ∈ TB := TB_t3 83 rfl rfl
theorem msel_yX2_draw : Cond.selects yX2_draw.cls yX2_draw yX2_draw ∈ TB := TB_s (n := 15) 17 (by decide +kernel)
theorem mv_yX2_draw : Cond.instanceMethod yX2_draw ∈ TB ∧ Cond.selects yX2_draw.cls yX2_draw yX2_draw ∈ TB := ⟨mim_yX2_draw, msel_yX2_draw⟩
theorem ml_X2_152 : Cond.methodLink RX2 152 yJ9_max_7cf53 ∈ TB := TB_t3 116 rfl rfl
theorem ml_X2_155 : Cond.methodLink RX2 155 yX2_isSafe ∈ TB := TB_t3 127 rfl rfl
theorem mcode_yX2_isSafe : Cond.code yX2_isSafe cX2_isSafe 8 (some .boolean) ∈ TB := TB_t3 115 rfl rfl
theorem mi_yX2_isSafe : MI yX2_isSafe cX2_isSafe 8 (some .boolean) 2 := ⟨mz_RX2, mcode_yX2_isSafe, by decide +kernel, by decide +kernel, by decide +kernel⟩
theorem mim_yX2_isSafe : Cond.instanceMethod yX2_isSafe ∈ TB := TB_t3 113 rfl rfl
theorem msel_yX2_isSafe : Cond.selects yX2_isSafe.cls yX2_isSafe yX2_isSafe ∈ TB := TB_t3 114 rfl rfl
theorem mv_yX2_isSafe : Cond.instanceMethod yX2_isSafe ∈ TB ∧ Cond.selects yX2_isSafe.cls yX2_isSafe yX2_isSafe ∈ TB := ⟨mim_yX2_isSafe, msel_yX2_isSafe⟩
theorem kcX2_moveToEnd_0 : CHb cX2_moveToEnd 0 [27, 28, 184, 0, 89, 54, 4, 42, 180, 0, 51, 21, 4, 51, 153, 0, 47, 42, 42, 180, 0, 38, 27, 46, 3, 182, 0, 146, 42, 27, 28, 29, 153, 0, 13, 42, 180, 0, 60, 21, 4, 46, 167, 0, 10, 42, 180, 0, 57, 21, 4, 46, 182, 0, 149, 42, 16, 254, 181, 0, 24, 177] := CHb_of (by decide +kernel)
theorem dX2_moveToEnd_0 : decode cX2_moveToEnd 0 = .ok (.iload_n 1, 1) := dw_27 (kcX2_moveToEnd_0 0 27 rfl)
theorem dX2_moveToEnd_1 : decode cX2_moveToEnd 1 = .ok (.iload_n 2, 1) := dw_28 (kcX2_moveToEnd_0 1 28 rfl)
theorem dX2_moveToEnd_2 : decode cX2_moveToEnd 2 = .ok (.invokestatic 89, 3) := dw_184 (kcX2_moveToEnd_0 2 184 rfl) (kcX2_moveToEnd_0 3 0 rfl) (kcX2_moveToEnd_0 4 89 rfl) rfl
theorem dX2_moveToEnd_5 : decode cX2_moveToEnd 5 = .ok (.istore 4, 2) := dw_54 (kcX2_moveToEnd_0 5 54 rfl) (kcX2_moveToEnd_0 6 4 rfl)
theorem dX2_moveToEnd_7 : decode cX2_moveToEnd 7 = .ok (.aload_n 0, 1) := dw_42 (kcX2_moveToEnd_0 7 42 rfl)
theorem dX2_moveToEnd_8 : decode cX2_moveToEnd 8 = .ok (.getfield 51, 3) := dw_180 (kcX2_moveToEnd_0 8 180 rfl) (kcX2_moveToEnd_0 9 0 rfl) (kcX2_moveToEnd_0 10 51 rfl) rfl
theorem dX2_moveToEnd_11 : decode cX2_moveToEnd 11 = .ok (.iload 4, 2) := dw_21 (kcX2_moveToEnd_0 11 21 rfl) (kcX2_moveToEnd_0 12 4 rfl)
theorem dX2_moveToEnd_13 : decode cX2_moveToEnd 13 = .ok (.baload, 1) := dw_51 (kcX2_moveToEnd_0 13 51 rfl)
theorem dX2_moveToEnd_14 : decode cX2_moveToEnd 14 = .ok (.ifCond .eq 47, 3) := dw_153 (kcX2_moveToEnd_0 14 153 rfl) (kcX2_moveToEnd_0 15 0 rfl) (kcX2_moveToEnd_0 16 47 rfl) rfl
theorem dX2_moveToEnd_61 : decode cX2_moveToEnd 61 = .ok (.return_, 1) := dw_177 (kcX2_moveToEnd_0 61 177 rfl)
theorem dX2_moveToEnd_17 : decode cX2_moveToEnd 17 = .ok (.aload_n 0, 1) := dw_42 (kcX2_moveToEnd_0 17 42 rfl)
theorem dX2_moveToEnd_18 : decode cX2_moveToEnd 18 = .ok (.aload_n 0, 1) := dw_42 (kcX2_moveToEnd_0 18 42 rfl)
theorem dX2_moveToEnd_19 : decode cX2_moveToEnd 19 = .ok (.getfield 38, 3) := dw_180 (kcX2_moveToEnd_0 19 180 rfl) (kcX2_moveToEnd_0 20 0 rfl) (kcX2_moveToEnd_0 21 38 rfl) rfl
theorem dX2_moveToEnd_22 : decode cX2_moveToEnd 22 = .ok (.iload_n 1, 1) := dw_27 (kcX2_moveToEnd_0 22 27 rfl)
theorem dX2_moveToEnd_23 : decode cX2_moveToEnd 23 = .ok (.iaload, 1) := dw_46 (kcX2_moveToEnd_0 23 46 rfl)
theorem dX2_moveToEnd_24 : decode cX2_moveToEnd 24 = .ok (.iconst 0, 1) := dw_3 (kcX2_moveToEnd_0 24 3 rfl)
theorem dX2_moveToEnd_25 : decode cX2_moveToEnd 25 = .ok (.invokevirtual 146, 3) := dw_182 (kcX2_moveToEnd_0 25 182 rfl) (kcX2_moveToEnd_0 26 0 rfl) (kcX2_moveToEnd_0 27 146 rfl) rfl
theorem dX2_moveToEnd_28 : decode cX2_moveToEnd 28 = .ok (.aload_n 0, 1) := dw_42 (kcX2_moveToEnd_0 28 42 rfl)
theorem dX2_moveToEnd_29 : decode cX2_moveToEnd 29 = .ok (.iload_n 1, 1) := dw_27 (kcX2_moveToEnd_0 29 27 rfl)
theorem dX2_moveToEnd_30 : decode cX2_moveToEnd 30 = .ok (.iload_n 2, 1) := dw_28 (kcX2_moveToEnd_0 30 28 rfl)
theorem dX2_moveToEnd_31 : decode cX2_moveToEnd 31 = .ok (.iload_n 3, 1) := dw_29 (kcX2_moveToEnd_0 31 29 rfl)
theorem dX2_moveToEnd_32 : decode cX2_moveToEnd 32 = .ok (.ifCond .eq 13, 3) := dw_153 (kcX2_moveToEnd_0 32 153 rfl) (kcX2_moveToEnd_0 33 0 rfl) (kcX2_moveToEnd_0 34 13 rfl) rfl
theorem dX2_moveToEnd_45 : decode cX2_moveToEnd 45 = .ok (.aload_n 0, 1) := dw_42 (kcX2_moveToEnd_0 45 42 rfl)
theorem dX2_moveToEnd_46 : decode cX2_moveToEnd 46 = .ok (.getfield 57, 3) := dw_180 (kcX2_moveToEnd_0 46 180 rfl) (kcX2_moveToEnd_0 47 0 rfl) (kcX2_moveToEnd_0 48 57 rfl) rfl
theorem dX2_moveToEnd_49 : decode cX2_moveToEnd 49 = .ok (.iload 4, 2) := dw_21 (kcX2_moveToEnd_0 49 21 rfl) (kcX2_moveToEnd_0 50 4 rfl)
theorem dX2_moveToEnd_51 : decode cX2_moveToEnd 51 = .ok (.iaload, 1) := dw_46 (kcX2_moveToEnd_0 51 46 rfl)
theorem dX2_moveToEnd_52 : decode cX2_moveToEnd 52 = .ok (.invokevirtual 149, 3) := dw_182 (kcX2_moveToEnd_0 52 182 rfl) (kcX2_moveToEnd_0 53 0 rfl) (kcX2_moveToEnd_0 54 149 rfl) rfl
theorem dX2_moveToEnd_55 : decode cX2_moveToEnd 55 = .ok (.aload_n 0, 1) := dw_42 (kcX2_moveToEnd_0 55 42 rfl)
theorem dX2_moveToEnd_56 : decode cX2_moveToEnd 56 = .ok (.bipush (-2), 2) := dw_16 (kcX2_moveToEnd_0 56 16 rfl) (kcX2_moveToEnd_0 57 254 rfl) rfl
theorem dX2_moveToEnd_58 : decode cX2_moveToEnd 58 = .ok (.putfield 24, 3) := dw_181 (kcX2_moveToEnd_0 58 181 rfl) (kcX2_moveToEnd_0 59 0 rfl) (kcX2_moveToEnd_0 60 24 rfl) rfl
theorem dX2_moveToEnd_35 : decode cX2_moveToEnd 35 = .ok (.aload_n 0, 1) := dw_42 (kcX2_moveToEnd_0 35 42 rfl)
theorem dX2_moveToEnd_36 : decode cX2_moveToEnd 36 = .ok (.getfield 60, 3) := dw_180 (kcX2_moveToEnd_0 36 180 rfl) (kcX2_moveToEnd_0 37 0 rfl) (kcX2_moveToEnd_0 38 60 rfl) rfl
theorem dX2_moveToEnd_39 : decode cX2_moveToEnd 39 = .ok (.iload 4, 2) := dw_21 (kcX2_moveToEnd_0 39 21 rfl) (kcX2_moveToEnd_0 40 4 rfl)
theorem dX2_moveToEnd_41 : decode cX2_moveToEnd 41 = .ok (.iaload, 1) := dw_46 (kcX2_moveToEnd_0 41 46 rfl)
theorem dX2_moveToEnd_42 : decode cX2_moveToEnd 42 = .ok (.goto 10, 3) := dw_167 (kcX2_moveToEnd_0 42 167 rfl) (kcX2_moveToEnd_0 43 0 rfl) (kcX2_moveToEnd_0 44 10 rfl) rfl
theorem kcX2_isSafe_0 : CHb cX2_isSafe 0 [27, 28, 184, 0, 89, 62, 3, 42, 180, 0, 45, 29, 46, 42, 180, 0, 18, 100, 184, 0, 152, 54, 4, 42, 180, 0, 45, 29, 46, 42, 180, 0, 21, 96, 54, 5, 42, 180, 0, 51, 29, 51, 154, 0, 31, 21, 4, 42, 180, 0, 45, 29, 46, 160, 0, 18, 21, 5, 42, 180, 0, 45, 29, 46] := CHb_of (by decide +kernel)
theorem dX2_isSafe_0 : decode cX2_isSafe 0 = .ok (.iload_n 1, 1) := dw_27 (kcX2_isSafe_0 0 27 rfl)
theorem dX2_isSafe_1 : decode cX2_isSafe 1 = .ok (.iload_n 2, 1) := dw_28 (kcX2_isSafe_0 1 28 rfl)
theorem dX2_isSafe_2 : decode cX2_isSafe 2 = .ok (.invokestatic 89, 3) := dw_184 (kcX2_isSafe_0 2 184 rfl) (kcX2_isSafe_0 3 0 rfl) (kcX2_isSafe_0 4 89 rfl) rfl
theorem dX2_isSafe_5 : decode cX2_isSafe 5 = .ok (.istore_n 3, 1) := dw_62 (kcX2_isSafe_0 5 62 rfl)
theorem dX2_isSafe_6 : decode cX2_isSafe 6 = .ok (.iconst 0, 1) := dw_3 (kcX2_isSafe_0 6 3 rfl)
theorem dX2_isSafe_7 : decode cX2_isSafe 7 = .ok (.aload_n 0, 1) := dw_42 (kcX2_isSafe_0 7 42 rfl)
theorem dX2_isSafe_8 : decode cX2_isSafe 8 = .ok (.getfield 45, 3) := dw_180 (kcX2_isSafe_0 8 180 rfl) (kcX2_isSafe_0 9 0 rfl) (kcX2_isSafe_0 10 45 rfl) rfl
theorem dX2_isSafe_11 : decode cX2_isSafe 11 = .ok (.iload_n 3, 1) := dw_29 (kcX2_isSafe_0 11 29 rfl)
theorem dX2_isSafe_12 : decode cX2_isSafe 12 = .ok (.iaload, 1) := dw_46 (kcX2_isSafe_0 12 46 rfl)
theorem dX2_isSafe_13 : decode cX2_isSafe 13 = .ok (.aload_n 0, 1) := dw_42 (kcX2_isSafe_0 13 42 rfl)
theorem dX2_isSafe_14 : decode cX2_isSafe 14 = .ok (.getfield 18, 3) := dw_180 (kcX2_isSafe_0 14 180 rfl) (kcX2_isSafe_0 15 0 rfl) (kcX2_isSafe_0 16 18 rfl) rfl
theorem dX2_isSafe_17 : decode cX2_isSafe 17 = .ok (.isub, 1) := dw_100 (kcX2_isSafe_0 17 100 rfl)
theorem dX2_isSafe_18 : decode cX2_isSafe 18 = .ok (.invokestatic 152, 3) := dw_184 (kcX2_isSafe_0 18 184 rfl) (kcX2_isSafe_0 19 0 rfl) (kcX2_isSafe_0 20 152 rfl) rfl
theorem dX2_isSafe_21 : decode cX2_isSafe 21 = .ok (.istore 4, 2) := dw_54 (kcX2_isSafe_0 21 54 rfl) (kcX2_isSafe_0 22 4 rfl)
theorem dX2_isSafe_23 : decode cX2_isSafe 23 = .ok (.aload_n 0, 1) := dw_42 (kcX2_isSafe_0 23 42 rfl)
theorem dX2_isSafe_24 : decode cX2_isSafe 24 = .ok (.getfield 45, 3) := dw_180 (kcX2_isSafe_0 24 180 rfl) (kcX2_isSafe_0 25 0 rfl) (kcX2_isSafe_0 26 45 rfl) rfl
theorem dX2_isSafe_27 : decode cX2_isSafe 27 = .ok (.iload_n 3, 1) := dw_29 (kcX2_isSafe_0 27 29 rfl)
theorem dX2_isSafe_28 : decode cX2_isSafe 28 = .ok (.iaload, 1) := dw_46 (kcX2_isSafe_0 28 46 rfl)
theorem dX2_isSafe_29 : decode cX2_isSafe 29 = .ok (.aload_n 0, 1) := dw_42 (kcX2_isSafe_0 29 42 rfl)
theorem dX2_isSafe_30 : decode cX2_isSafe 30 = .ok (.getfield 21, 3) := dw_180 (kcX2_isSafe_0 30 180 rfl) (kcX2_isSafe_0 31 0 rfl) (kcX2_isSafe_0 32 21 rfl) rfl
theorem dX2_isSafe_33 : decode cX2_isSafe 33 = .ok (.iadd, 1) := dw_96 (kcX2_isSafe_0 33 96 rfl)
theorem dX2_isSafe_34 : decode cX2_isSafe 34 = .ok (.istore 5, 2) := dw_54 (kcX2_isSafe_0 34 54 rfl) (kcX2_isSafe_0 35 5 rfl)
theorem dX2_isSafe_36 : decode cX2_isSafe 36 = .ok (.aload_n 0, 1) := dw_42 (kcX2_isSafe_0 36 42 rfl)
theorem kcX2_isSafe_3 : CHb cX2_isSafe 192 [7, 21, 6, 153, 0, 34, 21, 7, 154, 0, 29, 42, 27, 28, 21, 5, 182, 0, 149, 42, 180, 0, 54, 29, 46, 21, 5, 161, 0, 7, 4, 167, 0, 4, 3, 54, 7, 42, 27, 28, 182, 0, 117, 21, 7, 172] := CHb_of (by decide +kernel)
theorem dX2_isSafe_229 : decode cX2_isSafe 229 = .ok (.aload_n 0, 1) := dw_42 (kcX2_isSafe_3 37 42 rfl)
theorem dX2_isSafe_230 : decode cX2_isSafe 230 = .ok (.iload_n 1, 1) := dw_27 (kcX2_isSafe_3 38 27 rfl)
theorem dX2_isSafe_231 : decode cX2_isSafe 231 = .ok (.iload_n 2, 1) := dw_28 (kcX2_isSafe_3 39 28 rfl)
theorem dX2_isSafe_232 : decode cX2_isSafe 232 = .ok (.invokevirtual 117, 3) := dw_182 (kcX2_isSafe_3 40 182 rfl) (kcX2_isSafe_3 41 0 rfl) (kcX2_isSafe_3 42 117 rfl) rfl
theorem dX2_isSafe_235 : decode cX2_isSafe 235 = .ok (.iload 7, 2) := dw_21 (kcX2_isSafe_3 43 21 rfl) (kcX2_isSafe_3 44 7 rfl)
theorem dX2_isSafe_237 : decode cX2_isSafe 237 = .ok (.ireturn, 1) := dw_172 (kcX2_isSafe_3 45 172 rfl)
theorem kcX2_isSafe_2 : CHb cX2_isSafe 128 [4, 163, 0, 7, 4, 167, 0, 4, 3, 54, 6, 21, 6, 154, 0, 29, 42, 27, 28, 21, 4, 182, 0, 149, 42, 180, 0, 54, 29, 46, 21, 4, 163, 0, 7, 4, 167, 0, 4, 3, 54, 6, 21, 6, 153, 0, 18, 42, 180, 0, 54, 29, 46, 21, 5, 161, 0, 7, 4, 167, 0, 4, 3, 54] := CHb_of (by decide +kernel)
theorem dX2_isSafe_170 : decode cX2_isSafe 170 = .ok (.iload 6, 2) := dw_21 (kcX2_isSafe_2 42 21 rfl) (kcX2_isSafe_2 43 6 rfl)
theorem dX2_isSafe_172 : decode cX2_isSafe 172 = .ok (.ifCond .eq 18, 3) := dw_153 (kcX2_isSafe_2 44 153 rfl) (kcX2_isSafe_2 45 0 rfl) (kcX2_isSafe_2 46 18 rfl) rfl
theorem dX2_isSafe_190 : decode cX2_isSafe 190 = .ok (.iconst 0, 1) := dw_3 (kcX2_isSafe_2 62 3 rfl)
theorem dX2_isSafe_191 : decode cX2_isSafe 191 = .ok (.istore 7, 2) := dw_54 (kcX2_isSafe_2 63 54 rfl) (kcX2_isSafe_3 0 7 rfl)
theorem dX2_isSafe_193 : decode cX2_isSafe 193 = .ok (.iload 6, 2) := dw_21 (kcX2_isSafe_3 1 21 rfl) (kcX2_isSafe_3 2 6 rfl)
theorem dX2_isSafe_195 : decode cX2_isSafe 195 = .ok (.ifCond .eq 34, 3) := dw_153 (kcX2_isSafe_3 3 153 rfl) (kcX2_isSafe_3 4 0 rfl) (kcX2_isSafe_3 5 34 rfl) rfl
theorem dX2_isSafe_175 : decode cX2_isSafe 175 = .ok (.aload_n 0, 1) := dw_42 (kcX2_isSafe_2 47 42 rfl)
theorem dX2_isSafe_176 : decode cX2_isSafe 176 = .ok (.getfield 54, 3) := dw_180 (kcX2_isSafe_2 48 180 rfl) (kcX2_isSafe_2 49 0 rfl) (kcX2_isSafe_2 50 54 rfl) rfl
theorem dX2_isSafe_179 : decode cX2_isSafe 179 = .ok (.iload_n 3, 1) := dw_29 (kcX2_isSafe_2 51 29 rfl)
theorem dX2_isSafe_180 : decode cX2_isSafe 180 = .ok (.iaload, 1) := dw_46 (kcX2_isSafe_2 52 46 rfl)
theorem dX2_isSafe_181 : decode cX2_isSafe 181 = .ok (.iload 5, 2) := dw_21 (kcX2_isSafe_2 53 21 rfl) (kcX2_isSafe_2 54 5 rfl)
theorem dX2_isSafe_183 : decode cX2_isSafe 183 = .ok (.if_icmp .lt 7, 3) := dw_161 (kcX2_isSafe_2 55 161 rfl) (kcX2_isSafe_2 56 0 rfl) (kcX2_isSafe_2 57 7 rfl) rfl
theorem dX2_isSafe_198 : decode cX2_isSafe 198 = .ok (.iload 7, 2) := dw_21 (kcX2_isSafe_3 6 21 rfl) (kcX2_isSafe_3 7 7 rfl)
theorem dX2_isSafe_200 : decode cX2_isSafe 200 = .ok (.ifCond .ne 29, 3) := dw_154 (kcX2_isSafe_3 8 154 rfl) (kcX2_isSafe_3 9 0 rfl) (kcX2_isSafe_3 10 29 rfl) rfl
theorem dX2_isSafe_203 : decode cX2_isSafe 203 = .ok (.aload_n 0, 1) := dw_42 (kcX2_isSafe_3 11 42 rfl)
theorem dX2_isSafe_204 : decode cX2_isSafe 204 = .ok (.iload_n 1, 1) := dw_27 (kcX2_isSafe_3 12 27 rfl)
theorem dX2_isSafe_205 : decode cX2_isSafe 205 = .ok (.iload_n 2, 1) := dw_28 (kcX2_isSafe_3 13 28 rfl)
theorem dX2_isSafe_206 : decode cX2_isSafe 206 = .ok (.iload 5, 2) := dw_21 (kcX2_isSafe_3 14 21 rfl) (kcX2_isSafe_3 15 5 rfl)
theorem dX2_isSafe_208 : decode cX2_isSafe 208 = .ok (.invokevirtual 149, 3) := dw_182 (kcX2_isSafe_3 16 182 rfl) (kcX2_isSafe_3 17 0 rfl) (kcX2_isSafe_3 18 149 rfl) rfl
theorem dX2_isSafe_211 : decode cX2_isSafe 211 = .ok (.aload_n 0, 1) := dw_42 (kcX2_isSafe_3 19 42 rfl)
theorem dX2_isSafe_212 : decode cX2_isSafe 212 = .ok (.getfield 54, 3) := dw_180 (kcX2_isSafe_3 20 180 rfl) (kcX2_isSafe_3 21 0 rfl) (kcX2_isSafe_3 22 54 rfl) rfl
theorem dX2_isSafe_215 : decode cX2_isSafe 215 = .ok (.iload_n 3, 1) := dw_29 (kcX2_isSafe_3 23 29 rfl)
theorem dX2_isSafe_216 : decode cX2_isSafe 216 = .ok (.iaload, 1) := dw_46 (kcX2_isSafe_3 24 46 rfl)
theorem dX2_isSafe_217 : decode cX2_isSafe 217 = .ok (.iload 5, 2) := dw_21 (kcX2_isSafe_3 25 21 rfl) (kcX2_isSafe_3 26 5 rfl)
theorem dX2_isSafe_219 : decode cX2_isSafe 219 = .ok (.if_icmp .lt 7, 3) := dw_161 (kcX2_isSafe_3 27 161 rfl) (kcX2_isSafe_3 28 0 rfl) (kcX2_isSafe_3 29 7 rfl) rfl
theorem dX2_isSafe_226 : decode cX2_isSafe 226 = .ok (.iconst 0, 1) := dw_3 (kcX2_isSafe_3 34 3 rfl)
theorem dX2_isSafe_227 : decode cX2_isSafe 227 = .ok (.istore 7, 2) := dw_54 (kcX2_isSafe_3 35 54 rfl) (kcX2_isSafe_3 36 7 rfl)
theorem dX2_isSafe_222 : decode cX2_isSafe 222 = .ok (.iconst 1, 1) := dw_4 (kcX2_isSafe_3 30 4 rfl)
theorem dX2_isSafe_223 : decode cX2_isSafe 223 = .ok (.goto 4, 3) := dw_167 (kcX2_isSafe_3 31 167 rfl) (kcX2_isSafe_3 32 0 rfl) (kcX2_isSafe_3 33 4 rfl) rfl
theorem dX2_isSafe_186 : decode cX2_isSafe 186 = .ok (.iconst 1, 1) := dw_4 (kcX2_isSafe_2 58 4 rfl)
theorem dX2_isSafe_187 : decode cX2_isSafe 187 = .ok (.goto 4, 3) := dw_167 (kcX2_isSafe_2 59 167 rfl) (kcX2_isSafe_2 60 0 rfl) (kcX2_isSafe_2 61 4 rfl) rfl
theorem kcX2_isSafe_1 : CHb cX2_isSafe 64 [160, 0, 7, 4, 167, 0, 4, 3, 172, 21, 4, 42, 180, 0, 57, 29, 46, 161, 0, 14, 21, 5, 42, 180, 0, 60, 29, 46, 164, 0, 5, 3, 172, 42, 180, 0, 24, 42, 180, 0, 38, 27, 46, 159, 0, 14, 42, 42, 180, 0, 38, 27, 46, 3, 182, 0, 146, 42, 180, 0, 54, 29, 46, 21] := CHb_of (by decide +kernel)
theorem dX2_isSafe_121 : decode cX2_isSafe 121 = .ok (.aload_n 0, 1) := dw_42 (kcX2_isSafe_1 57 42 rfl)
theorem dX2_isSafe_122 : decode cX2_isSafe 122 = .ok (.getfield 54, 3) := dw_180 (kcX2_isSafe_1 58 180 rfl) (kcX2_isSafe_1 59 0 rfl) (kcX2_isSafe_1 60 54 rfl) rfl
theorem dX2_isSafe_125 : decode cX2_isSafe 125 = .ok (.iload_n 3, 1) := dw_29 (kcX2_isSafe_1 61 29 rfl)
theorem dX2_isSafe_126 : decode cX2_isSafe 126 = .ok (.iaload, 1) := dw_46 (kcX2_isSafe_1 62 46 rfl)
theorem dX2_isSafe_127 : decode cX2_isSafe 127 = .ok (.iload 4, 2) := dw_21 (kcX2_isSafe_1 63 21 rfl) (kcX2_isSafe_2 0 4 rfl)
theorem dX2_isSafe_129 : decode cX2_isSafe 129 = .ok (.if_icmp .gt 7, 3) := dw_163 (kcX2_isSafe_2 1 163 rfl) (kcX2_isSafe_2 2 0 rfl) (kcX2_isSafe_2 3 7 rfl) rfl
theorem dX2_isSafe_136 : decode cX2_isSafe 136 = .ok (.iconst 0, 1) := dw_3 (kcX2_isSafe_2 8 3 rfl)
theorem dX2_isSafe_137 : decode cX2_isSafe 137 = .ok (.istore 6, 2) := dw_54 (kcX2_isSafe_2 9 54 rfl) (kcX2_isSafe_2 10 6 rfl)
theorem dX2_isSafe_139 : decode cX2_isSafe 139 = .ok (.iload 6, 2) := dw_21 (kcX2_isSafe_2 11 21 rfl) (kcX2_isSafe_2 12 6 rfl)
theorem dX2_isSafe_141 : decode cX2_isSafe 141 = .ok (.ifCond .ne 29, 3) := dw_154 (kcX2_isSafe_2 13 154 rfl) (kcX2_isSafe_2 14 0 rfl) (kcX2_isSafe_2 15 29 rfl) rfl
theorem dX2_isSafe_144 : decode cX2_isSafe 144 = .ok (.aload_n 0, 1) := dw_42 (kcX2_isSafe_2 16 42 rfl)
theorem dX2_isSafe_145 : decode cX2_isSafe 145 = .ok (.iload_n 1, 1) := dw_27 (kcX2_isSafe_2 17 27 rfl)
theorem dX2_isSafe_146 : decode cX2_isSafe 146 = .ok (.iload_n 2, 1) := dw_28 (kcX2_isSafe_2 18 28 rfl)
theorem dX2_isSafe_147 : decode cX2_isSafe 147 = .ok (.iload 4, 2) := dw_21 (kcX2_isSafe_2 19 21 rfl) (kcX2_isSafe_2 20 4 rfl)
theorem dX2_isSafe_149 : decode cX2_isSafe 149 = .ok (.invokevirtual 149, 3) := dw_182 (kcX2_isSafe_2 21 182 rfl) (kcX2_isSafe_2 22 0 rfl) (kcX2_isSafe_2 23 149 rfl) rfl
theorem dX2_isSafe_152 : decode cX2_isSafe 152 = .ok (.aload_n 0, 1) := dw_42 (kcX2_isSafe_2 24 42 rfl)
theorem dX2_isSafe_153 : decode cX2_isSafe 153 = .ok (.getfield 54, 3) := dw_180 (kcX2_isSafe_2 25 180 rfl) (kcX2_isSafe_2 26 0 rfl) (kcX2_isSafe_2 27 54 rfl) rfl
theorem dX2_isSafe_156 : decode cX2_isSafe 156 = .ok (.iload_n 3, 1) := dw_29 (kcX2_isSafe_2 28 29 rfl)
theorem dX2_isSafe_157 : decode cX2_isSafe 157 = .ok (.iaload, 1) := dw_46 (kcX2_isSafe_2 29 46 rfl)
theorem dX2_isSafe_158 : decode cX2_isSafe 158 = .ok (.iload 4, 2) := dw_21 (kcX2_isSafe_2 30 21 rfl) (kcX2_isSafe_2 31 4 rfl)
theorem dX2_isSafe_160 : decode cX2_isSafe 160 = .ok (.if_icmp .gt 7, 3) := dw_163 (kcX2_isSafe_2 32 163 rfl) (kcX2_isSafe_2 33 0 rfl) (kcX2_isSafe_2 34 7 rfl) rfl
theorem dX2_isSafe_167 : decode cX2_isSafe 167 = .ok (.iconst 0, 1) := dw_3 (kcX2_isSafe_2 39 3 rfl)
theorem dX2_isSafe_168 : decode cX2_isSafe 168 = .ok (.istore 6, 2) := dw_54 (kcX2_isSafe_2 40 54 rfl) (kcX2_isSafe_2 41 6 rfl)
theorem dX2_isSafe_163 : decode cX2_isSafe 163 = .ok (.iconst 1, 1) := dw_4 (kcX2_isSafe_2 35 4 rfl)
theorem dX2_isSafe_164 : decode cX2_isSafe 164 = .ok (.goto 4, 3) := dw_167 (kcX2_isSafe_2 36 167 rfl) (kcX2_isSafe_2 37 0 rfl) (kcX2_isSafe_2 38 4 rfl) rfl
theorem dX2_isSafe_132 : decode cX2_isSafe 132 = .ok (.iconst 1, 1) := dw_4 (kcX2_isSafe_2 4 4 rfl)
theorem dX2_isSafe_133 : decode cX2_isSafe 133 = .ok (.goto 4, 3) := dw_167 (kcX2_isSafe_2 5 167 rfl) (kcX2_isSafe_2 6 0 rfl) (kcX2_isSafe_2 7 4 rfl) rfl
theorem dX2_isSafe_37 : decode cX2_isSafe 37 = .ok (.getfield 51, 3) := dw_180 (kcX2_isSafe_0 37 180 rfl) (kcX2_isSafe_0 38 0 rfl) (kcX2_isSafe_0 39 51 rfl) rfl
theorem dX2_isSafe_40 : decode cX2_isSafe 40 = .ok (.iload_n 3, 1) := dw_29 (kcX2_isSafe_0 40 29 rfl)
theorem dX2_isSafe_41 : decode cX2_isSafe 41 = .ok (.baload, 1) := dw_51 (kcX2_isSafe_0 41 51 rfl)
theorem dX2_isSafe_42 : decode cX2_isSafe 42 = .ok (.ifCond .ne 31, 3) := dw_154 (kcX2_isSafe_0 42 154 rfl) (kcX2_isSafe_0 43 0 rfl) (kcX2_isSafe_0 44 31 rfl) rfl
theorem dX2_isSafe_73 : decode cX2_isSafe 73 = .ok (.iload 4, 2) := dw_21 (kcX2_isSafe_1 9 21 rfl) (kcX2_isSafe_1 10 4 rfl)
theorem dX2_isSafe_75 : decode cX2_isSafe 75 = .ok (.aload_n 0, 1) := dw_42 (kcX2_isSafe_1 11 42 rfl)
theorem dX2_isSafe_76 : decode cX2_isSafe 76 = .ok (.getfield 57, 3) := dw_180 (kcX2_isSafe_1 12 180 rfl) (kcX2_isSafe_1 13 0 rfl) (kcX2_isSafe_1 14 57 rfl) rfl
theorem dX2_isSafe_79 : decode cX2_isSafe 79 = .ok (.iload_n 3, 1) := dw_29 (kcX2_isSafe_1 15 29 rfl)
theorem dX2_isSafe_80 : decode cX2_isSafe 80 = .ok (.iaload, 1) := dw_46 (kcX2_isSafe_1 16 46 rfl)
theorem dX2_isSafe_81 : decode cX2_isSafe 81 = .ok (.if_icmp .lt 14, 3) := dw_161 (kcX2_isSafe_1 17 161 rfl) (kcX2_isSafe_1 18 0 rfl) (kcX2_isSafe_1 19 14 rfl) rfl
theorem dX2_isSafe_95 : decode cX2_isSafe 95 = .ok (.iconst 0, 1) := dw_3 (kcX2_isSafe_1 31 3 rfl)
theorem dX2_isSafe_96 : decode cX2_isSafe 96 = .ok (.ireturn, 1) := dw_172 (kcX2_isSafe_1 32 172 rfl)
theorem dX2_isSafe_84 : decode cX2_isSafe 84 = .ok (.iload 5, 2) := dw_21 (kcX2_isSafe_1 20 21 rfl) (kcX2_isSafe_1 21 5 rfl)
theorem dX2_isSafe_86 : decode cX2_isSafe 86 = .ok (.aload_n 0, 1) := dw_42 (kcX2_isSafe_1 22 42 rfl)
theorem dX2_isSafe_87 : decode cX2_isSafe 87 = .ok (.getfield 60, 3) := dw_180 (kcX2_isSafe_1 23 180 rfl) (kcX2_isSafe_1 24 0 rfl) (kcX2_isSafe_1 25 60 rfl) rfl
theorem dX2_isSafe_90 : decode cX2_isSafe 90 = .ok (.iload_n 3, 1) := dw_29 (kcX2_isSafe_1 26 29 rfl)
theorem dX2_isSafe_91 : decode cX2_isSafe 91 = .ok (.iaload, 1) := dw_46 (kcX2_isSafe_1 27 46 rfl)
theorem dX2_isSafe_92 : decode cX2_isSafe 92 = .ok (.if_icmp .le 5, 3) := dw_164 (kcX2_isSafe_1 28 164 rfl) (kcX2_isSafe_1 29 0 rfl) (kcX2_isSafe_1 30 5 rfl) rfl
theorem dX2_isSafe_97 : decode cX2_isSafe 97 = .ok (.aload_n 0, 1) := dw_42 (kcX2_isSafe_1 33 42 rfl)
theorem dX2_isSafe_98 : decode cX2_isSafe 98 = .ok (.getfield 24, 3) := dw_180 (kcX2_isSafe_1 34 180 rfl) (kcX2_isSafe_1 35 0 rfl) (kcX2_isSafe_1 36 24 rfl) rfl
theorem dX2_isSafe_101 : decode cX2_isSafe 101 = .ok (.aload_n 0, 1) := dw_42 (kcX2_isSafe_1 37 42 rfl)
theorem dX2_isSafe_102 : decode cX2_isSafe 102 = .ok (.getfield 38, 3) := dw_180 (kcX2_isSafe_1 38 180 rfl) (kcX2_isSafe_1 39 0 rfl) (kcX2_isSafe_1 40 38 rfl) rfl
theorem dX2_isSafe_105 : decode cX2_isSafe 105 = .ok (.iload_n 1, 1) := dw_27 (kcX2_isSafe_1 41 27 rfl)
theorem dX2_isSafe_106 : decode cX2_isSafe 106 = .ok (.iaload, 1) := dw_46 (kcX2_isSafe_1 42 46 rfl)
theorem dX2_isSafe_107 : decode cX2_isSafe 107 = .ok (.if_icmp .eq 14, 3) := dw_159 (kcX2_isSafe_1 43 159 rfl) (kcX2_isSafe_1 44 0 rfl) (kcX2_isSafe_1 45 14 rfl) rfl
theorem dX2_isSafe_110 : decode cX2_isSafe 110 = .ok (.aload_n 0, 1) := dw_42 (kcX2_isSafe_1 46 42 rfl)
theorem dX2_isSafe_111 : decode cX2_isSafe 111 = .ok (.aload_n 0, 1) := dw_42 (kcX2_isSafe_1 47 42 rfl)
theorem dX2_isSafe_112 : decode cX2_isSafe 112 = .ok (.getfield 38, 3) := dw_180 (kcX2_isSafe_1 48 180 rfl) (kcX2_isSafe_1 49 0 rfl) (kcX2_isSafe_1 50 38 rfl) rfl
theorem dX2_isSafe_115 : decode cX2_isSafe 115 = .ok (.iload_n 1, 1) := dw_27 (kcX2_isSafe_1 51 27 rfl)
theorem dX2_isSafe_116 : decode cX2_isSafe 116 = .ok (.iaload, 1) := dw_46 (kcX2_isSafe_1 52 46 rfl)
theorem dX2_isSafe_117 : decode cX2_isSafe 117 = .ok (.iconst 0, 1) := dw_3 (kcX2_isSafe_1 53 3 rfl)
theorem dX2_isSafe_118 : decode cX2_isSafe 118 = .ok (.invokevirtual 146, 3) := dw_182 (kcX2_isSafe_1 54 182 rfl) (kcX2_isSafe_1 55 0 rfl) (kcX2_isSafe_1 56 146 rfl) rfl
theorem dX2_isSafe_45 : decode cX2_isSafe 45 = .ok (.iload 4, 2) := dw_21 (kcX2_isSafe_0 45 21 rfl) (kcX2_isSafe_0 46 4 rfl)
theorem dX2_isSafe_47 : decode cX2_isSafe 47 = .ok (.aload_n 0, 1) := dw_42 (kcX2_isSafe_0 47 42 rfl)
theorem dX2_isSafe_48 : decode cX2_isSafe 48 = .ok (.getfield 45, 3) := dw_180 (kcX2_isSafe_0 48 180 rfl) (kcX2_isSafe_0 49 0 rfl) (kcX2_isSafe_0 50 45 rfl) rfl
theorem dX2_isSafe_51 : decode cX2_isSafe 51 = .ok (.iload_n 3, 1) := dw_29 (kcX2_isSafe_0 51 29 rfl)
theorem dX2_isSafe_52 : decode cX2_isSafe 52 = .ok (.iaload, 1) := dw_46 (kcX2_isSafe_0 52 46 rfl)
theorem dX2_isSafe_53 : decode cX2_isSafe 53 = .ok (.if_icmp .ne 18, 3) := dw_160 (kcX2_isSafe_0 53 160 rfl) (kcX2_isSafe_0 54 0 rfl) (kcX2_isSafe_0 55 18 rfl) rfl
theorem dX2_isSafe_71 : decode cX2_isSafe 71 = .ok (.iconst 0, 1) := dw_3 (kcX2_isSafe_1 7 3 rfl)
theorem dX2_isSafe_72 : decode cX2_isSafe 72 = .ok (.ireturn, 1) := dw_172 (kcX2_isSafe_1 8 172 rfl)
theorem dX2_isSafe_56 : decode cX2_isSafe 56 = .ok (.iload 5, 2) := dw_21 (kcX2_isSafe_0 56 21 rfl) (kcX2_isSafe_0 57 5 rfl)
theorem dX2_isSafe_58 : decode cX2_isSafe 58 = .ok (.aload_n 0, 1) := dw_42 (kcX2_isSafe_0 58 42 rfl)
theorem dX2_isSafe_59 : decode cX2_isSafe 59 = .ok (.getfield 45, 3) := dw_180 (kcX2_isSafe_0 59 180 rfl) (kcX2_isSafe_0 60 0 rfl) (kcX2_isSafe_0 61 45 rfl) rfl
theorem dX2_isSafe_62 : decode cX2_isSafe 62 = .ok (.iload_n 3, 1) := dw_29 (kcX2_isSafe_0 62 29 rfl)
theorem dX2_isSafe_63 : decode cX2_isSafe 63 = .ok (.iaload, 1) := dw_46 (kcX2_isSafe_0 63 46 rfl)
theorem dX2_isSafe_64 : decode cX2_isSafe 64 = .ok (.if_icmp .ne 7, 3) := dw_160 (kcX2_isSafe_1 0 160 rfl) (kcX2_isSafe_1 1 0 rfl) (kcX2_isSafe_1 2 7 rfl) rfl
theorem dX2_isSafe_67 : decode cX2_isSafe 67 = .ok (.iconst 1, 1) := dw_4 (kcX2_isSafe_1 3 4 rfl)
theorem dX2_isSafe_68 : decode cX2_isSafe 68 = .ok (.goto 4, 3) := dw_167 (kcX2_isSafe_1 4 167 rfl) (kcX2_isSafe_1 5 0 rfl) (kcX2_isSafe_1 6 4 rfl) rfl
theorem kcX2_countUnsafe_0 : CHb cX2_countUnsafe 0 [3, 60, 3, 61, 28, 42, 180, 0, 9, 162, 0, 50, 3, 62, 29, 42, 180, 0, 15, 162, 0, 34, 42, 180, 0, 48, 28, 29, 184, 0, 89, 46, 153, 0, 15, 42, 28, 29, 182, 0, 155, 154, 0, 6, 132, 1, 1, 132, 3, 1, 167, 255, 220, 132, 2, 1, 167, 255, 204, 27, 172] := CHb_of (by decide +kernel)
theorem dX2_countUnsafe_0 : decode cX2_countUnsafe 0 = .ok (.iconst 0, 1) := dw_3 (kcX2_countUnsafe_0 0 3 rfl)
theorem dX2_countUnsafe_1 : decode cX2_countUnsafe 1 = .ok (.istore_n 1, 1) := dw_60 (kcX2_countUnsafe_0 1 60 rfl)
theorem dX2_countUnsafe_2 : decode cX2_countUnsafe 2 = .ok (.iconst 0, 1) := dw_3 (kcX2_countUnsafe_0 2 3 rfl)
theorem dX2_countUnsafe_3 : decode cX2_countUnsafe 3 = .ok (.istore_n 2, 1) := dw_61 (kcX2_countUnsafe_0 3 61 rfl)
theorem dX2_countUnsafe_4 : decode cX2_countUnsafe 4 = .ok (.iload_n 2, 1) := dw_28 (kcX2_countUnsafe_0 4 28 rfl)
theorem dX2_countUnsafe_5 : decode cX2_countUnsafe 5 = .ok (.aload_n 0, 1) := dw_42 (kcX2_countUnsafe_0 5 42 rfl)
theorem dX2_countUnsafe_6 : decode cX2_countUnsafe 6 = .ok (.getfield 9, 3) := dw_180 (kcX2_countUnsafe_0 6 180 rfl) (kcX2_countUnsafe_0 7 0 rfl) (kcX2_countUnsafe_0 8 9 rfl) rfl
theorem dX2_countUnsafe_9 : decode cX2_countUnsafe 9 = .ok (.if_icmp .ge 50, 3) := dw_162 (kcX2_countUnsafe_0 9 162 rfl) (kcX2_countUnsafe_0 10 0 rfl) (kcX2_countUnsafe_0 11 50 rfl) rfl
theorem dX2_countUnsafe_59 : decode cX2_countUnsafe 59 = .ok (.iload_n 1, 1) := dw_27 (kcX2_countUnsafe_0 59 27 rfl)
theorem dX2_countUnsafe_60 : decode cX2_countUnsafe 60 = .ok (.ireturn, 1) := dw_172 (kcX2_countUnsafe_0 60 172 rfl)
theorem dX2_countUnsafe_12 : decode cX2_countUnsafe 12 = .ok (.iconst 0, 1) := dw_3 (kcX2_countUnsafe_0 12 3 rfl)
theorem dX2_countUnsafe_13 : decode cX2_countUnsafe 13 = .ok (.istore_n 3, 1) := dw_62 (kcX2_countUnsafe_0 13 62 rfl)
theorem dX2_countUnsafe_14 : decode cX2_countUnsafe 14 = .ok (.iload_n 3, 1) := dw_29 (kcX2_countUnsafe_0 14 29 rfl)
theorem dX2_countUnsafe_15 : decode cX2_countUnsafe 15 = .ok (.aload_n 0, 1) := dw_42 (kcX2_countUnsafe_0 15 42 rfl)
theorem dX2_countUnsafe_16 : decode cX2_countUnsafe 16 = .ok (.getfield 15, 3) := dw_180 (kcX2_countUnsafe_0 16 180 rfl) (kcX2_countUnsafe_0 17 0 rfl) (kcX2_countUnsafe_0 18 15 rfl) rfl
theorem dX2_countUnsafe_19 : decode cX2_countUnsafe 19 = .ok (.if_icmp .ge 34, 3) := dw_162 (kcX2_countUnsafe_0 19 162 rfl) (kcX2_countUnsafe_0 20 0 rfl) (kcX2_countUnsafe_0 21 34 rfl) rfl
theorem dX2_countUnsafe_53 : decode cX2_countUnsafe 53 = .ok (.iinc 2 1, 3) := dw_132 (kcX2_countUnsafe_0 53 132 rfl) (kcX2_countUnsafe_0 54 2 rfl) (kcX2_countUnsafe_0 55 1 rfl) rfl
theorem dX2_countUnsafe_56 : decode cX2_countUnsafe 56 = .ok (.goto (-52), 3) := dw_167 (kcX2_countUnsafe_0 56 167 rfl) (kcX2_countUnsafe_0 57 255 rfl) (kcX2_countUnsafe_0 58 204 rfl) rfl
theorem dX2_countUnsafe_22 : decode cX2_countUnsafe 22 = .ok (.aload_n 0, 1) := dw_42 (kcX2_countUnsafe_0 22 42 rfl)
theorem dX2_countUnsafe_23 : decode cX2_countUnsafe 23 = .ok (.getfield 48, 3) := dw_180 (kcX2_countUnsafe_0 23 180 rfl) (kcX2_countUnsafe_0 24 0 rfl) (kcX2_countUnsafe_0 25 48 rfl) rfl
theorem dX2_countUnsafe_26 : decode cX2_countUnsafe 26 = .ok (.iload_n 2, 1) := dw_28 (kcX2_countUnsafe_0 26 28 rfl)
theorem dX2_countUnsafe_27 : decode cX2_countUnsafe 27 = .ok (.iload_n 3, 1) := dw_29 (kcX2_countUnsafe_0 27 29 rfl)
theorem dX2_countUnsafe_28 : decode cX2_countUnsafe 28 = .ok (.invokestatic 89, 3) := dw_184 (kcX2_countUnsafe_0 28 184 rfl) (kcX2_countUnsafe_0 29 0 rfl) (kcX2_countUnsafe_0 30 89 rfl) rfl
theorem dX2_countUnsafe_31 : decode cX2_countUnsafe 31 = .ok (.iaload, 1) := dw_46 (kcX2_countUnsafe_0 31 46 rfl)
theorem dX2_countUnsafe_32 : decode cX2_countUnsafe 32 = .ok (.ifCond .eq 15, 3) := dw_153 (kcX2_countUnsafe_0 32 153 rfl) (kcX2_countUnsafe_0 33 0 rfl) (kcX2_countUnsafe_0 34 15 rfl) rfl
theorem dX2_countUnsafe_47 : decode cX2_countUnsafe 47 = .ok (.iinc 3 1, 3) := dw_132 (kcX2_countUnsafe_0 47 132 rfl) (kcX2_countUnsafe_0 48 3 rfl) (kcX2_countUnsafe_0 49 1 rfl) rfl
theorem dX2_countUnsafe_50 : decode cX2_countUnsafe 50 = .ok (.goto (-36), 3) := dw_167 (kcX2_countUnsafe_0 50 167 rfl) (kcX2_countUnsafe_0 51 255 rfl) (kcX2_countUnsafe_0 52 220 rfl) rfl
theorem dX2_countUnsafe_35 : decode cX2_countUnsafe 35 = .ok (.aload_n 0, 1) := dw_42 (kcX2_countUnsafe_0 35 42 rfl)
theorem dX2_countUnsafe_36 : decode cX2_countUnsafe 36 = .ok (.iload_n 2, 1) := dw_28 (kcX2_countUnsafe_0 36 28 rfl)
theorem dX2_countUnsafe_37 : decode cX2_countUnsafe 37 = .ok (.iload_n 3, 1) := dw_29 (kcX2_countUnsafe_0 37 29 rfl)
theorem dX2_countUnsafe_38 : decode cX2_countUnsafe 38 = .ok (.invokevirtual 155, 3) := dw_182 (kcX2_countUnsafe_0 38 182 rfl) (kcX2_countUnsafe_0 39 0 rfl) (kcX2_countUnsafe_0 40 155 rfl) rfl
theorem dX2_countUnsafe_41 : decode cX2_countUnsafe 41 = .ok (.ifCond .ne 6, 3) := dw_154 (kcX2_countUnsafe_0 41 154 rfl) (kcX2_countUnsafe_0 42 0 rfl) (kcX2_countUnsafe_0 43 6 rfl) rfl
theorem dX2_countUnsafe_44 : decode cX2_countUnsafe 44 = .ok (.iinc 1 1, 3) := dw_132 (kcX2_countUnsafe_0 44 132 rfl) (kcX2_countUnsafe_0 45 1 rfl) (kcX2_countUnsafe_0 46 1 rfl) rfl
set_option maxHeartbeats 4000000 in
set_option maxRecDepth 100000 in
theorem c_X2_moveToEnd (l : Launch) (G : GG) (a b : Nat → Nat) (f : Nat → Int32) (r : Nat → Nat → Int32) (q : Nat → Nat → Int32) (rc : Int32) (rw cl : Nat) (hrw : rw ≤ 12) (hcl : cl ≤ 12) (h0 : f 0 = nI rw) (h1 : f 1 = nI cl) (i j : Nat) (hi : i < 12) (hj : j < 12) (gr : Int32) (hRB : RB adjR (q 0)) : WrV l yX2_moveToEnd cX2_moveToEnd 5 ({ frames := 4, cells := 0, slots := 0, locals := 107 }) G ([((a 15), .inr (2, [.int (f 0), .int (f 1), .int (f 2), .int (f 3), .int (f 4), .ref (b 3), .ref (a 6), .ref (a 7), .ref (a 8), .ref (a 9), .ref (a 10), .ref (a 11), .ref (a 12), .ref (a 13), .ref (a 14)])), ((a 6), .inl (G.2.2.1, 12, .inl (r 6))), ((a 7), .inl (G.2.1, 12, .inl (r 7))), ((a 8), .inl (G.2.1, 144, .inl (r 8))), ((a 9), .inl (G.2.1, 144, .inl (r 9))), ((a 10), .inl (G.2.1, 144, .inl (r 10))), ((a 11), .inl (G.2.2.1, 144, .inl (r 11))), ((a 12), .inl (G.2.1, 144, .inl (r 12))), ((a 13), .inl (G.2.1, 144, .inl (r 13))), ((a 14), .inl (G.2.1, 144, .inl (r 14))), ((b 3), .inr (5, [.ref (b 0), .ref (b 1), .ref (b 2), .int rc])), ((b 0), .inl (G.2.1, 25, .inl (q 0))), ((b 1), .inl (G.2.1, 25, .inl (q 1))), ((b 2), .inl (G.2.1, 25, .inl (q 2)))]) [.ref (a 15), .int (nI i), .int (nI j), .int gr] (fun w => ∃ (e4 : Int32) (r2 : Nat → Nat → Int32) (s2 bf qu : Nat → Int32) (rc2 : Int32), RB adjR s2 ∧ w = [((a 15), .inr (2, [.int (f 0), .int (f 1), .int (f 2), .int (f 3), .int e4, .ref (b 3), .ref (a 6), .ref (a 7), .ref (a 8), .ref (a 9), .ref (a 10), .ref (a 11), .ref (a 12), .ref (a 13), .ref (a 14)])), ((a 6), .inl (G.2.2.1, 12, .inl (r2 6))), ((a 7), .inl (G.2.1, 12, .inl (r2 7))), ((a 8), .inl (G.2.1, 144, .inl (r2 8))), ((a 9), .inl (G.2.1, 144, .inl (r2 9))), ((a 10), .inl (G.2.1, 144, .inl (r2 10))), ((a 11), .inl (G.2.2.1, 144, .inl (r2 11))), ((a 12), .inl (G.2.1, 144, .inl (r2 12))), ((a 13), .inl (G.2.1, 144, .inl (r2 13))), ((a 14), .inl (G.2.1, 144, .inl (r2 14))), ((b 3), .inr (5, [.ref (b 0), .ref (b 1), .ref (b 2), .int rc2])), ((b 0), .inl (G.2.1, 25, .inl s2)), ((b 1), .inl (G.2.1, 25, .inl bf)), ((b 2), .inl (G.2.1, 25, .inl qu))]) := by
  refine wr_entryV (by decide +kernel) (Nat.le_of_ble_eq_true rfl) ?_
  intro p e s m below meth c A C0 hP hK hD hA ls hl
  have hS : va_S A s.heap s.heap [] := va_S.rf
  obtain ⟨hx, hb, hml, hown, hts, hr, hlocks, hin⟩ := C0
  have hown : s.vm.findClass RX2 = some m.cls := hown
  have hl : lv_has ls 5 [(0, .ref (a 15)), (1, .int (nI i)), (2, .int (nI j)), (3, .int gr)] := hl
  refine lv_iload_n hx hb dX2_moveToEnd_0 rfl (lv_at hl 1 rfl) ?_
  refine lv_iload_n hx hb dX2_moveToEnd_1 rfl (lv_at hl 2 rfl) ?_
  refine rdSN (rest := []) ⟨hx, hb, hml, hown, hts⟩ (c_X6_spotOf l G ((nI i)) ((nI j))) mi_yX6_spotOf mst_yX6_spotOf (by decide +kernel) ⟨rfl, rfl, Nat.le_of_ble_eq_true rfl, Nat.le_of_ble_eq_true rfl⟩ hK (fun k q h => by simp at h) rfl hl.1 rfl (Nat.le_of_ble_eq_true rfl) dX2_moveToEnd_2 ⟨Nat.zero_le _, Nat.zero_le _⟩ hS hA hP (fun r1 H locs hr1 hP hS => ?_)
  obtain rfl : r1 = nI (i * 12 + j) := spot_eq hr1
  refine lv_istore (lv' := [(4, .int (nI (i * 12 + j))), (0, .ref (a 15)), (1, .int (nI i)), (2, .int (nI j)), (3, .int gr)]) hx hb dX2_moveToEnd_5 hl (by decide) rfl (fun ls hl => ?_)
  refine lv_aload_n hx hb dX2_moveToEnd_7 rfl (lv_at hl 1 rfl) ?_
  refine va_get (D := G.1) (ci := 2) (v := .ref (a 11)) (C := RX2) (T := TX2) (N := 15) hx hb hts inX2 hown hK.1 hP 0 rfl rfl 11 (by decide) (hts _ mf_X2_51) (fun _ h9 => h9) rfl dX2_moveToEnd_8 ?_
  refine lv_iload hx hb dX2_moveToEnd_11 (lv_at hl 0 rfl) ?_
  refine xzald hx hb hK hP 6 (i * 12 + j) (rfl) (by omega) (by omega) rfl dX2_moveToEnd_13 ?_
  refine lv_topi (fun v2 ev2 => ?_)
  refine lv_if_eq (tgt := 61) hx hb dX2_moveToEnd_14 (by decide) (fun c3 => ?_) (fun c3 => ?_)
  · exact wr_vret hx hb hr hlocks hS hP ⟨(f 4), (fun k => match k with | 6 => (r 6) | 7 => (r 7) | 8 => (r 8) | 9 => (r 9) | 10 => (r 10) | 11 => (r 11) | 12 => (r 12) | 13 => (r 13) | 14 => (r 14) | _ => (fun _ => 0)), (q 0), (q 1), (q 2), rc, hRB, rfl⟩ dX2_moveToEnd_61
  · refine lv_aload_n hx hb dX2_moveToEnd_17 rfl (lv_at hl 1 rfl) ?_
    refine lv_aload_n hx hb dX2_moveToEnd_18 rfl (lv_at hl 1 rfl) ?_
    refine va_get (D := G.1) (ci := 2) (v := .ref (a 7)) (C := RX2) (T := TX2) (N := 15) hx hb hts inX2 hown hK.1 hP 0 rfl rfl 7 (by decide) (hts _ mf_X2_38) (fun _ h9 => h9) rfl dX2_moveToEnd_19 ?_
    refine lv_iload_n hx hb dX2_moveToEnd_22 rfl (lv_at hl 2 rfl) ?_
    refine xiald hx hb hK hP 2 (i) (rfl) (by omega) (by omega) rfl dX2_moveToEnd_23 ?_
    refine lv_topi (fun v4 ev4 => ?_)
    refine lv_iconst (v := 0) hx hb dX2_moveToEnd_24 (by decide) ?_
    refine wrVV (rest := []) (q0 := 0) ⟨hx, hb, hml, hown, hts⟩ (c_X2_enter l G a b (fun k => match k with | 0 => (f 0) | 1 => (f 1) | 2 => (f 2) | 3 => (f 3) | _ => (f 4)) (fun k => match k with | 6 => (r 6) | 7 => (r 7) | 8 => (r 8) | 9 => (r 9) | 10 => (r 10) | 11 => (r 11) | 12 => (r 12) | 13 => (r 13) | 14 => (r 14) | _ => (fun _ => 0)) (fun k => match k with | 0 => (q 0) | 1 => (q 1) | 2 => (q 2) | _ => (fun _ => 0)) (rc) rw cl hrw hcl h0 h1 v4 0 (Nat.zero_le _)) mi_yX2_enter mv_yX2_enter ml_X2_146 ⟨rfl, rfl, Nat.le_of_ble_eq_true rfl, Nat.le_of_ble_eq_true rfl⟩ hK hP hD [0, 1, 2, 3, 4, 5, 6, 7, 8, 9, 10, 11, 12, 13] rfl (by decide) rfl rfl rfl hl.1 rfl (Nat.le_of_ble_eq_true rfl) dX2_moveToEnd_25 ⟨Nat.zero_le _, Nat.zero_le _⟩ hS hA (fun w6 H locs hw6 hP hS => ?_)
    obtain ⟨en7, ss8, hRB, rfl⟩ := hw6
    have h9_ := P_rg (s := 0) (hP rfl) rfl (Nat.le_of_ble_eq_true rfl)
    have hP : PP G [((a 15), .inr (2, [.int (f 0), .int (f 1), .int (f 2), .int (f 3), .int en7, .ref (b 3), .ref (a 6), .ref (a 7), .ref (a 8), .ref (a 9), .ref (a 10), .ref (a 11), .ref (a 12), .ref (a 13), .ref (a 14)])), ((a 6), .inl (G.2.2.1, 12, .inl (r 6))), ((a 7), .inl (G.2.1, 12, .inl (r 7))), ((a 8), .inl (G.2.1, 144, .inl (r 8))), ((a 9), .inl (G.2.1, 144, .inl (r 9))), ((a 10), .inl (G.2.1, 144, .inl (r 10))), ((a 11), .inl (G.2.2.1, 144, .inl (r 11))), ((a 12), .inl (G.2.1, 144, .inl (r 12))), ((a 13), .inl (G.2.1, 144, .inl (r 13))), ((a 14), .inl (G.2.1, 144, .inl (r 14))), ((b 3), .inr (5, [.ref (b 0), .ref (b 1), .ref (b 2), .int rc])), ((b 0), .inl (G.2.1, 25, .inl ss8)), ((b 1), .inl (G.2.1, 25, .inl (q 1))), ((b 2), .inl (G.2.1, 25, .inl (q 2)))] H := h9_
    have hD := D_as2 hP hD rfl
    refine lv_aload_n hx hb dX2_moveToEnd_28 rfl (lv_at hl 1 rfl) ?_
    refine lv_iload_n hx hb dX2_moveToEnd_29 rfl (lv_at hl 2 rfl) ?_
    refine lv_iload_n hx hb dX2_moveToEnd_30 rfl (lv_at hl 3 rfl) ?_
    refine lv_iload_n hx hb dX2_moveToEnd_31 rfl (lv_at hl 4 rfl) ?_
    refine lv_if_eq (tgt := 45) hx hb dX2_moveToEnd_32 (by decide) (fun c9 => ?_) (fun c9 => ?_)
    · refine lv_aload_n hx hb dX2_moveToEnd_45 rfl (lv_at hl 1 rfl) ?_
      refine va_get (D := G.1) (ci := 2) (v := .ref (a 13)) (C := RX2) (T := TX2) (N := 15) hx hb hts inX2 hown hK.1 hP 0 rfl rfl 13 (by decide) (hts _ mf_X2_57) (fun _ h9 => h9) rfl dX2_moveToEnd_46 ?_
      refine lv_iload hx hb dX2_moveToEnd_49 (lv_at hl 0 rfl) ?_
      refine xiald hx hb hK hP 8 (i * 12 + j) (rfl) (by omega) (by omega) rfl dX2_moveToEnd_51 ?_
      refine lv_topi (fun v10 ev10 => ?_)
      refine wrVV (rest := []) (q0 := 0) ⟨hx, hb, hml, hown, hts⟩ (c_X2_draw l G a b (fun k => match k with | 0 => (f 0) | 1 => (f 1) | 2 => (f 2) | 3 => (f 3) | _ => en7) (fun k => match k with | 6 => (r 6) | 7 => (r 7) | 8 => (r 8) | 9 => (r 9) | 10 => (r 10) | 11 => (r 11) | 12 => (r 12) | 13 => (r 13) | 14 => (r 14) | _ => (fun _ => 0)) (fun k => match k with | 0 => ss8 | 1 => (q 1) | 2 => (q 2) | _ => (fun _ => 0)) (rc) (i) (j) v10 (by omega) (by omega) hRB) mi_yX2_draw mv_yX2_draw ml_X2_149 ⟨rfl, rfl, Nat.le_of_ble_eq_true rfl, Nat.le_of_ble_eq_true rfl⟩ hK hP hD [0, 1, 2, 3, 4, 5, 6, 7, 8, 9, 10, 11, 12, 13] rfl (by decide) rfl rfl rfl hl.1 rfl (Nat.le_of_ble_eq_true rfl) dX2_moveToEnd_52 ⟨Nat.zero_le _, Nat.zero_le _⟩ hS hA (fun w12 H locs hw12 hP hS => ?_)
      obtain ⟨rr13, ss14, bb15, qq16, cc17, hRB, rfl⟩ := hw12
      have h9_ := P_rg (s := 0) (hP rfl) rfl (Nat.le_of_ble_eq_true rfl)
      have hP : PP G [((a 15), .inr (2, [.int (f 0), .int (f 1), .int (f 2), .int (f 3), .int en7, .ref (b 3), .ref (a 6), .ref (a 7), .ref (a 8), .ref (a 9), .ref (a 10), .ref (a 11), .ref (a 12), .ref (a 13), .ref (a 14)])), ((a 6), .inl (G.2.2.1, 12, .inl (rr13 6))), ((a 7), .inl (G.2.1, 12, .inl (rr13 7))), ((a 8), .inl (G.2.1, 144, .inl (rr13 8))), ((a 9), .inl (G.2.1, 144, .inl (rr13 9))), ((a 10), .inl (G.2.1, 144, .inl (rr13 10))), ((a 11), .inl (G.2.2.1, 144, .inl (rr13 11))), ((a 12), .inl (G.2.1, 144, .inl (rr13 12))), ((a 13), .inl (G.2.1, 144, .inl (rr13 13))), ((a 14), .inl (G.2.1, 144, .inl (rr13 14))), ((b 3), .inr (5, [.ref (b 0), .ref (b 1), .ref (b 2), .int cc17])), ((b 0), .inl (G.2.1, 25, .inl ss14)), ((b 1), .inl (G.2.1, 25, .inl bb15)), ((b 2), .inl (G.2.1, 25, .inl qq16))] H := h9_
      have hD := D_as2 hP hD rfl
      refine lv_aload_n hx hb dX2_moveToEnd_55 rfl (lv_at hl 1 rfl) ?_
      refine lv_bipush (v := -2) hx hb dX2_moveToEnd_56 (by decide) ?_
      refine va_put (D := G.1) (ci := 2) (v := .int (-2)) (C := RX2) (T := TX2) (N := 15) hx hb hts inX2 tyX2 tyX2_ok nmX2 hown hK.1 hP hD hS 0 rfl rfl 4 (by decide) (hts _ mf_X2_24) (fun _ h9 => h9) rfl (tyX2_ok 4 (by decide)) (rfl) (rfl) (Nat.le_of_ble_eq_true rfl) dX2_moveToEnd_58 (fun H locs hP hD hS => ?_)
      have hP : PP G [((a 15), .inr (2, [.int (f 0), .int (f 1), .int (f 2), .int (f 3), .int (-2), .ref (b 3), .ref (a 6), .ref (a 7), .ref (a 8), .ref (a 9), .ref (a 10), .ref (a 11), .ref (a 12), .ref (a 13), .ref (a 14)])), ((a 6), .inl (G.2.2.1, 12, .inl (rr13 6))), ((a 7), .inl (G.2.1, 12, .inl (rr13 7))), ((a 8), .inl (G.2.1, 144, .inl (rr13 8))), ((a 9), .inl (G.2.1, 144, .inl (rr13 9))), ((a 10), .inl (G.2.1, 144, .inl (rr13 10))), ((a 11), .inl (G.2.2.1, 144, .inl (rr13 11))), ((a 12), .inl (G.2.1, 144, .inl (rr13 12))), ((a 13), .inl (G.2.1, 144, .inl (rr13 13))), ((a 14), .inl (G.2.1, 144, .inl (rr13 14))), ((b 3), .inr (5, [.ref (b 0), .ref (b 1), .ref (b 2), .int cc17])), ((b 0), .inl (G.2.1, 25, .inl ss14)), ((b 1), .inl (G.2.1, 25, .inl bb15)), ((b 2), .inl (G.2.1, 25, .inl qq16))] H := hP
      have hD := D_as hP hD rfl
      exact wr_vret hx hb hr hlocks hS hP ⟨(-2), (fun k => match k with | 6 => (rr13 6) | 7 => (rr13 7) | 8 => (rr13 8) | 9 => (rr13 9) | 10 => (rr13 10) | 11 => (rr13 11) | 12 => (rr13 12) | 13 => (rr13 13) | 14 => (rr13 14) | _ => (fun _ => 0)), ss14, bb15, qq16, cc17, hRB, rfl⟩ dX2_moveToEnd_61
    · refine lv_aload_n hx hb dX2_moveToEnd_35 rfl (lv_at hl 1 rfl) ?_
      refine va_get (D := G.1) (ci := 2) (v := .ref (a 14)) (C := RX2) (T := TX2) (N := 15) hx hb hts inX2 hown hK.1 hP 0 rfl rfl 14 (by decide) (hts _ mf_X2_60) (fun _ h9 => h9) rfl dX2_moveToEnd_36 ?_
      refine lv_iload hx hb dX2_moveToEnd_39 (lv_at hl 0 rfl) ?_
      refine xiald hx hb hK hP 9 (i * 12 + j) (rfl) (by omega) (by omega) rfl dX2_moveToEnd_41 ?_
      refine lv_topi (fun v18 ev18 => ?_)
      refine lv_goto (tgt := 52) hx hb dX2_moveToEnd_42 (by decide) ?_
      refine wrVV (rest := []) (q0 := 0) ⟨hx, hb, hml, hown, hts⟩ (c_X2_draw l G a b (fun k => match k with | 0 => (f 0) | 1 => (f 1) | 2 => (f 2) | 3 => (f 3) | _ => en7) (fun k => match k with | 6 => (r 6) | 7 => (r 7) | 8 => (r 8) | 9 => (r 9) | 10 => (r 10) | 11 => (r 11) | 12 => (r 12) | 13 => (r 13) | 14 => (r 14) | _ => (fun _ => 0)) (fun k => match k with | 0 => ss8 | 1 => (q 1) | 2 => (q 2) | _ => (fun _ => 0)) (rc) (i) (j) v18 (by omega) (by omega) hRB) mi_yX2_draw mv_yX2_draw ml_X2_149 ⟨rfl, rfl, Nat.le_of_ble_eq_true rfl, Nat.le_of_ble_eq_true rfl⟩ hK hP hD [0, 1, 2, 3, 4, 5, 6, 7, 8, 9, 10, 11, 12, 13] rfl (by decide) rfl rfl rfl hl.1 rfl (Nat.le_of_ble_eq_true rfl) dX2_moveToEnd_52 ⟨Nat.zero_le _, Nat.zero_le _⟩ hS hA (fun w20 H locs hw20 hP hS => ?_)
      obtain ⟨rr21, ss22, bb23, qq24, cc25, hRB, rfl⟩ := hw20
      have h9_ := P_rg (s := 0) (hP rfl) rfl (Nat.le_of_ble_eq_true rfl)
      have hP : PP G [((a 15), .inr (2, [.int (f 0), .int (f 1), .int (f 2), .int (f 3), .int en7, .ref (b 3), .ref (a 6), .ref (a 7), .ref (a 8), .ref (a 9), .ref (a 10), .ref (a 11), .ref (a 12), .ref (a 13), .ref (a 14)])), ((a 6), .inl (G.2.2.1, 12, .inl (rr21 6))), ((a 7), .inl (G.2.1, 12, .inl (rr21 7))), ((a 8), .inl (G.2.1, 144, .inl (rr21 8))), ((a 9), .inl (G.2.1, 144, .inl (rr21 9))), ((a 10), .inl (G.2.1, 144, .inl (rr21 10))), ((a 11), .inl (G.2.2.1, 144, .inl (rr21 11))), ((a 12), .inl (G.2.1, 144, .inl (rr21 12))), ((a 13), .inl (G.2.1, 144, .inl (rr21 13))), ((a 14), .inl (G.2.1, 144, .inl (rr21 14))), ((b 3), .inr (5, [.ref (b 0), .ref (b 1), .ref (b 2), .int cc25])), ((b 0), .inl (G.2.1, 25, .inl ss22)), ((b 1), .inl (G.2.1, 25, .inl bb23)), ((b 2), .inl (G.2.1, 25, .inl qq24))] H := h9_
      have hD := D_as2 hP hD rfl
      refine lv_aload_n hx hb dX2_moveToEnd_55 rfl (lv_at hl 1 rfl) ?_
      refine lv_bipush (v := -2) hx hb dX2_moveToEnd_56 (by decide) ?_
      refine va_put (D := G.1) (ci := 2) (v := .int (-2)) (C := RX2) (T := TX2) (N := 15) hx hb hts inX2 tyX2 tyX2_ok nmX2 hown hK.1 hP hD hS 0 rfl rfl 4 (by decide) (hts _ mf_X2_24) (fun _ h9 => h9) rfl (tyX2_ok 4 (by decide)) (rfl) (rfl) (Nat.le_of_ble_eq_true rfl) dX2_moveToEnd_58 (fun H locs hP hD hS => ?_)
      have hP : PP G [((a 15), .inr (2, [.int (f 0), .int (f 1), .int (f 2), .int (f 3), .int (-2), .ref (b 3), .ref (a 6), .ref (a 7), .ref (a 8), .ref (a 9), .ref (a 10), .ref (a 11), .ref (a 12), .ref (a 13), .ref (a 14)])), ((a 6), .inl (G.2.2.1, 12, .inl (rr21 6))), ((a 7), .inl (G.2.1, 12, .inl (rr21 7))), ((a 8), .inl (G.2.1, 144, .inl (rr21 8))), ((a 9), .inl (G.2.1, 144, .inl (rr21 9))), ((a 10), .inl (G.2.1, 144, .inl (rr21 10))), ((a 11), .inl (G.2.2.1, 144, .inl (rr21 11))), ((a 12), .inl (G.2.1, 144, .inl (rr21 12))), ((a 13), .inl (G.2.1, 144, .inl (rr21 13))), ((a 14), .inl (G.2.1, 144, .inl (rr21 14))), ((b 3), .inr (5, [.ref (b 0), .ref (b 1), .ref (b 2), .int cc25])), ((b 0), .inl (G.2.1, 25, .inl ss22)), ((b 1), .inl (G.2.1, 25, .inl bb23)), ((b 2), .inl (G.2.1, 25, .inl qq24))] H := hP
      have hD := D_as hP hD rfl
      exact wr_vret hx hb hr hlocks hS hP ⟨(-2), (fun k => match k with | 6 => (rr21 6) | 7 => (rr21 7) | 8 => (rr21 8) | 9 => (rr21 9) | 10 => (rr21 10) | 11 => (rr21 11) | 12 => (rr21 12) | 13 => (rr21 13) | 14 => (rr21 14) | _ => (fun _ => 0)), ss22, bb23, qq24, cc25, hRB, rfl⟩ dX2_moveToEnd_61
set_option maxHeartbeats 4000000 in
set_option maxRecDepth 100000 in
theorem c_X2_isSafe (l : Launch) (G : GG) (a b : Nat → Nat) (f : Nat → Int32) (r : Nat → Nat → Int32) (q : Nat → Nat → Int32) (rc : Int32) (rw cl : Nat) (hrw : rw ≤ 12) (hcl : cl ≤ 12) (h0 : f 0 = nI rw) (h1 : f 1 = nI cl) (i j : Nat) (hi : i < 12) (hj : j < 12) (hRB : RB adjR (q 0)) : WrI l yX2_isSafe cX2_isSafe 8 (some .boolean) ({ frames := 4, cells := 0, slots := 0, locals := 107 }) G ([((a 15), .inr (2, [.int (f 0), .int (f 1), .int (f 2), .int (f 3), .int (f 4), .ref (b 3), .ref (a 6), .ref (a 7), .ref (a 8), .ref (a 9), .ref (a 10), .ref (a 11), .ref (a 12), .ref (a 13), .ref (a 14)])), ((a 6), .inl (G.2.2.1, 12, .inl (r 6))), ((a 7), .inl (G.2.1, 12, .inl (r 7))), ((a 8), .inl (G.2.1, 144, .inl (r 8))), ((a 9), .inl (G.2.1, 144, .inl (r 9))), ((a 10), .inl (G.2.1, 144, .inl (r 10))), ((a 11), .inl (G.2.2.1, 144, .inl (r 11))), ((a 12), .inl (G.2.1, 144, .inl (r 12))), ((a 13), .inl (G.2.1, 144, .inl (r 13))), ((a 14), .inl (G.2.1, 144, .inl (r 14))), ((b 3), .inr (5, [.ref (b 0), .ref (b 1), .ref (b 2), .int rc])), ((b 0), .inl (G.2.1, 25, .inl (q 0))), ((b 1), .inl (G.2.1, 25, .inl (q 1))), ((b 2), .inl (G.2.1, 25, .inl (q 2)))]) [.ref (a 15), .int (nI i), .int (nI j)] (fun _ w => ∃ (e4 : Int32) (r2 : Nat → Nat → Int32) (s2 bf qu : Nat → Int32) (rc2 : Int32), RB adjR s2 ∧ w = [((a 15), .inr (2, [.int (f 0), .int (f 1), .int (f 2), .int (f 3), .int e4, .ref (b 3), .ref (a 6), .ref (a 7), .ref (a 8), .ref (a 9), .ref (a 10), .ref (a 11), .ref (a 12), .ref (a 13), .ref (a 14)])), ((a 6), .inl (G.2.2.1, 12, .inl (r2 6))), ((a 7), .inl (G.2.1, 12, .inl (r2 7))), ((a 8), .inl (G.2.1, 144, .inl (r2 8))), ((a 9), .inl (G.2.1, 144, .inl (r2 9))), ((a 10), .inl (G.2.1, 144, .inl (r2 10))), ((a 11), .inl (G.2.2.1, 144, .inl (r2 11))), ((a 12), .inl (G.2.1, 144, .inl (r2 12))), ((a 13), .inl (G.2.1, 144, .inl (r2 13))), ((a 14), .inl (G.2.1, 144, .inl (r2 14))), ((b 3), .inr (5, [.ref (b 0), .ref (b 1), .ref (b 2), .int rc2])), ((b 0), .inl (G.2.1, 25, .inl s2)), ((b 1), .inl (G.2.1, 25, .inl bf)), ((b 2), .inl (G.2.1, 25, .inl qu))]) := by
  refine wr_entryI (by decide +kernel) (Nat.le_of_ble_eq_true rfl) ?_
  intro p e s m below meth c A C0 hP hK hD hA ls hl
  have hS : va_S A s.heap s.heap [] := va_S.rf
  obtain ⟨hx, hb, hml, hown, hts, hr, hlocks, hin⟩ := C0
  have hown : s.vm.findClass RX2 = some m.cls := hown
  have hl : lv_has ls 8 [(0, .ref (a 15)), (1, .int (nI i)), (2, .int (nI j))] := hl
  refine lv_iload_n hx hb dX2_isSafe_0 rfl (lv_at hl 1 rfl) ?_
  refine lv_iload_n hx hb dX2_isSafe_1 rfl (lv_at hl 2 rfl) ?_
  refine rdSN (rest := []) ⟨hx, hb, hml, hown, hts⟩ (c_X6_spotOf l G ((nI i)) ((nI j))) mi_yX6_spotOf mst_yX6_spotOf (by decide +kernel) ⟨rfl, rfl, Nat.le_of_ble_eq_true rfl, Nat.le_of_ble_eq_true rfl⟩ hK (fun k q h => by simp at h) rfl hl.1 rfl (Nat.le_of_ble_eq_true rfl) dX2_isSafe_2 ⟨Nat.zero_le _, Nat.zero_le _⟩ hS hA hP (fun r1 H locs hr1 hP hS => ?_)
  obtain rfl : r1 = nI (i * 12 + j) := spot_eq hr1
  refine lv_istore_n (lv' := [(3, .int (nI (i * 12 + j))), (0, .ref (a 15)), (1, .int (nI i)), (2, .int (nI j))]) hx hb dX2_isSafe_5 rfl hl (by decide) rfl (fun ls hl => ?_)
  refine lv_iconst (v := 0) hx hb dX2_isSafe_6 (by decide) ?_
  refine lv_aload_n hx hb dX2_isSafe_7 rfl (lv_at hl 1 rfl) ?_
  refine va_get (D := G.1) (ci := 2) (v := .ref (a 9)) (C := RX2) (T := TX2) (N := 15) hx hb hts inX2 hown hK.1 hP 0 rfl rfl 9 (by decide) (hts _ mf_X2_45) (fun _ h9 => h9) rfl dX2_isSafe_8 ?_
  refine lv_iload_n hx hb dX2_isSafe_11 rfl (lv_at hl 0 rfl) ?_
  refine xiald hx hb hK hP 4 (i * 12 + j) (rfl) (by omega) (by omega) rfl dX2_isSafe_12 ?_
  refine lv_topi (fun v2 ev2 => ?_)
  refine lv_aload_n hx hb dX2_isSafe_13 rfl (lv_at hl 1 rfl) ?_
  refine va_get (D := G.1) (ci := 2) (v := .int (f 2)) (C := RX2) (T := TX2) (N := 15) hx hb hts inX2 hown hK.1 hP 0 rfl rfl 2 (by decide) (hts _ mf_X2_18) (fun _ h9 => h9) rfl dX2_isSafe_14 ?_
  refine lv_isub hx hb dX2_isSafe_17 ?_
  refine lv_topi (fun v3 ev3 => ?_)
  refine va_mmax hx hb (hml.trans hl.1.symm) hown (hts _ ml_X2_152) (hts _ mst_yJ9_max_7cf53) (hts _ mz_RJ9) (hts _ mcode_yJ9_max_7cf53) (Nat.le_of_ble_eq_true rfl) (Nat.le_of_ble_eq_true rfl) (Nat.zero_le _) (Nat.zero_le _) dX2_isSafe_18 ?_
  refine lv_topi (fun v4 ev4 => ?_)
  refine lv_istore (lv' := [(4, .int v4), (3, .int (nI (i * 12 + j))), (0, .ref (a 15)), (1, .int (nI i)), (2, .int (nI j))]) hx hb dX2_isSafe_21 hl (by decide) rfl (fun ls hl => ?_)
  refine lv_aload_n hx hb dX2_isSafe_23 rfl (lv_at hl 2 rfl) ?_
  refine va_get (D := G.1) (ci := 2) (v := .ref (a 9)) (C := RX2) (T := TX2) (N := 15) hx hb hts inX2 hown hK.1 hP 0 rfl rfl 9 (by decide) (hts _ mf_X2_45) (fun _ h9 => h9) rfl dX2_isSafe_24 ?_
  refine lv_iload_n hx hb dX2_isSafe_27 rfl (lv_at hl 1 rfl) ?_
  refine xiald hx hb hK hP 4 (i * 12 + j) (rfl) (by omega) (by omega) rfl dX2_isSafe_28 ?_
  refine lv_topi (fun v5 ev5 => ?_)
  refine lv_aload_n hx hb dX2_isSafe_29 rfl (lv_at hl 2 rfl) ?_
  refine va_get (D := G.1) (ci := 2) (v := .int (f 3)) (C := RX2) (T := TX2) (N := 15) hx hb hts inX2 hown hK.1 hP 0 rfl rfl 3 (by decide) (hts _ mf_X2_21) (fun _ h9 => h9) rfl dX2_isSafe_30 ?_
  refine lv_iadd hx hb dX2_isSafe_33 ?_
  refine lv_topi (fun v6 ev6 => ?_)
  refine lv_istore (lv' := [(5, .int v6), (4, .int v4), (3, .int (nI (i * 12 + j))), (0, .ref (a 15)), (1, .int (nI i)), (2, .int (nI j))]) hx hb dX2_isSafe_34 hl (by decide) rfl (fun ls hl => ?_)
  have j229 : ∀ (z7 : Int32) (e4 : Int32) (r2 : Nat → Nat → Int32) (s2 bf qu : Nat → Int32) (rc2 : Int32), (z7 = 0 ∨ z7 = 1) → RB adjR s2 → ∀ (H : Heap) (locs : List Loc) (ls : Array Slot), PP G ([((a 15), .inr (2, [.int (f 0), .int (f 1), .int (f 2), .int (f 3), .int e4, .ref (b 3), .ref (a 6), .ref (a 7), .ref (a 8), .ref (a 9), .ref (a 10), .ref (a 11), .ref (a 12), .ref (a 13), .ref (a 14)])), ((a 6), .inl (G.2.2.1, 12, .inl (r2 6))), ((a 7), .inl (G.2.1, 12, .inl (r2 7))), ((a 8), .inl (G.2.1, 144, .inl (r2 8))), ((a 9), .inl (G.2.1, 144, .inl (r2 9))), ((a 10), .inl (G.2.1, 144, .inl (r2 10))), ((a 11), .inl (G.2.2.1, 144, .inl (r2 11))), ((a 12), .inl (G.2.1, 144, .inl (r2 12))), ((a 13), .inl (G.2.1, 144, .inl (r2 13))), ((a 14), .inl (G.2.1, 144, .inl (r2 14))), ((b 3), .inr (5, [.ref (b 0), .ref (b 1), .ref (b 2), .int rc2])), ((b 0), .inl (G.2.1, 25, .inl s2)), ((b 1), .inl (G.2.1, 25, .inl bf)), ((b 2), .inl (G.2.1, 25, .inl qu))]) H → va_S A s.heap H locs → lv_has ls 8 [(0, .ref (a 15)), (1, .int (nI i)), (2, .int (nI j)), (3, .int (nI (i * 12 + j))), (4, .int v4), (5, .int v6), (7, .int z7)] → W p l e ({ frames := 4, cells := 0, slots := 0, locals := 107 }) s m ([.ref (a 15), .int (nI i), .int (nI j)] : List Value).toArray below meth c H locs 0 0 (MQ below (QwI G (fun _ w => ∃ (e4 : Int32) (r2 : Nat → Nat → Int32) (s2 bf qu : Nat → Int32) (rc2 : Int32), RB adjR s2 ∧ w = [((a 15), .inr (2, [.int (f 0), .int (f 1), .int (f 2), .int (f 3), .int e4, .ref (b 3), .ref (a 6), .ref (a 7), .ref (a 8), .ref (a 9), .ref (a 10), .ref (a 11), .ref (a 12), .ref (a 13), .ref (a 14)])), ((a 6), .inl (G.2.2.1, 12, .inl (r2 6))), ((a 7), .inl (G.2.1, 12, .inl (r2 7))), ((a 8), .inl (G.2.1, 144, .inl (r2 8))), ((a 9), .inl (G.2.1, 144, .inl (r2 9))), ((a 10), .inl (G.2.1, 144, .inl (r2 10))), ((a 11), .inl (G.2.2.1, 144, .inl (r2 11))), ((a 12), .inl (G.2.1, 144, .inl (r2 12))), ((a 13), .inl (G.2.1, 144, .inl (r2 13))), ((a 14), .inl (G.2.1, 144, .inl (r2 14))), ((b 3), .inr (5, [.ref (b 0), .ref (b 1), .ref (b 2), .int rc2])), ((b 0), .inl (G.2.1, 25, .inl s2)), ((b 1), .inl (G.2.1, 25, .inl bf)), ((b 2), .inl (G.2.1, 25, .inl qu))]) A) ([.ref (a 15), .int (nI i), .int (nI j)] : List Value).toArray s 0 0 A) (F0 m 229 ls []) := by
    intro z7 e4 r2 s2 bf qu rc2 hz7 hRB H locs ls hP hS hl
    have hD := D_as2 hP hD rfl
    refine lv_aload_n hx hb dX2_isSafe_229 rfl (lv_at hl 0 rfl) ?_
    refine lv_iload_n hx hb dX2_isSafe_230 rfl (lv_at hl 1 rfl) ?_
    refine lv_iload_n hx hb dX2_isSafe_231 rfl (lv_at hl 2 rfl) ?_
    refine wrVV (rest := []) (q0 := 0) ⟨hx, hb, hml, hown, hts⟩ (c_X2_refresh l G a b (fun k => match k with | 0 => (f 0) | 1 => (f 1) | 2 => (f 2) | 3 => (f 3) | _ => e4) (fun k => match k with | 6 => (r2 6) | 7 => (r2 7) | 8 => (r2 8) | 9 => (r2 9) | 10 => (r2 10) | 11 => (r2 11) | 12 => (r2 12) | 13 => (r2 13) | 14 => (r2 14) | _ => (fun _ => 0)) (fun k => match k with | 0 => s2 | 1 => bf | 2 => qu | _ => (fun _ => 0)) (rc2) (i) (j) (by omega) (by omega)) mi_yX2_refresh mv_yX2_refresh ml_X2_117 ⟨rfl, rfl, Nat.le_of_ble_eq_true rfl, Nat.le_of_ble_eq_true rfl⟩ hK hP hD [0, 1, 2, 3, 4, 5, 6, 7, 8, 9, 10, 11, 12, 13] rfl (by decide) rfl rfl rfl hl.1 rfl (Nat.le_of_ble_eq_true rfl) dX2_isSafe_232 ⟨Nat.zero_le _, Nat.zero_le _⟩ hS hA (fun w8 H locs hw8 hP hS => ?_)
    obtain ⟨z9, z10, rfl⟩ := hw8
    have hRB := RB_join z9 z10 hRB (adjR1 (i := i) (j := j) (by omega) (by omega)) (adjR2 (by omega) (by omega)) (by omega) (by omega)
    have h9_ := P_rg (s := 0) (hP rfl) rfl (Nat.le_of_ble_eq_true rfl)
    have hP : PP G [((a 15), .inr (2, [.int (f 0), .int (f 1), .int (f 2), .int (f 3), .int e4, .ref (b 3), .ref (a 6), .ref (a 7), .ref (a 8), .ref (a 9), .ref (a 10), .ref (a 11), .ref (a 12), .ref (a 13), .ref (a 14)])), ((a 6), .inl (G.2.2.1, 12, .inl (r2 6))), ((a 7), .inl (G.2.1, 12, .inl (r2 7))), ((a 8), .inl (G.2.1, 144, .inl (r2 8))), ((a 9), .inl (G.2.1, 144, .inl (r2 9))), ((a 10), .inl (G.2.1, 144, .inl (r2 10))), ((a 11), .inl (G.2.2.1, 144, .inl (r2 11))), ((a 12), .inl (G.2.1, 144, .inl (r2 12))), ((a 13), .inl (G.2.1, 144, .inl (r2 13))), ((a 14), .inl (G.2.1, 144, .inl (r2 14))), ((b 3), .inr (5, [.ref (b 0), .ref (b 1), .ref (b 2), .int rc2])), ((b 0), .inl (G.2.1, 25, .inl (jnF s2 (i) (12 + (j)) z9 z10))), ((b 1), .inl (G.2.1, 25, .inl bf)), ((b 2), .inl (G.2.1, 25, .inl qu))] H := h9_
    have hD := D_as2 hP hD rfl
    refine lv_iload hx hb dX2_isSafe_235 (lv_at hl 6 rfl) ?_
    exact wr_zret hx hb hr hlocks (hz7) hS hP ⟨e4, (fun k => match k with | 6 => (r2 6) | 7 => (r2 7) | 8 => (r2 8) | 9 => (r2 9) | 10 => (r2 10) | 11 => (r2 11) | 12 => (r2 12) | 13 => (r2 13) | 14 => (r2 14) | _ => (fun _ => 0)), (jnF s2 (i) (12 + (j)) z9 z10), bf, qu, rc2, hRB, rfl⟩ dX2_isSafe_237
  have j170 : ∀ (z6 : Int32) (e4 : Int32) (r2 : Nat → Nat → Int32) (s2 bf qu : Nat → Int32) (rc2 : Int32), RB adjR s2 → ∀ (H : Heap) (locs : List Loc) (ls : Array Slot), PP G ([((a 15), .inr (2, [.int (f 0), .int (f 1), .int (f 2), .int (f 3), .int e4, .ref (b 3), .ref (a 6), .ref (a 7), .ref (a 8), .ref (a 9), .ref (a 10), .ref (a 11), .ref (a 12), .ref (a 13), .ref (a 14)])), ((a 6), .inl (G.2.2.1, 12, .inl (r2 6))), ((a 7), .inl (G.2.1, 12, .inl (r2 7))), ((a 8), .inl (G.2.1, 144, .inl (r2 8))), ((a 9), .inl (G.2.1, 144, .inl (r2 9))), ((a 10), .inl (G.2.1, 144, .inl (r2 10))), ((a 11), .inl (G.2.2.1, 144, .inl (r2 11))), ((a 12), .inl (G.2.1, 144, .inl (r2 12))), ((a 13), .inl (G.2.1, 144, .inl (r2 13))), ((a 14), .inl (G.2.1, 144, .inl (r2 14))), ((b 3), .inr (5, [.ref (b 0), .ref (b 1), .ref (b 2), .int rc2])), ((b 0), .inl (G.2.1, 25, .inl s2)), ((b 1), .inl (G.2.1, 25, .inl bf)), ((b 2), .inl (G.2.1, 25, .inl qu))]) H → va_S A s.heap H locs → lv_has ls 8 [(0, .ref (a 15)), (1, .int (nI i)), (2, .int (nI j)), (3, .int (nI (i * 12 + j))), (4, .int v4), (5, .int v6), (6, .int z6)] → W p l e ({ frames := 4, cells := 0, slots := 0, locals := 107 }) s m ([.ref (a 15), .int (nI i), .int (nI j)] : List Value).toArray below meth c H locs 0 0 (MQ below (QwI G (fun _ w => ∃ (e4 : Int32) (r2 : Nat → Nat → Int32) (s2 bf qu : Nat → Int32) (rc2 : Int32), RB adjR s2 ∧ w = [((a 15), .inr (2, [.int (f 0), .int (f 1), .int (f 2), .int (f 3), .int e4, .ref (b 3), .ref (a 6), .ref (a 7), .ref (a 8), .ref (a 9), .ref (a 10), .ref (a 11), .ref (a 12), .ref (a 13), .ref (a 14)])), ((a 6), .inl (G.2.2.1, 12, .inl (r2 6))), ((a 7), .inl (G.2.1, 12, .inl (r2 7))), ((a 8), .inl (G.2.1, 144, .inl (r2 8))), ((a 9), .inl (G.2.1, 144, .inl (r2 9))), ((a 10), .inl (G.2.1, 144, .inl (r2 10))), ((a 11), .inl (G.2.2.1, 144, .inl (r2 11))), ((a 12), .inl (G.2.1, 144, .inl (r2 12))), ((a 13), .inl (G.2.1, 144, .inl (r2 13))), ((a 14), .inl (G.2.1, 144, .inl (r2 14))), ((b 3), .inr (5, [.ref (b 0), .ref (b 1), .ref (b 2), .int rc2])), ((b 0), .inl (G.2.1, 25, .inl s2)), ((b 1), .inl (G.2.1, 25, .inl bf)), ((b 2), .inl (G.2.1, 25, .inl qu))]) A) ([.ref (a 15), .int (nI i), .int (nI j)] : List Value).toArray s 0 0 A) (F0 m 170 ls []) := by
    intro z6 e4 r2 s2 bf qu rc2 hRB H locs ls hP hS hl
    have hD := D_as2 hP hD rfl
    refine lv_iload hx hb dX2_isSafe_170 (lv_at hl 6 rfl) ?_
    refine lv_if_eq (tgt := 190) hx hb dX2_isSafe_172 (by decide) (fun c11 => ?_) (fun c11 => ?_)
    · refine lv_iconst (v := 0) hx hb dX2_isSafe_190 (by decide) ?_
      refine lv_istore (lv' := [(7, .int 0), (0, .ref (a 15)), (1, .int (nI i)), (2, .int (nI j)), (3, .int (nI (i * 12 + j))), (4, .int v4), (5, .int v6), (6, .int z6)]) hx hb dX2_isSafe_191 hl (by decide) rfl (fun ls hl => ?_)
      refine lv_iload hx hb dX2_isSafe_193 (lv_at hl 7 rfl) ?_
      refine lv_if_eq (tgt := 229) hx hb dX2_isSafe_195 (by decide) (fun _ => ?_) (fun c12 => absurd (c11) c12)
      exact j229 0 (e4) (fun k => match k with | 6 => (r2 6) | 7 => (r2 7) | 8 => (r2 8) | 9 => (r2 9) | 10 => (r2 10) | 11 => (r2 11) | 12 => (r2 12) | 13 => (r2 13) | 14 => (r2 14) | _ => (fun _ => 0)) s2 bf qu (rc2) (Or.inl rfl) hRB _ _ _ hP hS (lv_sub hl [1, 2, 3, 4, 5, 6, 0] rfl)
    · refine lv_aload_n hx hb dX2_isSafe_175 rfl (lv_at hl 0 rfl) ?_
      refine va_get (D := G.1) (ci := 2) (v := .ref (a 12)) (C := RX2) (T := TX2) (N := 15) hx hb hts inX2 hown hK.1 hP 0 rfl rfl 12 (by decide) (hts _ mf_X2_54) (fun _ h9 => h9) rfl dX2_isSafe_176 ?_
      refine lv_iload_n hx hb dX2_isSafe_179 rfl (lv_at hl 3 rfl) ?_
      refine xiald hx hb hK hP 7 (i * 12 + j) (rfl) (by omega) (by omega) rfl dX2_isSafe_180 ?_
      refine lv_topi (fun v13 ev13 => ?_)
      refine lv_iload hx hb dX2_isSafe_181 (lv_at hl 5 rfl) ?_
      refine lv_icmp_lt (tgt := 190) hx hb dX2_isSafe_183 (by decide) (fun c14 => ?_) (fun c14 => ?_)
      · refine lv_iconst (v := 0) hx hb dX2_isSafe_190 (by decide) ?_
        refine lv_istore (lv' := [(7, .int 0), (0, .ref (a 15)), (1, .int (nI i)), (2, .int (nI j)), (3, .int (nI (i * 12 + j))), (4, .int v4), (5, .int v6), (6, .int z6)]) hx hb dX2_isSafe_191 hl (by decide) rfl (fun ls hl => ?_)
        refine lv_iload hx hb dX2_isSafe_193 (lv_at hl 7 rfl) ?_
        refine lv_if_eq (tgt := 229) hx hb dX2_isSafe_195 (by decide) (fun c15 => absurd c15 (c11)) (fun _ => ?_)
        refine lv_iload hx hb dX2_isSafe_198 (lv_at hl 0 rfl) ?_
        refine lv_if_ne (tgt := 229) hx hb dX2_isSafe_200 (by decide) (fun c16 => absurd (by decide) c16) (fun _ => ?_)
        refine lv_aload_n hx hb dX2_isSafe_203 rfl (lv_at hl 1 rfl) ?_
        refine lv_iload_n hx hb dX2_isSafe_204 rfl (lv_at hl 2 rfl) ?_
        refine lv_iload_n hx hb dX2_isSafe_205 rfl (lv_at hl 3 rfl) ?_
        refine lv_iload hx hb dX2_isSafe_206 (lv_at hl 6 rfl) ?_
        refine wrVV (rest := []) (q0 := 0) ⟨hx, hb, hml, hown, hts⟩ (c_X2_draw l G a b (fun k => match k with | 0 => (f 0) | 1 => (f 1) | 2 => (f 2) | 3 => (f 3) | _ => e4) (fun k => match k with | 6 => (r2 6) | 7 => (r2 7) | 8 => (r2 8) | 9 => (r2 9) | 10 => (r2 10) | 11 => (r2 11) | 12 => (r2 12) | 13 => (r2 13) | 14 => (r2 14) | _ => (fun _ => 0)) (fun k => match k with | 0 => s2 | 1 => bf | 2 => qu | _ => (fun _ => 0)) (rc2) (i) (j) v6 (by omega) (by omega) hRB) mi_yX2_draw mv_yX2_draw ml_X2_149 ⟨rfl, rfl, Nat.le_of_ble_eq_true rfl, Nat.le_of_ble_eq_true rfl⟩ hK hP hD [0, 1, 2, 3, 4, 5, 6, 7, 8, 9, 10, 11, 12, 13] rfl (by decide) rfl rfl rfl hl.1 rfl (Nat.le_of_ble_eq_true rfl) dX2_isSafe_208 ⟨Nat.zero_le _, Nat.zero_le _⟩ hS hA (fun w18 H locs hw18 hP hS => ?_)
        obtain ⟨rr19, ss20, bb21, qq22, cc23, hRB, rfl⟩ := hw18
        have h9_ := P_rg (s := 0) (hP rfl) rfl (Nat.le_of_ble_eq_true rfl)
        have hP : PP G [((a 15), .inr (2, [.int (f 0), .int (f 1), .int (f 2), .int (f 3), .int e4, .ref (b 3), .ref (a 6), .ref (a 7), .ref (a 8), .ref (a 9), .ref (a 10), .ref (a 11), .ref (a 12), .ref (a 13), .ref (a 14)])), ((a 6), .inl (G.2.2.1, 12, .inl (rr19 6))), ((a 7), .inl (G.2.1, 12, .inl (rr19 7))), ((a 8), .inl (G.2.1, 144, .inl (rr19 8))), ((a 9), .inl (G.2.1, 144, .inl (rr19 9))), ((a 10), .inl (G.2.1, 144, .inl (rr19 10))), ((a 11), .inl (G.2.2.1, 144, .inl (rr19 11))), ((a 12), .inl (G.2.1, 144, .inl (rr19 12))), ((a 13), .inl (G.2.1, 144, .inl (rr19 13))), ((a 14), .inl (G.2.1, 144, .inl (rr19 14))), ((b 3), .inr (5, [.ref (b 0), .ref (b 1), .ref (b 2), .int cc23])), ((b 0), .inl (G.2.1, 25, .inl ss20)), ((b 1), .inl (G.2.1, 25, .inl bb21)), ((b 2), .inl (G.2.1, 25, .inl qq22))] H := h9_
        have hD := D_as2 hP hD rfl
        refine lv_aload_n hx hb dX2_isSafe_211 rfl (lv_at hl 1 rfl) ?_
        refine va_get (D := G.1) (ci := 2) (v := .ref (a 12)) (C := RX2) (T := TX2) (N := 15) hx hb hts inX2 hown hK.1 hP 0 rfl rfl 12 (by decide) (hts _ mf_X2_54) (fun _ h9 => h9) rfl dX2_isSafe_212 ?_
        refine lv_iload_n hx hb dX2_isSafe_215 rfl (lv_at hl 4 rfl) ?_
        refine xiald hx hb hK hP 7 (i * 12 + j) (rfl) (by omega) (by omega) rfl dX2_isSafe_216 ?_
        refine lv_topi (fun v24 ev24 => ?_)
        refine lv_iload hx hb dX2_isSafe_217 (lv_at hl 6 rfl) ?_
        refine lv_icmp_lt (tgt := 226) hx hb dX2_isSafe_219 (by decide) (fun c25 => ?_) (fun c25 => ?_)
        · refine lv_iconst (v := 0) hx hb dX2_isSafe_226 (by decide) ?_
          refine lv_istore (lv' := [(7, .int 0), (0, .ref (a 15)), (1, .int (nI i)), (2, .int (nI j)), (3, .int (nI (i * 12 + j))), (4, .int v4), (5, .int v6), (6, .int z6)]) hx hb dX2_isSafe_227 hl (by decide) rfl (fun ls hl => ?_)
          exact j229 0 (e4) (fun k => match k with | 6 => (rr19 6) | 7 => (rr19 7) | 8 => (rr19 8) | 9 => (rr19 9) | 10 => (rr19 10) | 11 => (rr19 11) | 12 => (rr19 12) | 13 => (rr19 13) | 14 => (rr19 14) | _ => (fun _ => 0)) ss20 bb21 qq22 (cc23) (Or.inl rfl) hRB _ _ _ hP hS (lv_sub hl [1, 2, 3, 4, 5, 6, 0] rfl)
        · refine lv_iconst (v := 1) hx hb dX2_isSafe_222 (by decide) ?_
          refine lv_goto (tgt := 227) hx hb dX2_isSafe_223 (by decide) ?_
          refine lv_istore (lv' := [(7, .int 1), (0, .ref (a 15)), (1, .int (nI i)), (2, .int (nI j)), (3, .int (nI (i * 12 + j))), (4, .int v4), (5, .int v6), (6, .int z6)]) hx hb dX2_isSafe_227 hl (by decide) rfl (fun ls hl => ?_)
          exact j229 1 (e4) (fun k => match k with | 6 => (rr19 6) | 7 => (rr19 7) | 8 => (rr19 8) | 9 => (rr19 9) | 10 => (rr19 10) | 11 => (rr19 11) | 12 => (rr19 12) | 13 => (rr19 13) | 14 => (rr19 14) | _ => (fun _ => 0)) ss20 bb21 qq22 (cc23) (Or.inr rfl) hRB _ _ _ hP hS (lv_sub hl [1, 2, 3, 4, 5, 6, 0] rfl)
      · refine lv_iconst (v := 1) hx hb dX2_isSafe_186 (by decide) ?_
        refine lv_goto (tgt := 191) hx hb dX2_isSafe_187 (by decide) ?_
        refine lv_istore (lv' := [(7, .int 1), (0, .ref (a 15)), (1, .int (nI i)), (2, .int (nI j)), (3, .int (nI (i * 12 + j))), (4, .int v4), (5, .int v6), (6, .int z6)]) hx hb dX2_isSafe_191 hl (by decide) rfl (fun ls hl => ?_)
        refine lv_iload hx hb dX2_isSafe_193 (lv_at hl 7 rfl) ?_
        refine lv_if_eq (tgt := 229) hx hb dX2_isSafe_195 (by decide) (fun c26 => absurd c26 (c11)) (fun _ => ?_)
        refine lv_iload hx hb dX2_isSafe_198 (lv_at hl 0 rfl) ?_
        refine lv_if_ne (tgt := 229) hx hb dX2_isSafe_200 (by decide) (fun _ => ?_) (fun c27 => absurd c27 (by decide))
        exact j229 1 (e4) (fun k => match k with | 6 => (r2 6) | 7 => (r2 7) | 8 => (r2 8) | 9 => (r2 9) | 10 => (r2 10) | 11 => (r2 11) | 12 => (r2 12) | 13 => (r2 13) | 14 => (r2 14) | _ => (fun _ => 0)) s2 bf qu (rc2) (Or.inr rfl) hRB _ _ _ hP hS (lv_sub hl [1, 2, 3, 4, 5, 6, 0] rfl)
  have j121 : ∀ (e4 : Int32) (r2 : Nat → Nat → Int32) (s2 bf qu : Nat → Int32) (rc2 : Int32), RB adjR s2 → ∀ (H : Heap) (locs : List Loc) (ls : Array Slot), PP G ([((a 15), .inr (2, [.int (f 0), .int (f 1), .int (f 2), .int (f 3), .int e4, .ref (b 3), .ref (a 6), .ref (a 7), .ref (a 8), .ref (a 9), .ref (a 10), .ref (a 11), .ref (a 12), .ref (a 13), .ref (a 14)])), ((a 6), .inl (G.2.2.1, 12, .inl (r2 6))), ((a 7), .inl (G.2.1, 12, .inl (r2 7))), ((a 8), .inl (G.2.1, 144, .inl (r2 8))), ((a 9), .inl (G.2.1, 144, .inl (r2 9))), ((a 10), .inl (G.2.1, 144, .inl (r2 10))), ((a 11), .inl (G.2.2.1, 144, .inl (r2 11))), ((a 12), .inl (G.2.1, 144, .inl (r2 12))), ((a 13), .inl (G.2.1, 144, .inl (r2 13))), ((a 14), .inl (G.2.1, 144, .inl (r2 14))), ((b 3), .inr (5, [.ref (b 0), .ref (b 1), .ref (b 2), .int rc2])), ((b 0), .inl (G.2.1, 25, .inl s2)), ((b 1), .inl (G.2.1, 25, .inl bf)), ((b 2), .inl (G.2.1, 25, .inl qu))]) H → va_S A s.heap H locs → lv_has ls 8 [(0, .ref (a 15)), (1, .int (nI i)), (2, .int (nI j)), (3, .int (nI (i * 12 + j))), (4, .int v4), (5, .int v6)] → W p l e ({ frames := 4, cells := 0, slots := 0, locals := 107 }) s m ([.ref (a 15), .int (nI i), .int (nI j)] : List Value).toArray below meth c H locs 0 0 (MQ below (QwI G (fun _ w => ∃ (e4 : Int32) (r2 : Nat → Nat → Int32) (s2 bf qu : Nat → Int32) (rc2 : Int32), RB adjR s2 ∧ w = [((a 15), .inr (2, [.int (f 0), .int (f 1), .int (f 2), .int (f 3), .int e4, .ref (b 3), .ref (a 6), .ref (a 7), .ref (a 8), .ref (a 9), .ref (a 10), .ref (a 11), .ref (a 12), .ref (a 13), .ref (a 14)])), ((a 6), .inl (G.2.2.1, 12, .inl (r2 6))), ((a 7), .inl (G.2.1, 12, .inl (r2 7))), ((a 8), .inl (G.2.1, 144, .inl (r2 8))), ((a 9), .inl (G.2.1, 144, .inl (r2 9))), ((a 10), .inl (G.2.1, 144, .inl (r2 10))), ((a 11), .inl (G.2.2.1, 144, .inl (r2 11))), ((a 12), .inl (G.2.1, 144, .inl (r2 12))), ((a 13), .inl (G.2.1, 144, .inl (r2 13))), ((a 14), .inl (G.2.1, 144, .inl (r2 14))), ((b 3), .inr (5, [.ref (b 0), .ref (b 1), .ref (b 2), .int rc2])), ((b 0), .inl (G.2.1, 25, .inl s2)), ((b 1), .inl (G.2.1, 25, .inl bf)), ((b 2), .inl (G.2.1, 25, .inl qu))]) A) ([.ref (a 15), .int (nI i), .int (nI j)] : List Value).toArray s 0 0 A) (F0 m 121 ls []) := by
    intro e4 r2 s2 bf qu rc2 hRB H locs ls hP hS hl
    have hD := D_as2 hP hD rfl
    refine lv_aload_n hx hb dX2_isSafe_121 rfl (lv_at hl 0 rfl) ?_
    refine va_get (D := G.1) (ci := 2) (v := .ref (a 12)) (C := RX2) (T := TX2) (N := 15) hx hb hts inX2 hown hK.1 hP 0 rfl rfl 12 (by decide) (hts _ mf_X2_54) (fun _ h9 => h9) rfl dX2_isSafe_122 ?_
    refine lv_iload_n hx hb dX2_isSafe_125 rfl (lv_at hl 3 rfl) ?_
    refine xiald hx hb hK hP 7 (i * 12 + j) (rfl) (by omega) (by omega) rfl dX2_isSafe_126 ?_
    refine lv_topi (fun v28 ev28 => ?_)
    refine lv_iload hx hb dX2_isSafe_127 (lv_at hl 4 rfl) ?_
    refine lv_icmp_gt (tgt := 136) hx hb dX2_isSafe_129 (by decide) (fun c29 => ?_) (fun c29 => ?_)
    · refine lv_iconst (v := 0) hx hb dX2_isSafe_136 (by decide) ?_
      refine lv_istore (lv' := [(6, .int 0), (0, .ref (a 15)), (1, .int (nI i)), (2, .int (nI j)), (3, .int (nI (i * 12 + j))), (4, .int v4), (5, .int v6)]) hx hb dX2_isSafe_137 hl (by decide) rfl (fun ls hl => ?_)
      refine lv_iload hx hb dX2_isSafe_139 (lv_at hl 0 rfl) ?_
      refine lv_if_ne (tgt := 170) hx hb dX2_isSafe_141 (by decide) (fun c30 => absurd (by decide) c30) (fun _ => ?_)
      refine lv_aload_n hx hb dX2_isSafe_144 rfl (lv_at hl 1 rfl) ?_
      refine lv_iload_n hx hb dX2_isSafe_145 rfl (lv_at hl 2 rfl) ?_
      refine lv_iload_n hx hb dX2_isSafe_146 rfl (lv_at hl 3 rfl) ?_
      refine lv_iload hx hb dX2_isSafe_147 (lv_at hl 5 rfl) ?_
      refine wrVV (rest := []) (q0 := 0) ⟨hx, hb, hml, hown, hts⟩ (c_X2_draw l G a b (fun k => match k with | 0 => (f 0) | 1 => (f 1) | 2 => (f 2) | 3 => (f 3) | _ => e4) (fun k => match k with | 6 => (r2 6) | 7 => (r2 7) | 8 => (r2 8) | 9 => (r2 9) | 10 => (r2 10) | 11 => (r2 11) | 12 => (r2 12) | 13 => (r2 13) | 14 => (r2 14) | _ => (fun _ => 0)) (fun k => match k with | 0 => s2 | 1 => bf | 2 => qu | _ => (fun _ => 0)) (rc2) (i) (j) v4 (by omega) (by omega) hRB) mi_yX2_draw mv_yX2_draw ml_X2_149 ⟨rfl, rfl, Nat.le_of_ble_eq_true rfl, Nat.le_of_ble_eq_true rfl⟩ hK hP hD [0, 1, 2, 3, 4, 5, 6, 7, 8, 9, 10, 11, 12, 13] rfl (by decide) rfl rfl rfl hl.1 rfl (Nat.le_of_ble_eq_true rfl) dX2_isSafe_149 ⟨Nat.zero_le _, Nat.zero_le _⟩ hS hA (fun w32 H locs hw32 hP hS => ?_)
      obtain ⟨rr33, ss34, bb35, qq36, cc37, hRB, rfl⟩ := hw32
      have h9_ := P_rg (s := 0) (hP rfl) rfl (Nat.le_of_ble_eq_true rfl)
      have hP : PP G [((a 15), .inr (2, [.int (f 0), .int (f 1), .int (f 2), .int (f 3), .int e4, .ref (b 3), .ref (a 6), .ref (a 7), .ref (a 8), .ref (a 9), .ref (a 10), .ref (a 11), .ref (a 12), .ref (a 13), .ref (a 14)])), ((a 6), .inl (G.2.2.1, 12, .inl (rr33 6))), ((a 7), .inl (G.2.1, 12, .inl (rr33 7))), ((a 8), .inl (G.2.1, 144, .inl (rr33 8))), ((a 9), .inl (G.2.1, 144, .inl (rr33 9))), ((a 10), .inl (G.2.1, 144, .inl (rr33 10))), ((a 11), .inl (G.2.2.1, 144, .inl (rr33 11))), ((a 12), .inl (G.2.1, 144, .inl (rr33 12))), ((a 13), .inl (G.2.1, 144, .inl (rr33 13))), ((a 14), .inl (G.2.1, 144, .inl (rr33 14))), ((b 3), .inr (5, [.ref (b 0), .ref (b 1), .ref (b 2), .int cc37])), ((b 0), .inl (G.2.1, 25, .inl ss34)), ((b 1), .inl (G.2.1, 25, .inl bb35)), ((b 2), .inl (G.2.1, 25, .inl qq36))] H := h9_
      have hD := D_as2 hP hD rfl
      refine lv_aload_n hx hb dX2_isSafe_152 rfl (lv_at hl 1 rfl) ?_
      refine va_get (D := G.1) (ci := 2) (v := .ref (a 12)) (C := RX2) (T := TX2) (N := 15) hx hb hts inX2 hown hK.1 hP 0 rfl rfl 12 (by decide) (hts _ mf_X2_54) (fun _ h9 => h9) rfl dX2_isSafe_153 ?_
      refine lv_iload_n hx hb dX2_isSafe_156 rfl (lv_at hl 4 rfl) ?_
      refine xiald hx hb hK hP 7 (i * 12 + j) (rfl) (by omega) (by omega) rfl dX2_isSafe_157 ?_
      refine lv_topi (fun v38 ev38 => ?_)
      refine lv_iload hx hb dX2_isSafe_158 (lv_at hl 5 rfl) ?_
      refine lv_icmp_gt (tgt := 167) hx hb dX2_isSafe_160 (by decide) (fun c39 => ?_) (fun c39 => ?_)
      · refine lv_iconst (v := 0) hx hb dX2_isSafe_167 (by decide) ?_
        refine lv_istore (lv' := [(6, .int 0), (0, .ref (a 15)), (1, .int (nI i)), (2, .int (nI j)), (3, .int (nI (i * 12 + j))), (4, .int v4), (5, .int v6)]) hx hb dX2_isSafe_168 hl (by decide) rfl (fun ls hl => ?_)
        exact j170 0 (e4) (fun k => match k with | 6 => (rr33 6) | 7 => (rr33 7) | 8 => (rr33 8) | 9 => (rr33 9) | 10 => (rr33 10) | 11 => (rr33 11) | 12 => (rr33 12) | 13 => (rr33 13) | 14 => (rr33 14) | _ => (fun _ => 0)) ss34 bb35 qq36 (cc37) hRB _ _ _ hP hS (lv_sub hl [1, 2, 3, 4, 5, 6, 0] rfl)
      · refine lv_iconst (v := 1) hx hb dX2_isSafe_163 (by decide) ?_
        refine lv_goto (tgt := 168) hx hb dX2_isSafe_164 (by decide) ?_
        refine lv_istore (lv' := [(6, .int 1), (0, .ref (a 15)), (1, .int (nI i)), (2, .int (nI j)), (3, .int (nI (i * 12 + j))), (4, .int v4), (5, .int v6)]) hx hb dX2_isSafe_168 hl (by decide) rfl (fun ls hl => ?_)
        exact j170 1 (e4) (fun k => match k with | 6 => (rr33 6) | 7 => (rr33 7) | 8 => (rr33 8) | 9 => (rr33 9) | 10 => (rr33 10) | 11 => (rr33 11) | 12 => (rr33 12) | 13 => (rr33 13) | 14 => (rr33 14) | _ => (fun _ => 0)) ss34 bb35 qq36 (cc37) hRB _ _ _ hP hS (lv_sub hl [1, 2, 3, 4, 5, 6, 0] rfl)
    · refine lv_iconst (v := 1) hx hb dX2_isSafe_132 (by decide) ?_
      refine lv_goto (tgt := 137) hx hb dX2_isSafe_133 (by decide) ?_
      refine lv_istore (lv' := [(6, .int 1), (0, .ref (a 15)), (1, .int (nI i)), (2, .int (nI j)), (3, .int (nI (i * 12 + j))), (4, .int v4), (5, .int v6)]) hx hb dX2_isSafe_137 hl (by decide) rfl (fun ls hl => ?_)
      refine lv_iload hx hb dX2_isSafe_139 (lv_at hl 0 rfl) ?_
      refine lv_if_ne (tgt := 170) hx hb dX2_isSafe_141 (by decide) (fun _ => ?_) (fun c40 => absurd c40 (by decide))
      exact j170 1 (e4) (fun k => match k with | 6 => (r2 6) | 7 => (r2 7) | 8 => (r2 8) | 9 => (r2 9) | 10 => (r2 10) | 11 => (r2 11) | 12 => (r2 12) | 13 => (r2 13) | 14 => (r2 14) | _ => (fun _ => 0)) s2 bf qu (rc2) hRB _ _ _ hP hS (lv_sub hl [1, 2, 3, 4, 5, 6, 0] rfl)
  refine lv_aload_n hx hb dX2_isSafe_36 rfl (lv_at hl 3 rfl) ?_
  refine va_get (D := G.1) (ci := 2) (v := .ref (a 11)) (C := RX2) (T := TX2) (N := 15) hx hb hts inX2 hown hK.1 hP 0 rfl rfl 11 (by decide) (hts _ mf_X2_51) (fun _ h9 => h9) rfl dX2_isSafe_37 ?_
  refine lv_iload_n hx hb dX2_isSafe_40 rfl (lv_at hl 2 rfl) ?_
  refine xzald hx hb hK hP 6 (i * 12 + j) (rfl) (by omega) (by omega) rfl dX2_isSafe_41 ?_
  refine lv_topi (fun v41 ev41 => ?_)
  refine lv_if_ne (tgt := 73) hx hb dX2_isSafe_42 (by decide) (fun c42 => ?_) (fun c42 => ?_)
  · refine lv_iload hx hb dX2_isSafe_73 (lv_at hl 1 rfl) ?_
    refine lv_aload_n hx hb dX2_isSafe_75 rfl (lv_at hl 3 rfl) ?_
    refine va_get (D := G.1) (ci := 2) (v := .ref (a 13)) (C := RX2) (T := TX2) (N := 15) hx hb hts inX2 hown hK.1 hP 0 rfl rfl 13 (by decide) (hts _ mf_X2_57) (fun _ h9 => h9) rfl dX2_isSafe_76 ?_
    refine lv_iload_n hx hb dX2_isSafe_79 rfl (lv_at hl 2 rfl) ?_
    refine xiald hx hb hK hP 8 (i * 12 + j) (rfl) (by omega) (by omega) rfl dX2_isSafe_80 ?_
    refine lv_topi (fun v43 ev43 => ?_)
    refine lv_icmp_lt (tgt := 95) hx hb dX2_isSafe_81 (by decide) (fun c44 => ?_) (fun c44 => ?_)
    · refine lv_iconst (v := 0) hx hb dX2_isSafe_95 (by decide) ?_
      exact wr_zret hx hb hr hlocks (Or.inl rfl) hS hP ⟨(f 4), (fun k => match k with | 6 => (r 6) | 7 => (r 7) | 8 => (r 8) | 9 => (r 9) | 10 => (r 10) | 11 => (r 11) | 12 => (r 12) | 13 => (r 13) | 14 => (r 14) | _ => (fun _ => 0)), (q 0), (q 1), (q 2), rc, hRB, rfl⟩ dX2_isSafe_96
    · refine lv_iload hx hb dX2_isSafe_84 (lv_at hl 0 rfl) ?_
      refine lv_aload_n hx hb dX2_isSafe_86 rfl (lv_at hl 3 rfl) ?_
      refine va_get (D := G.1) (ci := 2) (v := .ref (a 14)) (C := RX2) (T := TX2) (N := 15) hx hb hts inX2 hown hK.1 hP 0 rfl rfl 14 (by decide) (hts _ mf_X2_60) (fun _ h9 => h9) rfl dX2_isSafe_87 ?_
      refine lv_iload_n hx hb dX2_isSafe_90 rfl (lv_at hl 2 rfl) ?_
      refine xiald hx hb hK hP 9 (i * 12 + j) (rfl) (by omega) (by omega) rfl dX2_isSafe_91 ?_
      refine lv_topi (fun v45 ev45 => ?_)
      refine lv_icmp_le (tgt := 97) hx hb dX2_isSafe_92 (by decide) (fun c46 => ?_) (fun c46 => ?_)
      · refine lv_aload_n hx hb dX2_isSafe_97 rfl (lv_at hl 3 rfl) ?_
        refine va_get (D := G.1) (ci := 2) (v := .int (f 4)) (C := RX2) (T := TX2) (N := 15) hx hb hts inX2 hown hK.1 hP 0 rfl rfl 4 (by decide) (hts _ mf_X2_24) (fun _ h9 => h9) rfl dX2_isSafe_98 ?_
        refine lv_aload_n hx hb dX2_isSafe_101 rfl (lv_at hl 3 rfl) ?_
        refine va_get (D := G.1) (ci := 2) (v := .ref (a 7)) (C := RX2) (T := TX2) (N := 15) hx hb hts inX2 hown hK.1 hP 0 rfl rfl 7 (by decide) (hts _ mf_X2_38) (fun _ h9 => h9) rfl dX2_isSafe_102 ?_
        refine lv_iload_n hx hb dX2_isSafe_105 rfl (lv_at hl 4 rfl) ?_
        refine xiald hx hb hK hP 2 (i) (rfl) (by omega) (by omega) rfl dX2_isSafe_106 ?_
        refine lv_topi (fun v47 ev47 => ?_)
        refine lv_icmp_eq (tgt := 121) hx hb dX2_isSafe_107 (by decide) (fun c48 => ?_) (fun c48 => ?_)
        · exact j121 ((f 4)) (fun k => match k with | 6 => (r 6) | 7 => (r 7) | 8 => (r 8) | 9 => (r 9) | 10 => (r 10) | 11 => (r 11) | 12 => (r 12) | 13 => (r 13) | 14 => (r 14) | _ => (fun _ => 0)) (q 0) (q 1) (q 2) (rc) hRB _ _ _ hP hS (lv_sub hl [3, 4, 5, 2, 1, 0] rfl)
        · refine lv_aload_n hx hb dX2_isSafe_110 rfl (lv_at hl 3 rfl) ?_
          refine lv_aload_n hx hb dX2_isSafe_111 rfl (lv_at hl 3 rfl) ?_
          refine va_get (D := G.1) (ci := 2) (v := .ref (a 7)) (C := RX2) (T := TX2) (N := 15) hx hb hts inX2 hown hK.1 hP 0 rfl rfl 7 (by decide) (hts _ mf_X2_38) (fun _ h9 => h9) rfl dX2_isSafe_112 ?_
          refine lv_iload_n hx hb dX2_isSafe_115 rfl (lv_at hl 4 rfl) ?_
          refine xiald hx hb hK hP 2 (i) (rfl) (by omega) (by omega) rfl dX2_isSafe_116 ?_
          refine lv_topi (fun v49 ev49 => ?_)
          refine lv_iconst (v := 0) hx hb dX2_isSafe_117 (by decide) ?_
          refine wrVV (rest := []) (q0 := 0) ⟨hx, hb, hml, hown, hts⟩ (c_X2_enter l G a b (fun k => match k with | 0 => (f 0) | 1 => (f 1) | 2 => (f 2) | 3 => (f 3) | _ => (f 4)) (fun k => match k with | 6 => (r 6) | 7 => (r 7) | 8 => (r 8) | 9 => (r 9) | 10 => (r 10) | 11 => (r 11) | 12 => (r 12) | 13 => (r 13) | 14 => (r 14) | _ => (fun _ => 0)) (fun k => match k with | 0 => (q 0) | 1 => (q 1) | 2 => (q 2) | _ => (fun _ => 0)) (rc) rw cl hrw hcl h0 h1 v49 0 (Nat.zero_le _)) mi_yX2_enter mv_yX2_enter ml_X2_146 ⟨rfl, rfl, Nat.le_of_ble_eq_true rfl, Nat.le_of_ble_eq_true rfl⟩ hK hP hD [0, 1, 2, 3, 4, 5, 6, 7, 8, 9, 10, 11, 12, 13] rfl (by decide) rfl rfl rfl hl.1 rfl (Nat.le_of_ble_eq_true rfl) dX2_isSafe_118 ⟨Nat.zero_le _, Nat.zero_le _⟩ hS hA (fun w51 H locs hw51 hP hS => ?_)
          obtain ⟨en52, ss53, hRB, rfl⟩ := hw51
          have h9_ := P_rg (s := 0) (hP rfl) rfl (Nat.le_of_ble_eq_true rfl)
          have hP : PP G [((a 15), .inr (2, [.int (f 0), .int (f 1), .int (f 2), .int (f 3), .int en52, .ref (b 3), .ref (a 6), .ref (a 7), .ref (a 8), .ref (a 9), .ref (a 10), .ref (a 11), .ref (a 12), .ref (a 13), .ref (a 14)])), ((a 6), .inl (G.2.2.1, 12, .inl (r 6))), ((a 7), .inl (G.2.1, 12, .inl (r 7))), ((a 8), .inl (G.2.1, 144, .inl (r 8))), ((a 9), .inl (G.2.1, 144, .inl (r 9))), ((a 10), .inl (G.2.1, 144, .inl (r 10))), ((a 11), .inl (G.2.2.1, 144, .inl (r 11))), ((a 12), .inl (G.2.1, 144, .inl (r 12))), ((a 13), .inl (G.2.1, 144, .inl (r 13))), ((a 14), .inl (G.2.1, 144, .inl (r 14))), ((b 3), .inr (5, [.ref (b 0), .ref (b 1), .ref (b 2), .int rc])), ((b 0), .inl (G.2.1, 25, .inl ss53)), ((b 1), .inl (G.2.1, 25, .inl (q 1))), ((b 2), .inl (G.2.1, 25, .inl (q 2)))] H := h9_
          have hD := D_as2 hP hD rfl
          exact j121 (en52) (fun k => match k with | 6 => (r 6) | 7 => (r 7) | 8 => (r 8) | 9 => (r 9) | 10 => (r 10) | 11 => (r 11) | 12 => (r 12) | 13 => (r 13) | 14 => (r 14) | _ => (fun _ => 0)) ss53 (q 1) (q 2) (rc) hRB _ _ _ hP hS (lv_sub hl [3, 4, 5, 2, 1, 0] rfl)
      · refine lv_iconst (v := 0) hx hb dX2_isSafe_95 (by decide) ?_
        exact wr_zret hx hb hr hlocks (Or.inl rfl) hS hP ⟨(f 4), (fun k => match k with | 6 => (r 6) | 7 => (r 7) | 8 => (r 8) | 9 => (r 9) | 10 => (r 10) | 11 => (r 11) | 12 => (r 12) | 13 => (r 13) | 14 => (r 14) | _ => (fun _ => 0)), (q 0), (q 1), (q 2), rc, hRB, rfl⟩ dX2_isSafe_96
  · refine lv_iload hx hb dX2_isSafe_45 (lv_at hl 1 rfl) ?_
    refine lv_aload_n hx hb dX2_isSafe_47 rfl (lv_at hl 3 rfl) ?_
    refine va_get (D := G.1) (ci := 2) (v := .ref (a 9)) (C := RX2) (T := TX2) (N := 15) hx hb hts inX2 hown hK.1 hP 0 rfl rfl 9 (by decide) (hts _ mf_X2_45) (fun _ h9 => h9) rfl dX2_isSafe_48 ?_
    refine lv_iload_n hx hb dX2_isSafe_51 rfl (lv_at hl 2 rfl) ?_
    refine xiald hx hb hK hP 4 (i * 12 + j) (rfl) (by omega) (by omega) rfl dX2_isSafe_52 ?_
    refine lv_topi (fun v54 ev54 => ?_)
    refine lv_icmp_ne (tgt := 71) hx hb dX2_isSafe_53 (by decide) (fun c55 => ?_) (fun c55 => ?_)
    · refine lv_iconst (v := 0) hx hb dX2_isSafe_71 (by decide) ?_
      exact wr_zret hx hb hr hlocks (Or.inl rfl) hS hP ⟨(f 4), (fun k => match k with | 6 => (r 6) | 7 => (r 7) | 8 => (r 8) | 9 => (r 9) | 10 => (r 10) | 11 => (r 11) | 12 => (r 12) | 13 => (r 13) | 14 => (r 14) | _ => (fun _ => 0)), (q 0), (q 1), (q 2), rc, hRB, rfl⟩ dX2_isSafe_72
    · refine lv_iload hx hb dX2_isSafe_56 (lv_at hl 0 rfl) ?_
      refine lv_aload_n hx hb dX2_isSafe_58 rfl (lv_at hl 3 rfl) ?_
      refine va_get (D := G.1) (ci := 2) (v := .ref (a 9)) (C := RX2) (T := TX2) (N := 15) hx hb hts inX2 hown hK.1 hP 0 rfl rfl 9 (by decide) (hts _ mf_X2_45) (fun _ h9 => h9) rfl dX2_isSafe_59 ?_
      refine lv_iload_n hx hb dX2_isSafe_62 rfl (lv_at hl 2 rfl) ?_
      refine xiald hx hb hK hP 4 (i * 12 + j) (rfl) (by omega) (by omega) rfl dX2_isSafe_63 ?_
      refine lv_topi (fun v56 ev56 => ?_)
      refine lv_icmp_ne (tgt := 71) hx hb dX2_isSafe_64 (by decide) (fun c57 => ?_) (fun c57 => ?_)
      · refine lv_iconst (v := 0) hx hb dX2_isSafe_71 (by decide) ?_
        exact wr_zret hx hb hr hlocks (Or.inl rfl) hS hP ⟨(f 4), (fun k => match k with | 6 => (r 6) | 7 => (r 7) | 8 => (r 8) | 9 => (r 9) | 10 => (r 10) | 11 => (r 11) | 12 => (r 12) | 13 => (r 13) | 14 => (r 14) | _ => (fun _ => 0)), (q 0), (q 1), (q 2), rc, hRB, rfl⟩ dX2_isSafe_72
      · refine lv_iconst (v := 1) hx hb dX2_isSafe_67 (by decide) ?_
        refine lv_goto (tgt := 72) hx hb dX2_isSafe_68 (by decide) ?_
        exact wr_zret hx hb hr hlocks (Or.inr rfl) hS hP ⟨(f 4), (fun k => match k with | 6 => (r 6) | 7 => (r 7) | 8 => (r 8) | 9 => (r 9) | 10 => (r 10) | 11 => (r 11) | 12 => (r 12) | 13 => (r 13) | 14 => (r 14) | _ => (fun _ => 0)), (q 0), (q 1), (q 2), rc, hRB, rfl⟩ dX2_isSafe_72
set_option maxHeartbeats 4000000 in
set_option maxRecDepth 100000 in
theorem c_X2_countUnsafe (l : Launch) (G : GG) (a b : Nat → Nat) (f : Nat → Int32) (r : Nat → Nat → Int32) (q : Nat → Nat → Int32) (rc : Int32) (rw cl : Nat) (hrw : rw ≤ 12) (hcl : cl ≤ 12) (h0 : f 0 = nI rw) (h1 : f 1 = nI cl) (hRB : RB adjR (q 0)) : WrI l yX2_countUnsafe cX2_countUnsafe 4 (some .int) ({ frames := 5, cells := 0, slots := 0, locals := 134 }) G ([((a 15), .inr (2, [.int (f 0), .int (f 1), .int (f 2), .int (f 3), .int (f 4), .ref (b 3), .ref (a 6), .ref (a 7), .ref (a 8), .ref (a 9), .ref (a 10), .ref (a 11), .ref (a 12), .ref (a 13), .ref (a 14)])), ((a 6), .inl (G.2.2.1, 12, .inl (r 6))), ((a 7), .inl (G.2.1, 12, .inl (r 7))), ((a 8), .inl (G.2.1, 144, .inl (r 8))), ((a 9), .inl (G.2.1, 144, .inl (r 9))), ((a 10), .inl (G.2.1, 144, .inl (r 10))), ((a 11), .inl (G.2.2.1, 144, .inl (r 11))), ((a 12), .inl (G.2.1, 144, .inl (r 12))), ((a 13), .inl (G.2.1, 144, .inl (r 13))), ((a 14), .inl (G.2.1, 144, .inl (r 14))), ((b 3), .inr (5, [.ref (b 0), .ref (b 1), .ref (b 2), .int rc])), ((b 0), .inl (G.2.1, 25, .inl (q 0))), ((b 1), .inl (G.2.1, 25, .inl (q 1))), ((b 2), .inl (G.2.1, 25, .inl (q 2)))]) [.ref (a 15)] (fun _ w => ∃ (e4 : Int32) (r2 : Nat → Nat → Int32) (s2 bf qu : Nat → Int32) (rc2 : Int32), RB adjR s2 ∧ w = [((a 15), .inr (2, [.int (f 0), .int (f 1), .int (f 2), .int (f 3), .int e4, .ref (b 3), .ref (a 6), .ref (a 7), .ref (a 8), .ref (a 9), .ref (a 10), .ref (a 11), .ref (a 12), .ref (a 13), .ref (a 14)])), ((a 6), .inl (G.2.2.1, 12, .inl (r2 6))), ((a 7), .inl (G.2.1, 12, .inl (r2 7))), ((a 8), .inl (G.2.1, 144, .inl (r2 8))), ((a 9), .inl (G.2.1, 144, .inl (r2 9))), ((a 10), .inl (G.2.1, 144, .inl (r2 10))), ((a 11), .inl (G.2.2.1, 144, .inl (r2 11))), ((a 12), .inl (G.2.1, 144, .inl (r2 12))), ((a 13), .inl (G.2.1, 144, .inl (r2 13))), ((a 14), .inl (G.2.1, 144, .inl (r2 14))), ((b 3), .inr (5, [.ref (b 0), .ref (b 1), .ref (b 2), .int rc2])), ((b 0), .inl (G.2.1, 25, .inl s2)), ((b 1), .inl (G.2.1, 25, .inl bf)), ((b 2), .inl (G.2.1, 25, .inl qu))]) := by
  refine wr_entryI (by decide +kernel) (Nat.le_of_ble_eq_true rfl) ?_
  intro p e s m below meth c A C0 hP hK hD hA ls hl
  have hS : va_S A s.heap s.heap [] := va_S.rf
  obtain ⟨hx, hb, hml, hown, hts, hr, hlocks, hin⟩ := C0
  have hown : s.vm.findClass RX2 = some m.cls := hown
  have hl : lv_has ls 4 [(0, .ref (a 15))] := hl
  refine lv_iconst (v := 0) hx hb dX2_countUnsafe_0 (by decide) ?_
  refine lv_istore_n (lv' := [(1, .int 0), (0, .ref (a 15))]) hx hb dX2_countUnsafe_1 rfl hl (by decide) rfl (fun ls hl => ?_)
  refine lv_iconst (v := 0) hx hb dX2_countUnsafe_2 (by decide) ?_
  refine lv_istore_n (lv' := [(2, .int 0), (1, .int 0), (0, .ref (a 15))]) hx hb dX2_countUnsafe_3 rfl hl (by decide) rfl (fun ls hl => ?_)
  have outer : ∀ (k i : Nat) (c_ : Int32) (e4 : Int32) (r2 : Nat → Nat → Int32) (s2 bf qu : Nat → Int32) (rc2 : Int32), i ≤ rw → rw < i + k → RB adjR s2 → ∀ (H : Heap) (locs : List Loc) (ls : Array Slot), PP G ([((a 15), .inr (2, [.int (f 0), .int (f 1), .int (f 2), .int (f 3), .int e4, .ref (b 3), .ref (a 6), .ref (a 7), .ref (a 8), .ref (a 9), .ref (a 10), .ref (a 11), .ref (a 12), .ref (a 13), .ref (a 14)])), ((a 6), .inl (G.2.2.1, 12, .inl (r2 6))), ((a 7), .inl (G.2.1, 12, .inl (r2 7))), ((a 8), .inl (G.2.1, 144, .inl (r2 8))), ((a 9), .inl (G.2.1, 144, .inl (r2 9))), ((a 10), .inl (G.2.1, 144, .inl (r2 10))), ((a 11), .inl (G.2.2.1, 144, .inl (r2 11))), ((a 12), .inl (G.2.1, 144, .inl (r2 12))), ((a 13), .inl (G.2.1, 144, .inl (r2 13))), ((a 14), .inl (G.2.1, 144, .inl (r2 14))), ((b 3), .inr (5, [.ref (b 0), .ref (b 1), .ref (b 2), .int rc2])), ((b 0), .inl (G.2.1, 25, .inl s2)), ((b 1), .inl (G.2.1, 25, .inl bf)), ((b 2), .inl (G.2.1, 25, .inl qu))]) H → va_S A s.heap H locs → lv_has ls 4 [(0, .ref (a 15)), (1, .int c_), (2, .int (nI i))] → W p l e ({ frames := 5, cells := 0, slots := 0, locals := 134 }) s m ([.ref (a 15)] : List Value).toArray below meth c H locs 0 0 (MQ below (QwI G (fun _ w => ∃ (e4 : Int32) (r2 : Nat → Nat → Int32) (s2 bf qu : Nat → Int32) (rc2 : Int32), RB adjR s2 ∧ w = [((a 15), .inr (2, [.int (f 0), .int (f 1), .int (f 2), .int (f 3), .int e4, .ref (b 3), .ref (a 6), .ref (a 7), .ref (a 8), .ref (a 9), .ref (a 10), .ref (a 11), .ref (a 12), .ref (a 13), .ref (a 14)])), ((a 6), .inl (G.2.2.1, 12, .inl (r2 6))), ((a 7), .inl (G.2.1, 12, .inl (r2 7))), ((a 8), .inl (G.2.1, 144, .inl (r2 8))), ((a 9), .inl (G.2.1, 144, .inl (r2 9))), ((a 10), .inl (G.2.1, 144, .inl (r2 10))), ((a 11), .inl (G.2.2.1, 144, .inl (r2 11))), ((a 12), .inl (G.2.1, 144, .inl (r2 12))), ((a 13), .inl (G.2.1, 144, .inl (r2 13))), ((a 14), .inl (G.2.1, 144, .inl (r2 14))), ((b 3), .inr (5, [.ref (b 0), .ref (b 1), .ref (b 2), .int rc2])), ((b 0), .inl (G.2.1, 25, .inl s2)), ((b 1), .inl (G.2.1, 25, .inl bf)), ((b 2), .inl (G.2.1, 25, .inl qu))]) A) ([.ref (a 15)] : List Value).toArray s 0 0 A) (F0 m 4 ls []) := by
    intro k
    induction k with
    | zero => intro i c_ e4 r2 s2 bf qu rc2 h1 h2; omega
    | succ k ih =>
      intro i c_ e4 r2 s2 bf qu rc2 hi_i hk_i hRB H locs ls hP hS hl
      have hD := D_as2 hP hD rfl
      refine lv_iload_n hx hb dX2_countUnsafe_4 rfl (lv_at hl 2 rfl) ?_
      refine lv_aload_n hx hb dX2_countUnsafe_5 rfl (lv_at hl 0 rfl) ?_
      refine va_get (D := G.1) (ci := 2) (v := .int (f 0)) (C := RX2) (T := TX2) (N := 15) hx hb hts inX2 hown hK.1 hP 0 rfl rfl 0 (by decide) (hts _ mf_X2_9) (fun _ h9 => h9) rfl dX2_countUnsafe_6 ?_
      refine lv_icmp_ge (tgt := 59) hx hb dX2_countUnsafe_9 (by decide) (fun c1 => ?_) (fun c1 => ?_)
      · rw [h0] at c1
        have hge := ge_t (by omega) (by omega) c1
        have heq : i = rw := by omega
        refine lv_iload_n hx hb dX2_countUnsafe_59 rfl (lv_at hl 1 rfl) ?_
        exact wr_iret hx hb hr hlocks hS hP ⟨e4, (fun k => match k with | 6 => (r2 6) | 7 => (r2 7) | 8 => (r2 8) | 9 => (r2 9) | 10 => (r2 10) | 11 => (r2 11) | 12 => (r2 12) | 13 => (r2 13) | 14 => (r2 14) | _ => (fun _ => 0)), s2, bf, qu, rc2, hRB, rfl⟩ dX2_countUnsafe_60
      · rw [h0] at c1
        have hlt := ge_f (by omega) (by omega) c1
        refine lv_iconst (v := 0) hx hb dX2_countUnsafe_12 (by decide) ?_
        refine lv_istore_n (lv' := [(3, .int 0), (0, .ref (a 15)), (1, .int c_), (2, .int (nI i))]) hx hb dX2_countUnsafe_13 rfl hl (by decide) rfl (fun ls hl => ?_)
        have inner : ∀ (k2 j : Nat) (d_ : Int32) (e4 : Int32) (r2 : Nat → Nat → Int32) (s2 bf qu : Nat → Int32) (rc2 : Int32), j ≤ cl → cl < j + k2 → RB adjR s2 → ∀ (H : Heap) (locs : List Loc) (ls : Array Slot), PP G ([((a 15), .inr (2, [.int (f 0), .int (f 1), .int (f 2), .int (f 3), .int e4, .ref (b 3), .ref (a 6), .ref (a 7), .ref (a 8), .ref (a 9), .ref (a 10), .ref (a 11), .ref (a 12), .ref (a 13), .ref (a 14)])), ((a 6), .inl (G.2.2.1, 12, .inl (r2 6))), ((a 7), .inl (G.2.1, 12, .inl (r2 7))), ((a 8), .inl (G.2.1, 144, .inl (r2 8))), ((a 9), .inl (G.2.1, 144, .inl (r2 9))), ((a 10), .inl (G.2.1, 144, .inl (r2 10))), ((a 11), .inl (G.2.2.1, 144, .inl (r2 11))), ((a 12), .inl (G.2.1, 144, .inl (r2 12))), ((a 13), .inl (G.2.1, 144, .inl (r2 13))), ((a 14), .inl (G.2.1, 144, .inl (r2 14))), ((b 3), .inr (5, [.ref (b 0), .ref (b 1), .ref (b 2), .int rc2])), ((b 0), .inl (G.2.1, 25, .inl s2)), ((b 1), .inl (G.2.1, 25, .inl bf)), ((b 2), .inl (G.2.1, 25, .inl qu))]) H → va_S A s.heap H locs → lv_has ls 4 [(0, .ref (a 15)), (1, .int d_), (2, .int (nI i)), (3, .int (nI j))] → W p l e ({ frames := 5, cells := 0, slots := 0, locals := 134 }) s m ([.ref (a 15)] : List Value).toArray below meth c H locs 0 0 (MQ below (QwI G (fun _ w => ∃ (e4 : Int32) (r2 : Nat → Nat → Int32) (s2 bf qu : Nat → Int32) (rc2 : Int32), RB adjR s2 ∧ w = [((a 15), .inr (2, [.int (f 0), .int (f 1), .int (f 2), .int (f 3), .int e4, .ref (b 3), .ref (a 6), .ref (a 7), .ref (a 8), .ref (a 9), .ref (a 10), .ref (a 11), .ref (a 12), .ref (a 13), .ref (a 14)])), ((a 6), .inl (G.2.2.1, 12, .inl (r2 6))), ((a 7), .inl (G.2.1, 12, .inl (r2 7))), ((a 8), .inl (G.2.1, 144, .inl (r2 8))), ((a 9), .inl (G.2.1, 144, .inl (r2 9))), ((a 10), .inl (G.2.1, 144, .inl (r2 10))), ((a 11), .inl (G.2.2.1, 144, .inl (r2 11))), ((a 12), .inl (G.2.1, 144, .inl (r2 12))), ((a 13), .inl (G.2.1, 144, .inl (r2 13))), ((a 14), .inl (G.2.1, 144, .inl (r2 14))), ((b 3), .inr (5, [.ref (b 0), .ref (b 1), .ref (b 2), .int rc2])), ((b 0), .inl (G.2.1, 25, .inl s2)), ((b 1), .inl (G.2.1, 25, .inl bf)), ((b 2), .inl (G.2.1, 25, .inl qu))]) A) ([.ref (a 15)] : List Value).toArray s 0 0 A) (F0 m 14 ls []) := by
          intro k2
          induction k2 with
          | zero => intro j d_ e4 r2 s2 bf qu rc2 h1 h2; omega
          | succ k2 ih2 =>
            intro j d_ e4 r2 s2 bf qu rc2 hi_j hk_j hRB H locs ls hP hS hl
            have hD := D_as2 hP hD rfl
            refine lv_iload_n hx hb dX2_countUnsafe_14 rfl (lv_at hl 3 rfl) ?_
            refine lv_aload_n hx hb dX2_countUnsafe_15 rfl (lv_at hl 0 rfl) ?_
            refine va_get (D := G.1) (ci := 2) (v := .int (f 1)) (C := RX2) (T := TX2) (N := 15) hx hb hts inX2 hown hK.1 hP 0 rfl rfl 1 (by decide) (hts _ mf_X2_15) (fun _ h9 => h9) rfl dX2_countUnsafe_16 ?_
            refine lv_icmp_ge (tgt := 53) hx hb dX2_countUnsafe_19 (by decide) (fun c2 => ?_) (fun c2 => ?_)
            · rw [h1] at c2
              have hge2 := ge_t (by omega) (by omega) c2
              have heq2 : j = cl := by omega
              obtain ⟨v3, ev3⟩ : ∃ y : Int32, y = (nI i) + Int32.ofInt (1) := ⟨_, rfl⟩
              refine lv_iinc (v := v3) (lv' := [(2, .int v3), (0, .ref (a 15)), (1, .int d_), (3, .int (nI j))]) hx hb dX2_countUnsafe_53 hl (k := 2) rfl ev3.symm (by decide) rfl (fun ls hl => ?_)
              refine lv_goto (tgt := 4) hx hb dX2_countUnsafe_56 (by decide) ?_
              exact ih (i + 1) d_ (e4) (fun k => match k with | 6 => (r2 6) | 7 => (r2 7) | 8 => (r2 8) | 9 => (r2 9) | 10 => (r2 10) | 11 => (r2 11) | 12 => (r2 12) | 13 => (r2 13) | 14 => (r2 14) | _ => (fun _ => 0)) s2 bf qu (rc2) (by omega) (by omega) hRB _ _ _ hP hS (by have e := nI_inc ev3; rw [e] at hl; exact lv_sub hl [1, 2, 0] rfl)
            · rw [h1] at c2
              have hlt2 := ge_f (by omega) (by omega) c2
              refine lv_aload_n hx hb dX2_countUnsafe_22 rfl (lv_at hl 0 rfl) ?_
              refine va_get (D := G.1) (ci := 2) (v := .ref (a 10)) (C := RX2) (T := TX2) (N := 15) hx hb hts inX2 hown hK.1 hP 0 rfl rfl 10 (by decide) (hts _ mf_X2_48) (fun _ h9 => h9) rfl dX2_countUnsafe_23 ?_
              refine lv_iload_n hx hb dX2_countUnsafe_26 rfl (lv_at hl 2 rfl) ?_
              refine lv_iload_n hx hb dX2_countUnsafe_27 rfl (lv_at hl 3 rfl) ?_
              refine rdSN (rest := [.ref (a 10)]) ⟨hx, hb, hml, hown, hts⟩ (c_X6_spotOf l G ((nI i)) ((nI j))) mi_yX6_spotOf mst_yX6_spotOf (by decide +kernel) ⟨rfl, rfl, Nat.le_of_ble_eq_true rfl, Nat.le_of_ble_eq_true rfl⟩ hK (fun k q h => by simp at h) rfl hl.1 rfl (Nat.le_of_ble_eq_true rfl) dX2_countUnsafe_28 ⟨Nat.zero_le _, Nat.zero_le _⟩ hS hA hP (fun r4 H locs hr4 hP hS => ?_)
              obtain rfl : r4 = nI (i * 12 + j) := spot_eq hr4
              refine xiald hx hb hK hP 5 (i * 12 + j) (rfl) (by omega) (by omega) rfl dX2_countUnsafe_31 ?_
              refine lv_topi (fun v5 ev5 => ?_)
              refine lv_if_eq (tgt := 47) hx hb dX2_countUnsafe_32 (by decide) (fun c6 => ?_) (fun c6 => ?_)
              · obtain ⟨v7, ev7⟩ : ∃ y : Int32, y = (nI j) + Int32.ofInt (1) := ⟨_, rfl⟩
                refine lv_iinc (v := v7) (lv' := [(3, .int v7), (0, .ref (a 15)), (1, .int d_), (2, .int (nI i))]) hx hb dX2_countUnsafe_47 hl (k := 3) rfl ev7.symm (by decide) rfl (fun ls hl => ?_)
                refine lv_goto (tgt := 14) hx hb dX2_countUnsafe_50 (by decide) ?_
                exact ih2 (j + 1) d_ (e4) (fun k => match k with | 6 => (r2 6) | 7 => (r2 7) | 8 => (r2 8) | 9 => (r2 9) | 10 => (r2 10) | 11 => (r2 11) | 12 => (r2 12) | 13 => (r2 13) | 14 => (r2 14) | _ => (fun _ => 0)) s2 bf qu (rc2) (by omega) (by omega) hRB _ _ _ hP hS (by have e := nI_inc ev7; rw [e] at hl; exact lv_sub hl [1, 2, 3, 0] rfl)
              · refine lv_aload_n hx hb dX2_countUnsafe_35 rfl (lv_at hl 0 rfl) ?_
                refine lv_iload_n hx hb dX2_countUnsafe_36 rfl (lv_at hl 2 rfl) ?_
                refine lv_iload_n hx hb dX2_countUnsafe_37 rfl (lv_at hl 3 rfl) ?_
                refine wrVI (rest := []) (q0 := 0) ⟨hx, hb, hml, hown, hts⟩ (c_X2_isSafe l G a b (fun k => match k with | 0 => (f 0) | 1 => (f 1) | 2 => (f 2) | 3 => (f 3) | _ => e4) (fun k => match k with | 6 => (r2 6) | 7 => (r2 7) | 8 => (r2 8) | 9 => (r2 9) | 10 => (r2 10) | 11 => (r2 11) | 12 => (r2 12) | 13 => (r2 13) | 14 => (r2 14) | _ => (fun _ => 0)) (fun k => match k with | 0 => s2 | 1 => bf | 2 => qu | _ => (fun _ => 0)) (rc2) rw cl hrw hcl h0 h1 i j (by omega) (by omega) hRB) mi_yX2_isSafe mv_yX2_isSafe ml_X2_155 ⟨rfl, rfl, Nat.le_of_ble_eq_true rfl, Nat.le_of_ble_eq_true rfl⟩ hK hP hD [0, 1, 2, 3, 4, 5, 6, 7, 8, 9, 10, 11, 12, 13] rfl (by decide) rfl rfl rfl hl.1 rfl (Nat.le_of_ble_eq_true rfl) dX2_countUnsafe_38 ⟨Nat.zero_le _, Nat.zero_le _⟩ hS hA (fun r8 w9 H locs hw9 hP hS => ?_)
                obtain ⟨en10, rr11, ss12, bb13, qq14, cc15, hRB, rfl⟩ := hw9
                have h9_ := P_rg (s := 0) (hP rfl) rfl (Nat.le_of_ble_eq_true rfl)
                have hP : PP G [((a 15), .inr (2, [.int (f 0), .int (f 1), .int (f 2), .int (f 3), .int en10, .ref (b 3), .ref (a 6), .ref (a 7), .ref (a 8), .ref (a 9), .ref (a 10), .ref (a 11), .ref (a 12), .ref (a 13), .ref (a 14)])), ((a 6), .inl (G.2.2.1, 12, .inl (rr11 6))), ((a 7), .inl (G.2.1, 12, .inl (rr11 7))), ((a 8), .inl (G.2.1, 144, .inl (rr11 8))), ((a 9), .inl (G.2.1, 144, .inl (rr11 9))), ((a 10), .inl (G.2.1, 144, .inl (rr11 10))), ((a 11), .inl (G.2.2.1, 144, .inl (rr11 11))), ((a 12), .inl (G.2.1, 144, .inl (rr11 12))), ((a 13), .inl (G.2.1, 144, .inl (rr11 13))), ((a 14), .inl (G.2.1, 144, .inl (rr11 14))), ((b 3), .inr (5, [.ref (b 0), .ref (b 1), .ref (b 2), .int cc15])), ((b 0), .inl (G.2.1, 25, .inl ss12)), ((b 1), .inl (G.2.1, 25, .inl bb13)), ((b 2), .inl (G.2.1, 25, .inl qq14))] H := h9_
                have hD := D_as2 hP hD rfl
                refine lv_if_ne (tgt := 47) hx hb dX2_countUnsafe_41 (by decide) (fun c16 => ?_) (fun c16 => ?_)
                · obtain ⟨v17, ev17⟩ : ∃ y : Int32, y = (nI j) + Int32.ofInt (1) := ⟨_, rfl⟩
                  refine lv_iinc (v := v17) (lv' := [(3, .int v17), (0, .ref (a 15)), (1, .int d_), (2, .int (nI i))]) hx hb dX2_countUnsafe_47 hl (k := 3) rfl ev17.symm (by decide) rfl (fun ls hl => ?_)
                  refine lv_goto (tgt := 14) hx hb dX2_countUnsafe_50 (by decide) ?_
                  exact ih2 (j + 1) d_ (en10) (fun k => match k with | 6 => (rr11 6) | 7 => (rr11 7) | 8 => (rr11 8) | 9 => (rr11 9) | 10 => (rr11 10) | 11 => (rr11 11) | 12 => (rr11 12) | 13 => (rr11 13) | 14 => (rr11 14) | _ => (fun _ => 0)) ss12 bb13 qq14 (cc15) (by omega) (by omega) hRB _ _ _ hP hS (by have e := nI_inc ev17; rw [e] at hl; exact lv_sub hl [1, 2, 3, 0] rfl)
                · obtain ⟨v18, ev18⟩ : ∃ y : Int32, y = d_ + Int32.ofInt (1) := ⟨_, rfl⟩
                  refine lv_iinc (v := v18) (lv' := [(1, .int v18), (0, .ref (a 15)), (2, .int (nI i)), (3, .int (nI j))]) hx hb dX2_countUnsafe_44 hl (k := 1) rfl ev18.symm (by decide) rfl (fun ls hl => ?_)
                  obtain ⟨v19, ev19⟩ : ∃ y : Int32, y = (nI j) + Int32.ofInt (1) := ⟨_, rfl⟩
                  refine lv_iinc (v := v19) (lv' := [(3, .int v19), (1, .int v18), (0, .ref (a 15)), (2, .int (nI i))]) hx hb dX2_countUnsafe_47 hl (k := 3) rfl ev19.symm (by decide) rfl (fun ls hl => ?_)
                  refine lv_goto (tgt := 14) hx hb dX2_countUnsafe_50 (by decide) ?_
                  exact ih2 (j + 1) v18 (en10) (fun k => match k with | 6 => (rr11 6) | 7 => (rr11 7) | 8 => (rr11 8) | 9 => (rr11 9) | 10 => (rr11 10) | 11 => (rr11 11) | 12 => (rr11 12) | 13 => (rr11 13) | 14 => (rr11 14) | _ => (fun _ => 0)) ss12 bb13 qq14 (cc15) (by omega) (by omega) hRB _ _ _ hP hS (by have e := nI_inc ev19; rw [e] at hl; exact lv_sub hl [2, 1, 3, 0] rfl)
        exact inner (cl + 1) 0 c_ (e4) (fun k => match k with | 6 => (r2 6) | 7 => (r2 7) | 8 => (r2 8) | 9 => (r2 9) | 10 => (r2 10) | 11 => (r2 11) | 12 => (r2 12) | 13 => (r2 13) | 14 => (r2 14) | _ => (fun _ => 0)) s2 bf qu (rc2) (Nat.zero_le _) (by omega) hRB _ _ _ hP hS (lv_sub hl [1, 2, 3, 0] rfl)
  exact outer (rw + 1) 0 0 ((f 4)) (fun k => match k with | 6 => (r 6) | 7 => (r 7) | 8 => (r 8) | 9 => (r 9) | 10 => (r 10) | 11 => (r 11) | 12 => (r 12) | 13 => (r 13) | 14 => (r 14) | _ => (fun _ => 0)) (q 0) (q 1) (q 2) (rc) (Nat.zero_le _) (by omega) hRB _ _ _ hP hS (lv_sub hl [2, 1, 0] rfl)
