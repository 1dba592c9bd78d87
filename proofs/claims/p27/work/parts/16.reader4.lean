theorem ml_X2_146 : Cond.methodLink RX2 146 yX2_enter ∈ TB := TB_t3 64 rfl rfl
theorem mcode_yX2_enter : Cond.code yX2_enter cX2_enter 5 none ∈ TB := TB_t3 67 rfl rfl
theorem mi_yX2_enter : MI yX2_enter cX2_enter 5 none 2 := ⟨mz_RX2, mcode_yX2_enter, by decide +kernel, by decide +kernel, by decide +kernel⟩
theorem mim_yX2_enter : Cond.instanceMethod yX2_enter ∈ TB := TB_t3 66 rfl rfl
theorem msel_yX2_enter : Cond.selects yX2_enter.cls yX2_enter yX2_enter ∈ TB := TB_s (n := 15) 15 (by decide +kernel)
theorem mv_yX2_enter : Cond.instanceMethod yX2_enter ∈ TB ∧ Cond.selects yX2_enter.cls yX2_enter yX2_enter ∈ TB := ⟨mim_yX2_enter, msel_yX2_enter⟩
theorem ml_X2_149 : Cond.methodLink RX2 149 yX2_draw ∈ TB := TB_t3 81 rfl rfl
theorem mcode_yX2_draw : Cond.code yX2_draw cX2_draw 11 none ∈ TB := TB_t3 84 rfl rfl
theorem mi_yX2_draw : MI yX2_draw cX2_draw 11 none 3 := ⟨mz_RX2, mcode_yX2_draw, by decide +kernel, by decide +kernel, by decide +kernel⟩
theorem mim_yX2_draw : Cond.instanceMethod yX2_draw ∈ TB := TB_t3 83 rfl rfl
theorem msel_yX2_draw : Cond.selects yX2_draw.cls yX2_draw yX2_draw ∈ TB := TB_s (n := 15) 17 (by decide +kernel)
theorem mv_yX2_draw : Cond.instanceMethod yX2_draw ∈ TB ∧ Cond.selects yX2_draw.cls yX2_draw yX2_draw ∈ TB := ⟨mim_yX2_draw, msel_yX2_draw⟩
theorem ml_X2_152 : Cond.methodLink RX2 152 yJ9_max_7cf53 ∈ TB := TB_t3 116 rfl rfl
theorem ml_X2_155 : Cond.methodLink RX2 155 yX2_isSafe ∈ TB := TB_t3 127 rfl rfl
theorem mcode_yX2_isSafe : Cond.code yX2_isSafe cX2_isSafe 8 (some .boolean) ∈ TB := TB_t3 115 rfl rfl
theorem mi_yX2_isSafe : MI yX2_isSafe cX2_isSafe 8 (some .boolean) 2 := ⟨mz_RX2, mcode_yX2_isSafe, by decide +kernel, by decide +kernel, by decide +kernel⟩
theorem mim_yX2_isSafe : Cond.instanceMethod yX2_isSafe ∈ TB := TB_t3 113 rfl rfl
theorem msel_yX2_isSafe : Cond.selects yX2_isSafe.cls yX2_isSafe yX2_isSafe ∈ TB := TB_t3 114 rfl rfl
theorem mv_yX2_isSafe : Cond.instanceMethod yX2_isSafe ∈ TB ∧ Cond.selects yX2_isSafe.cls yX2_isSafe yX2_isSafe ∈ TB := ⟨mim_yX2_isSafe, msel_yX2_isSafe⟩
theorem kcX2_moveToEnd_0 : CHb cX2_moveToEnd 0 [27, 28, 184, 0, 89, 54, 4, 42, 180, 0, 51, 21, 4, 51, 153, 0, 47, 42, 42, 180, 0, 38, 27, 46, 3, 182, 0, 146, 42, 27, 28, 29, 153, 0, 13, 42, 180, 0, 60, 21, 4, 46, 167, 0, 10, 42, 180, 0, 57, 21, 4, 46, 182, 0, 149, 42, 16, 254, 181, 0, 24, 177] := CHb_of (by decide +kernel)
theorem dX2_moveToEnd_0 : decode cX2_moveToEnd 0 = .ok (.iload_n 1, 1) := dw_27 (kcX2_moveToEnd_0 0 27 rfl)
theorem dX2_moveToEnd_1 : decode cX2_moveToEnd 1 = .ok (.iload_n 2, 1) := dw_28 (kcX2_moveToEnd_0 1 28 rfl)
theorem dX2_moveToEnd_2 : decode cX2_moveToEnd 2 = .ok (.invokestatic 89, 3) := dw_184 (kcX2_moveToEnd_0 2 184 rfl) (kcX2_moveToEnd_0 3 0 rfl) (kcX2_moveToEnd_0 4 89 rfl) rfl
theorem dX2_moveToEnd_5 : decode cX2_moveToEnd 5 = .ok (.istore 4, 2) := dw_54 (kcX2_moveToEnd_0 5 54 rfl) (kcX2_moveToEnd_0 6 4 rfl)
theorem dX2_moveToEnd_7 : decode cX2_moveToEnd 7 = .ok (.aload_n 0, 1) := dw_42 (kcX2_moveToEnd_0 7 42 rfl)
theorem dX2_moveToEnd_8 : decode cX2_moveToEnd 8 = .ok (.getfield 51, 3) := dw_180 (kcX2_moveToEnd_0 8 180 rfl) (kcX2_moveToEnd_0 9 0 rfl) (kcX2_moveToEnd_0 10 51 rfl) rfl
theorem dX2_moveToEnd_11 : decode cX2_moveToEnd 11 = .ok (.iload 4, 2) := dw_21 (kcX2_moveToEnd_0 11 21 rfl) (kcX2_moveToEnd_0 12 4 rfl)
theorem dX2_moveToEnd_13 : decode cX2_moveToEnd 13 = .ok (.baload, 1) := dw_51 (kcX2_moveToEnd_0 13 51 rfl)
theorem dX2_moveToEnd_14 : decode cX2_moveToEnd 14 = .ok (.ifCond .eq 47, 3) := dw_153 (kcX2_moveToEnd_0 14 153 rfl) (kcX2_moveToEnd_0 15 0 rfl) (kcX2_moveToEnd_0 16 47 rfl) rfl
theorem dX2_moveToEnd_61 : decode cX2_moveToEnd 61 = .ok (.return_, 1) := dw_177 (kcX2_moveToEnd_0 61 177 rfl)
theorem dX2_moveToEnd_17 : decode cX2_moveToEnd 17 = .ok (.aload_n 0, 1) := dw_42 (kcX2_moveToEnd_0 17 42 rfl)
theorem dX2_moveToEnd_18 : decode cX2_moveToEnd 18 = .ok (.aload_n 0, 1) := dw_42 (kcX2_moveToEnd_0 18 42 rfl)
theorem dX2_moveToEnd_19 : decode cX2_moveToEnd 19 = .ok (.getfield 38, 3) := dw_180 (kcX2_moveToEnd_0 19 180 rfl) (kcX2_moveToEnd_0 20 0 rfl) (kcX2_moveToEnd_0 21 38 rfl) rfl
theorem dX2_moveToEnd_22 : decode cX2_moveToEnd 22 = .ok (.iload_n 1, 1) := dw_27 (kcX2_moveToEnd_0 22 27 rfl)
theorem dX2_moveToEnd_23 : decode cX2_moveToEnd 23 = .ok (.iaload, 1) := dw_46 (kcX2_moveToEnd_0 23 46 rfl)
theorem dX2_moveToEnd_24 : decode cX2_moveToEnd 24 = .ok (.iconst 0, 1) := dw_3 (kcX2_moveToEnd_0 24 3 rfl)
theorem dX2_moveToEnd_25 : decode cX2_moveToEnd 25 = .ok (.invokevirtual 146, 3) := dw_182 (kcX2_moveToEnd_0 25 182 rfl) (kcX2_moveToEnd_0 26 0 rfl) (kcX2_moveToEnd_0 27 146 rfl) rfl
theorem dX2_moveToEnd_28 : decode cX2_moveToEnd 28 = .ok (.aload_n 0, 1) := dw_42 (kcX2_moveToEnd_0 28 42 rfl)
theorem dX2_moveToEnd_29 : decode cX2_moveToEnd 29 = .ok (.iload_n 1, 1) := dw_27 (kcX2_moveToEnd_0 29 27 rfl)
theorem dX2_moveToEnd_30 : decode cX2_moveToEnd 30 = .ok (.iload_n 2, 1) := dw_28 (kcX2_moveToEnd_0 30 28 rfl)
theorem dX2_moveToEnd_31 : decode cX2_moveToEnd 31 = .ok (.iload_n 3, 1) := dw_29 (kcX2_moveToEnd_0 31 29 rfl)
theorem dX2_moveToEnd_32 : decode cX2_moveToEnd 32 = .ok (.ifCond .eq 13, 3) := dw_153 (kcX2_moveToEnd_0 32 153 rfl) (kcX2_moveToEnd_0 33 0 rfl) (kcX2_moveToEnd_0 34 13 rfl) rfl
theorem dX2_moveToEnd_45 : decode cX2_moveToEnd 45 = .ok (.aload_n 0, 1) := dw_42 (kcX2_moveToEnd_0 45 42 rfl)
theorem dX2_moveToEnd_46 : decode cX2_moveToEnd 46 = .ok (.getfield 57, 3) := dw_180 (kcX2_moveToEnd_0 46 180 rfl) (kcX2_moveToEnd_0 47 0 rfl) (kcX2_moveToEnd_0 48 57 rfl) rfl
theorem dX2_moveToEnd_49 : decode cX2_moveToEnd 49 = .ok (.iload 4, 2) := dw_21 (kcX2_moveToEnd_0 49 21 rfl) (kcX2_moveToEnd_0 50 4 rfl)
theorem dX2_moveToEnd_51 : decode cX2_moveToEnd 51 = .ok (.iaload, 1) := dw_46 (kcX2_moveToEnd_0 51 46 rfl)
theorem dX2_moveToEnd_52 : decode cX2_moveToEnd 52 = .ok (.invokevirtual 149, 3) := dw_182 (kcX2_moveToEnd_0 52 182 rfl) (kcX2_moveToEnd_0 53 0 rfl) (kcX2_moveToEnd_0 54 149 rfl) rfl
theorem dX2_moveToEnd_55 : decode cX2_moveToEnd 55 = .ok (.aload_n 0, 1) := dw_42 (kcX2_moveToEnd_0 55 42 rfl)
theorem dX2_moveToEnd_56 : decode cX2_moveToEnd 56 = .ok (.bipush (-2), 2) := dw_16 (kcX2_moveToEnd_0 56 16 rfl) (kcX2_moveToEnd_0 57 254 rfl) rfl
theorem dX2_moveToEnd_58 : decode cX2_moveToEnd 58 = .ok (.putfield 24, 3) := dw_181 (kcX2_moveToEnd_0 58 181 rfl) (kcX2_moveToEnd_0 59 0 rfl) (kcX2_moveToEnd_0 60 24 rfl) rfl
theorem dX2_moveToEnd_35 : decode cX2_moveToEnd 35 = .ok (.aload_n 0, 1) := dw_42 (kcX2_moveToEnd_0 35 42 rfl)
theorem dX2_moveToEnd_36 : decode cX2_moveToEnd 36 = .ok (.getfield 60, 3) := dw_180 (kcX2_moveToEnd_0 36 180 rfl) (kcX2_moveToEnd_0 37 0 rfl) (kcX2_moveToEnd_0 38 60 rfl) rfl
theorem dX2_moveToEnd_39 : decode cX2_moveToEnd 39 = .ok (.iload 4, 2) := dw_21 (kcX2_moveToEnd_0 39 21 rfl) (kcX2_moveToEnd_0 40 4 rfl)
theorem dX2_moveToEnd_41 : decode cX2_moveToEnd 41 = .ok (.iaload, 1) := dw_46 (kcX2_moveToEnd_0 41 46 rfl)
theorem dX2_moveToEnd_42 : decode cX2_moveToEnd 42 = .ok (.goto 10, 3) := dw_167 (kcX2_moveToEnd_0 42 167 rfl) (kcX2_moveToEnd_0 43 0 rfl) (kcX2_moveToEnd_0 44 10 rfl) rfl
theorem kcX2_isSafe_0 : CHb cX2_isSafe 0 [27, 28, 184, 0, 89, 62, 3, 42, 180, 0, 45, 29, 46, 42, 180, 0, 18, 100, 184, 0, 152, 54, 4, 42, 180, 0, 45, 29, 46, 42, 180, 0, 21, 96, 54, 5, 42, 180, 0, 51, 29, 51, 154, 0, 31, 21, 4, 42, 180, 0, 45, 29, 46, 160, 0, 18, 21, 5, 42, 180, 0, 45, 29, 46] := CHb_of (by decide +kernel)
theorem dX2_isSafe_0 : decode cX2_isSafe 0 = .ok (.iload_n 1, 1) := dw_27 (kcX2_isSafe_0 0 27 rfl)
theorem dX2_isSafe_1 : decode cX2_isSafe 1 = .ok (.iload_n 2, 1) := dw_28 (kcX2_isSafe_0 1 28 rfl)
theorem dX2_isSafe_2 : decode cX2_isSafe 2 = .ok (.invokestatic 89, 3) := dw_184 (kcX2_isSafe_0 2 184 rfl) (kcX2_isSafe_0 3 0 rfl) (kcX2_isSafe_0 4 89 rfl) rfl
theorem dX2_isSafe_5 : decode cX2_isSafe 5 = .ok (.istore_n 3, 1) := dw_62 (kcX2_isSafe_0 5 62 rfl)
theorem dX2_isSafe_6 : decode cX2_isSafe 6 = .ok (.iconst 0, 1) := dw_3 (kcX2_isSafe_0 6 3 rfl)
theorem dX2_isSafe_7 : decode cX2_isSafe 7 = .ok (.aload_n 0, 1) := dw_42 (kcX2_isSafe_0 7 42 rfl)
theorem dX2_isSafe_8 : decode cX2_isSafe 8 = .ok (.getfield 45, 3) := dw_180 (kcX2_isSafe_0 8 180 rfl) (kcX2_isSafe_0 9 0 rfl) (kcX2_isSafe_0 10 45 rfl) rfl
theorem dX2_isSafe_11 : decode cX2_isSafe 11 = .ok (.iload_n 3, 1) := dw_29 (kcX2_isSafe_0 11 29 rfl)
theorem dX2_isSafe_12 : decode cX2_isSafe 12 = .ok (.iaload, 1) := dw_46 (kcX2_isSafe_0 12 46 rfl)
theorem dX2_isSafe_13 : decode cX2_isSafe 13 = .ok (.aload_n 0, 1) := dw_42 (kcX2_isSafe_0 13 42 rfl)
theorem dX2_isSafe_14 : decode cX2_isSafe 14 = .ok (.getfield 18, 3) := dw_180 (kcX2_isSafe_0 14 180 rfl) (kcX2_isSafe_0 15 0 rfl) (kcX2_isSafe_0 16 18 rfl) rfl
theorem dX2_isSafe_17 : decode cX2_isSafe 17 = .ok (.isub, 1) := dw_100 (kcX2_isSafe_0 17 100 rfl)
theorem dX2_isSafe_18 : decode cX2_isSafe 18 = .ok (.invokestatic 152, 3) := dw_184 (kcX2_isSafe_0 18 184 rfl) (kcX2_isSafe_0 19 0 rfl) (kcX2_isSafe_0 20 152 rfl) rfl
theorem dX2_isSafe_21 : decode cX2_isSafe 21 = .ok (.istore 4, 2) := dw_54 (kcX2_isSafe_0 21 54 rfl) (kcX2_isSafe_0 22 4 rfl)
theorem dX2_isSafe_23 : decode cX2_isSafe 23 = .ok (.aload_n 0, 1) := dw_42 (kcX2_isSafe_0 23 42 rfl)
theorem dX2_isSafe_24 : decode cX2_isSafe 24 = .ok (.getfield 45, 3) := dw_180 (kcX2_isSafe_0 24 180 rfl) (kcX2_isSafe_0 25 0 rfl) (kcX2_isSafe_0 26 45 rfl) rfl
theorem dX2_isSafe_27 : decode cX2_isSafe 27 = .ok (.iload_n 3, 1) := dw_29 (kcX2_isSafe_0 27 29 rfl)
theorem dX2_isSafe_28 : decode cX2_isSafe 28 = .ok (.iaload, 1) := dw_46 (kcX2_isSafe_0 28 46 rfl)
theorem dX2_isSafe_29 : decode cX2_isSafe 29 = .ok (.aload_n 0, 1) := dw_42 (kcX2_isSafe_0 29 42 rfl)
theorem dX2_isSafe_30 : decode cX2_isSafe 30 = .ok (.getfield 21, 3) := dw_180 (kcX2_isSafe_0 30 180 rfl) (kcX2_isSafe_0 31 0 rfl) (kcX2_isSafe_0 32 21 rfl) rfl
theorem dX2_isSafe_33 : decode cX2_isSafe 33 = .ok (.iadd, 1) := dw_96 (kcX2_isSafe_0 33 96 rfl)
theorem dX2_isSafe_34 : decode cX2_isSafe 34 = .ok (.istore 5, 2) := dw_54 (kcX2_isSafe_0 34 54 rfl) (kcX2_isSafe_0 35 5 rfl)
theorem dX2_isSafe_36 : decode cX2_isSafe 36 = .ok (.aload_n 0, 1) := dw_42 (kcX2_isSafe_0 36 42 rfl)
theorem kcX2_isSafe_3 : CHb cX2_isSafe 192 [7, 21, 6, 153, 0, 34, 21, 7, 154, 0, 29, 42, 27, 28, 21, 5, 182, 0, 149, 42, 180, 0, 54, 29, 46, 21, 5, 161, 0, 7, 4, 167, 0, 4, 3, 54, 7, 42, 27, 28, 182, 0, 117, 21, 7, 172] := CHb_of (by decide +kernel)
theorem dX2_isSafe_229 : decode cX2_isSafe 229 = .ok (.aload_n 0, 1) := dw_42 (kcX2_isSafe_3 37 42 rfl)
theorem dX2_isSafe_230 : decode cX2_isSafe 230 = .ok (.iload_n 1, 1) := dw_27 (kcX2_isSafe_3 38 27 rfl)
theorem dX2_isSafe_231 : decode cX2_isSafe 231 = .ok (.iload_n 2, 1) := dw_28 (kcX2_isSafe_3 39 28 rfl)
theorem dX2_isSafe_232 : decode cX2_isSafe 232 = .ok (.invokevirtual 117, 3) := dw_182 (kcX2_isSafe_3 40 182 rfl) (kcX2_isSafe_3 41 0 rfl) (kcX2_isSafe_3 42 117 rfl) rfl
theorem dX2_isSafe_235 : decode cX2_isSafe 235 = .ok (.iload 7, 2) := dw_21 (kcX2_isSafe_3 43 21 rfl) (kcX2_isSafe_3 44 7 rfl)
theorem dX2_isSafe_237 : decode cX2_isSafe 237 = .ok (.ireturn, 1) := dw_172 (kcX2_isSafe_3 45 172 rfl)
theorem kcX2_isSafe_2 : CHb cX2_isSafe 128 [4, 163, 0, 7, 4, 167, 0, 4, 3, 54, 6, 21, 6, 154, 0, 29, 42, 27, 28, 21, 4, 182, 0, 149, 42, 180, 0, 54, 29, 46, 21, 4, 163, 0, 7, 4, 167, 0, 4, 3, 54, 6, 21, 6, 153, 0, 18, 42, 180, 0, 54, 29, 46, 21, 5, 161, 0, 7, 4, 167, 0, 4, 3, 54] := CHb_of (by decide +kernel)
theorem dX2_isSafe_170 : decode cX2_isSafe 170 = .ok (.iload 6, 2) := dw_21 (kcX2_isSafe_2 42 21 rfl) (kcX2_isSafe_2 43 6 rfl)
theorem dX2_isSafe_172 : decode cX2_isSafe 172 = .ok (.ifCond .eq 18, 3) := dw_153 (kcX2_isSafe_2 44 153 rfl) (kcX2_isSafe_2 45 0 rfl) (kcX2_isSafe_2 46 18 rfl) rfl
theorem dX2_isSafe_190 : decode cX2_isSafe 190 = .ok (.iconst 0, 1) := dw_3 (kcX2_isSafe_2 62 3 rfl)
theorem dX2_isSafe_191 : decode cX2_isSafe 191 = .ok (.istore 7, 2) := dw_54 (kcX2_isSafe_2 63 54 rfl) (kcX2_isSafe_3 0 7 rfl)
theorem dX2_isSafe_193 : decode cX2_isSafe 193 = .ok (.iload 6, 2) := dw_21 (kcX2_isSafe_3 1 21 rfl) (kcX2_isSafe_3 2 6 rfl)
theorem dX2_isSafe_195 : decode cX2_isSafe 195 = .ok (.ifCond .eq 34, 3) := dw_153 (kcX2_isSafe_3 3 153 rfl) (kcX2_isSafe_3 4 0 rfl) (kcX2_isSafe_3 5 34 rfl) rfl
theorem dX2_isSafe_175 : decode cX2_isSafe 175 = .ok (.aload_n 0, 1) := dw_42 (kcX2_isSafe_2 47 42 rfl)
theorem dX2_isSafe_176 : decode cX2_isSafe 176 = .ok (.getfield 54, 3) := dw_180 (kcX2_isSafe_2 48 180 rfl) (kcX2_isSafe_2 49 0 rfl) (kcX2_isSafe_2 50 54 rfl) rfl
theorem dX2_isSafe_179 : decode cX2_isSafe 179 = .ok (.iload_n 3, 1) := dw_29 (kcX2_isSafe_2 51 29 rfl)
theorem dX2_isSafe_180 : decode cX2_isSafe 180 = .ok (.iaload, 1) := dw_46 (kcX2_isSafe_2 52 46 rfl)
theorem dX2_isSafe_181 : decode cX2_isSafe 181 = .ok (.iload 5, 2) := dw_21 (kcX2_isSafe_2 53 21 rfl) (kcX2_isSafe_2 54 5 rfl)
theorem dX2_isSafe_183 : decode cX2_isSafe 183 = .ok (.if_icmp .lt 7, 3) := dw_161 (kcX2_isSafe_2 55 161 rfl) (kcX2_isSafe_2 56 0 rfl) (kcX2_isSafe_2 57 7 rfl) rfl
theorem dX2_isSafe_198 : decode cX2_isSafe 198 = .ok (.iload 7, 2) := dw_21 (kcX2_isSafe_3 6 21 rfl) (kcX2_isSafe_3 7 7 rfl)
theorem dX2_isSafe_200 : decode cX2_isSafe 200 = .ok (.ifCond .ne 29, 3) := dw_154 (kcX2_isSafe_3 8 154 rfl) (kcX2_isSafe_3 9 0 rfl) (kcX2_isSafe_3 10 29 rfl) rfl
theorem dX2_isSafe_203 : decode cX2_isSafe 203 = .ok (.aload_n 0, 1) := dw_42 (kcX2_isSafe_3 11 42 rfl)
theorem dX2_isSafe_204 : decode cX2_isSafe 204 = .ok (.iload_n 1, 1) := dw_27 (kcX2_isSafe_3 12 27 rfl)
theorem dX2_isSafe_205 : decode cX2_isSafe 205 = .ok (.iload_n 2, 1) := dw_28 (kcX2_isSafe_3 13 28 rfl)
theorem dX2_isSafe_206 : decode cX2_isSafe 206 = .ok (.iload 5, 2) := dw_21 (kcX2_isSafe_3 14 21 rfl) (kcX2_isSafe_3 15 5 rfl)
theorem dX2_isSafe_208 : decode cX2_isSafe 208 = .ok (.invokevirtual 149, 3) := dw_182 (kcX2_isSafe_3 16 182 rfl) (kcX2_isSafe_3 17 0 rfl) (kcX2_isSafe_3 18 149 rfl) rfl
theorem dX2_isSafe_211 : decode cX2_isSafe 211 = .ok (.aload_n 0, 1) := dw_42 (kcX2_isSafe_3 19 42 rfl)
theorem dX2_isSafe_212 : decode cX2_isSafe 212 = .ok (.getfield 54, 3) := dw_180 (kcX2_isSafe_3 20 180 rfl) (kcX2_isSafe_3 21 0 rfl) (kcX2_isSafe_3 22 54 rfl) rfl
theorem dX2_isSafe_215 : decode cX2_isSafe 215 = .ok (.iload_n 3, 1) := dw_29 (kcX2_isSafe_3 23 29 rfl)
theorem dX2_isSafe_216 : decode cX2_isSafe 216 = .ok (.iaload, 1) := dw_46 (kcX2_isSafe_3 24 46 rfl)
theorem dX2_isSafe_217 : decode cX2_isSafe 217 = .ok (.iload 5, 2) := dw_21 (kcX2_isSafe_3 25 21 rfl) (kcX2_isSafe_3 26 5 rfl)
theorem dX2_isSafe_219 : decode cX2_isSafe 219 = .ok (.if_icmp .lt 7, 3) := dw_161 (kcX2_isSafe_3 27 161 rfl) (kcX2_isSafe_3 28 0 rfl) (kcX2_isSafe_3 29 7 rfl) rfl
theorem dX2_isSafe_226 : decode cX2_isSafe 226 = .ok (.iconst 0, 1) := dw_3 (kcX2_isSafe_3 34 3 rfl)
theorem dX2_isSafe_227 : decode cX2_isSafe 227 = .ok (.istore 7, 2) := dw_54 (kcX2_isSafe_3 35 54 rfl) (kcX2_isSafe_3 36 7 rfl)
theorem dX2_isSafe_222 : decode cX2_isSafe 222 = .ok (.iconst 1, 1) := dw_4 (kcX2_isSafe_3 30 4 rfl)
theorem dX2_isSafe_223 : decode cX2_isSafe 223 = .ok (.goto 4, 3) := dw_167 (kcX2_isSafe_3 31 167 rfl) (kcX2_isSafe_3 32 0 rfl) (kcX2_isSafe_3 33 4 rfl) rfl
theorem dX2_isSafe_186 : decode cX2_isSafe 186 = .ok (.iconst 1, 1) := dw_4 (kcX2_isSafe_2 58 4 rfl)
theorem dX2_isSafe_187 : decode cX2_isSafe 187 = .ok (.goto 4, 3) := dw_167 (kcX2_isSafe_2 59 167 rfl) (kcX2_isSafe_2 60 0 rfl) (kcX2_isSafe_2 61 4 rfl) rfl
theorem kcX2_isSafe_1 : CHb cX2_isSafe 64 [160, 0, 7, 4, 167, 0, 4, 3, 172, 21, 4, 42, 180, 0, 57, 29, 46, 161, 0, 14, 21, 5, 42, 180, 0, 60, 29, 46, 164, 0, 5, 3, 172, 42, 180, 0, 24, 42, 180, 0, 38, 27, 46, 159, 0, 14, 42, 42, 180, 0, 38, 27, 46, 3, 182, 0, 146, 42, 180, 0, 54, 29, 46, 21] := CHb_of (by decide +kernel)
theorem dX2_isSafe_121 : decode cX2_isSafe 121 = .ok (.aload_n 0, 1) := dw_42 (kcX2_isSafe_1 57 42 rfl)
theorem dX2_isSafe_122 : decode cX2_isSafe 122 = .ok (.getfield 54, 3) := dw_180 (kcX2_isSafe_1 58 180 rfl) (kcX2_isSafe_1 59 0 rfl) (kcX2_isSafe_1 60 54 rfl) rfl
theorem dX2_isSafe_125 : decode cX2_isSafe 125 = .ok (.iload_n 3, 1) := dw_29 (kcX2_isSafe_1 61 29 rfl)
theorem dX2_isSafe_126 : decode cX2_isSafe 126 = .ok (.iaload, 1) := dw_46 (kcX2_isSafe_1 62 46 rfl)
theorem dX2_isSafe_127 : decode cX2_isSafe 127 = .ok (.iload 4, 2) := dw_21 (kcX2_isSafe_1 63 21 rfl) (kcX2_isSafe_2 0 4 rfl)
theorem dX2_isSafe_129 : decode cX2_isSafe 129 = .ok (.if_icmp .gt 7, 3) := dw_163 (kcX2_isSafe_2 1 163 rfl) (kcX2_isSafe_2 2 0 rfl) (kcX2_isSafe_2 3 7 rfl) rfl
theorem dX2_isSafe_136 : decode cX2_isSafe 136 = .ok (.iconst 0, 1) := dw_3 (kcX2_isSafe_2 8 3 rfl)
theorem dX2_isSafe_137 : decode cX2_isSafe 137 = .ok (.istore 6, 2) := dw_54 (kcX2_isSafe_2 9 54 rfl) (kcX2_isSafe_2 10 6 rfl)
theorem dX2_isSafe_139 : decode cX2_isSafe 139 = .ok (.iload 6, 2) := dw_21 (kcX2_isSafe_2 11 21 rfl) (kcX2_isSafe_2 12 6 rfl)
theorem dX2_isSafe_141 : decode cX2_isSafe 141 = .ok (.ifCond .ne 29, 3) := dw_154 (kcX2_isSafe_2 13 154 rfl) (kcX2_isSafe_2 14 0 rfl) (kcX2_isSafe_2 15 29 rfl) rfl
theorem dX2_isSafe_144 : decode cX2_isSafe 144 = .ok (.aload_n 0, 1) := dw_42 (kcX2_isSafe_2 16 42 rfl)
theorem dX2_isSafe_145 : decode cX2_isSafe 145 = .ok (.iload_n 1, 1) := dw_27 (kcX2_isSafe_2 17 27 rfl)
theorem dX2_isSafe_146 : decode cX2_isSafe 146 = .ok (.iload_n 2, 1) := dw_28 (kcX2_isSafe_2 18 28 rfl)
theorem dX2_isSafe_147 : decode cX2_isSafe 147 = .ok (.iload 4, 2) := dw_21 (kcX2_isSafe_2 19 21 rfl) (kcX2_isSafe_2 20 4 rfl)
theorem dX2_isSafe_149 : decode cX2_isSafe 149 = .ok (.invokevirtual 149, 3) := dw_182 (kcX2_isSafe_2 21 182 rfl) (kcX2_isSafe_2 22 0 rfl) (kcX2_isSafe_2 23 149 rfl) rfl
theorem dX2_isSafe_152 : decode cX2_isSafe 152 = .ok (.aload_n 0, 1) := dw_42 (kcX2_isSafe_2 24 42 rfl)
theorem dX2_isSafe_153 : decode cX2_isSafe 153 = .ok (.getfield 54, 3) := dw_180 (kcX2_isSafe_2 25 180 rfl) (kcX2_isSafe_2 26 0 rfl) (kcX2_isSafe_2 27 54 rfl) rfl
theorem dX2_isSafe_156 : decode cX2_isSafe 156 = .ok (.iload_n 3, 1) := dw_29 (kcX2_isSafe_2 28 29 rfl)
theorem dX2_isSafe_157 : decode cX2_isSafe 157 = .ok (.iaload, 1) := dw_46 (kcX2_isSafe_2 29 46 rfl)
theorem dX2_isSafe_158 : decode cX2_isSafe 158 = .ok (.iload 4, 2) := dw_21 (kcX2_isSafe_2 30 21 rfl) (kcX2_isSafe_2 31 4 rfl)
theorem dX2_isSafe_160 : decode cX2_isSafe 160 = .ok (.if_icmp .gt 7, 3) := dw_163 (kcX2_isSafe_2 32 163 rfl) (kcX2_isSafe_2 33 0 rfl) (kcX2_isSafe_2 34 7 rfl) rfl
theorem dX2_isSafe_167 : decode cX2_isSafe 167 = .ok (.iconst 0, 1) := dw_3 (kcX2_isSafe_2 39 3 rfl)
theorem dX2_isSafe_168 : decode cX2_isSafe 168 = .ok (.istore 6, 2) := dw_54 (kcX2_isSafe_2 40 54 rfl) (kcX2_isSafe_2 41 6 rfl)
theorem dX2_isSafe_163 : decode cX2_isSafe 163 = .ok (.iconst 1, 1) := dw_4 (kcX2_isSafe_2 35 4 rfl)
theorem dX2_isSafe_164 : decode cX2_isSafe 164 = .ok (.goto 4, 3) := dw_167 (kcX2_isSafe_2 36 167 rfl) (kcX2_isSafe_2 37 0 rfl) (kcX2_isSafe_2 38 4 rfl) rfl
theorem dX2_isSafe_132 : decode cX2_isSafe 132 = .ok (.iconst 1, 1) := dw_4 (kcX2_isSafe_2 4 4 rfl)
theorem dX2_isSafe_133 : decode cX2_isSafe 133 = .ok (.goto 4, 3) := dw_167 (kcX2_isSafe_2 5 167 rfl) (kcX2_isSafe_2 6 0 rfl) (kcX2_isSafe_2 7 4 rfl) rfl
theorem dX2_isSafe_37 : decode cX2_isSafe 37 = .ok (.getfield 51, 3) := dw_180 (kcX2_isSafe_0 37 180 rfl) (kcX2_isSafe_0 38 0 rfl) (kcX2_isSafe_0 39 51 rfl) rfl
theorem dX2_isSafe_40 : decode cX2_isSafe 40 = .ok (.iload_n 3, 1) := dw_29 (kcX2_isSafe_0 40 29 rfl)
theorem dX2_isSafe_41 : decode cX2_isSafe 41 = .ok (.baload, 1) := dw_51 (kcX2_isSafe_0 41 51 rfl)
theorem dX2_isSafe_42 : decode cX2_isSafe 42 = .ok (.ifCond .ne 31, 3) := dw_154 (kcX2_isSafe_0 42 154 rfl) (kcX2_isSafe_0 43 0 rfl) (kcX2_isSafe_0 44 31 rfl) rfl
theorem dX2_isSafe_73 : decode cX2_isSafe 73 = .ok (.iload 4, 2) := dw_21 (kcX2_isSafe_1 9 21 rfl) (kcX2_isSafe_1 10 4 rfl)
theorem dX2_isSafe_75 : decode cX2_isSafe 75 = .ok (.aload_n 0, 1) := dw_42 (kcX2_isSafe_1 11 42 rfl)
theorem dX2_isSafe_76 : decode cX2_isSafe 76 = .ok (.getfield 57, 3) := dw_180 (kcX2_isSafe_1 12 180 rfl) (kcX2_isSafe_1 13 0 rfl) (kcX2_isSafe_1 14 57 rfl) rfl
theorem dX2_isSafe_79 : decode cX2_isSafe 79 = .ok (.iload_n 3, 1) := dw_29 (kcX2_isSafe_1 15 29 rfl)
theorem dX2_isSafe_80 : decode cX2_isSafe 80 = .ok (.iaload, 1) := dw_46 (kcX2_isSafe_1 16 46 rfl)
theorem dX2_isSafe_81 : decode cX2_isSafe 81 = .ok (.if_icmp .lt 14, 3) := dw_161 (kcX2_isSafe_1 17 161 rfl) (kcX2_isSafe_1 18 0 rfl) (kcX2_isSafe_1 19 14 rfl) rfl
theorem dX2_isSafe_95 : decode cX2_isSafe 95 = .ok (.iconst 0, 1) := dw_3 (kcX2_isSafe_1 31 3 rfl)
theorem dX2_isSafe_96 : decode cX2_isSafe 96 = .ok (.ireturn, 1) := dw_172 (kcX2_isSafe_1 32 172 rfl)
theorem dX2_isSafe_84 : decode cX2_isSafe 84 = .ok (.iload 5, 2) := dw_21 (kcX2_isSafe_1 20 21 rfl) (kcX2_isSafe_1 21 5 rfl)
theorem dX2_isSafe_86 : decode cX2_isSafe 86 = .ok (.aload_n 0, 1) := dw_42 (kcX2_isSafe_1 22 42 rfl)
theorem dX2_isSafe_87 : decode cX2_isSafe 87 = .ok (.getfield 60, 3) := dw_180 (kcX2_isSafe_1 23 180 rfl) (kcX2_isSafe_1 24 0 rfl) (kcX2_isSafe_1 25 60 rfl) rfl
theorem dX2_isSafe_90 : decode cX2_isSafe 90 = .ok (.iload_n 3, 1) := dw_29 (kcX2_isSafe_1 26 29 rfl)
theorem dX2_isSafe_91 : decode cX2_isSafe 91 = .ok (.iaload, 1) := dw_46 (kcX2_isSafe_1 27 46 rfl)
theorem dX2_isSafe_92 : decode cX2_isSafe 92 = .ok (.if_icmp .le 5, 3) := dw_164 (kcX2_isSafe_1 28 164 rfl) (kcX2_isSafe_1 29 0 rfl) (kcX2_isSafe_1 30 5 rfl) rfl
theorem dX2_isSafe_97 : decode cX2_isSafe 97 = .ok (.aload_n 0, 1) := dw_42 (kcX2_isSafe_1 33 42 rfl)
theorem dX2_isSafe_98 : decode cX2_isSafe 98 = .ok (.getfield 24, 3) := dw_180 (kcX2_isSafe_1 34 180 rfl) (kcX2_isSafe_1 35 0 rfl) (kcX2_isSafe_1 36 24 rfl) rfl
theorem dX2_isSafe_101 : decode cX2_isSafe 101 = .ok (.aload_n 0, 1) := dw_42 (kcX2_isSafe_1 37 42 rfl)
theorem dX2_isSafe_102 : decode cX2_isSafe 102 = .ok (.getfield 38, 3) := dw_180 (kcX2_isSafe_1 38 180 rfl) (kcX2_isSafe_1 39 0 rfl) (kcX2_isSafe_1 40 38 rfl) rfl
theorem dX2_isSafe_105 : decode cX2_isSafe 105 = .ok (.iload_n 1, 1) := dw_27 (kcX2_isSafe_1 41 27 rfl)
theorem dX2_isSafe_106 : decode cX2_isSafe 106 = .ok (.iaload, 1) := dw_46 (kcX2_isSafe_1 42 46 rfl)
theorem dX2_isSafe_107 : decode cX2_isSafe 107 = .ok (.if_icmp .eq 14, 3) := dw_159 (kcX2_isSafe_1 43 159 rfl) (kcX2_isSafe_1 44 0 rfl) (kcX2_isSafe_1 45 14 rfl) rfl
theorem dX2_isSafe_110 : decode cX2_isSafe 110 = .ok (.aload_n 0, 1) := dw_42 (kcX2_isSafe_1 46 42 rfl)
theorem dX2_isSafe_111 : decode cX2_isSafe 111 = .ok (.aload_n 0, 1) := dw_42 (kcX2_isSafe_1 47 42 rfl)
theorem dX2_isSafe_112 : decode cX2_isSafe 112 = .ok (.getfield 38, 3) := dw_180 (kcX2_isSafe_1 48 180 rfl) (kcX2_isSafe_1 49 0 rfl) (kcX2_isSafe_1 50 38 rfl) rfl
theorem dX2_isSafe_115 : decode cX2_isSafe 115 = .ok (.iload_n 1, 1) := dw_27 (kcX2_isSafe_1 51 27 rfl)
theorem dX2_isSafe_116 : decode cX2_isSafe 116 = .ok (.iaload, 1) := dw_46 (kcX2_isSafe_1 52 46 rfl)
theorem dX2_isSafe_117 : decode cX2_isSafe 117 = .ok (.iconst 0, 1) := dw_3 (kcX2_isSafe_1 53 3 rfl)
theorem dX2_isSafe_118 : decode cX2_isSafe 118 = .ok (.invokevirtual 146, 3) := dw_182 (kcX2_isSafe_1 54 182 rfl) (kcX2_isSafe_1 55 0 rfl) (kcX2_isSafe_1 56 146 rfl) rfl
theorem dX2_isSafe_45 : decode cX2_isSafe 45 = .ok (.iload 4, 2) := dw_21 (kcX2_isSafe_0 45 21 rfl) (kcX2_isSafe_0 46 4 rfl)
theorem dX2_isSafe_47 : decode cX2_isSafe 47 = .ok (.aload_n 0, 1) := dw_42 (kcX2_isSafe_0 47 42 rfl)
theorem dX2_isSafe_48 : decode cX2_isSafe 48 = .ok (.getfield 45, 3) := dw_180 (kcX2_isSafe_0 48 180 rfl) (kcX2_isSafe_0 49 0 rfl) (kcX2_isSafe_0 50 45 rfl) rfl
theorem dX2_isSafe_51 : decode cX2_isSafe 51 = .ok (.iload_n 3, 1) := dw_29 (kcX2_isSafe_0 51 29 rfl)
theorem dX2_isSafe_52 : decode cX2_isSafe 52 = .ok (.iaload, 1) := dw_46 (kcX2_isSafe_0 52 46 rfl)
theorem dX2_isSafe_53 : decode cX2_isSafe 53 = .ok (.if_icmp .ne 18, 3) := dw_160 (kcX2_isSafe_0 53 160 rfl) (kcX2_isSafe_0 54 0 rfl) (kcX2_isSafe_0 55 18 rfl) rfl
theorem dX2_isSafe_71 : decode cX2_isSafe 71 = .ok (.iconst 0, 1) := dw_3 (kcX2_isSafe_1 7 3 rfl)
theorem dX2_isSafe_72 : decode cX2_isSafe 72 = .ok (.ireturn, 1) := dw_172 (kcX2_isSafe_1 8 172 rfl)
theorem dX2_isSafe_56 : decode cX2_isSafe 56 = .ok (.iload 5, 2) := dw_21 (kcX2_isSafe_0 56 21 rfl) (kcX2_isSafe_0 57 5 rfl)
theorem dX2_isSafe_58 : decode cX2_isSafe 58 = .ok (.aload_n 0, 1) := dw_42 (kcX2_isSafe_0 58 42 rfl)
theorem dX2_isSafe_59 : decode cX2_isSafe 59 = .ok (.getfield 45, 3) := dw_180 (kcX2_isSafe_0 59 180 rfl) (kcX2_isSafe_0 60 0 rfl) (kcX2_isSafe_0 61 45 rfl) rfl
theorem dX2_isSafe_62 : decode cX2_isSafe 62 = .ok (.iload_n 3, 1) := dw_29 (kcX2_isSafe_0 62 29 rfl)
theorem dX2_isSafe_63 : decode cX2_isSafe 63 = .ok (.iaload, 1) := dw_46 (kcX2_isSafe_0 63 46 rfl)
theorem dX2_isSafe_64 : decode cX2_isSafe 64 = .ok (.if_icmp .ne 7, 3) := dw_160 (kcX2_isSafe_1 0 160 rfl) (kcX2_isSafe_1 1 0 rfl) (kcX2_isSafe_1 2 7 rfl) rfl
theorem dX2_isSafe_67 : decode cX2_isSafe 67 = .ok (.iconst 1, 1) := dw_4 (kcX2_isSafe_1 3 4 rfl)
theorem dX2_isSafe_68 : decode cX2_isSafe 68 = .ok (.goto 4, 3) := dw_167 (kcX2_isSafe_1 4 167 rfl) (kcX2_isSafe_1 5 0 rfl) (kcX2_isSafe_1 6 4 rfl) rfl
theorem kcX2_countUnsafe_0 : CHb cX2_countUnsafe 0 [3, 60, 3, 61, 28, 42, 180, 0, 9, 162, 0, 50, 3, 62, 29, 42, 180, 0, 15, 162, 0, 34, 42, 180, 0, 48, 28, 29, 184, 0, 89, 46, 153, 0, 15, 42, 28, 29, 182, 0, 155, 154, 0, 6, 132, 1, 1, 132, 3, 1, 167, 255, 220, 132, 2, 1, 167, 255, 204, 27, 172] := CHb_of (by decide +kernel)
theorem dX2_countUnsafe_0 : decode cX2_countUnsafe 0 = .ok (.iconst 0, 1) := dw_3 (kcX2_countUnsafe_0 0 3 rfl)
theorem dX2_countUnsafe_1 : decode cX2_countUnsafe 1 = .ok (.istore_n 1, 1) := dw_60 (kcX2_countUnsafe_0 1 60 rfl)
theorem dX2_countUnsafe_2 : decode cX2_countUnsafe 2 = .ok (.iconst 0, 1) := dw_3 (kcX2_countUnsafe_0 2 3 rfl)
theorem dX2_countUnsafe_3 : decode cX2_countUnsafe 3 = .ok (.istore_n 2, 1) := dw_61 (kcX2_countUnsafe_0 3 61 rfl)
theorem dX2_countUnsafe_4 : decode cX2_countUnsafe 4 = .ok (.iload_n 2, 1) := dw_28 (kcX2_countUnsafe_0 4 28 rfl)
theorem dX2_countUnsafe_5 : decode cX2_countUnsafe 5 = .ok (.aload_n 0, 1) := dw_42 (kcX2_countUnsafe_0 5 42 rfl)
theorem dX2_countUnsafe_6 : decode cX2_countUnsafe 6 = .ok (.getfield 9, 3) := dw_180 (kcX2_countUnsafe_0 6 180 rfl) (kcX2_countUnsafe_0 7 0 rfl) (kcX2_countUnsafe_0 8 9 rfl) rfl
theorem dX2_countUnsafe_9 : decode cX2_countUnsafe 9 = .ok (.if_icmp .ge 50, 3) := dw_162 (kcX2_countUnsafe_0 9 162 rfl) (kcX2_countUnsafe_0 10 0 rfl) (kcX2_countUnsafe_0 11 50 rfl) rfl
theorem dX2_countUnsafe_59 : decode cX2_countUnsafe 59 = .ok (.iload_n 1, 1) := dw_27 (kcX2_countUnsafe_0 59 27 rfl)
theorem dX2_countUnsafe_60 : decode cX2_countUnsafe 60 = .ok (.ireturn, 1) := dw_172 (kcX2_countUnsafe_0 60 172 rfl)
theorem dX2_countUnsafe_12 : decode cX2_countUnsafe 12 = .ok (.iconst 0, 1) := dw_3 (kcX2_countUnsafe_0 12 3 rfl)
theorem dX2_countUnsafe_13 : decode cX2_countUnsafe 13 = .ok (.istore_n 3, 1) := dw_62 (kcX2_countUnsafe_0 13 62 rfl)
theorem dX2_countUnsafe_14 : decode cX2_countUnsafe 14 = .ok (.iload_n 3, 1) := dw_29 (kcX2_countUnsafe_0 14 29 rfl)
theorem dX2_countUnsafe_15 : decode cX2_countUnsafe 15 = .ok (.aload_n 0, 1) := dw_42 (kcX2_countUnsafe_0 15 42 rfl)
theorem dX2_countUnsafe_16 : decode cX2_countUnsafe 16 = .ok (.getfield 15, 3) := dw_180 (kcX2_countUnsafe_0 16 180 rfl) (kcX2_countUnsafe_0 17 0 rfl) (kcX2_countUnsafe_0 18 15 rfl) rfl
theorem dX2_countUnsafe_19 : decode cX2_countUnsafe 19 = .ok (.if_icmp .ge 34, 3) := dw_162 (kcX2_countUnsafe_0 19 162 rfl) (kcX2_countUnsafe_0 20 0 rfl) (kcX2_countUnsafe_0 21 34 rfl) rfl
theorem dX2_countUnsafe_53 : decode cX2_countUnsafe 53 = .ok (.iinc 2 1, 3) := dw_132 (kcX2_countUnsafe_0 53 132 rfl) (kcX2_countUnsafe_0 54 2 rfl) (kcX2_countUnsafe_0 55 1 rfl) rfl
theorem dX2_countUnsafe_56 : decode cX2_countUnsafe 56 = .ok (.goto (-52), 3) := dw_167 (kcX2_countUnsafe_0 56 167 rfl) (kcX2_countUnsafe_0 57 255 rfl) (kcX2_countUnsafe_0 58 204 rfl) rfl
theorem dX2_countUnsafe_22 : decode cX2_countUnsafe 22 = .ok (.aload_n 0, 1) := dw_42 (kcX2_countUnsafe_0 22 42 rfl)
theorem dX2_countUnsafe_23 : decode cX2_countUnsafe 23 = .ok (.getfield 48, 3) := dw_180 (kcX2_countUnsafe_0 23 180 rfl) (kcX2_countUnsafe_0 24 0 rfl) (kcX2_countUnsafe_0 25 48 rfl) rfl
theorem dX2_countUnsafe_26 : decode cX2_countUnsafe 26 = .ok (.iload_n 2, 1) := dw_28 (kcX2_countUnsafe_0 26 28 rfl)
theorem dX2_countUnsafe_27 : decode cX2_countUnsafe 27 = .ok (.iload_n 3, 1) := dw_29 (kcX2_countUnsafe_0 27 29 rfl)
theorem dX2_countUnsafe_28 : decode cX2_countUnsafe 28 = .ok (.invokestatic 89, 3) := dw_184 (kcX2_countUnsafe_0 28 184 rfl) (kcX2_countUnsafe_0 29 0 rfl) (kcX2_countUnsafe_0 30 89 rfl) rfl
theorem dX2_countUnsafe_31 : decode cX2_countUnsafe 31 = .ok (.iaload, 1) := dw_46 (kcX2_countUnsafe_0 31 46 rfl)
theorem dX2_countUnsafe_32 : decode cX2_countUnsafe 32 = .ok (.ifCond .eq 15, 3) := dw_153 (kcX2_countUnsafe_0 32 153 rfl) (kcX2_countUnsafe_0 33 0 rfl) (kcX2_countUnsafe_0 34 15 rfl) rfl
theorem dX2_countUnsafe_47 : decode cX2_countUnsafe 47 = .ok (.iinc 3 1, 3) := dw_132 (kcX2_countUnsafe_0 47 132 rfl) (kcX2_countUnsafe_0 48 3 rfl) (kcX2_countUnsafe_0 49 1 rfl) rfl
theorem dX2_countUnsafe_50 : decode cX2_countUnsafe 50 = .ok (.goto (-36), 3) := dw_167 (kcX2_countUnsafe_0 50 167 rfl) (kcX2_countUnsafe_0 51 255 rfl) (kcX2_countUnsafe_0 52 220 rfl) rfl
theorem dX2_countUnsafe_35 : decode cX2_countUnsafe 35 = .ok (.aload_n 0, 1) := dw_42 (kcX2_countUnsafe_0 35 42 rfl)
theorem dX2_countUnsafe_36 : decode cX2_countUnsafe 36 = .ok (.iload_n 2, 1) := dw_28 (kcX2_countUnsafe_0 36 28 rfl)
theorem dX2_countUnsafe_37 : decode cX2_countUnsafe 37 = .ok (.iload_n 3, 1) := dw_29 (kcX2_countUnsafe_0 37 29 rfl)
theorem dX2_countUnsafe_38 : decode cX2_countUnsafe 38 = .ok (.invokevirtual 155, 3) := dw_182 (kcX2_countUnsafe_0 38 182 rfl) (kcX2_countUnsafe_0 39 0 rfl) (kcX2_countUnsafe_0 40 155 rfl) rfl
theorem dX2_countUnsafe_41 : decode cX2_countUnsafe 41 = .ok (.ifCond .ne 6, 3) := dw_154 (kcX2_countUnsafe_0 41 154 rfl) (kcX2_countUnsafe_0 42 0 rfl) (kcX2_countUnsafe_0 43 6 rfl) rfl
theorem dX2_countUnsafe_44 : decode cX2_countUnsafe 44 = .ok (.iinc 1 1, 3) := dw_132 (kcX2_countUnsafe_0 44 132 rfl) (kcX2_countUnsafe_0 45 1 rfl) (kcX2_countUnsafe_0 46 1 rfl) rfl