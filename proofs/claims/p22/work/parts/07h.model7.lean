theorem mf_X7_101 : Cond.fieldLink RX7 101 "CellKeeperModel" "before" "[I" ∈ TB := TB_t4 137 rfl rfl
theorem mf_X7_104 : Cond.fieldLink RX7 104 "CellKeeperModel" "line" "[I" ∈ TB := TB_t4 138 rfl rfl
theorem mf_X7_98 : Cond.fieldLink RX7 98 "CellKeeperModel" "capacity" "[I" ∈ TB := TB_t4 136 rfl rfl
theorem ml_X7_261 : Cond.methodLink RX7 261 yX7_flow ∈ TB := TB_t6 24 rfl rfl
theorem mcode_yX7_flow : Cond.code yX7_flow cX7_flow 6 (some .int) ∈ TB := TB_t6 27 rfl rfl
theorem mi_yX7_flow : MI yX7_flow cX7_flow 6 (some .int) 0 := ⟨mz_RX7, mcode_yX7_flow, by decide +kernel, by decide +kernel, by decide +kernel⟩
theorem mim_yX7_flow : Cond.instanceMethod yX7_flow ∈ TB := TB_t6 26 rfl rfl
theorem msel_yX7_flow : Cond.selects yX7_flow.cls yX7_flow yX7_flow ∈ TB := TB_s (n := 43) 75 (by decide +kernel)
theorem mv_yX7_flow : Cond.instanceMethod yX7_flow ∈ TB ∧ Cond.selects yX7_flow.cls yX7_flow yX7_flow ∈ TB := ⟨mim_yX7_flow, msel_yX7_flow⟩
theorem mf_X7_89 : Cond.fieldLink RX7 89 "CellKeeperModel" "side" "[I" ∈ TB := TB_t4 131 rfl rfl
theorem ml_X7_254 : Cond.methodLink RX7 254 yJ9_max_7cf53 ∈ TB := TB_t6 19 rfl rfl
theorem mst_yJ9_max_7cf53 : Cond.static yJ9_max_7cf53 ∈ TB := TB_t3 117 rfl rfl
theorem mcode_yJ9_max_7cf53 : Cond.code yJ9_max_7cf53 cJ9_max_7cf53 2 (some .int) ∈ TB := TB_t3 118 rfl rfl
theorem ml_X7_257 : Cond.methodLink RX7 257 yX7_bound ∈ TB := TB_t6 20 rfl rfl
theorem mcode_yX7_bound : Cond.code yX7_bound cX7_bound 5 none ∈ TB := TB_t6 23 rfl rfl
theorem mi_yX7_bound : MI yX7_bound cX7_bound 5 none 4 := ⟨mz_RX7, mcode_yX7_bound, by decide +kernel, by decide +kernel, by decide +kernel⟩
theorem mim_yX7_bound : Cond.instanceMethod yX7_bound ∈ TB := TB_t6 22 rfl rfl
theorem msel_yX7_bound : Cond.selects yX7_bound.cls yX7_bound yX7_bound ∈ TB := TB_s (n := 43) 74 (by decide +kernel)
theorem mv_yX7_bound : Cond.instanceMethod yX7_bound ∈ TB ∧ Cond.selects yX7_bound.cls yX7_bound yX7_bound ∈ TB := ⟨mim_yX7_bound, msel_yX7_bound⟩
theorem ml_X7_271 : Cond.methodLink RX7 271 yX7_canBe ∈ TB := TB_t6 15 rfl rfl
theorem mcode_yX7_canBe : Cond.code yX7_canBe cX7_canBe 10 (some .boolean) ∈ TB := TB_t6 18 rfl rfl
theorem mi_yX7_canBe : MI yX7_canBe cX7_canBe 10 (some .boolean) 3 := ⟨mz_RX7, mcode_yX7_canBe, by decide +kernel, by decide +kernel, by decide +kernel⟩
theorem mim_yX7_canBe : Cond.instanceMethod yX7_canBe ∈ TB := TB_t6 17 rfl rfl
theorem msel_yX7_canBe : Cond.selects yX7_canBe.cls yX7_canBe yX7_canBe ∈ TB := TB_s (n := 43) 73 (by decide +kernel)
theorem mv_yX7_canBe : Cond.instanceMethod yX7_canBe ∈ TB ∧ Cond.selects yX7_canBe.cls yX7_canBe yX7_canBe ∈ TB := ⟨mim_yX7_canBe, msel_yX7_canBe⟩
theorem kcX7_flow_0 : CHb cX7_flow 0 [3, 60, 3, 61, 28, 16, 28, 162, 0, 16, 42, 180, 0, 101, 28, 2, 79, 132, 2, 1, 167, 255, 240, 42, 180, 0, 101, 16, 26, 16, 26, 79, 42, 180, 0, 104, 3, 16, 26, 79, 4, 61, 3, 62, 29, 28, 162, 0, 94, 42, 180, 0, 101, 16, 27, 46, 2, 160, 0, 83, 42, 180, 0, 104] := CHb_of (by decide +kernel)
theorem dX7_flow_0 : decode cX7_flow 0 = .ok (.iconst 0, 1) := dw_3 (kcX7_flow_0 0 3 rfl)
theorem dX7_flow_1 : decode cX7_flow 1 = .ok (.istore_n 1, 1) := dw_60 (kcX7_flow_0 1 60 rfl)
theorem dX7_flow_2 : decode cX7_flow 2 = .ok (.iconst 0, 1) := dw_3 (kcX7_flow_0 2 3 rfl)
theorem dX7_flow_3 : decode cX7_flow 3 = .ok (.istore_n 2, 1) := dw_61 (kcX7_flow_0 3 61 rfl)
theorem dX7_flow_4 : decode cX7_flow 4 = .ok (.iload_n 2, 1) := dw_28 (kcX7_flow_0 4 28 rfl)
theorem dX7_flow_5 : decode cX7_flow 5 = .ok (.bipush 28, 2) := dw_16 (kcX7_flow_0 5 16 rfl) (kcX7_flow_0 6 28 rfl) rfl
theorem dX7_flow_7 : decode cX7_flow 7 = .ok (.if_icmp .ge 16, 3) := dw_162 (kcX7_flow_0 7 162 rfl) (kcX7_flow_0 8 0 rfl) (kcX7_flow_0 9 16 rfl) rfl
theorem dX7_flow_10 : decode cX7_flow 10 = .ok (.aload_n 0, 1) := dw_42 (kcX7_flow_0 10 42 rfl)
theorem dX7_flow_11 : decode cX7_flow 11 = .ok (.getfield 101, 3) := dw_180 (kcX7_flow_0 11 180 rfl) (kcX7_flow_0 12 0 rfl) (kcX7_flow_0 13 101 rfl) rfl
theorem dX7_flow_14 : decode cX7_flow 14 = .ok (.iload_n 2, 1) := dw_28 (kcX7_flow_0 14 28 rfl)
theorem dX7_flow_15 : decode cX7_flow 15 = .ok (.iconst (-1), 1) := dw_2 (kcX7_flow_0 15 2 rfl)
theorem dX7_flow_16 : decode cX7_flow 16 = .ok (.iastore, 1) := dw_79 (kcX7_flow_0 16 79 rfl)
theorem dX7_flow_17 : decode cX7_flow 17 = .ok (.iinc 2 1, 3) := dw_132 (kcX7_flow_0 17 132 rfl) (kcX7_flow_0 18 2 rfl) (kcX7_flow_0 19 1 rfl) rfl
theorem dX7_flow_20 : decode cX7_flow 20 = .ok (.goto (-16), 3) := dw_167 (kcX7_flow_0 20 167 rfl) (kcX7_flow_0 21 255 rfl) (kcX7_flow_0 22 240 rfl) rfl
theorem dX7_flow_23 : decode cX7_flow 23 = .ok (.aload_n 0, 1) := dw_42 (kcX7_flow_0 23 42 rfl)
theorem dX7_flow_24 : decode cX7_flow 24 = .ok (.getfield 101, 3) := dw_180 (kcX7_flow_0 24 180 rfl) (kcX7_flow_0 25 0 rfl) (kcX7_flow_0 26 101 rfl) rfl
theorem dX7_flow_27 : decode cX7_flow 27 = .ok (.bipush 26, 2) := dw_16 (kcX7_flow_0 27 16 rfl) (kcX7_flow_0 28 26 rfl) rfl
theorem dX7_flow_29 : decode cX7_flow 29 = .ok (.bipush 26, 2) := dw_16 (kcX7_flow_0 29 16 rfl) (kcX7_flow_0 30 26 rfl) rfl
theorem dX7_flow_31 : decode cX7_flow 31 = .ok (.iastore, 1) := dw_79 (kcX7_flow_0 31 79 rfl)
theorem dX7_flow_32 : decode cX7_flow 32 = .ok (.aload_n 0, 1) := dw_42 (kcX7_flow_0 32 42 rfl)
theorem dX7_flow_33 : decode cX7_flow 33 = .ok (.getfield 104, 3) := dw_180 (kcX7_flow_0 33 180 rfl) (kcX7_flow_0 34 0 rfl) (kcX7_flow_0 35 104 rfl) rfl
theorem dX7_flow_36 : decode cX7_flow 36 = .ok (.iconst 0, 1) := dw_3 (kcX7_flow_0 36 3 rfl)
theorem dX7_flow_37 : decode cX7_flow 37 = .ok (.bipush 26, 2) := dw_16 (kcX7_flow_0 37 16 rfl) (kcX7_flow_0 38 26 rfl) rfl
theorem dX7_flow_39 : decode cX7_flow 39 = .ok (.iastore, 1) := dw_79 (kcX7_flow_0 39 79 rfl)
theorem dX7_flow_40 : decode cX7_flow 40 = .ok (.iconst 1, 1) := dw_4 (kcX7_flow_0 40 4 rfl)
theorem dX7_flow_41 : decode cX7_flow 41 = .ok (.istore_n 2, 1) := dw_61 (kcX7_flow_0 41 61 rfl)
theorem dX7_flow_42 : decode cX7_flow 42 = .ok (.iconst 0, 1) := dw_3 (kcX7_flow_0 42 3 rfl)
theorem dX7_flow_43 : decode cX7_flow 43 = .ok (.istore_n 3, 1) := dw_62 (kcX7_flow_0 43 62 rfl)
theorem dX7_flow_44 : decode cX7_flow 44 = .ok (.iload_n 3, 1) := dw_29 (kcX7_flow_0 44 29 rfl)
theorem dX7_flow_45 : decode cX7_flow 45 = .ok (.iload_n 2, 1) := dw_28 (kcX7_flow_0 45 28 rfl)
theorem dX7_flow_46 : decode cX7_flow 46 = .ok (.if_icmp .ge 94, 3) := dw_162 (kcX7_flow_0 46 162 rfl) (kcX7_flow_0 47 0 rfl) (kcX7_flow_0 48 94 rfl) rfl
theorem kcX7_flow_2 : CHb cX7_flow 128 [132, 5, 1, 167, 255, 196, 132, 3, 1, 167, 255, 163, 42, 180, 0, 101, 16, 27, 46, 2, 160, 0, 5, 27, 172, 18, 195, 62, 16, 27, 54, 4, 21, 4, 16, 26, 159, 0, 38, 29, 42, 180, 0, 98, 16, 28, 42, 180, 0, 101, 21, 4, 46, 104, 21, 4, 96, 46, 184, 0, 207, 62, 42, 180] := CHb_of (by decide +kernel)
theorem dX7_flow_140 : decode cX7_flow 140 = .ok (.aload_n 0, 1) := dw_42 (kcX7_flow_2 12 42 rfl)
theorem dX7_flow_141 : decode cX7_flow 141 = .ok (.getfield 101, 3) := dw_180 (kcX7_flow_2 13 180 rfl) (kcX7_flow_2 14 0 rfl) (kcX7_flow_2 15 101 rfl) rfl
theorem dX7_flow_144 : decode cX7_flow 144 = .ok (.bipush 27, 2) := dw_16 (kcX7_flow_2 16 16 rfl) (kcX7_flow_2 17 27 rfl) rfl
theorem dX7_flow_146 : decode cX7_flow 146 = .ok (.iaload, 1) := dw_46 (kcX7_flow_2 18 46 rfl)
theorem dX7_flow_147 : decode cX7_flow 147 = .ok (.iconst (-1), 1) := dw_2 (kcX7_flow_2 19 2 rfl)
theorem dX7_flow_148 : decode cX7_flow 148 = .ok (.if_icmp .ne 5, 3) := dw_160 (kcX7_flow_2 20 160 rfl) (kcX7_flow_2 21 0 rfl) (kcX7_flow_2 22 5 rfl) rfl
theorem dX7_flow_153 : decode cX7_flow 153 = .ok (.ldc 195, 2) := dw_18 (kcX7_flow_2 25 18 rfl) (kcX7_flow_2 26 195 rfl)
theorem dX7_flow_155 : decode cX7_flow 155 = .ok (.istore_n 3, 1) := dw_62 (kcX7_flow_2 27 62 rfl)
theorem dX7_flow_156 : decode cX7_flow 156 = .ok (.bipush 27, 2) := dw_16 (kcX7_flow_2 28 16 rfl) (kcX7_flow_2 29 27 rfl) rfl
theorem dX7_flow_158 : decode cX7_flow 158 = .ok (.istore 4, 2) := dw_54 (kcX7_flow_2 30 54 rfl) (kcX7_flow_2 31 4 rfl)
theorem dX7_flow_160 : decode cX7_flow 160 = .ok (.iload 4, 2) := dw_21 (kcX7_flow_2 32 21 rfl) (kcX7_flow_2 33 4 rfl)
theorem dX7_flow_162 : decode cX7_flow 162 = .ok (.bipush 26, 2) := dw_16 (kcX7_flow_2 34 16 rfl) (kcX7_flow_2 35 26 rfl) rfl
theorem dX7_flow_164 : decode cX7_flow 164 = .ok (.if_icmp .eq 38, 3) := dw_159 (kcX7_flow_2 36 159 rfl) (kcX7_flow_2 37 0 rfl) (kcX7_flow_2 38 38 rfl) rfl
theorem dX7_flow_167 : decode cX7_flow 167 = .ok (.iload_n 3, 1) := dw_29 (kcX7_flow_2 39 29 rfl)
theorem dX7_flow_168 : decode cX7_flow 168 = .ok (.aload_n 0, 1) := dw_42 (kcX7_flow_2 40 42 rfl)
theorem dX7_flow_169 : decode cX7_flow 169 = .ok (.getfield 98, 3) := dw_180 (kcX7_flow_2 41 180 rfl) (kcX7_flow_2 42 0 rfl) (kcX7_flow_2 43 98 rfl) rfl
theorem dX7_flow_172 : decode cX7_flow 172 = .ok (.bipush 28, 2) := dw_16 (kcX7_flow_2 44 16 rfl) (kcX7_flow_2 45 28 rfl) rfl
theorem dX7_flow_174 : decode cX7_flow 174 = .ok (.aload_n 0, 1) := dw_42 (kcX7_flow_2 46 42 rfl)
theorem dX7_flow_175 : decode cX7_flow 175 = .ok (.getfield 101, 3) := dw_180 (kcX7_flow_2 47 180 rfl) (kcX7_flow_2 48 0 rfl) (kcX7_flow_2 49 101 rfl) rfl
theorem dX7_flow_178 : decode cX7_flow 178 = .ok (.iload 4, 2) := dw_21 (kcX7_flow_2 50 21 rfl) (kcX7_flow_2 51 4 rfl)
theorem dX7_flow_180 : decode cX7_flow 180 = .ok (.iaload, 1) := dw_46 (kcX7_flow_2 52 46 rfl)
theorem dX7_flow_181 : decode cX7_flow 181 = .ok (.imul, 1) := dw_104 (kcX7_flow_2 53 104 rfl)
theorem dX7_flow_182 : decode cX7_flow 182 = .ok (.iload 4, 2) := dw_21 (kcX7_flow_2 54 21 rfl) (kcX7_flow_2 55 4 rfl)
theorem dX7_flow_184 : decode cX7_flow 184 = .ok (.iadd, 1) := dw_96 (kcX7_flow_2 56 96 rfl)
theorem dX7_flow_185 : decode cX7_flow 185 = .ok (.iaload, 1) := dw_46 (kcX7_flow_2 57 46 rfl)
theorem dX7_flow_186 : decode cX7_flow 186 = .ok (.invokestatic 207, 3) := dw_184 (kcX7_flow_2 58 184 rfl) (kcX7_flow_2 59 0 rfl) (kcX7_flow_2 60 207 rfl) rfl
theorem dX7_flow_189 : decode cX7_flow 189 = .ok (.istore_n 3, 1) := dw_62 (kcX7_flow_2 61 62 rfl)
theorem dX7_flow_190 : decode cX7_flow 190 = .ok (.aload_n 0, 1) := dw_42 (kcX7_flow_2 62 42 rfl)
theorem kcX7_flow_3 : CHb cX7_flow 192 [0, 101, 21, 4, 46, 54, 4, 167, 255, 217, 16, 27, 54, 4, 21, 4, 16, 26, 159, 0, 59, 42, 180, 0, 98, 16, 28, 42, 180, 0, 101, 21, 4, 46, 104, 21, 4, 96, 92, 46, 29, 100, 79, 42, 180, 0, 98, 16, 28, 21, 4, 104, 42, 180, 0, 101, 21, 4, 46, 96, 92, 46, 29, 96] := CHb_of (by decide +kernel)
theorem dX7_flow_191 : decode cX7_flow 191 = .ok (.getfield 101, 3) := dw_180 (kcX7_flow_2 63 180 rfl) (kcX7_flow_3 0 0 rfl) (kcX7_flow_3 1 101 rfl) rfl
theorem dX7_flow_194 : decode cX7_flow 194 = .ok (.iload 4, 2) := dw_21 (kcX7_flow_3 2 21 rfl) (kcX7_flow_3 3 4 rfl)
theorem dX7_flow_196 : decode cX7_flow 196 = .ok (.iaload, 1) := dw_46 (kcX7_flow_3 4 46 rfl)
theorem dX7_flow_197 : decode cX7_flow 197 = .ok (.istore 4, 2) := dw_54 (kcX7_flow_3 5 54 rfl) (kcX7_flow_3 6 4 rfl)
theorem dX7_flow_199 : decode cX7_flow 199 = .ok (.goto (-39), 3) := dw_167 (kcX7_flow_3 7 167 rfl) (kcX7_flow_3 8 255 rfl) (kcX7_flow_3 9 217 rfl) rfl
theorem dX7_flow_202 : decode cX7_flow 202 = .ok (.bipush 27, 2) := dw_16 (kcX7_flow_3 10 16 rfl) (kcX7_flow_3 11 27 rfl) rfl
theorem dX7_flow_204 : decode cX7_flow 204 = .ok (.istore 4, 2) := dw_54 (kcX7_flow_3 12 54 rfl) (kcX7_flow_3 13 4 rfl)
theorem dX7_flow_206 : decode cX7_flow 206 = .ok (.iload 4, 2) := dw_21 (kcX7_flow_3 14 21 rfl) (kcX7_flow_3 15 4 rfl)
theorem dX7_flow_208 : decode cX7_flow 208 = .ok (.bipush 26, 2) := dw_16 (kcX7_flow_3 16 16 rfl) (kcX7_flow_3 17 26 rfl) rfl
theorem dX7_flow_210 : decode cX7_flow 210 = .ok (.if_icmp .eq 59, 3) := dw_159 (kcX7_flow_3 18 159 rfl) (kcX7_flow_3 19 0 rfl) (kcX7_flow_3 20 59 rfl) rfl
theorem dX7_flow_213 : decode cX7_flow 213 = .ok (.aload_n 0, 1) := dw_42 (kcX7_flow_3 21 42 rfl)
theorem dX7_flow_214 : decode cX7_flow 214 = .ok (.getfield 98, 3) := dw_180 (kcX7_flow_3 22 180 rfl) (kcX7_flow_3 23 0 rfl) (kcX7_flow_3 24 98 rfl) rfl
theorem dX7_flow_217 : decode cX7_flow 217 = .ok (.bipush 28, 2) := dw_16 (kcX7_flow_3 25 16 rfl) (kcX7_flow_3 26 28 rfl) rfl
theorem dX7_flow_219 : decode cX7_flow 219 = .ok (.aload_n 0, 1) := dw_42 (kcX7_flow_3 27 42 rfl)
theorem dX7_flow_220 : decode cX7_flow 220 = .ok (.getfield 101, 3) := dw_180 (kcX7_flow_3 28 180 rfl) (kcX7_flow_3 29 0 rfl) (kcX7_flow_3 30 101 rfl) rfl
theorem dX7_flow_223 : decode cX7_flow 223 = .ok (.iload 4, 2) := dw_21 (kcX7_flow_3 31 21 rfl) (kcX7_flow_3 32 4 rfl)
theorem dX7_flow_225 : decode cX7_flow 225 = .ok (.iaload, 1) := dw_46 (kcX7_flow_3 33 46 rfl)
theorem dX7_flow_226 : decode cX7_flow 226 = .ok (.imul, 1) := dw_104 (kcX7_flow_3 34 104 rfl)
theorem dX7_flow_227 : decode cX7_flow 227 = .ok (.iload 4, 2) := dw_21 (kcX7_flow_3 35 21 rfl) (kcX7_flow_3 36 4 rfl)
theorem dX7_flow_229 : decode cX7_flow 229 = .ok (.iadd, 1) := dw_96 (kcX7_flow_3 37 96 rfl)
theorem dX7_flow_230 : decode cX7_flow 230 = .ok (.dup2, 1) := dw_92 (kcX7_flow_3 38 92 rfl)
theorem dX7_flow_231 : decode cX7_flow 231 = .ok (.iaload, 1) := dw_46 (kcX7_flow_3 39 46 rfl)
theorem dX7_flow_232 : decode cX7_flow 232 = .ok (.iload_n 3, 1) := dw_29 (kcX7_flow_3 40 29 rfl)
theorem dX7_flow_233 : decode cX7_flow 233 = .ok (.isub, 1) := dw_100 (kcX7_flow_3 41 100 rfl)
theorem dX7_flow_234 : decode cX7_flow 234 = .ok (.iastore, 1) := dw_79 (kcX7_flow_3 42 79 rfl)
theorem dX7_flow_235 : decode cX7_flow 235 = .ok (.aload_n 0, 1) := dw_42 (kcX7_flow_3 43 42 rfl)
theorem dX7_flow_236 : decode cX7_flow 236 = .ok (.getfield 98, 3) := dw_180 (kcX7_flow_3 44 180 rfl) (kcX7_flow_3 45 0 rfl) (kcX7_flow_3 46 98 rfl) rfl
theorem dX7_flow_239 : decode cX7_flow 239 = .ok (.bipush 28, 2) := dw_16 (kcX7_flow_3 47 16 rfl) (kcX7_flow_3 48 28 rfl) rfl
theorem dX7_flow_241 : decode cX7_flow 241 = .ok (.iload 4, 2) := dw_21 (kcX7_flow_3 49 21 rfl) (kcX7_flow_3 50 4 rfl)
theorem dX7_flow_243 : decode cX7_flow 243 = .ok (.imul, 1) := dw_104 (kcX7_flow_3 51 104 rfl)
theorem dX7_flow_244 : decode cX7_flow 244 = .ok (.aload_n 0, 1) := dw_42 (kcX7_flow_3 52 42 rfl)
theorem dX7_flow_245 : decode cX7_flow 245 = .ok (.getfield 101, 3) := dw_180 (kcX7_flow_3 53 180 rfl) (kcX7_flow_3 54 0 rfl) (kcX7_flow_3 55 101 rfl) rfl
theorem dX7_flow_248 : decode cX7_flow 248 = .ok (.iload 4, 2) := dw_21 (kcX7_flow_3 56 21 rfl) (kcX7_flow_3 57 4 rfl)
theorem dX7_flow_250 : decode cX7_flow 250 = .ok (.iaload, 1) := dw_46 (kcX7_flow_3 58 46 rfl)
theorem dX7_flow_251 : decode cX7_flow 251 = .ok (.iadd, 1) := dw_96 (kcX7_flow_3 59 96 rfl)
theorem dX7_flow_252 : decode cX7_flow 252 = .ok (.dup2, 1) := dw_92 (kcX7_flow_3 60 92 rfl)
theorem dX7_flow_253 : decode cX7_flow 253 = .ok (.iaload, 1) := dw_46 (kcX7_flow_3 61 46 rfl)
theorem dX7_flow_254 : decode cX7_flow 254 = .ok (.iload_n 3, 1) := dw_29 (kcX7_flow_3 62 29 rfl)
theorem dX7_flow_255 : decode cX7_flow 255 = .ok (.iadd, 1) := dw_96 (kcX7_flow_3 63 96 rfl)
theorem kcX7_flow_4 : CHb cX7_flow 256 [79, 42, 180, 0, 101, 21, 4, 46, 54, 4, 167, 255, 196, 27, 29, 96, 60, 167, 254, 241] := CHb_of (by decide +kernel)
theorem dX7_flow_256 : decode cX7_flow 256 = .ok (.iastore, 1) := dw_79 (kcX7_flow_4 0 79 rfl)
theorem dX7_flow_257 : decode cX7_flow 257 = .ok (.aload_n 0, 1) := dw_42 (kcX7_flow_4 1 42 rfl)
theorem dX7_flow_258 : decode cX7_flow 258 = .ok (.getfield 101, 3) := dw_180 (kcX7_flow_4 2 180 rfl) (kcX7_flow_4 3 0 rfl) (kcX7_flow_4 4 101 rfl) rfl
theorem dX7_flow_261 : decode cX7_flow 261 = .ok (.iload 4, 2) := dw_21 (kcX7_flow_4 5 21 rfl) (kcX7_flow_4 6 4 rfl)
theorem dX7_flow_263 : decode cX7_flow 263 = .ok (.iaload, 1) := dw_46 (kcX7_flow_4 7 46 rfl)
theorem dX7_flow_264 : decode cX7_flow 264 = .ok (.istore 4, 2) := dw_54 (kcX7_flow_4 8 54 rfl) (kcX7_flow_4 9 4 rfl)
theorem dX7_flow_266 : decode cX7_flow 266 = .ok (.goto (-60), 3) := dw_167 (kcX7_flow_4 10 167 rfl) (kcX7_flow_4 11 255 rfl) (kcX7_flow_4 12 196 rfl) rfl
theorem dX7_flow_269 : decode cX7_flow 269 = .ok (.iload_n 1, 1) := dw_27 (kcX7_flow_4 13 27 rfl)
theorem dX7_flow_270 : decode cX7_flow 270 = .ok (.iload_n 3, 1) := dw_29 (kcX7_flow_4 14 29 rfl)
theorem dX7_flow_271 : decode cX7_flow 271 = .ok (.iadd, 1) := dw_96 (kcX7_flow_4 15 96 rfl)
theorem dX7_flow_272 : decode cX7_flow 272 = .ok (.istore_n 1, 1) := dw_60 (kcX7_flow_4 16 60 rfl)
theorem dX7_flow_273 : decode cX7_flow 273 = .ok (.goto (-271), 3) := dw_167 (kcX7_flow_4 17 167 rfl) (kcX7_flow_4 18 254 rfl) (kcX7_flow_4 19 241 rfl) rfl
theorem dX7_flow_151 : decode cX7_flow 151 = .ok (.iload_n 1, 1) := dw_27 (kcX7_flow_2 23 27 rfl)
theorem dX7_flow_152 : decode cX7_flow 152 = .ok (.ireturn, 1) := dw_172 (kcX7_flow_2 24 172 rfl)
theorem dX7_flow_49 : decode cX7_flow 49 = .ok (.aload_n 0, 1) := dw_42 (kcX7_flow_0 49 42 rfl)
theorem dX7_flow_50 : decode cX7_flow 50 = .ok (.getfield 101, 3) := dw_180 (kcX7_flow_0 50 180 rfl) (kcX7_flow_0 51 0 rfl) (kcX7_flow_0 52 101 rfl) rfl
theorem dX7_flow_53 : decode cX7_flow 53 = .ok (.bipush 27, 2) := dw_16 (kcX7_flow_0 53 16 rfl) (kcX7_flow_0 54 27 rfl) rfl
theorem dX7_flow_55 : decode cX7_flow 55 = .ok (.iaload, 1) := dw_46 (kcX7_flow_0 55 46 rfl)
theorem dX7_flow_56 : decode cX7_flow 56 = .ok (.iconst (-1), 1) := dw_2 (kcX7_flow_0 56 2 rfl)
theorem dX7_flow_57 : decode cX7_flow 57 = .ok (.if_icmp .ne 83, 3) := dw_160 (kcX7_flow_0 57 160 rfl) (kcX7_flow_0 58 0 rfl) (kcX7_flow_0 59 83 rfl) rfl
theorem dX7_flow_60 : decode cX7_flow 60 = .ok (.aload_n 0, 1) := dw_42 (kcX7_flow_0 60 42 rfl)
theorem dX7_flow_61 : decode cX7_flow 61 = .ok (.getfield 104, 3) := dw_180 (kcX7_flow_0 61 180 rfl) (kcX7_flow_0 62 0 rfl) (kcX7_flow_0 63 104 rfl) rfl
theorem kcX7_flow_1 : CHb cX7_flow 64 [29, 46, 54, 4, 3, 54, 5, 21, 5, 16, 28, 162, 0, 59, 42, 180, 0, 101, 21, 5, 46, 2, 160, 0, 42, 42, 180, 0, 98, 16, 28, 21, 4, 104, 21, 5, 96, 46, 154, 0, 6, 167, 0, 23, 42, 180, 0, 101, 21, 5, 21, 4, 79, 42, 180, 0, 104, 28, 21, 5, 79, 132, 2, 1] := CHb_of (by decide +kernel)
theorem dX7_flow_64 : decode cX7_flow 64 = .ok (.iload_n 3, 1) := dw_29 (kcX7_flow_1 0 29 rfl)
theorem dX7_flow_65 : decode cX7_flow 65 = .ok (.iaload, 1) := dw_46 (kcX7_flow_1 1 46 rfl)
theorem dX7_flow_66 : decode cX7_flow 66 = .ok (.istore 4, 2) := dw_54 (kcX7_flow_1 2 54 rfl) (kcX7_flow_1 3 4 rfl)
theorem dX7_flow_68 : decode cX7_flow 68 = .ok (.iconst 0, 1) := dw_3 (kcX7_flow_1 4 3 rfl)
theorem dX7_flow_69 : decode cX7_flow 69 = .ok (.istore 5, 2) := dw_54 (kcX7_flow_1 5 54 rfl) (kcX7_flow_1 6 5 rfl)
theorem dX7_flow_71 : decode cX7_flow 71 = .ok (.iload 5, 2) := dw_21 (kcX7_flow_1 7 21 rfl) (kcX7_flow_1 8 5 rfl)
theorem dX7_flow_73 : decode cX7_flow 73 = .ok (.bipush 28, 2) := dw_16 (kcX7_flow_1 9 16 rfl) (kcX7_flow_1 10 28 rfl) rfl
theorem dX7_flow_75 : decode cX7_flow 75 = .ok (.if_icmp .ge 59, 3) := dw_162 (kcX7_flow_1 11 162 rfl) (kcX7_flow_1 12 0 rfl) (kcX7_flow_1 13 59 rfl) rfl
theorem dX7_flow_78 : decode cX7_flow 78 = .ok (.aload_n 0, 1) := dw_42 (kcX7_flow_1 14 42 rfl)
theorem dX7_flow_79 : decode cX7_flow 79 = .ok (.getfield 101, 3) := dw_180 (kcX7_flow_1 15 180 rfl) (kcX7_flow_1 16 0 rfl) (kcX7_flow_1 17 101 rfl) rfl
theorem dX7_flow_82 : decode cX7_flow 82 = .ok (.iload 5, 2) := dw_21 (kcX7_flow_1 18 21 rfl) (kcX7_flow_1 19 5 rfl)
theorem dX7_flow_84 : decode cX7_flow 84 = .ok (.iaload, 1) := dw_46 (kcX7_flow_1 20 46 rfl)
theorem dX7_flow_85 : decode cX7_flow 85 = .ok (.iconst (-1), 1) := dw_2 (kcX7_flow_1 21 2 rfl)
theorem dX7_flow_86 : decode cX7_flow 86 = .ok (.if_icmp .ne 42, 3) := dw_160 (kcX7_flow_1 22 160 rfl) (kcX7_flow_1 23 0 rfl) (kcX7_flow_1 24 42 rfl) rfl
theorem dX7_flow_128 : decode cX7_flow 128 = .ok (.iinc 5 1, 3) := dw_132 (kcX7_flow_2 0 132 rfl) (kcX7_flow_2 1 5 rfl) (kcX7_flow_2 2 1 rfl) rfl
theorem dX7_flow_131 : decode cX7_flow 131 = .ok (.goto (-60), 3) := dw_167 (kcX7_flow_2 3 167 rfl) (kcX7_flow_2 4 255 rfl) (kcX7_flow_2 5 196 rfl) rfl
theorem dX7_flow_89 : decode cX7_flow 89 = .ok (.aload_n 0, 1) := dw_42 (kcX7_flow_1 25 42 rfl)
theorem dX7_flow_90 : decode cX7_flow 90 = .ok (.getfield 98, 3) := dw_180 (kcX7_flow_1 26 180 rfl) (kcX7_flow_1 27 0 rfl) (kcX7_flow_1 28 98 rfl) rfl
theorem dX7_flow_93 : decode cX7_flow 93 = .ok (.bipush 28, 2) := dw_16 (kcX7_flow_1 29 16 rfl) (kcX7_flow_1 30 28 rfl) rfl
theorem dX7_flow_95 : decode cX7_flow 95 = .ok (.iload 4, 2) := dw_21 (kcX7_flow_1 31 21 rfl) (kcX7_flow_1 32 4 rfl)
theorem dX7_flow_97 : decode cX7_flow 97 = .ok (.imul, 1) := dw_104 (kcX7_flow_1 33 104 rfl)
theorem dX7_flow_98 : decode cX7_flow 98 = .ok (.iload 5, 2) := dw_21 (kcX7_flow_1 34 21 rfl) (kcX7_flow_1 35 5 rfl)
theorem dX7_flow_100 : decode cX7_flow 100 = .ok (.iadd, 1) := dw_96 (kcX7_flow_1 36 96 rfl)
theorem dX7_flow_101 : decode cX7_flow 101 = .ok (.iaload, 1) := dw_46 (kcX7_flow_1 37 46 rfl)
theorem dX7_flow_102 : decode cX7_flow 102 = .ok (.ifCond .ne 6, 3) := dw_154 (kcX7_flow_1 38 154 rfl) (kcX7_flow_1 39 0 rfl) (kcX7_flow_1 40 6 rfl) rfl
theorem dX7_flow_108 : decode cX7_flow 108 = .ok (.aload_n 0, 1) := dw_42 (kcX7_flow_1 44 42 rfl)
theorem dX7_flow_109 : decode cX7_flow 109 = .ok (.getfield 101, 3) := dw_180 (kcX7_flow_1 45 180 rfl) (kcX7_flow_1 46 0 rfl) (kcX7_flow_1 47 101 rfl) rfl
theorem dX7_flow_112 : decode cX7_flow 112 = .ok (.iload 5, 2) := dw_21 (kcX7_flow_1 48 21 rfl) (kcX7_flow_1 49 5 rfl)
theorem dX7_flow_114 : decode cX7_flow 114 = .ok (.iload 4, 2) := dw_21 (kcX7_flow_1 50 21 rfl) (kcX7_flow_1 51 4 rfl)
theorem dX7_flow_116 : decode cX7_flow 116 = .ok (.iastore, 1) := dw_79 (kcX7_flow_1 52 79 rfl)
theorem dX7_flow_117 : decode cX7_flow 117 = .ok (.aload_n 0, 1) := dw_42 (kcX7_flow_1 53 42 rfl)
theorem dX7_flow_118 : decode cX7_flow 118 = .ok (.getfield 104, 3) := dw_180 (kcX7_flow_1 54 180 rfl) (kcX7_flow_1 55 0 rfl) (kcX7_flow_1 56 104 rfl) rfl
theorem dX7_flow_121 : decode cX7_flow 121 = .ok (.iload_n 2, 1) := dw_28 (kcX7_flow_1 57 28 rfl)
theorem dX7_flow_122 : decode cX7_flow 122 = .ok (.iload 5, 2) := dw_21 (kcX7_flow_1 58 21 rfl) (kcX7_flow_1 59 5 rfl)
theorem dX7_flow_124 : decode cX7_flow 124 = .ok (.iastore, 1) := dw_79 (kcX7_flow_1 60 79 rfl)
theorem dX7_flow_125 : decode cX7_flow 125 = .ok (.iinc 2 1, 3) := dw_132 (kcX7_flow_1 61 132 rfl) (kcX7_flow_1 62 2 rfl) (kcX7_flow_1 63 1 rfl) rfl
theorem dX7_flow_105 : decode cX7_flow 105 = .ok (.goto 23, 3) := dw_167 (kcX7_flow_1 41 167 rfl) (kcX7_flow_1 42 0 rfl) (kcX7_flow_1 43 23 rfl) rfl
theorem dX7_flow_134 : decode cX7_flow 134 = .ok (.iinc 3 1, 3) := dw_132 (kcX7_flow_2 6 132 rfl) (kcX7_flow_2 7 3 rfl) (kcX7_flow_2 8 1 rfl) rfl
theorem dX7_flow_137 : decode cX7_flow 137 = .ok (.goto (-93), 3) := dw_167 (kcX7_flow_2 9 167 rfl) (kcX7_flow_2 10 255 rfl) (kcX7_flow_2 11 163 rfl) rfl
theorem kcX7_bound_0 : CHb cX7_bound 0 [42, 180, 0, 98, 16, 28, 27, 104, 28, 96, 92, 46, 21, 4, 29, 100, 96, 79, 42, 180, 0, 98, 17, 2, 216, 28, 96, 92, 46, 29, 96, 79, 42, 180, 0, 98, 16, 28, 27, 104, 16, 27, 96, 92, 46, 29, 96, 79, 177] := CHb_of (by decide +kernel)
theorem dX7_bound_0 : decode cX7_bound 0 = .ok (.aload_n 0, 1) := dw_42 (kcX7_bound_0 0 42 rfl)
theorem dX7_bound_1 : decode cX7_bound 1 = .ok (.getfield 98, 3) := dw_180 (kcX7_bound_0 1 180 rfl) (kcX7_bound_0 2 0 rfl) (kcX7_bound_0 3 98 rfl) rfl
theorem dX7_bound_4 : decode cX7_bound 4 = .ok (.bipush 28, 2) := dw_16 (kcX7_bound_0 4 16 rfl) (kcX7_bound_0 5 28 rfl) rfl
theorem dX7_bound_6 : decode cX7_bound 6 = .ok (.iload_n 1, 1) := dw_27 (kcX7_bound_0 6 27 rfl)
theorem dX7_bound_7 : decode cX7_bound 7 = .ok (.imul, 1) := dw_104 (kcX7_bound_0 7 104 rfl)
theorem dX7_bound_8 : decode cX7_bound 8 = .ok (.iload_n 2, 1) := dw_28 (kcX7_bound_0 8 28 rfl)
theorem dX7_bound_9 : decode cX7_bound 9 = .ok (.iadd, 1) := dw_96 (kcX7_bound_0 9 96 rfl)
theorem dX7_bound_10 : decode cX7_bound 10 = .ok (.dup2, 1) := dw_92 (kcX7_bound_0 10 92 rfl)
theorem dX7_bound_11 : decode cX7_bound 11 = .ok (.iaload, 1) := dw_46 (kcX7_bound_0 11 46 rfl)
theorem dX7_bound_12 : decode cX7_bound 12 = .ok (.iload 4, 2) := dw_21 (kcX7_bound_0 12 21 rfl) (kcX7_bound_0 13 4 rfl)
theorem dX7_bound_14 : decode cX7_bound 14 = .ok (.iload_n 3, 1) := dw_29 (kcX7_bound_0 14 29 rfl)
theorem dX7_bound_15 : decode cX7_bound 15 = .ok (.isub, 1) := dw_100 (kcX7_bound_0 15 100 rfl)
theorem dX7_bound_16 : decode cX7_bound 16 = .ok (.iadd, 1) := dw_96 (kcX7_bound_0 16 96 rfl)
theorem dX7_bound_17 : decode cX7_bound 17 = .ok (.iastore, 1) := dw_79 (kcX7_bound_0 17 79 rfl)
theorem dX7_bound_18 : decode cX7_bound 18 = .ok (.aload_n 0, 1) := dw_42 (kcX7_bound_0 18 42 rfl)
theorem dX7_bound_19 : decode cX7_bound 19 = .ok (.getfield 98, 3) := dw_180 (kcX7_bound_0 19 180 rfl) (kcX7_bound_0 20 0 rfl) (kcX7_bound_0 21 98 rfl) rfl
theorem dX7_bound_22 : decode cX7_bound 22 = .ok (.sipush 728, 3) := dw_17 (kcX7_bound_0 22 17 rfl) (kcX7_bound_0 23 2 rfl) (kcX7_bound_0 24 216 rfl) rfl
theorem dX7_bound_25 : decode cX7_bound 25 = .ok (.iload_n 2, 1) := dw_28 (kcX7_bound_0 25 28 rfl)
theorem dX7_bound_26 : decode cX7_bound 26 = .ok (.iadd, 1) := dw_96 (kcX7_bound_0 26 96 rfl)
theorem dX7_bound_27 : decode cX7_bound 27 = .ok (.dup2, 1) := dw_92 (kcX7_bound_0 27 92 rfl)
theorem dX7_bound_28 : decode cX7_bound 28 = .ok (.iaload, 1) := dw_46 (kcX7_bound_0 28 46 rfl)
theorem dX7_bound_29 : decode cX7_bound 29 = .ok (.iload_n 3, 1) := dw_29 (kcX7_bound_0 29 29 rfl)
theorem dX7_bound_30 : decode cX7_bound 30 = .ok (.iadd, 1) := dw_96 (kcX7_bound_0 30 96 rfl)
theorem dX7_bound_31 : decode cX7_bound 31 = .ok (.iastore, 1) := dw_79 (kcX7_bound_0 31 79 rfl)
theorem dX7_bound_32 : decode cX7_bound 32 = .ok (.aload_n 0, 1) := dw_42 (kcX7_bound_0 32 42 rfl)
theorem dX7_bound_33 : decode cX7_bound 33 = .ok (.getfield 98, 3) := dw_180 (kcX7_bound_0 33 180 rfl) (kcX7_bound_0 34 0 rfl) (kcX7_bound_0 35 98 rfl) rfl
theorem dX7_bound_36 : decode cX7_bound 36 = .ok (.bipush 28, 2) := dw_16 (kcX7_bound_0 36 16 rfl) (kcX7_bound_0 37 28 rfl) rfl
theorem dX7_bound_38 : decode cX7_bound 38 = .ok (.iload_n 1, 1) := dw_27 (kcX7_bound_0 38 27 rfl)
theorem dX7_bound_39 : decode cX7_bound 39 = .ok (.imul, 1) := dw_104 (kcX7_bound_0 39 104 rfl)
theorem dX7_bound_40 : decode cX7_bound 40 = .ok (.bipush 27, 2) := dw_16 (kcX7_bound_0 40 16 rfl) (kcX7_bound_0 41 27 rfl) rfl
theorem dX7_bound_42 : decode cX7_bound 42 = .ok (.iadd, 1) := dw_96 (kcX7_bound_0 42 96 rfl)
theorem dX7_bound_43 : decode cX7_bound 43 = .ok (.dup2, 1) := dw_92 (kcX7_bound_0 43 92 rfl)
theorem dX7_bound_44 : decode cX7_bound 44 = .ok (.iaload, 1) := dw_46 (kcX7_bound_0 44 46 rfl)
theorem dX7_bound_45 : decode cX7_bound 45 = .ok (.iload_n 3, 1) := dw_29 (kcX7_bound_0 45 29 rfl)
theorem dX7_bound_46 : decode cX7_bound 46 = .ok (.iadd, 1) := dw_96 (kcX7_bound_0 46 96 rfl)
theorem dX7_bound_47 : decode cX7_bound 47 = .ok (.iastore, 1) := dw_79 (kcX7_bound_0 47 79 rfl)
theorem dX7_bound_48 : decode cX7_bound 48 = .ok (.return_, 1) := dw_177 (kcX7_bound_0 48 177 rfl)
theorem kcX7_canBe_0 : CHb cX7_canBe 0 [3, 54, 4, 21, 4, 42, 180, 0, 98, 190, 162, 0, 17, 42, 180, 0, 98, 21, 4, 3, 79, 132, 4, 1, 167, 255, 235, 3, 54, 4, 3, 54, 5, 21, 5, 42, 180, 0, 13, 27, 46, 162, 0, 180, 42, 180, 0, 95, 21, 5, 46, 29, 159, 0, 6, 167, 0, 160, 3, 54, 6, 3, 54, 7] := CHb_of (by decide +kernel)
theorem dX7_canBe_0 : decode cX7_canBe 0 = .ok (.iconst 0, 1) := dw_3 (kcX7_canBe_0 0 3 rfl)
theorem dX7_canBe_1 : decode cX7_canBe 1 = .ok (.istore 4, 2) := dw_54 (kcX7_canBe_0 1 54 rfl) (kcX7_canBe_0 2 4 rfl)
theorem dX7_canBe_3 : decode cX7_canBe 3 = .ok (.iload 4, 2) := dw_21 (kcX7_canBe_0 3 21 rfl) (kcX7_canBe_0 4 4 rfl)
theorem dX7_canBe_5 : decode cX7_canBe 5 = .ok (.aload_n 0, 1) := dw_42 (kcX7_canBe_0 5 42 rfl)
theorem dX7_canBe_6 : decode cX7_canBe 6 = .ok (.getfield 98, 3) := dw_180 (kcX7_canBe_0 6 180 rfl) (kcX7_canBe_0 7 0 rfl) (kcX7_canBe_0 8 98 rfl) rfl
theorem dX7_canBe_9 : decode cX7_canBe 9 = .ok (.arraylength, 1) := dw_190 (kcX7_canBe_0 9 190 rfl)
theorem dX7_canBe_10 : decode cX7_canBe 10 = .ok (.if_icmp .ge 17, 3) := dw_162 (kcX7_canBe_0 10 162 rfl) (kcX7_canBe_0 11 0 rfl) (kcX7_canBe_0 12 17 rfl) rfl
theorem dX7_canBe_13 : decode cX7_canBe 13 = .ok (.aload_n 0, 1) := dw_42 (kcX7_canBe_0 13 42 rfl)
theorem dX7_canBe_14 : decode cX7_canBe 14 = .ok (.getfield 98, 3) := dw_180 (kcX7_canBe_0 14 180 rfl) (kcX7_canBe_0 15 0 rfl) (kcX7_canBe_0 16 98 rfl) rfl
theorem dX7_canBe_17 : decode cX7_canBe 17 = .ok (.iload 4, 2) := dw_21 (kcX7_canBe_0 17 21 rfl) (kcX7_canBe_0 18 4 rfl)
theorem dX7_canBe_19 : decode cX7_canBe 19 = .ok (.iconst 0, 1) := dw_3 (kcX7_canBe_0 19 3 rfl)
theorem dX7_canBe_20 : decode cX7_canBe 20 = .ok (.iastore, 1) := dw_79 (kcX7_canBe_0 20 79 rfl)
theorem dX7_canBe_21 : decode cX7_canBe 21 = .ok (.iinc 4 1, 3) := dw_132 (kcX7_canBe_0 21 132 rfl) (kcX7_canBe_0 22 4 rfl) (kcX7_canBe_0 23 1 rfl) rfl
theorem dX7_canBe_24 : decode cX7_canBe 24 = .ok (.goto (-21), 3) := dw_167 (kcX7_canBe_0 24 167 rfl) (kcX7_canBe_0 25 255 rfl) (kcX7_canBe_0 26 235 rfl) rfl
theorem dX7_canBe_27 : decode cX7_canBe 27 = .ok (.iconst 0, 1) := dw_3 (kcX7_canBe_0 27 3 rfl)
theorem dX7_canBe_28 : decode cX7_canBe 28 = .ok (.istore 4, 2) := dw_54 (kcX7_canBe_0 28 54 rfl) (kcX7_canBe_0 29 4 rfl)
theorem dX7_canBe_30 : decode cX7_canBe 30 = .ok (.iconst 0, 1) := dw_3 (kcX7_canBe_0 30 3 rfl)
theorem dX7_canBe_31 : decode cX7_canBe 31 = .ok (.istore 5, 2) := dw_54 (kcX7_canBe_0 31 54 rfl) (kcX7_canBe_0 32 5 rfl)
theorem dX7_canBe_33 : decode cX7_canBe 33 = .ok (.iload 5, 2) := dw_21 (kcX7_canBe_0 33 21 rfl) (kcX7_canBe_0 34 5 rfl)
theorem dX7_canBe_35 : decode cX7_canBe 35 = .ok (.aload_n 0, 1) := dw_42 (kcX7_canBe_0 35 42 rfl)
theorem dX7_canBe_36 : decode cX7_canBe 36 = .ok (.getfield 13, 3) := dw_180 (kcX7_canBe_0 36 180 rfl) (kcX7_canBe_0 37 0 rfl) (kcX7_canBe_0 38 13 rfl) rfl
theorem dX7_canBe_39 : decode cX7_canBe 39 = .ok (.iload_n 1, 1) := dw_27 (kcX7_canBe_0 39 27 rfl)
theorem dX7_canBe_40 : decode cX7_canBe 40 = .ok (.iaload, 1) := dw_46 (kcX7_canBe_0 40 46 rfl)
theorem dX7_canBe_41 : decode cX7_canBe 41 = .ok (.if_icmp .ge 180, 3) := dw_162 (kcX7_canBe_0 41 162 rfl) (kcX7_canBe_0 42 0 rfl) (kcX7_canBe_0 43 180 rfl) rfl
theorem kcX7_canBe_3 : CHb cX7_canBe 192 [0, 5, 3, 172, 42, 16, 24, 21, 5, 21, 8, 21, 9, 182, 1, 1, 21, 4, 21, 8, 96, 54, 4, 132, 5, 1, 167, 255, 71, 3, 54, 5, 21, 5, 42, 180, 0, 17, 27, 46, 162, 0, 151, 3, 54, 6, 3, 54, 7, 3, 54, 8, 21, 8, 42, 180, 0, 13, 27, 46, 162, 0, 70, 42] := CHb_of (by decide +kernel)
theorem dX7_canBe_221 : decode cX7_canBe 221 = .ok (.iconst 0, 1) := dw_3 (kcX7_canBe_3 29 3 rfl)
theorem dX7_canBe_222 : decode cX7_canBe 222 = .ok (.istore 5, 2) := dw_54 (kcX7_canBe_3 30 54 rfl) (kcX7_canBe_3 31 5 rfl)
theorem dX7_canBe_224 : decode cX7_canBe 224 = .ok (.iload 5, 2) := dw_21 (kcX7_canBe_3 32 21 rfl) (kcX7_canBe_3 33 5 rfl)
theorem dX7_canBe_226 : decode cX7_canBe 226 = .ok (.aload_n 0, 1) := dw_42 (kcX7_canBe_3 34 42 rfl)
theorem dX7_canBe_227 : decode cX7_canBe 227 = .ok (.getfield 17, 3) := dw_180 (kcX7_canBe_3 35 180 rfl) (kcX7_canBe_3 36 0 rfl) (kcX7_canBe_3 37 17 rfl) rfl
theorem dX7_canBe_230 : decode cX7_canBe 230 = .ok (.iload_n 1, 1) := dw_27 (kcX7_canBe_3 38 27 rfl)
theorem dX7_canBe_231 : decode cX7_canBe 231 = .ok (.iaload, 1) := dw_46 (kcX7_canBe_3 39 46 rfl)
theorem dX7_canBe_232 : decode cX7_canBe 232 = .ok (.if_icmp .ge 151, 3) := dw_162 (kcX7_canBe_3 40 162 rfl) (kcX7_canBe_3 41 0 rfl) (kcX7_canBe_3 42 151 rfl) rfl
theorem kcX7_canBe_5 : CHb cX7_canBe 320 [255, 181, 3, 21, 6, 28, 108, 21, 7, 100, 184, 0, 254, 54, 8, 21, 6, 28, 96, 4, 100, 28, 108, 21, 7, 100, 54, 9, 21, 9, 156, 0, 5, 3, 172, 42, 16, 12, 21, 5, 96, 16, 25, 21, 8, 21, 9, 182, 1, 1, 21, 4, 21, 8, 96, 54, 4, 132, 5, 1, 167, 255, 100, 42] := CHb_of (by decide +kernel)
theorem dX7_canBe_383 : decode cX7_canBe 383 = .ok (.aload_n 0, 1) := dw_42 (kcX7_canBe_5 63 42 rfl)
theorem kcX7_canBe_6 : CHb cX7_canBe 384 [180, 0, 98, 17, 2, 212, 18, 195, 79, 42, 182, 1, 5, 21, 4, 160, 0, 7, 4, 167, 0, 4, 3, 172] := CHb_of (by decide +kernel)
theorem dX7_canBe_384 : decode cX7_canBe 384 = .ok (.getfield 98, 3) := dw_180 (kcX7_canBe_6 0 180 rfl) (kcX7_canBe_6 1 0 rfl) (kcX7_canBe_6 2 98 rfl) rfl
theorem dX7_canBe_387 : decode cX7_canBe 387 = .ok (.sipush 724, 3) := dw_17 (kcX7_canBe_6 3 17 rfl) (kcX7_canBe_6 4 2 rfl) (kcX7_canBe_6 5 212 rfl) rfl
theorem dX7_canBe_390 : decode cX7_canBe 390 = .ok (.ldc 195, 2) := dw_18 (kcX7_canBe_6 6 18 rfl) (kcX7_canBe_6 7 195 rfl)
theorem dX7_canBe_392 : decode cX7_canBe 392 = .ok (.iastore, 1) := dw_79 (kcX7_canBe_6 8 79 rfl)
theorem dX7_canBe_393 : decode cX7_canBe 393 = .ok (.aload_n 0, 1) := dw_42 (kcX7_canBe_6 9 42 rfl)
theorem dX7_canBe_394 : decode cX7_canBe 394 = .ok (.invokevirtual 261, 3) := dw_182 (kcX7_canBe_6 10 182 rfl) (kcX7_canBe_6 11 1 rfl) (kcX7_canBe_6 12 5 rfl) rfl
theorem dX7_canBe_397 : decode cX7_canBe 397 = .ok (.iload 4, 2) := dw_21 (kcX7_canBe_6 13 21 rfl) (kcX7_canBe_6 14 4 rfl)
theorem dX7_canBe_399 : decode cX7_canBe 399 = .ok (.if_icmp .ne 7, 3) := dw_160 (kcX7_canBe_6 15 160 rfl) (kcX7_canBe_6 16 0 rfl) (kcX7_canBe_6 17 7 rfl) rfl
theorem dX7_canBe_406 : decode cX7_canBe 406 = .ok (.iconst 0, 1) := dw_3 (kcX7_canBe_6 22 3 rfl)
theorem dX7_canBe_407 : decode cX7_canBe 407 = .ok (.ireturn, 1) := dw_172 (kcX7_canBe_6 23 172 rfl)
theorem dX7_canBe_402 : decode cX7_canBe 402 = .ok (.iconst 1, 1) := dw_4 (kcX7_canBe_6 18 4 rfl)
theorem dX7_canBe_403 : decode cX7_canBe 403 = .ok (.goto 4, 3) := dw_167 (kcX7_canBe_6 19 167 rfl) (kcX7_canBe_6 20 0 rfl) (kcX7_canBe_6 21 4 rfl) rfl
theorem dX7_canBe_235 : decode cX7_canBe 235 = .ok (.iconst 0, 1) := dw_3 (kcX7_canBe_3 43 3 rfl)
theorem dX7_canBe_236 : decode cX7_canBe 236 = .ok (.istore 6, 2) := dw_54 (kcX7_canBe_3 44 54 rfl) (kcX7_canBe_3 45 6 rfl)
theorem dX7_canBe_238 : decode cX7_canBe 238 = .ok (.iconst 0, 1) := dw_3 (kcX7_canBe_3 46 3 rfl)
theorem dX7_canBe_239 : decode cX7_canBe 239 = .ok (.istore 7, 2) := dw_54 (kcX7_canBe_3 47 54 rfl) (kcX7_canBe_3 48 7 rfl)
theorem dX7_canBe_241 : decode cX7_canBe 241 = .ok (.iconst 0, 1) := dw_3 (kcX7_canBe_3 49 3 rfl)
theorem dX7_canBe_242 : decode cX7_canBe 242 = .ok (.istore 8, 2) := dw_54 (kcX7_canBe_3 50 54 rfl) (kcX7_canBe_3 51 8 rfl)
theorem dX7_canBe_244 : decode cX7_canBe 244 = .ok (.iload 8, 2) := dw_21 (kcX7_canBe_3 52 21 rfl) (kcX7_canBe_3 53 8 rfl)
theorem dX7_canBe_246 : decode cX7_canBe 246 = .ok (.aload_n 0, 1) := dw_42 (kcX7_canBe_3 54 42 rfl)
theorem dX7_canBe_247 : decode cX7_canBe 247 = .ok (.getfield 13, 3) := dw_180 (kcX7_canBe_3 55 180 rfl) (kcX7_canBe_3 56 0 rfl) (kcX7_canBe_3 57 13 rfl) rfl
theorem dX7_canBe_250 : decode cX7_canBe 250 = .ok (.iload_n 1, 1) := dw_27 (kcX7_canBe_3 58 27 rfl)
theorem dX7_canBe_251 : decode cX7_canBe 251 = .ok (.iaload, 1) := dw_46 (kcX7_canBe_3 59 46 rfl)
theorem dX7_canBe_252 : decode cX7_canBe 252 = .ok (.if_icmp .ge 70, 3) := dw_162 (kcX7_canBe_3 60 162 rfl) (kcX7_canBe_3 61 0 rfl) (kcX7_canBe_3 62 70 rfl) rfl
theorem dX7_canBe_255 : decode cX7_canBe 255 = .ok (.aload_n 0, 1) := dw_42 (kcX7_canBe_3 63 42 rfl)
theorem kcX7_canBe_4 : CHb cX7_canBe 256 [180, 0, 95, 21, 8, 46, 29, 159, 0, 6, 167, 0, 50, 21, 6, 42, 180, 0, 26, 27, 21, 8, 21, 5, 184, 0, 147, 46, 28, 112, 96, 54, 6, 21, 7, 42, 180, 0, 89, 16, 12, 21, 8, 104, 21, 5, 96, 46, 4, 160, 0, 7, 4, 167, 0, 4, 3, 96, 54, 7, 132, 8, 1, 167] := CHb_of (by decide +kernel)
theorem dX7_canBe_256 : decode cX7_canBe 256 = .ok (.getfield 95, 3) := dw_180 (kcX7_canBe_4 0 180 rfl) (kcX7_canBe_4 1 0 rfl) (kcX7_canBe_4 2 95 rfl) rfl
theorem dX7_canBe_259 : decode cX7_canBe 259 = .ok (.iload 8, 2) := dw_21 (kcX7_canBe_4 3 21 rfl) (kcX7_canBe_4 4 8 rfl)
theorem dX7_canBe_261 : decode cX7_canBe 261 = .ok (.iaload, 1) := dw_46 (kcX7_canBe_4 5 46 rfl)
theorem dX7_canBe_262 : decode cX7_canBe 262 = .ok (.iload_n 3, 1) := dw_29 (kcX7_canBe_4 6 29 rfl)
theorem dX7_canBe_263 : decode cX7_canBe 263 = .ok (.if_icmp .eq 6, 3) := dw_159 (kcX7_canBe_4 7 159 rfl) (kcX7_canBe_4 8 0 rfl) (kcX7_canBe_4 9 6 rfl) rfl
theorem dX7_canBe_269 : decode cX7_canBe 269 = .ok (.iload 6, 2) := dw_21 (kcX7_canBe_4 13 21 rfl) (kcX7_canBe_4 14 6 rfl)
theorem dX7_canBe_271 : decode cX7_canBe 271 = .ok (.aload_n 0, 1) := dw_42 (kcX7_canBe_4 15 42 rfl)
theorem dX7_canBe_272 : decode cX7_canBe 272 = .ok (.getfield 26, 3) := dw_180 (kcX7_canBe_4 16 180 rfl) (kcX7_canBe_4 17 0 rfl) (kcX7_canBe_4 18 26 rfl) rfl
theorem dX7_canBe_275 : decode cX7_canBe 275 = .ok (.iload_n 1, 1) := dw_27 (kcX7_canBe_4 19 27 rfl)
theorem dX7_canBe_276 : decode cX7_canBe 276 = .ok (.iload 8, 2) := dw_21 (kcX7_canBe_4 20 21 rfl) (kcX7_canBe_4 21 8 rfl)
theorem dX7_canBe_278 : decode cX7_canBe 278 = .ok (.iload 5, 2) := dw_21 (kcX7_canBe_4 22 21 rfl) (kcX7_canBe_4 23 5 rfl)
theorem dX7_canBe_280 : decode cX7_canBe 280 = .ok (.invokestatic 147, 3) := dw_184 (kcX7_canBe_4 24 184 rfl) (kcX7_canBe_4 25 0 rfl) (kcX7_canBe_4 26 147 rfl) rfl
theorem dX7_canBe_283 : decode cX7_canBe 283 = .ok (.iaload, 1) := dw_46 (kcX7_canBe_4 27 46 rfl)
theorem dX7_canBe_284 : decode cX7_canBe 284 = .ok (.iload_n 2, 1) := dw_28 (kcX7_canBe_4 28 28 rfl)
theorem dX7_canBe_285 : decode cX7_canBe 285 = .ok (.irem, 1) := dw_112 (kcX7_canBe_4 29 112 rfl)
theorem dX7_canBe_286 : decode cX7_canBe 286 = .ok (.iadd, 1) := dw_96 (kcX7_canBe_4 30 96 rfl)
theorem dX7_canBe_287 : decode cX7_canBe 287 = .ok (.istore 6, 2) := dw_54 (kcX7_canBe_4 31 54 rfl) (kcX7_canBe_4 32 6 rfl)
theorem dX7_canBe_289 : decode cX7_canBe 289 = .ok (.iload 7, 2) := dw_21 (kcX7_canBe_4 33 21 rfl) (kcX7_canBe_4 34 7 rfl)
theorem dX7_canBe_291 : decode cX7_canBe 291 = .ok (.aload_n 0, 1) := dw_42 (kcX7_canBe_4 35 42 rfl)
theorem dX7_canBe_292 : decode cX7_canBe 292 = .ok (.getfield 89, 3) := dw_180 (kcX7_canBe_4 36 180 rfl) (kcX7_canBe_4 37 0 rfl) (kcX7_canBe_4 38 89 rfl) rfl
theorem dX7_canBe_295 : decode cX7_canBe 295 = .ok (.bipush 12, 2) := dw_16 (kcX7_canBe_4 39 16 rfl) (kcX7_canBe_4 40 12 rfl) rfl
theorem dX7_canBe_297 : decode cX7_canBe 297 = .ok (.iload 8, 2) := dw_21 (kcX7_canBe_4 41 21 rfl) (kcX7_canBe_4 42 8 rfl)
theorem dX7_canBe_299 : decode cX7_canBe 299 = .ok (.imul, 1) := dw_104 (kcX7_canBe_4 43 104 rfl)
theorem dX7_canBe_300 : decode cX7_canBe 300 = .ok (.iload 5, 2) := dw_21 (kcX7_canBe_4 44 21 rfl) (kcX7_canBe_4 45 5 rfl)
theorem dX7_canBe_302 : decode cX7_canBe 302 = .ok (.iadd, 1) := dw_96 (kcX7_canBe_4 46 96 rfl)
theorem dX7_canBe_303 : decode cX7_canBe 303 = .ok (.iaload, 1) := dw_46 (kcX7_canBe_4 47 46 rfl)
theorem dX7_canBe_304 : decode cX7_canBe 304 = .ok (.iconst 1, 1) := dw_4 (kcX7_canBe_4 48 4 rfl)
theorem dX7_canBe_305 : decode cX7_canBe 305 = .ok (.if_icmp .ne 7, 3) := dw_160 (kcX7_canBe_4 49 160 rfl) (kcX7_canBe_4 50 0 rfl) (kcX7_canBe_4 51 7 rfl) rfl
theorem dX7_canBe_312 : decode cX7_canBe 312 = .ok (.iconst 0, 1) := dw_3 (kcX7_canBe_4 56 3 rfl)
theorem dX7_canBe_308 : decode cX7_canBe 308 = .ok (.iconst 1, 1) := dw_4 (kcX7_canBe_4 52 4 rfl)
theorem dX7_canBe_309 : decode cX7_canBe 309 = .ok (.goto 4, 3) := dw_167 (kcX7_canBe_4 53 167 rfl) (kcX7_canBe_4 54 0 rfl) (kcX7_canBe_4 55 4 rfl) rfl
theorem dX7_canBe_313 : decode cX7_canBe 313 = .ok (.iadd, 1) := dw_96 (kcX7_canBe_4 57 96 rfl)
theorem dX7_canBe_314 : decode cX7_canBe 314 = .ok (.istore 7, 2) := dw_54 (kcX7_canBe_4 58 54 rfl) (kcX7_canBe_4 59 7 rfl)
theorem dX7_canBe_316 : decode cX7_canBe 316 = .ok (.iinc 8 1, 3) := dw_132 (kcX7_canBe_4 60 132 rfl) (kcX7_canBe_4 61 8 rfl) (kcX7_canBe_4 62 1 rfl) rfl
theorem dX7_canBe_319 : decode cX7_canBe 319 = .ok (.goto (-75), 3) := dw_167 (kcX7_canBe_4 63 167 rfl) (kcX7_canBe_5 0 255 rfl) (kcX7_canBe_5 1 181 rfl) rfl
theorem dX7_canBe_266 : decode cX7_canBe 266 = .ok (.goto 50, 3) := dw_167 (kcX7_canBe_4 10 167 rfl) (kcX7_canBe_4 11 0 rfl) (kcX7_canBe_4 12 50 rfl) rfl
theorem dX7_canBe_322 : decode cX7_canBe 322 = .ok (.iconst 0, 1) := dw_3 (kcX7_canBe_5 2 3 rfl)
theorem dX7_canBe_323 : decode cX7_canBe 323 = .ok (.iload 6, 2) := dw_21 (kcX7_canBe_5 3 21 rfl) (kcX7_canBe_5 4 6 rfl)
theorem dX7_canBe_325 : decode cX7_canBe 325 = .ok (.iload_n 2, 1) := dw_28 (kcX7_canBe_5 5 28 rfl)
theorem dX7_canBe_326 : decode cX7_canBe 326 = .ok (.idiv, 1) := dw_108 (kcX7_canBe_5 6 108 rfl)
theorem dX7_canBe_327 : decode cX7_canBe 327 = .ok (.iload 7, 2) := dw_21 (kcX7_canBe_5 7 21 rfl) (kcX7_canBe_5 8 7 rfl)
theorem dX7_canBe_329 : decode cX7_canBe 329 = .ok (.isub, 1) := dw_100 (kcX7_canBe_5 9 100 rfl)
theorem dX7_canBe_330 : decode cX7_canBe 330 = .ok (.invokestatic 254, 3) := dw_184 (kcX7_canBe_5 10 184 rfl) (kcX7_canBe_5 11 0 rfl) (kcX7_canBe_5 12 254 rfl) rfl
theorem dX7_canBe_333 : decode cX7_canBe 333 = .ok (.istore 8, 2) := dw_54 (kcX7_canBe_5 13 54 rfl) (kcX7_canBe_5 14 8 rfl)
theorem dX7_canBe_335 : decode cX7_canBe 335 = .ok (.iload 6, 2) := dw_21 (kcX7_canBe_5 15 21 rfl) (kcX7_canBe_5 16 6 rfl)
theorem dX7_canBe_337 : decode cX7_canBe 337 = .ok (.iload_n 2, 1) := dw_28 (kcX7_canBe_5 17 28 rfl)
theorem dX7_canBe_338 : decode cX7_canBe 338 = .ok (.iadd, 1) := dw_96 (kcX7_canBe_5 18 96 rfl)
theorem dX7_canBe_339 : decode cX7_canBe 339 = .ok (.iconst 1, 1) := dw_4 (kcX7_canBe_5 19 4 rfl)
theorem dX7_canBe_340 : decode cX7_canBe 340 = .ok (.isub, 1) := dw_100 (kcX7_canBe_5 20 100 rfl)
theorem dX7_canBe_341 : decode cX7_canBe 341 = .ok (.iload_n 2, 1) := dw_28 (kcX7_canBe_5 21 28 rfl)
theorem dX7_canBe_342 : decode cX7_canBe 342 = .ok (.idiv, 1) := dw_108 (kcX7_canBe_5 22 108 rfl)
theorem dX7_canBe_343 : decode cX7_canBe 343 = .ok (.iload 7, 2) := dw_21 (kcX7_canBe_5 23 21 rfl) (kcX7_canBe_5 24 7 rfl)
theorem dX7_canBe_345 : decode cX7_canBe 345 = .ok (.isub, 1) := dw_100 (kcX7_canBe_5 25 100 rfl)
theorem dX7_canBe_346 : decode cX7_canBe 346 = .ok (.istore 9, 2) := dw_54 (kcX7_canBe_5 26 54 rfl) (kcX7_canBe_5 27 9 rfl)
theorem dX7_canBe_348 : decode cX7_canBe 348 = .ok (.iload 9, 2) := dw_21 (kcX7_canBe_5 28 21 rfl) (kcX7_canBe_5 29 9 rfl)
theorem dX7_canBe_350 : decode cX7_canBe 350 = .ok (.ifCond .ge 5, 3) := dw_156 (kcX7_canBe_5 30 156 rfl) (kcX7_canBe_5 31 0 rfl) (kcX7_canBe_5 32 5 rfl) rfl
theorem dX7_canBe_355 : decode cX7_canBe 355 = .ok (.aload_n 0, 1) := dw_42 (kcX7_canBe_5 35 42 rfl)
theorem dX7_canBe_356 : decode cX7_canBe 356 = .ok (.bipush 12, 2) := dw_16 (kcX7_canBe_5 36 16 rfl) (kcX7_canBe_5 37 12 rfl) rfl
theorem dX7_canBe_358 : decode cX7_canBe 358 = .ok (.iload 5, 2) := dw_21 (kcX7_canBe_5 38 21 rfl) (kcX7_canBe_5 39 5 rfl)
theorem dX7_canBe_360 : decode cX7_canBe 360 = .ok (.iadd, 1) := dw_96 (kcX7_canBe_5 40 96 rfl)
theorem dX7_canBe_361 : decode cX7_canBe 361 = .ok (.bipush 25, 2) := dw_16 (kcX7_canBe_5 41 16 rfl) (kcX7_canBe_5 42 25 rfl) rfl
theorem dX7_canBe_363 : decode cX7_canBe 363 = .ok (.iload 8, 2) := dw_21 (kcX7_canBe_5 43 21 rfl) (kcX7_canBe_5 44 8 rfl)
theorem dX7_canBe_365 : decode cX7_canBe 365 = .ok (.iload 9, 2) := dw_21 (kcX7_canBe_5 45 21 rfl) (kcX7_canBe_5 46 9 rfl)
theorem dX7_canBe_367 : decode cX7_canBe 367 = .ok (.invokevirtual 257, 3) := dw_182 (kcX7_canBe_5 47 182 rfl) (kcX7_canBe_5 48 1 rfl) (kcX7_canBe_5 49 1 rfl) rfl
theorem dX7_canBe_370 : decode cX7_canBe 370 = .ok (.iload 4, 2) := dw_21 (kcX7_canBe_5 50 21 rfl) (kcX7_canBe_5 51 4 rfl)
theorem dX7_canBe_372 : decode cX7_canBe 372 = .ok (.iload 8, 2) := dw_21 (kcX7_canBe_5 52 21 rfl) (kcX7_canBe_5 53 8 rfl)
theorem dX7_canBe_374 : decode cX7_canBe 374 = .ok (.iadd, 1) := dw_96 (kcX7_canBe_5 54 96 rfl)
theorem dX7_canBe_375 : decode cX7_canBe 375 = .ok (.istore 4, 2) := dw_54 (kcX7_canBe_5 55 54 rfl) (kcX7_canBe_5 56 4 rfl)
theorem dX7_canBe_377 : decode cX7_canBe 377 = .ok (.iinc 5 1, 3) := dw_132 (kcX7_canBe_5 57 132 rfl) (kcX7_canBe_5 58 5 rfl) (kcX7_canBe_5 59 1 rfl) rfl
theorem dX7_canBe_380 : decode cX7_canBe 380 = .ok (.goto (-156), 3) := dw_167 (kcX7_canBe_5 60 167 rfl) (kcX7_canBe_5 61 255 rfl) (kcX7_canBe_5 62 100 rfl) rfl
theorem dX7_canBe_353 : decode cX7_canBe 353 = .ok (.iconst 0, 1) := dw_3 (kcX7_canBe_5 33 3 rfl)
theorem dX7_canBe_354 : decode cX7_canBe 354 = .ok (.ireturn, 1) := dw_172 (kcX7_canBe_5 34 172 rfl)
theorem dX7_canBe_44 : decode cX7_canBe 44 = .ok (.aload_n 0, 1) := dw_42 (kcX7_canBe_0 44 42 rfl)
theorem dX7_canBe_45 : decode cX7_canBe 45 = .ok (.getfield 95, 3) := dw_180 (kcX7_canBe_0 45 180 rfl) (kcX7_canBe_0 46 0 rfl) (kcX7_canBe_0 47 95 rfl) rfl
theorem dX7_canBe_48 : decode cX7_canBe 48 = .ok (.iload 5, 2) := dw_21 (kcX7_canBe_0 48 21 rfl) (kcX7_canBe_0 49 5 rfl)
theorem dX7_canBe_50 : decode cX7_canBe 50 = .ok (.iaload, 1) := dw_46 (kcX7_canBe_0 50 46 rfl)
theorem dX7_canBe_51 : decode cX7_canBe 51 = .ok (.iload_n 3, 1) := dw_29 (kcX7_canBe_0 51 29 rfl)
theorem dX7_canBe_52 : decode cX7_canBe 52 = .ok (.if_icmp .eq 6, 3) := dw_159 (kcX7_canBe_0 52 159 rfl) (kcX7_canBe_0 53 0 rfl) (kcX7_canBe_0 54 6 rfl) rfl
theorem dX7_canBe_58 : decode cX7_canBe 58 = .ok (.iconst 0, 1) := dw_3 (kcX7_canBe_0 58 3 rfl)
theorem dX7_canBe_59 : decode cX7_canBe 59 = .ok (.istore 6, 2) := dw_54 (kcX7_canBe_0 59 54 rfl) (kcX7_canBe_0 60 6 rfl)
theorem dX7_canBe_61 : decode cX7_canBe 61 = .ok (.iconst 0, 1) := dw_3 (kcX7_canBe_0 61 3 rfl)
theorem dX7_canBe_62 : decode cX7_canBe 62 = .ok (.istore 7, 2) := dw_54 (kcX7_canBe_0 62 54 rfl) (kcX7_canBe_0 63 7 rfl)
theorem kcX7_canBe_1 : CHb cX7_canBe 64 [3, 54, 8, 21, 8, 42, 180, 0, 17, 27, 46, 162, 0, 88, 16, 12, 21, 5, 104, 21, 8, 96, 54, 9, 21, 6, 42, 180, 0, 26, 27, 21, 5, 21, 8, 184, 0, 147, 46, 28, 112, 96, 54, 6, 21, 7, 42, 180, 0, 89, 21, 9, 46, 4, 160, 0, 7, 4, 167, 0, 4, 3, 96, 54] := CHb_of (by decide +kernel)
theorem dX7_canBe_64 : decode cX7_canBe 64 = .ok (.iconst 0, 1) := dw_3 (kcX7_canBe_1 0 3 rfl)
theorem dX7_canBe_65 : decode cX7_canBe 65 = .ok (.istore 8, 2) := dw_54 (kcX7_canBe_1 1 54 rfl) (kcX7_canBe_1 2 8 rfl)
theorem dX7_canBe_67 : decode cX7_canBe 67 = .ok (.iload 8, 2) := dw_21 (kcX7_canBe_1 3 21 rfl) (kcX7_canBe_1 4 8 rfl)
theorem dX7_canBe_69 : decode cX7_canBe 69 = .ok (.aload_n 0, 1) := dw_42 (kcX7_canBe_1 5 42 rfl)
theorem dX7_canBe_70 : decode cX7_canBe 70 = .ok (.getfield 17, 3) := dw_180 (kcX7_canBe_1 6 180 rfl) (kcX7_canBe_1 7 0 rfl) (kcX7_canBe_1 8 17 rfl) rfl
theorem dX7_canBe_73 : decode cX7_canBe 73 = .ok (.iload_n 1, 1) := dw_27 (kcX7_canBe_1 9 27 rfl)
theorem dX7_canBe_74 : decode cX7_canBe 74 = .ok (.iaload, 1) := dw_46 (kcX7_canBe_1 10 46 rfl)
theorem dX7_canBe_75 : decode cX7_canBe 75 = .ok (.if_icmp .ge 88, 3) := dw_162 (kcX7_canBe_1 11 162 rfl) (kcX7_canBe_1 12 0 rfl) (kcX7_canBe_1 13 88 rfl) rfl
theorem dX7_canBe_78 : decode cX7_canBe 78 = .ok (.bipush 12, 2) := dw_16 (kcX7_canBe_1 14 16 rfl) (kcX7_canBe_1 15 12 rfl) rfl
theorem dX7_canBe_80 : decode cX7_canBe 80 = .ok (.iload 5, 2) := dw_21 (kcX7_canBe_1 16 21 rfl) (kcX7_canBe_1 17 5 rfl)
theorem dX7_canBe_82 : decode cX7_canBe 82 = .ok (.imul, 1) := dw_104 (kcX7_canBe_1 18 104 rfl)
theorem dX7_canBe_83 : decode cX7_canBe 83 = .ok (.iload 8, 2) := dw_21 (kcX7_canBe_1 19 21 rfl) (kcX7_canBe_1 20 8 rfl)
theorem dX7_canBe_85 : decode cX7_canBe 85 = .ok (.iadd, 1) := dw_96 (kcX7_canBe_1 21 96 rfl)
theorem dX7_canBe_86 : decode cX7_canBe 86 = .ok (.istore 9, 2) := dw_54 (kcX7_canBe_1 22 54 rfl) (kcX7_canBe_1 23 9 rfl)
theorem dX7_canBe_88 : decode cX7_canBe 88 = .ok (.iload 6, 2) := dw_21 (kcX7_canBe_1 24 21 rfl) (kcX7_canBe_1 25 6 rfl)
theorem dX7_canBe_90 : decode cX7_canBe 90 = .ok (.aload_n 0, 1) := dw_42 (kcX7_canBe_1 26 42 rfl)
theorem dX7_canBe_91 : decode cX7_canBe 91 = .ok (.getfield 26, 3) := dw_180 (kcX7_canBe_1 27 180 rfl) (kcX7_canBe_1 28 0 rfl) (kcX7_canBe_1 29 26 rfl) rfl
theorem dX7_canBe_94 : decode cX7_canBe 94 = .ok (.iload_n 1, 1) := dw_27 (kcX7_canBe_1 30 27 rfl)
theorem dX7_canBe_95 : decode cX7_canBe 95 = .ok (.iload 5, 2) := dw_21 (kcX7_canBe_1 31 21 rfl) (kcX7_canBe_1 32 5 rfl)
theorem dX7_canBe_97 : decode cX7_canBe 97 = .ok (.iload 8, 2) := dw_21 (kcX7_canBe_1 33 21 rfl) (kcX7_canBe_1 34 8 rfl)
theorem dX7_canBe_99 : decode cX7_canBe 99 = .ok (.invokestatic 147, 3) := dw_184 (kcX7_canBe_1 35 184 rfl) (kcX7_canBe_1 36 0 rfl) (kcX7_canBe_1 37 147 rfl) rfl
theorem dX7_canBe_102 : decode cX7_canBe 102 = .ok (.iaload, 1) := dw_46 (kcX7_canBe_1 38 46 rfl)
theorem dX7_canBe_103 : decode cX7_canBe 103 = .ok (.iload_n 2, 1) := dw_28 (kcX7_canBe_1 39 28 rfl)
theorem dX7_canBe_104 : decode cX7_canBe 104 = .ok (.irem, 1) := dw_112 (kcX7_canBe_1 40 112 rfl)
theorem dX7_canBe_105 : decode cX7_canBe 105 = .ok (.iadd, 1) := dw_96 (kcX7_canBe_1 41 96 rfl)
theorem dX7_canBe_106 : decode cX7_canBe 106 = .ok (.istore 6, 2) := dw_54 (kcX7_canBe_1 42 54 rfl) (kcX7_canBe_1 43 6 rfl)
theorem dX7_canBe_108 : decode cX7_canBe 108 = .ok (.iload 7, 2) := dw_21 (kcX7_canBe_1 44 21 rfl) (kcX7_canBe_1 45 7 rfl)
theorem dX7_canBe_110 : decode cX7_canBe 110 = .ok (.aload_n 0, 1) := dw_42 (kcX7_canBe_1 46 42 rfl)
theorem dX7_canBe_111 : decode cX7_canBe 111 = .ok (.getfield 89, 3) := dw_180 (kcX7_canBe_1 47 180 rfl) (kcX7_canBe_1 48 0 rfl) (kcX7_canBe_1 49 89 rfl) rfl
theorem dX7_canBe_114 : decode cX7_canBe 114 = .ok (.iload 9, 2) := dw_21 (kcX7_canBe_1 50 21 rfl) (kcX7_canBe_1 51 9 rfl)
theorem dX7_canBe_116 : decode cX7_canBe 116 = .ok (.iaload, 1) := dw_46 (kcX7_canBe_1 52 46 rfl)
theorem dX7_canBe_117 : decode cX7_canBe 117 = .ok (.iconst 1, 1) := dw_4 (kcX7_canBe_1 53 4 rfl)
theorem dX7_canBe_118 : decode cX7_canBe 118 = .ok (.if_icmp .ne 7, 3) := dw_160 (kcX7_canBe_1 54 160 rfl) (kcX7_canBe_1 55 0 rfl) (kcX7_canBe_1 56 7 rfl) rfl
theorem dX7_canBe_125 : decode cX7_canBe 125 = .ok (.iconst 0, 1) := dw_3 (kcX7_canBe_1 61 3 rfl)
theorem dX7_canBe_121 : decode cX7_canBe 121 = .ok (.iconst 1, 1) := dw_4 (kcX7_canBe_1 57 4 rfl)
theorem dX7_canBe_122 : decode cX7_canBe 122 = .ok (.goto 4, 3) := dw_167 (kcX7_canBe_1 58 167 rfl) (kcX7_canBe_1 59 0 rfl) (kcX7_canBe_1 60 4 rfl) rfl
theorem dX7_canBe_126 : decode cX7_canBe 126 = .ok (.iadd, 1) := dw_96 (kcX7_canBe_1 62 96 rfl)
theorem kcX7_canBe_2 : CHb cX7_canBe 128 [7, 42, 180, 0, 89, 21, 9, 46, 5, 160, 0, 20, 42, 180, 0, 98, 16, 28, 21, 5, 104, 16, 12, 96, 21, 8, 96, 4, 79, 132, 8, 1, 167, 255, 163, 3, 21, 6, 28, 108, 21, 7, 100, 184, 0, 254, 54, 8, 21, 6, 28, 96, 4, 100, 28, 108, 21, 7, 100, 54, 9, 21, 9, 156] := CHb_of (by decide +kernel)
theorem dX7_canBe_127 : decode cX7_canBe 127 = .ok (.istore 7, 2) := dw_54 (kcX7_canBe_1 63 54 rfl) (kcX7_canBe_2 0 7 rfl)
theorem dX7_canBe_129 : decode cX7_canBe 129 = .ok (.aload_n 0, 1) := dw_42 (kcX7_canBe_2 1 42 rfl)
theorem dX7_canBe_130 : decode cX7_canBe 130 = .ok (.getfield 89, 3) := dw_180 (kcX7_canBe_2 2 180 rfl) (kcX7_canBe_2 3 0 rfl) (kcX7_canBe_2 4 89 rfl) rfl
theorem dX7_canBe_133 : decode cX7_canBe 133 = .ok (.iload 9, 2) := dw_21 (kcX7_canBe_2 5 21 rfl) (kcX7_canBe_2 6 9 rfl)
theorem dX7_canBe_135 : decode cX7_canBe 135 = .ok (.iaload, 1) := dw_46 (kcX7_canBe_2 7 46 rfl)
theorem dX7_canBe_136 : decode cX7_canBe 136 = .ok (.iconst 2, 1) := dw_5 (kcX7_canBe_2 8 5 rfl)
theorem dX7_canBe_137 : decode cX7_canBe 137 = .ok (.if_icmp .ne 20, 3) := dw_160 (kcX7_canBe_2 9 160 rfl) (kcX7_canBe_2 10 0 rfl) (kcX7_canBe_2 11 20 rfl) rfl
theorem dX7_canBe_157 : decode cX7_canBe 157 = .ok (.iinc 8 1, 3) := dw_132 (kcX7_canBe_2 29 132 rfl) (kcX7_canBe_2 30 8 rfl) (kcX7_canBe_2 31 1 rfl) rfl
theorem dX7_canBe_160 : decode cX7_canBe 160 = .ok (.goto (-93), 3) := dw_167 (kcX7_canBe_2 32 167 rfl) (kcX7_canBe_2 33 255 rfl) (kcX7_canBe_2 34 163 rfl) rfl
theorem dX7_canBe_140 : decode cX7_canBe 140 = .ok (.aload_n 0, 1) := dw_42 (kcX7_canBe_2 12 42 rfl)
theorem dX7_canBe_141 : decode cX7_canBe 141 = .ok (.getfield 98, 3) := dw_180 (kcX7_canBe_2 13 180 rfl) (kcX7_canBe_2 14 0 rfl) (kcX7_canBe_2 15 98 rfl) rfl
theorem dX7_canBe_144 : decode cX7_canBe 144 = .ok (.bipush 28, 2) := dw_16 (kcX7_canBe_2 16 16 rfl) (kcX7_canBe_2 17 28 rfl) rfl
theorem dX7_canBe_146 : decode cX7_canBe 146 = .ok (.iload 5, 2) := dw_21 (kcX7_canBe_2 18 21 rfl) (kcX7_canBe_2 19 5 rfl)
theorem dX7_canBe_148 : decode cX7_canBe 148 = .ok (.imul, 1) := dw_104 (kcX7_canBe_2 20 104 rfl)
theorem dX7_canBe_149 : decode cX7_canBe 149 = .ok (.bipush 12, 2) := dw_16 (kcX7_canBe_2 21 16 rfl) (kcX7_canBe_2 22 12 rfl) rfl
theorem dX7_canBe_151 : decode cX7_canBe 151 = .ok (.iadd, 1) := dw_96 (kcX7_canBe_2 23 96 rfl)
theorem dX7_canBe_152 : decode cX7_canBe 152 = .ok (.iload 8, 2) := dw_21 (kcX7_canBe_2 24 21 rfl) (kcX7_canBe_2 25 8 rfl)
theorem dX7_canBe_154 : decode cX7_canBe 154 = .ok (.iadd, 1) := dw_96 (kcX7_canBe_2 26 96 rfl)
theorem dX7_canBe_155 : decode cX7_canBe 155 = .ok (.iconst 1, 1) := dw_4 (kcX7_canBe_2 27 4 rfl)
theorem dX7_canBe_156 : decode cX7_canBe 156 = .ok (.iastore, 1) := dw_79 (kcX7_canBe_2 28 79 rfl)
theorem dX7_canBe_163 : decode cX7_canBe 163 = .ok (.iconst 0, 1) := dw_3 (kcX7_canBe_2 35 3 rfl)
theorem dX7_canBe_164 : decode cX7_canBe 164 = .ok (.iload 6, 2) := dw_21 (kcX7_canBe_2 36 21 rfl) (kcX7_canBe_2 37 6 rfl)
theorem dX7_canBe_166 : decode cX7_canBe 166 = .ok (.iload_n 2, 1) := dw_28 (kcX7_canBe_2 38 28 rfl)
theorem dX7_canBe_167 : decode cX7_canBe 167 = .ok (.idiv, 1) := dw_108 (kcX7_canBe_2 39 108 rfl)
theorem dX7_canBe_168 : decode cX7_canBe 168 = .ok (.iload 7, 2) := dw_21 (kcX7_canBe_2 40 21 rfl) (kcX7_canBe_2 41 7 rfl)
theorem dX7_canBe_170 : decode cX7_canBe 170 = .ok (.isub, 1) := dw_100 (kcX7_canBe_2 42 100 rfl)
theorem dX7_canBe_171 : decode cX7_canBe 171 = .ok (.invokestatic 254, 3) := dw_184 (kcX7_canBe_2 43 184 rfl) (kcX7_canBe_2 44 0 rfl) (kcX7_canBe_2 45 254 rfl) rfl
theorem dX7_canBe_174 : decode cX7_canBe 174 = .ok (.istore 8, 2) := dw_54 (kcX7_canBe_2 46 54 rfl) (kcX7_canBe_2 47 8 rfl)
theorem dX7_canBe_176 : decode cX7_canBe 176 = .ok (.iload 6, 2) := dw_21 (kcX7_canBe_2 48 21 rfl) (kcX7_canBe_2 49 6 rfl)
theorem dX7_canBe_178 : decode cX7_canBe 178 = .ok (.iload_n 2, 1) := dw_28 (kcX7_canBe_2 50 28 rfl)
theorem dX7_canBe_179 : decode cX7_canBe 179 = .ok (.iadd, 1) := dw_96 (kcX7_canBe_2 51 96 rfl)
theorem dX7_canBe_180 : decode cX7_canBe 180 = .ok (.iconst 1, 1) := dw_4 (kcX7_canBe_2 52 4 rfl)
theorem dX7_canBe_181 : decode cX7_canBe 181 = .ok (.isub, 1) := dw_100 (kcX7_canBe_2 53 100 rfl)
theorem dX7_canBe_182 : decode cX7_canBe 182 = .ok (.iload_n 2, 1) := dw_28 (kcX7_canBe_2 54 28 rfl)
theorem dX7_canBe_183 : decode cX7_canBe 183 = .ok (.idiv, 1) := dw_108 (kcX7_canBe_2 55 108 rfl)
theorem dX7_canBe_184 : decode cX7_canBe 184 = .ok (.iload 7, 2) := dw_21 (kcX7_canBe_2 56 21 rfl) (kcX7_canBe_2 57 7 rfl)
theorem dX7_canBe_186 : decode cX7_canBe 186 = .ok (.isub, 1) := dw_100 (kcX7_canBe_2 58 100 rfl)
theorem dX7_canBe_187 : decode cX7_canBe 187 = .ok (.istore 9, 2) := dw_54 (kcX7_canBe_2 59 54 rfl) (kcX7_canBe_2 60 9 rfl)
theorem dX7_canBe_189 : decode cX7_canBe 189 = .ok (.iload 9, 2) := dw_21 (kcX7_canBe_2 61 21 rfl) (kcX7_canBe_2 62 9 rfl)
theorem dX7_canBe_191 : decode cX7_canBe 191 = .ok (.ifCond .ge 5, 3) := dw_156 (kcX7_canBe_2 63 156 rfl) (kcX7_canBe_3 0 0 rfl) (kcX7_canBe_3 1 5 rfl) rfl
theorem dX7_canBe_196 : decode cX7_canBe 196 = .ok (.aload_n 0, 1) := dw_42 (kcX7_canBe_3 4 42 rfl)
theorem dX7_canBe_197 : decode cX7_canBe 197 = .ok (.bipush 24, 2) := dw_16 (kcX7_canBe_3 5 16 rfl) (kcX7_canBe_3 6 24 rfl) rfl
theorem dX7_canBe_199 : decode cX7_canBe 199 = .ok (.iload 5, 2) := dw_21 (kcX7_canBe_3 7 21 rfl) (kcX7_canBe_3 8 5 rfl)
theorem dX7_canBe_201 : decode cX7_canBe 201 = .ok (.iload 8, 2) := dw_21 (kcX7_canBe_3 9 21 rfl) (kcX7_canBe_3 10 8 rfl)
theorem dX7_canBe_203 : decode cX7_canBe 203 = .ok (.iload 9, 2) := dw_21 (kcX7_canBe_3 11 21 rfl) (kcX7_canBe_3 12 9 rfl)
theorem dX7_canBe_205 : decode cX7_canBe 205 = .ok (.invokevirtual 257, 3) := dw_182 (kcX7_canBe_3 13 182 rfl) (kcX7_canBe_3 14 1 rfl) (kcX7_canBe_3 15 1 rfl) rfl
theorem dX7_canBe_208 : decode cX7_canBe 208 = .ok (.iload 4, 2) := dw_21 (kcX7_canBe_3 16 21 rfl) (kcX7_canBe_3 17 4 rfl)
theorem dX7_canBe_210 : decode cX7_canBe 210 = .ok (.iload 8, 2) := dw_21 (kcX7_canBe_3 18 21 rfl) (kcX7_canBe_3 19 8 rfl)
theorem dX7_canBe_212 : decode cX7_canBe 212 = .ok (.iadd, 1) := dw_96 (kcX7_canBe_3 20 96 rfl)
theorem dX7_canBe_213 : decode cX7_canBe 213 = .ok (.istore 4, 2) := dw_54 (kcX7_canBe_3 21 54 rfl) (kcX7_canBe_3 22 4 rfl)
theorem dX7_canBe_215 : decode cX7_canBe 215 = .ok (.iinc 5 1, 3) := dw_132 (kcX7_canBe_3 23 132 rfl) (kcX7_canBe_3 24 5 rfl) (kcX7_canBe_3 25 1 rfl) rfl
theorem dX7_canBe_218 : decode cX7_canBe 218 = .ok (.goto (-185), 3) := dw_167 (kcX7_canBe_3 26 167 rfl) (kcX7_canBe_3 27 255 rfl) (kcX7_canBe_3 28 71 rfl) rfl
theorem dX7_canBe_194 : decode cX7_canBe 194 = .ok (.iconst 0, 1) := dw_3 (kcX7_canBe_3 2 3 rfl)
theorem dX7_canBe_195 : decode cX7_canBe 195 = .ok (.ireturn, 1) := dw_172 (kcX7_canBe_3 3 172 rfl)
theorem dX7_canBe_55 : decode cX7_canBe 55 = .ok (.goto 160, 3) := dw_167 (kcX7_canBe_0 55 167 rfl) (kcX7_canBe_0 56 0 rfl) (kcX7_canBe_0 57 160 rfl) rfl
theorem kcX7_round_0 : CHb cX7_round 0 [42, 42, 27, 182, 0, 120, 154, 0, 7, 4, 167, 0, 21, 28, 5, 161, 0, 10, 28, 17, 3, 232, 164, 0, 8, 16, 7, 167, 0, 4, 3, 181, 0, 116, 42, 180, 0, 116, 158, 0, 5, 2, 172, 42, 42, 180, 0, 13, 27, 46, 181, 1, 9, 42, 42, 180, 0, 17, 27, 46, 181, 1, 12, 3] := CHb_of (by decide +kernel)
theorem dX7_round_0 : decode cX7_round 0 = .ok (.aload_n 0, 1) := dw_42 (kcX7_round_0 0 42 rfl)
theorem dX7_round_1 : decode cX7_round 1 = .ok (.aload_n 0, 1) := dw_42 (kcX7_round_0 1 42 rfl)
theorem dX7_round_2 : decode cX7_round 2 = .ok (.iload_n 1, 1) := dw_27 (kcX7_round_0 2 27 rfl)
theorem dX7_round_3 : decode cX7_round 3 = .ok (.invokevirtual 120, 3) := dw_182 (kcX7_round_0 3 182 rfl) (kcX7_round_0 4 0 rfl) (kcX7_round_0 5 120 rfl) rfl
theorem dX7_round_6 : decode cX7_round 6 = .ok (.ifCond .ne 7, 3) := dw_154 (kcX7_round_0 6 154 rfl) (kcX7_round_0 7 0 rfl) (kcX7_round_0 8 7 rfl) rfl
theorem dX7_round_13 : decode cX7_round 13 = .ok (.iload_n 2, 1) := dw_28 (kcX7_round_0 13 28 rfl)
theorem dX7_round_14 : decode cX7_round 14 = .ok (.iconst 2, 1) := dw_5 (kcX7_round_0 14 5 rfl)
theorem dX7_round_15 : decode cX7_round 15 = .ok (.if_icmp .lt 10, 3) := dw_161 (kcX7_round_0 15 161 rfl) (kcX7_round_0 16 0 rfl) (kcX7_round_0 17 10 rfl) rfl
theorem dX7_round_25 : decode cX7_round 25 = .ok (.bipush 7, 2) := dw_16 (kcX7_round_0 25 16 rfl) (kcX7_round_0 26 7 rfl) rfl
theorem dX7_round_27 : decode cX7_round 27 = .ok (.goto 4, 3) := dw_167 (kcX7_round_0 27 167 rfl) (kcX7_round_0 28 0 rfl) (kcX7_round_0 29 4 rfl) rfl
theorem dX7_round_31 : decode cX7_round 31 = .ok (.putfield 116, 3) := dw_181 (kcX7_round_0 31 181 rfl) (kcX7_round_0 32 0 rfl) (kcX7_round_0 33 116 rfl) rfl
theorem dX7_round_34 : decode cX7_round 34 = .ok (.aload_n 0, 1) := dw_42 (kcX7_round_0 34 42 rfl)
theorem dX7_round_35 : decode cX7_round 35 = .ok (.getfield 116, 3) := dw_180 (kcX7_round_0 35 180 rfl) (kcX7_round_0 36 0 rfl) (kcX7_round_0 37 116 rfl) rfl
theorem dX7_round_38 : decode cX7_round 38 = .ok (.ifCond .le 5, 3) := dw_158 (kcX7_round_0 38 158 rfl) (kcX7_round_0 39 0 rfl) (kcX7_round_0 40 5 rfl) rfl
theorem dX7_round_41 : decode cX7_round 41 = .ok (.iconst (-1), 1) := dw_2 (kcX7_round_0 41 2 rfl)
theorem dX7_round_42 : decode cX7_round 42 = .ok (.ireturn, 1) := dw_172 (kcX7_round_0 42 172 rfl)
theorem dX7_round_18 : decode cX7_round 18 = .ok (.iload_n 2, 1) := dw_28 (kcX7_round_0 18 28 rfl)
theorem dX7_round_19 : decode cX7_round 19 = .ok (.sipush 1000, 3) := dw_17 (kcX7_round_0 19 17 rfl) (kcX7_round_0 20 3 rfl) (kcX7_round_0 21 232 rfl) rfl
theorem dX7_round_22 : decode cX7_round 22 = .ok (.if_icmp .le 8, 3) := dw_164 (kcX7_round_0 22 164 rfl) (kcX7_round_0 23 0 rfl) (kcX7_round_0 24 8 rfl) rfl
theorem dX7_round_30 : decode cX7_round 30 = .ok (.iconst 0, 1) := dw_3 (kcX7_round_0 30 3 rfl)
theorem dX7_round_43 : decode cX7_round 43 = .ok (.aload_n 0, 1) := dw_42 (kcX7_round_0 43 42 rfl)
theorem dX7_round_44 : decode cX7_round 44 = .ok (.aload_n 0, 1) := dw_42 (kcX7_round_0 44 42 rfl)
theorem dX7_round_45 : decode cX7_round 45 = .ok (.getfield 13, 3) := dw_180 (kcX7_round_0 45 180 rfl) (kcX7_round_0 46 0 rfl) (kcX7_round_0 47 13 rfl) rfl
theorem dX7_round_48 : decode cX7_round 48 = .ok (.iload_n 1, 1) := dw_27 (kcX7_round_0 48 27 rfl)
theorem dX7_round_49 : decode cX7_round 49 = .ok (.iaload, 1) := dw_46 (kcX7_round_0 49 46 rfl)
theorem dX7_round_50 : decode cX7_round 50 = .ok (.putfield 265, 3) := dw_181 (kcX7_round_0 50 181 rfl) (kcX7_round_0 51 1 rfl) (kcX7_round_0 52 9 rfl) rfl
theorem dX7_round_53 : decode cX7_round 53 = .ok (.aload_n 0, 1) := dw_42 (kcX7_round_0 53 42 rfl)
theorem dX7_round_54 : decode cX7_round 54 = .ok (.aload_n 0, 1) := dw_42 (kcX7_round_0 54 42 rfl)
theorem dX7_round_55 : decode cX7_round 55 = .ok (.getfield 17, 3) := dw_180 (kcX7_round_0 55 180 rfl) (kcX7_round_0 56 0 rfl) (kcX7_round_0 57 17 rfl) rfl
theorem dX7_round_58 : decode cX7_round 58 = .ok (.iload_n 1, 1) := dw_27 (kcX7_round_0 58 27 rfl)
theorem dX7_round_59 : decode cX7_round 59 = .ok (.iaload, 1) := dw_46 (kcX7_round_0 59 46 rfl)
theorem dX7_round_60 : decode cX7_round 60 = .ok (.putfield 268, 3) := dw_181 (kcX7_round_0 60 181 rfl) (kcX7_round_0 61 1 rfl) (kcX7_round_0 62 12 rfl) rfl
theorem dX7_round_63 : decode cX7_round 63 = .ok (.iconst 0, 1) := dw_3 (kcX7_round_0 63 3 rfl)
theorem kcX7_round_1 : CHb cX7_round 64 [62, 29, 42, 180, 1, 9, 162, 0, 98, 42, 180, 0, 95, 29, 42, 27, 29, 182, 0, 161, 153, 0, 12, 42, 27, 29, 182, 0, 168, 167, 0, 5, 16, 254, 79, 3, 54, 4, 21, 4, 42, 180, 1, 12, 162, 0, 54, 42, 180, 0, 89, 16, 12, 29, 104, 21, 4, 96, 42, 180, 0, 95, 29, 46] := CHb_of (by decide +kernel)
theorem dX7_round_64 : decode cX7_round 64 = .ok (.istore_n 3, 1) := dw_62 (kcX7_round_1 0 62 rfl)
theorem dX7_round_65 : decode cX7_round 65 = .ok (.iload_n 3, 1) := dw_29 (kcX7_round_1 1 29 rfl)
theorem dX7_round_66 : decode cX7_round 66 = .ok (.aload_n 0, 1) := dw_42 (kcX7_round_1 2 42 rfl)
theorem dX7_round_67 : decode cX7_round 67 = .ok (.getfield 265, 3) := dw_180 (kcX7_round_1 3 180 rfl) (kcX7_round_1 4 1 rfl) (kcX7_round_1 5 9 rfl) rfl
theorem dX7_round_70 : decode cX7_round 70 = .ok (.if_icmp .ge 98, 3) := dw_162 (kcX7_round_1 6 162 rfl) (kcX7_round_1 7 0 rfl) (kcX7_round_1 8 98 rfl) rfl
theorem dX7_round_73 : decode cX7_round 73 = .ok (.aload_n 0, 1) := dw_42 (kcX7_round_1 9 42 rfl)
theorem dX7_round_74 : decode cX7_round 74 = .ok (.getfield 95, 3) := dw_180 (kcX7_round_1 10 180 rfl) (kcX7_round_1 11 0 rfl) (kcX7_round_1 12 95 rfl) rfl
theorem dX7_round_77 : decode cX7_round 77 = .ok (.iload_n 3, 1) := dw_29 (kcX7_round_1 13 29 rfl)
theorem dX7_round_78 : decode cX7_round 78 = .ok (.aload_n 0, 1) := dw_42 (kcX7_round_1 14 42 rfl)
theorem dX7_round_79 : decode cX7_round 79 = .ok (.iload_n 1, 1) := dw_27 (kcX7_round_1 15 27 rfl)
theorem dX7_round_80 : decode cX7_round 80 = .ok (.iload_n 3, 1) := dw_29 (kcX7_round_1 16 29 rfl)
theorem dX7_round_81 : decode cX7_round 81 = .ok (.invokevirtual 161, 3) := dw_182 (kcX7_round_1 17 182 rfl) (kcX7_round_1 18 0 rfl) (kcX7_round_1 19 161 rfl) rfl
theorem dX7_round_84 : decode cX7_round 84 = .ok (.ifCond .eq 12, 3) := dw_153 (kcX7_round_1 20 153 rfl) (kcX7_round_1 21 0 rfl) (kcX7_round_1 22 12 rfl) rfl
theorem dX7_round_96 : decode cX7_round 96 = .ok (.bipush (-2), 2) := dw_16 (kcX7_round_1 32 16 rfl) (kcX7_round_1 33 254 rfl) rfl
theorem dX7_round_87 : decode cX7_round 87 = .ok (.aload_n 0, 1) := dw_42 (kcX7_round_1 23 42 rfl)
theorem dX7_round_88 : decode cX7_round 88 = .ok (.iload_n 1, 1) := dw_27 (kcX7_round_1 24 27 rfl)
theorem dX7_round_89 : decode cX7_round 89 = .ok (.iload_n 3, 1) := dw_29 (kcX7_round_1 25 29 rfl)
theorem dX7_round_90 : decode cX7_round 90 = .ok (.invokevirtual 168, 3) := dw_182 (kcX7_round_1 26 182 rfl) (kcX7_round_1 27 0 rfl) (kcX7_round_1 28 168 rfl) rfl
theorem dX7_round_93 : decode cX7_round 93 = .ok (.goto 5, 3) := dw_167 (kcX7_round_1 29 167 rfl) (kcX7_round_1 30 0 rfl) (kcX7_round_1 31 5 rfl) rfl
theorem dX7_round_98 : decode cX7_round 98 = .ok (.iastore, 1) := dw_79 (kcX7_round_1 34 79 rfl)
theorem dX7_round_99 : decode cX7_round 99 = .ok (.iconst 0, 1) := dw_3 (kcX7_round_1 35 3 rfl)
theorem dX7_round_100 : decode cX7_round 100 = .ok (.istore 4, 2) := dw_54 (kcX7_round_1 36 54 rfl) (kcX7_round_1 37 4 rfl)
theorem dX7_round_102 : decode cX7_round 102 = .ok (.iload 4, 2) := dw_21 (kcX7_round_1 38 21 rfl) (kcX7_round_1 39 4 rfl)
theorem dX7_round_104 : decode cX7_round 104 = .ok (.aload_n 0, 1) := dw_42 (kcX7_round_1 40 42 rfl)
theorem dX7_round_105 : decode cX7_round 105 = .ok (.getfield 268, 3) := dw_180 (kcX7_round_1 41 180 rfl) (kcX7_round_1 42 1 rfl) (kcX7_round_1 43 12 rfl) rfl
theorem dX7_round_108 : decode cX7_round 108 = .ok (.if_icmp .ge 54, 3) := dw_162 (kcX7_round_1 44 162 rfl) (kcX7_round_1 45 0 rfl) (kcX7_round_1 46 54 rfl) rfl
theorem dX7_round_111 : decode cX7_round 111 = .ok (.aload_n 0, 1) := dw_42 (kcX7_round_1 47 42 rfl)
theorem dX7_round_112 : decode cX7_round 112 = .ok (.getfield 89, 3) := dw_180 (kcX7_round_1 48 180 rfl) (kcX7_round_1 49 0 rfl) (kcX7_round_1 50 89 rfl) rfl
theorem dX7_round_115 : decode cX7_round 115 = .ok (.bipush 12, 2) := dw_16 (kcX7_round_1 51 16 rfl) (kcX7_round_1 52 12 rfl) rfl
theorem dX7_round_117 : decode cX7_round 117 = .ok (.iload_n 3, 1) := dw_29 (kcX7_round_1 53 29 rfl)
theorem dX7_round_118 : decode cX7_round 118 = .ok (.imul, 1) := dw_104 (kcX7_round_1 54 104 rfl)
theorem dX7_round_119 : decode cX7_round 119 = .ok (.iload 4, 2) := dw_21 (kcX7_round_1 55 21 rfl) (kcX7_round_1 56 4 rfl)
theorem dX7_round_121 : decode cX7_round 121 = .ok (.iadd, 1) := dw_96 (kcX7_round_1 57 96 rfl)
theorem dX7_round_122 : decode cX7_round 122 = .ok (.aload_n 0, 1) := dw_42 (kcX7_round_1 58 42 rfl)
theorem dX7_round_123 : decode cX7_round 123 = .ok (.getfield 95, 3) := dw_180 (kcX7_round_1 59 180 rfl) (kcX7_round_1 60 0 rfl) (kcX7_round_1 61 95 rfl) rfl
theorem dX7_round_126 : decode cX7_round 126 = .ok (.iload_n 3, 1) := dw_29 (kcX7_round_1 62 29 rfl)
theorem dX7_round_127 : decode cX7_round 127 = .ok (.iaload, 1) := dw_46 (kcX7_round_1 63 46 rfl)
theorem kcX7_round_2 : CHb cX7_round 128 [16, 254, 159, 0, 20, 42, 180, 0, 26, 27, 29, 21, 4, 184, 0, 147, 46, 28, 112, 154, 0, 7, 3, 167, 0, 4, 5, 79, 132, 4, 1, 167, 255, 199, 132, 3, 1, 167, 255, 156, 3, 62, 3, 54, 4, 21, 4, 42, 180, 1, 9, 162, 0, 124, 3, 54, 5, 21, 5, 42, 180, 1, 12, 162] := CHb_of (by decide +kernel)
theorem dX7_round_128 : decode cX7_round 128 = .ok (.bipush (-2), 2) := dw_16 (kcX7_round_2 0 16 rfl) (kcX7_round_2 1 254 rfl) rfl
theorem dX7_round_130 : decode cX7_round 130 = .ok (.if_icmp .eq 20, 3) := dw_159 (kcX7_round_2 2 159 rfl) (kcX7_round_2 3 0 rfl) (kcX7_round_2 4 20 rfl) rfl
theorem dX7_round_150 : decode cX7_round 150 = .ok (.iconst 0, 1) := dw_3 (kcX7_round_2 22 3 rfl)
theorem dX7_round_151 : decode cX7_round 151 = .ok (.goto 4, 3) := dw_167 (kcX7_round_2 23 167 rfl) (kcX7_round_2 24 0 rfl) (kcX7_round_2 25 4 rfl) rfl
theorem dX7_round_133 : decode cX7_round 133 = .ok (.aload_n 0, 1) := dw_42 (kcX7_round_2 5 42 rfl)
theorem dX7_round_134 : decode cX7_round 134 = .ok (.getfield 26, 3) := dw_180 (kcX7_round_2 6 180 rfl) (kcX7_round_2 7 0 rfl) (kcX7_round_2 8 26 rfl) rfl
theorem dX7_round_137 : decode cX7_round 137 = .ok (.iload_n 1, 1) := dw_27 (kcX7_round_2 9 27 rfl)
theorem dX7_round_138 : decode cX7_round 138 = .ok (.iload_n 3, 1) := dw_29 (kcX7_round_2 10 29 rfl)
theorem dX7_round_139 : decode cX7_round 139 = .ok (.iload 4, 2) := dw_21 (kcX7_round_2 11 21 rfl) (kcX7_round_2 12 4 rfl)
theorem dX7_round_141 : decode cX7_round 141 = .ok (.invokestatic 147, 3) := dw_184 (kcX7_round_2 13 184 rfl) (kcX7_round_2 14 0 rfl) (kcX7_round_2 15 147 rfl) rfl
theorem dX7_round_144 : decode cX7_round 144 = .ok (.iaload, 1) := dw_46 (kcX7_round_2 16 46 rfl)
theorem dX7_round_145 : decode cX7_round 145 = .ok (.iload_n 2, 1) := dw_28 (kcX7_round_2 17 28 rfl)
theorem dX7_round_146 : decode cX7_round 146 = .ok (.irem, 1) := dw_112 (kcX7_round_2 18 112 rfl)
theorem dX7_round_147 : decode cX7_round 147 = .ok (.ifCond .ne 7, 3) := dw_154 (kcX7_round_2 19 154 rfl) (kcX7_round_2 20 0 rfl) (kcX7_round_2 21 7 rfl) rfl
theorem dX7_round_154 : decode cX7_round 154 = .ok (.iconst 2, 1) := dw_5 (kcX7_round_2 26 5 rfl)
theorem dX7_round_155 : decode cX7_round 155 = .ok (.iastore, 1) := dw_79 (kcX7_round_2 27 79 rfl)
theorem dX7_round_156 : decode cX7_round 156 = .ok (.iinc 4 1, 3) := dw_132 (kcX7_round_2 28 132 rfl) (kcX7_round_2 29 4 rfl) (kcX7_round_2 30 1 rfl) rfl
theorem dX7_round_159 : decode cX7_round 159 = .ok (.goto (-57), 3) := dw_167 (kcX7_round_2 31 167 rfl) (kcX7_round_2 32 255 rfl) (kcX7_round_2 33 199 rfl) rfl
theorem dX7_round_162 : decode cX7_round 162 = .ok (.iinc 3 1, 3) := dw_132 (kcX7_round_2 34 132 rfl) (kcX7_round_2 35 3 rfl) (kcX7_round_2 36 1 rfl) rfl
theorem dX7_round_165 : decode cX7_round 165 = .ok (.goto (-100), 3) := dw_167 (kcX7_round_2 37 167 rfl) (kcX7_round_2 38 255 rfl) (kcX7_round_2 39 156 rfl) rfl
theorem dX7_round_168 : decode cX7_round 168 = .ok (.iconst 0, 1) := dw_3 (kcX7_round_2 40 3 rfl)
theorem dX7_round_169 : decode cX7_round 169 = .ok (.istore_n 3, 1) := dw_62 (kcX7_round_2 41 62 rfl)
theorem dX7_round_170 : decode cX7_round 170 = .ok (.iconst 0, 1) := dw_3 (kcX7_round_2 42 3 rfl)
theorem dX7_round_171 : decode cX7_round 171 = .ok (.istore 4, 2) := dw_54 (kcX7_round_2 43 54 rfl) (kcX7_round_2 44 4 rfl)
theorem dX7_round_173 : decode cX7_round 173 = .ok (.iload 4, 2) := dw_21 (kcX7_round_2 45 21 rfl) (kcX7_round_2 46 4 rfl)
theorem dX7_round_175 : decode cX7_round 175 = .ok (.aload_n 0, 1) := dw_42 (kcX7_round_2 47 42 rfl)
theorem dX7_round_176 : decode cX7_round 176 = .ok (.getfield 265, 3) := dw_180 (kcX7_round_2 48 180 rfl) (kcX7_round_2 49 1 rfl) (kcX7_round_2 50 9 rfl) rfl
theorem dX7_round_179 : decode cX7_round 179 = .ok (.if_icmp .ge 124, 3) := dw_162 (kcX7_round_2 51 162 rfl) (kcX7_round_2 52 0 rfl) (kcX7_round_2 53 124 rfl) rfl
theorem dX7_round_182 : decode cX7_round 182 = .ok (.iconst 0, 1) := dw_3 (kcX7_round_2 54 3 rfl)
theorem dX7_round_183 : decode cX7_round 183 = .ok (.istore 5, 2) := dw_54 (kcX7_round_2 55 54 rfl) (kcX7_round_2 56 5 rfl)
theorem dX7_round_185 : decode cX7_round 185 = .ok (.iload 5, 2) := dw_21 (kcX7_round_2 57 21 rfl) (kcX7_round_2 58 5 rfl)
theorem dX7_round_187 : decode cX7_round 187 = .ok (.aload_n 0, 1) := dw_42 (kcX7_round_2 59 42 rfl)
theorem dX7_round_188 : decode cX7_round 188 = .ok (.getfield 268, 3) := dw_180 (kcX7_round_2 60 180 rfl) (kcX7_round_2 61 1 rfl) (kcX7_round_2 62 12 rfl) rfl
theorem kcX7_round_3 : CHb cX7_round 192 [0, 106, 16, 12, 21, 4, 104, 21, 5, 96, 54, 6, 42, 180, 0, 89, 21, 6, 46, 5, 160, 0, 35, 42, 180, 0, 89, 21, 6, 3, 79, 42, 27, 28, 42, 180, 0, 95, 21, 4, 46, 182, 1, 15, 154, 0, 11, 42, 180, 0, 89, 21, 6, 4, 79, 29, 42, 180, 0, 89, 21, 6, 46, 96] := CHb_of (by decide +kernel)
theorem dX7_round_191 : decode cX7_round 191 = .ok (.if_icmp .ge 106, 3) := dw_162 (kcX7_round_2 63 162 rfl) (kcX7_round_3 0 0 rfl) (kcX7_round_3 1 106 rfl) rfl
theorem dX7_round_194 : decode cX7_round 194 = .ok (.bipush 12, 2) := dw_16 (kcX7_round_3 2 16 rfl) (kcX7_round_3 3 12 rfl) rfl
theorem dX7_round_196 : decode cX7_round 196 = .ok (.iload 4, 2) := dw_21 (kcX7_round_3 4 21 rfl) (kcX7_round_3 5 4 rfl)
theorem dX7_round_198 : decode cX7_round 198 = .ok (.imul, 1) := dw_104 (kcX7_round_3 6 104 rfl)
theorem dX7_round_199 : decode cX7_round 199 = .ok (.iload 5, 2) := dw_21 (kcX7_round_3 7 21 rfl) (kcX7_round_3 8 5 rfl)
theorem dX7_round_201 : decode cX7_round 201 = .ok (.iadd, 1) := dw_96 (kcX7_round_3 9 96 rfl)
theorem dX7_round_202 : decode cX7_round 202 = .ok (.istore 6, 2) := dw_54 (kcX7_round_3 10 54 rfl) (kcX7_round_3 11 6 rfl)
theorem dX7_round_204 : decode cX7_round 204 = .ok (.aload_n 0, 1) := dw_42 (kcX7_round_3 12 42 rfl)
theorem dX7_round_205 : decode cX7_round 205 = .ok (.getfield 89, 3) := dw_180 (kcX7_round_3 13 180 rfl) (kcX7_round_3 14 0 rfl) (kcX7_round_3 15 89 rfl) rfl
theorem dX7_round_208 : decode cX7_round 208 = .ok (.iload 6, 2) := dw_21 (kcX7_round_3 16 21 rfl) (kcX7_round_3 17 6 rfl)
theorem dX7_round_210 : decode cX7_round 210 = .ok (.iaload, 1) := dw_46 (kcX7_round_3 18 46 rfl)
theorem dX7_round_211 : decode cX7_round 211 = .ok (.iconst 2, 1) := dw_5 (kcX7_round_3 19 5 rfl)
theorem dX7_round_212 : decode cX7_round 212 = .ok (.if_icmp .ne 35, 3) := dw_160 (kcX7_round_3 20 160 rfl) (kcX7_round_3 21 0 rfl) (kcX7_round_3 22 35 rfl) rfl
theorem dX7_round_215 : decode cX7_round 215 = .ok (.aload_n 0, 1) := dw_42 (kcX7_round_3 23 42 rfl)
theorem dX7_round_216 : decode cX7_round 216 = .ok (.getfield 89, 3) := dw_180 (kcX7_round_3 24 180 rfl) (kcX7_round_3 25 0 rfl) (kcX7_round_3 26 89 rfl) rfl
theorem dX7_round_219 : decode cX7_round 219 = .ok (.iload 6, 2) := dw_21 (kcX7_round_3 27 21 rfl) (kcX7_round_3 28 6 rfl)
theorem dX7_round_221 : decode cX7_round 221 = .ok (.iconst 0, 1) := dw_3 (kcX7_round_3 29 3 rfl)
theorem dX7_round_222 : decode cX7_round 222 = .ok (.iastore, 1) := dw_79 (kcX7_round_3 30 79 rfl)
theorem dX7_round_223 : decode cX7_round 223 = .ok (.aload_n 0, 1) := dw_42 (kcX7_round_3 31 42 rfl)
theorem dX7_round_224 : decode cX7_round 224 = .ok (.iload_n 1, 1) := dw_27 (kcX7_round_3 32 27 rfl)
theorem dX7_round_225 : decode cX7_round 225 = .ok (.iload_n 2, 1) := dw_28 (kcX7_round_3 33 28 rfl)
theorem dX7_round_226 : decode cX7_round 226 = .ok (.aload_n 0, 1) := dw_42 (kcX7_round_3 34 42 rfl)
theorem dX7_round_227 : decode cX7_round 227 = .ok (.getfield 95, 3) := dw_180 (kcX7_round_3 35 180 rfl) (kcX7_round_3 36 0 rfl) (kcX7_round_3 37 95 rfl) rfl
theorem dX7_round_230 : decode cX7_round 230 = .ok (.iload 4, 2) := dw_21 (kcX7_round_3 38 21 rfl) (kcX7_round_3 39 4 rfl)
theorem dX7_round_232 : decode cX7_round 232 = .ok (.iaload, 1) := dw_46 (kcX7_round_3 40 46 rfl)
theorem dX7_round_233 : decode cX7_round 233 = .ok (.invokevirtual 271, 3) := dw_182 (kcX7_round_3 41 182 rfl) (kcX7_round_3 42 1 rfl) (kcX7_round_3 43 15 rfl) rfl
theorem dX7_round_236 : decode cX7_round 236 = .ok (.ifCond .ne 11, 3) := dw_154 (kcX7_round_3 44 154 rfl) (kcX7_round_3 45 0 rfl) (kcX7_round_3 46 11 rfl) rfl
theorem dX7_round_239 : decode cX7_round 239 = .ok (.aload_n 0, 1) := dw_42 (kcX7_round_3 47 42 rfl)
theorem dX7_round_240 : decode cX7_round 240 = .ok (.getfield 89, 3) := dw_180 (kcX7_round_3 48 180 rfl) (kcX7_round_3 49 0 rfl) (kcX7_round_3 50 89 rfl) rfl
theorem dX7_round_243 : decode cX7_round 243 = .ok (.iload 6, 2) := dw_21 (kcX7_round_3 51 21 rfl) (kcX7_round_3 52 6 rfl)
theorem dX7_round_245 : decode cX7_round 245 = .ok (.iconst 1, 1) := dw_4 (kcX7_round_3 53 4 rfl)
theorem dX7_round_246 : decode cX7_round 246 = .ok (.iastore, 1) := dw_79 (kcX7_round_3 54 79 rfl)
theorem dX7_round_247 : decode cX7_round 247 = .ok (.iload_n 3, 1) := dw_29 (kcX7_round_3 55 29 rfl)
theorem dX7_round_248 : decode cX7_round 248 = .ok (.aload_n 0, 1) := dw_42 (kcX7_round_3 56 42 rfl)
theorem dX7_round_249 : decode cX7_round 249 = .ok (.getfield 89, 3) := dw_180 (kcX7_round_3 57 180 rfl) (kcX7_round_3 58 0 rfl) (kcX7_round_3 59 89 rfl) rfl
theorem dX7_round_252 : decode cX7_round 252 = .ok (.iload 6, 2) := dw_21 (kcX7_round_3 60 21 rfl) (kcX7_round_3 61 6 rfl)
theorem dX7_round_254 : decode cX7_round 254 = .ok (.iaload, 1) := dw_46 (kcX7_round_3 62 46 rfl)
theorem dX7_round_255 : decode cX7_round 255 = .ok (.iadd, 1) := dw_96 (kcX7_round_3 63 96 rfl)
theorem kcX7_round_4 : CHb cX7_round 256 [62, 42, 180, 0, 92, 21, 6, 42, 180, 0, 26, 27, 21, 4, 21, 5, 184, 0, 147, 46, 28, 108, 28, 104, 42, 180, 0, 89, 21, 6, 46, 28, 104, 96, 79, 132, 5, 1, 167, 255, 147, 132, 4, 1, 167, 255, 129, 29, 172] := CHb_of (by decide +kernel)
theorem dX7_round_256 : decode cX7_round 256 = .ok (.istore_n 3, 1) := dw_62 (kcX7_round_4 0 62 rfl)
theorem dX7_round_257 : decode cX7_round 257 = .ok (.aload_n 0, 1) := dw_42 (kcX7_round_4 1 42 rfl)
theorem dX7_round_258 : decode cX7_round 258 = .ok (.getfield 92, 3) := dw_180 (kcX7_round_4 2 180 rfl) (kcX7_round_4 3 0 rfl) (kcX7_round_4 4 92 rfl) rfl
theorem dX7_round_261 : decode cX7_round 261 = .ok (.iload 6, 2) := dw_21 (kcX7_round_4 5 21 rfl) (kcX7_round_4 6 6 rfl)
theorem dX7_round_263 : decode cX7_round 263 = .ok (.aload_n 0, 1) := dw_42 (kcX7_round_4 7 42 rfl)
theorem dX7_round_264 : decode cX7_round 264 = .ok (.getfield 26, 3) := dw_180 (kcX7_round_4 8 180 rfl) (kcX7_round_4 9 0 rfl) (kcX7_round_4 10 26 rfl) rfl
theorem dX7_round_267 : decode cX7_round 267 = .ok (.iload_n 1, 1) := dw_27 (kcX7_round_4 11 27 rfl)
theorem dX7_round_268 : decode cX7_round 268 = .ok (.iload 4, 2) := dw_21 (kcX7_round_4 12 21 rfl) (kcX7_round_4 13 4 rfl)
theorem dX7_round_270 : decode cX7_round 270 = .ok (.iload 5, 2) := dw_21 (kcX7_round_4 14 21 rfl) (kcX7_round_4 15 5 rfl)
theorem dX7_round_272 : decode cX7_round 272 = .ok (.invokestatic 147, 3) := dw_184 (kcX7_round_4 16 184 rfl) (kcX7_round_4 17 0 rfl) (kcX7_round_4 18 147 rfl) rfl
theorem dX7_round_275 : decode cX7_round 275 = .ok (.iaload, 1) := dw_46 (kcX7_round_4 19 46 rfl)
theorem dX7_round_276 : decode cX7_round 276 = .ok (.iload_n 2, 1) := dw_28 (kcX7_round_4 20 28 rfl)
theorem dX7_round_277 : decode cX7_round 277 = .ok (.idiv, 1) := dw_108 (kcX7_round_4 21 108 rfl)
theorem dX7_round_278 : decode cX7_round 278 = .ok (.iload_n 2, 1) := dw_28 (kcX7_round_4 22 28 rfl)
theorem dX7_round_279 : decode cX7_round 279 = .ok (.imul, 1) := dw_104 (kcX7_round_4 23 104 rfl)
theorem dX7_round_280 : decode cX7_round 280 = .ok (.aload_n 0, 1) := dw_42 (kcX7_round_4 24 42 rfl)
theorem dX7_round_281 : decode cX7_round 281 = .ok (.getfield 89, 3) := dw_180 (kcX7_round_4 25 180 rfl) (kcX7_round_4 26 0 rfl) (kcX7_round_4 27 89 rfl) rfl
theorem dX7_round_284 : decode cX7_round 284 = .ok (.iload 6, 2) := dw_21 (kcX7_round_4 28 21 rfl) (kcX7_round_4 29 6 rfl)
theorem dX7_round_286 : decode cX7_round 286 = .ok (.iaload, 1) := dw_46 (kcX7_round_4 30 46 rfl)
theorem dX7_round_287 : decode cX7_round 287 = .ok (.iload_n 2, 1) := dw_28 (kcX7_round_4 31 28 rfl)
theorem dX7_round_288 : decode cX7_round 288 = .ok (.imul, 1) := dw_104 (kcX7_round_4 32 104 rfl)
theorem dX7_round_289 : decode cX7_round 289 = .ok (.iadd, 1) := dw_96 (kcX7_round_4 33 96 rfl)
theorem dX7_round_290 : decode cX7_round 290 = .ok (.iastore, 1) := dw_79 (kcX7_round_4 34 79 rfl)
theorem dX7_round_291 : decode cX7_round 291 = .ok (.iinc 5 1, 3) := dw_132 (kcX7_round_4 35 132 rfl) (kcX7_round_4 36 5 rfl) (kcX7_round_4 37 1 rfl) rfl
theorem dX7_round_294 : decode cX7_round 294 = .ok (.goto (-109), 3) := dw_167 (kcX7_round_4 38 167 rfl) (kcX7_round_4 39 255 rfl) (kcX7_round_4 40 147 rfl) rfl
theorem dX7_round_297 : decode cX7_round 297 = .ok (.iinc 4 1, 3) := dw_132 (kcX7_round_4 41 132 rfl) (kcX7_round_4 42 4 rfl) (kcX7_round_4 43 1 rfl) rfl
theorem dX7_round_300 : decode cX7_round 300 = .ok (.goto (-127), 3) := dw_167 (kcX7_round_4 44 167 rfl) (kcX7_round_4 45 255 rfl) (kcX7_round_4 46 129 rfl) rfl
theorem dX7_round_303 : decode cX7_round 303 = .ok (.iload_n 3, 1) := dw_29 (kcX7_round_4 47 29 rfl)
theorem dX7_round_304 : decode cX7_round 304 = .ok (.ireturn, 1) := dw_172 (kcX7_round_4 48 172 rfl)
theorem dX7_round_9 : decode cX7_round 9 = .ok (.iconst 1, 1) := dw_4 (kcX7_round_0 9 4 rfl)
theorem dX7_round_10 : decode cX7_round 10 = .ok (.goto 21, 3) := dw_167 (kcX7_round_0 10 167 rfl) (kcX7_round_0 11 0 rfl) (kcX7_round_0 12 21 rfl) rfl
def capOK (cap : Nat → Int32) : Prop := ∀ u v, u < 28 → v < 28 → ∃ a b, cap (28 * u + v) = nI a ∧ cap (28 * v + u) = nI b ∧ a + b ≤ 2000000000
def adjC (cap : Nat → Int32) (u v : Nat) : Prop := ∃ a, cap (28 * u + v) = nI a ∧ 0 < a ∧ a ≤ 2000000000
def pt (fr : Nat → Int32) : Nat → Nat
  | 0 => 27
  | d + 1 => (fr (pt fr d)).toNatClampNeg
theorem pt_s {fr : Nat → Int32} {d y u : Nat} (hy : y = pt fr d) (e : fr y = nI u) (hu : u < 1000) : u = pt fr (d + 1) := by
  show u = (fr (pt fr d)).toNatClampNeg
  rw [← hy, e, nI_clamp (by omega)]
def qDi (qu : Nat → Int32) (mn : Nat) : Prop := ∀ k k', k < k' → k' < mn → qu k ≠ qu k'
theorem qDi_0 (qu : Nat → Int32) : qDi qu 1 := fun k k' h1 h2 => absurd h1 (by omega)
theorem qDi_s {N a mn y : Nat} {adj : Nat → Nat → Prop} {fr qu : Nat → Int32} (hD : qDi qu mn) (h : wJ N adj a fr qu mn) (hy : y < N) (hf : fr y = -1) (hN : N < 1000) : qDi (upd qu mn (nI y)) (mn + 1) := fun k k' h1 h2 => by
  rw [pk_un (show k ≠ mn by omega)]
  by_cases e : k' = mn
  · subst e
    rw [pk_us]
    obtain ⟨n, q1, q2, q3, _⟩ := h.1 k h1
    intro e2
    have e3 := (nI_eq (by omega) (by omega)).mp (q2.symm.trans e2)
    exact q3 (by rw [e3]; exact hf)
  · rw [pk_un e]; exact hD k k' h1 (by omega)
/-- the way back from 27, as far as it has been gone -/
def onW (fr qu : Nat → Int32) (mn ps d : Nat) : Prop := (∀ e, e ≤ d → ∃ pe, ps ≤ pe ∧ pe < mn ∧ qu pe = nI (pt fr e)) ∧ (∀ e e', e < e' → e' ≤ d → pt fr e ≠ pt fr e') ∧ (∀ e, e ≤ d → pt fr e < 28)
theorem onW_0 {fr qu : Nat → Int32} {mn ps : Nat} (h1 : ps < mn) (h2 : qu ps = nI 27) : onW fr qu mn ps 0 := by
  refine ⟨fun e he => ⟨ps, Nat.le_refl _, h1, ?_⟩, fun e e' h h' => absurd h (by omega), fun e he => ?_⟩
  · obtain rfl : e = 0 := by omega
    exact h2
  · obtain rfl : e = 0 := by omega
    exact (by decide : 27 < 28)
theorem onW_s {fr qu : Nat → Int32} {mn ps ps2 d u : Nat} (h : onW fr qu mn ps d) (hD : qDi qu mn) (hp : ps2 < ps) (hq : qu ps2 = nI u) (hu : u < 28) (e : u = pt fr (d + 1)) : onW fr qu mn ps2 (d + 1) := by
  obtain ⟨h1, h2, h3⟩ := h
  have hps : ps2 < mn := by
    obtain ⟨pe, q1, q2, _⟩ := h1 d (Nat.le_refl _)
    omega
  refine ⟨fun x hx => ?_, fun x x' hx hx' => ?_, fun x hx => ?_⟩
  · by_cases ex : x = d + 1
    · subst ex; exact ⟨ps2, Nat.le_refl _, hps, by rw [← e]; exact hq⟩
    · obtain ⟨pe, q1, q2, q3⟩ := h1 x (by omega)
      exact ⟨pe, by omega, q2, q3⟩
  · by_cases ex : x' = d + 1
    · subst ex
      obtain ⟨pe, q1, q2, q3⟩ := h1 x (by omega)
      intro e2
      exact hD ps2 pe (by omega) q2 (by rw [hq, q3, e2, e])
    · exact h2 x x' hx (by omega)
  · by_cases ex : x = d + 1
    · subst ex; rw [← e]; exact hu
    · exact h3 x (by omega)
def eC (cap fr : Nat → Int32) (n e : Nat) : Prop := ∃ a, cap (28 * pt fr (e + 1) + pt fr e) = nI a ∧ n ≤ a ∧ a ≤ 2000000000
theorem min_nat {v : Int32} {n a : Nat} (h : v = if nI a < nI n then nI a else nI n) (ha : a < 2147483648) (hn : n < 2147483648) : v = nI (min n a) := by
  rw [h]
  split
  · rename_i q; have := (nI_ltI ha hn).mp q; rw [show min n a = a by omega]
  · rename_i q; have := Nat.not_lt.mp (fun z => q ((nI_ltI ha hn).mpr z)); rw [show min n a = n by omega]
theorem eC_s {cap fr : Nat → Int32} {n d u y a : Nat} (h : ∀ e, e < d → eC cap fr n e) (hy : y = pt fr d) (hu : u = pt fr (d + 1)) (e : cap (28 * u + y) = nI a) (ha : a ≤ 2000000000) : ∀ e, e < d + 1 → eC cap fr (min n a) e := fun x hx => by
  by_cases ex : x = d
  · subst ex; exact ⟨a, by rw [← hu, ← hy]; exact e, by omega, ha⟩
  · obtain ⟨b, q1, q2, q3⟩ := h x (by omega)
    exact ⟨b, q1, by omega, q3⟩
def sC (cap : Nat → Int32) : Nat → Nat
  | 0 => 0
  | k + 1 => sC cap k + (cap (728 + k)).toNatClampNeg
theorem sC_same {c1 c2 : Nat → Int32} : ∀ N, (∀ v, v < N → c1 (728 + v) = c2 (728 + v)) → sC c1 N = sC c2 N
  | 0, _ => rfl
  | k + 1, h => by simp only [sC]; rw [sC_same k (fun v q => h v (by omega)), h k (by omega)]
theorem sC_lt {c1 c2 : Nat → Int32} {y a b : Nat} (ha : c2 (728 + y) = nI a) (hb : c1 (728 + y) = nI b) (hab : b < a) (hB : a < 2147483648) : ∀ N, y < N → (∀ v, v < N → v ≠ y → c1 (728 + v) = c2 (728 + v)) → sC c1 N < sC c2 N
  | 0, h, _ => absurd h (Nat.not_lt_zero _)
  | k + 1, h, hs => by
    simp only [sC]
    by_cases e : y = k
    · subst e
      rw [sC_same y (fun v q => hs v (by omega) (by omega)), ha, hb, nI_clamp (by omega), nI_clamp (by omega)]; omega
    · have h2 := sC_lt ha hb hab hB k (by omega) (fun v q => hs v (by omega))
      rw [hs k (by omega) (fun q => e q.symm)]; omega
/-- a step of the way is used -/
def aug (cap : Nat → Int32) (u y ca cb n : Nat) : Nat → Int32 := upd (upd cap (28 * u + y) (nI (ca - n))) (28 * y + u) (nI (cb + n))
theorem aug_ne {cap : Nat → Int32} {u y ca cb n x : Nat} (h1 : x ≠ 28 * u + y) (h2 : x ≠ 28 * y + u) : aug cap u y ca cb n x = cap x := by unfold aug; rw [pk_un h2, pk_un h1]
theorem cap_aug {cap : Nat → Int32} {u y ca cb n : Nat} (h : capOK cap) (hu : u < 28) (hy : y < 28) (hne : u ≠ y) (e1 : cap (28 * u + y) = nI ca) (e2 : cap (28 * y + u) = nI cb) (hca : ca ≤ 2000000000) (hcb : cb ≤ 2000000000) (hn : n ≤ ca) : capOK (aug cap u y ca cb n) := by
  have hs : ca + cb ≤ 2000000000 := by
    obtain ⟨a, b, q1, q2, q3⟩ := h u y hu hy
    have r1 : ca < 2147483648 := by omega
    have r2 : a < 2147483648 := by omega
    have r3 : cb < 2147483648 := by omega
    have r4 : b < 2147483648 := by omega
    have k1 := (nI_eq r1 r2).mp (e1.symm.trans q1)
    have k2 := (nI_eq r3 r4).mp (e2.symm.trans q2)
    omega
  have g1 : aug cap u y ca cb n (28 * u + y) = nI (ca - n) := by unfold aug; rw [pk_un (by omega), pk_us]
  have g2 : aug cap u y ca cb n (28 * y + u) = nI (cb + n) := by unfold aug; rw [pk_us]
  intro p q hp hq
  by_cases c1 : p = u ∧ q = y
  · obtain ⟨rfl, rfl⟩ := c1; exact ⟨_, _, g1, g2, by omega⟩
  · by_cases c2 : p = y ∧ q = u
    · obtain ⟨rfl, rfl⟩ := c2; exact ⟨_, _, g2, g1, by omega⟩
    · obtain ⟨a, b, q1, q2, q3⟩ := h p q hp hq
      exact ⟨a, b, by rw [aug_ne (by omega) (by omega)]; exact q1, by rw [aug_ne (by omega) (by omega)]; exact q2, q3⟩
theorem same_s {cap cap0 fr qu : Nat → Int32} {mn ps d D u y ca cb n : Nat} (hW : onW fr qu mn ps D) (h : ∀ e, d ≤ e → e < D → cap (28 * pt fr (e + 1) + pt fr e) = cap0 (28 * pt fr (e + 1) + pt fr e)) (hd : d < D) (hy : y = pt fr d) (hu : u = pt fr (d + 1)) : ∀ e, d + 1 ≤ e → e < D → aug cap u y ca cb n (28 * pt fr (e + 1) + pt fr e) = cap0 (28 * pt fr (e + 1) + pt fr e) := fun e h1 h2 => by
  have n1 := hW.2.1 d e (by omega) (by omega)
  have n2 := hW.2.1 d (e + 1) (by omega) (by omega)
  have b1 := hW.2.2 e (by omega)
  have b2 := hW.2.2 (e + 1) (by omega)
  have b3 := hW.2.2 d (by omega)
  have b4 := hW.2.2 (d + 1) (by omega)
  rw [aug_ne (by omega) (by omega)]
  exact h e (by omega) h2
def sS (cap cap0 : Nat → Int32) (y : Nat) : Prop := (y ≠ 26 ∧ sC cap 28 = sC cap0 28) ∨ (y = 26 ∧ sC cap 28 < sC cap0 28)
theorem sS_s {cap cap0 : Nat → Int32} {u y ca cb n : Nat} (h : sS cap cap0 y) (hy : y ≠ 26) (hu : u < 28) (hy2 : y < 28) (e1 : cap (28 * u + y) = nI ca) (hca : ca ≤ 2000000000) (hn : n ≤ ca) (hn0 : 0 < n) (hne : u ≠ y) : sS (aug cap u y ca cb n) cap0 u := by
  have h0 : sC cap 28 = sC cap0 28 := h.elim (fun q => q.2) (fun q => absurd q.1 hy)
  by_cases e : u = 26
  · subst e
    refine Or.inr ⟨rfl, ?_⟩
    rw [← h0]
    refine sC_lt (y := y) (a := ca) (b := ca - n) (by have := e1; rw [show 28 * 26 + y = 728 + y by omega] at this; exact this) ?_ (by omega) (by omega) 28 hy2 (fun v hv hne2 => aug_ne (by omega) (by omega))
    unfold aug
    rw [pk_un (by omega), show 28 * 26 + y = 728 + y by omega, pk_us]
  · exact Or.inl ⟨e, by rw [← h0]; exact sC_same 28 (fun v hv => aug_ne (by omega) (by omega))⟩
theorem nOK_mo {n a b : Nat} {x : Nat → Int32} (h : nOK n a x) (hab : a ≤ b) : nOK n b x := fun j hj => by
  obtain ⟨k, h1, h2⟩ := h j hj
  exact ⟨k, by omega, h2⟩
theorem capOK_of {M : Nat} {cap : Nat → Int32} (h : nOK 784 M cap) (hM : M ≤ 10000000) : capOK (upd cap 724 1000000000) := by
  have g : ∀ x, x < 784 → ∃ a, upd cap 724 1000000000 x = nI a ∧ (a ≤ 10000000 ∨ (x = 724 ∧ a = 1000000000)) := fun x hx => by
    by_cases e : x = 724
    · subst e; exact ⟨1000000000, pk_us, Or.inr ⟨rfl, rfl⟩⟩
    · obtain ⟨k, h1, h2⟩ := h x hx
      exact ⟨k, by rw [pk_un e]; exact h2, Or.inl (by omega)⟩
  intro u v hu hv
  obtain ⟨a, h1, h2⟩ := g (28 * u + v) (by omega)
  obtain ⟨b, h3, h4⟩ := g (28 * v + u) (by omega)
  exact ⟨a, b, h1, h3, by omega⟩
def aB (x : Int32) (m : Nat) : Prop := -(m : Int) ≤ x.toInt ∧ x.toInt ≤ (m : Int)
theorem aB_0 : aB 0 0 := by unfold aB; decide
theorem aB_mo {x : Int32} {m k : Nat} (h : aB x m) (hk : m ≤ k) : aB x k := ⟨by have := h.1; omega, by have := h.2; omega⟩
theorem dv_b {x : Int32} {b : Nat} (h0 : 0 < b) (hb : b ≤ 1000) : (x / nI b).toInt = x.toInt.tdiv (b : Int) := by
  rw [Int32.toInt_div_of_ne_right _ _ (nI_nm1 (by omega)), nI_toInt (by omega)]
theorem rem_b {x v : Int32} {b : Nat} (h : v = x - x / nI b * nI b) (h0 : 0 < b) (hb : b ≤ 1000) : aB v 1000 := by
  have e : v.toInt = x.toInt.tmod (b : Int) := by
    have h1 := Int.lt_tmod_of_pos x.toInt (b := (b : Int)) (by omega)
    have h2 := Int.tmod_lt_of_pos x.toInt (b := (b : Int)) (by omega)
    have h3 := Int.tmod_add_tdiv_mul x.toInt (b : Int)
    rw [h, Int32.toInt_sub, Int32.toInt_mul, dv_b h0 hb, nI_toInt (by omega), Int.sub_bmod_bmod]
    rw [show x.toInt - x.toInt.tdiv (b : Int) * (b : Int) = x.toInt.tmod (b : Int) by omega]
    exact Int.bmod_eq_of_le (by omega) (by omega)
  have h1 := Int.lt_tmod_of_pos x.toInt (b := (b : Int)) (by omega)
  have h2 := Int.tmod_lt_of_pos x.toInt (b := (b : Int)) (by omega)
  exact ⟨by rw [e]; omega, by rw [e]; omega⟩
theorem aB_add {x y v : Int32} {m : Nat} (h : v = x + y) (hx : aB x m) (hy : aB y 1000) (hm : m ≤ 100000) : aB v (m + 1000) := by
  obtain ⟨a1, a2⟩ := hx
  obtain ⟨b1, b2⟩ := hy
  have e : v.toInt = x.toInt + y.toInt := by rw [h, Int32.toInt_add]; exact Int.bmod_eq_of_le (by omega) (by omega)
  exact ⟨by rw [e]; omega, by rw [e]; omega⟩
theorem lohi {al v1 v2 v3 v4 v5 v6 v7 : Int32} {bs ab : Nat} (hA : aB al 12000) (h0 : 0 < bs) (hbs : bs ≤ 1000) (hab : ab ≤ 12) (e1 : v1 = al / nI bs) (e2 : v2 = v1 - nI ab) (e3 : v3 = if 0 < v2 then v2 else 0) (e4 : v4 = al + nI bs) (e5 : v5 = v4 - 1) (e6 : v6 = v5 / nI bs) (e7 : v7 = v6 - nI ab) (h : 0 ≤ v7) : ∃ lo hi, v3 = nI lo ∧ v7 = nI hi ∧ lo ≤ hi ∧ hi ≤ 20000 := by
  obtain ⟨a1, a2⟩ := hA
  have k1 : v1.toInt = al.toInt.tdiv (bs : Int) := by rw [e1]; exact dv_b h0 hbs
  have n1 := Int.natAbs_tdiv_le_natAbs al.toInt (bs : Int)
  have k2 : v2.toInt = v1.toInt - ab := by rw [e2, Int32.toInt_sub, nI_toInt (by omega)]; exact Int.bmod_eq_of_le (by omega) (by omega)
  have k4 : v4.toInt = al.toInt + bs := by rw [e4, Int32.toInt_add, nI_toInt (by omega)]; exact Int.bmod_eq_of_le (by omega) (by omega)
  have k5 : v5.toInt = al.toInt + bs - 1 := by rw [e5, Int32.toInt_sub, k4, show (1 : Int32).toInt = 1 by decide]; exact Int.bmod_eq_of_le (by omega) (by omega)
  have k6 : v6.toInt = (al.toInt + bs - 1).tdiv (bs : Int) := by rw [e6, dv_b h0 hbs, k5]
  have n2 := Int.natAbs_tdiv_le_natAbs (al.toInt + bs - 1) (bs : Int)
  have mo := Int.tdiv_le_tdiv (a := al.toInt) (b := al.toInt + bs - 1) (c := (bs : Int)) (by omega) (by omega)
  have k7 : v7.toInt = v6.toInt - ab := by rw [e7, Int32.toInt_sub, nI_toInt (by omega)]; exact Int.bmod_eq_of_le (by omega) (by omega)
  have p7 : 0 ≤ v7.toInt := by have := Int32.le_iff_toInt_le.mp h; rw [show (0 : Int32).toInt = 0 by decide] at this; exact this
  obtain ⟨hi, hh, rfl⟩ := nI_of (Int32.not_lt.mpr h)
  rw [nI_toInt hh] at k7
  by_cases c : 0 < v2
  · rw [if_pos c] at e3
    obtain ⟨lo, hl, rfl⟩ := nI_of (Int32.not_lt.mpr (Int32.le_of_lt c))
    rw [nI_toInt hl] at k2
    exact ⟨lo, hi, e3, rfl, by omega, by omega⟩
  · rw [if_neg c] at e3
    exact ⟨0, hi, e3, rfl, Nat.zero_le _, by omega⟩
theorem bs_n {x : Int32} (h1 : ¬ x < 2) (h2 : x ≤ 1000) : ∃ n, 2 ≤ n ∧ n ≤ 1000 ∧ x = nI n := by
  obtain ⟨n, hn, rfl⟩ := nI_of (x := x) (fun q => h1 (Int32.lt_trans q (by decide)))
  exact ⟨n, Nat.not_lt.mp (fun q => h1 (nI_lt (b := 2) q (by decide))), (nI_leI (b := 1000) hn (by decide)).mp h2, rfl⟩
theorem zz_s {x : Nat → Int32} {i : Nat} (h : ∀ n, n < i → x n = 0) : ∀ n, n < i + 1 → upd x i 0 n = 0 := fun n hn => by
  by_cases e : n = i
  · subst e; exact pk_us
  · rw [pk_un e]; exact h n (by omega)
set_option maxHeartbeats 4000000 in
set_option maxRecDepth 100000 in
theorem m_X7_flow (l : Launch) (G : GG) (y : Nat) (b : Nat → Nat) (f : Nat → Int32) (r : Nat → Nat → Int32) (hcap : capOK (r 36)) : WrI l yX7_flow cX7_flow 6 (some .int) ({ frames := 1, cells := 0, slots := 0, locals := 21 }) G (mM G y b f r) [.ref y] (fun q w => ∃ (n_r_36 : Nat → Int32) (n_r_37 : Nat → Int32) (n_r_38 : Nat → Int32), w = mM G y b f (up2 (up2 (up2 r 36 n_r_36) 37 n_r_37) 38 n_r_38)) := by
  refine wr_entryI (by decide +kernel) (Nat.le_of_ble_eq_true rfl) ?_
  intro p e s m below meth c A C0 hP hK hD hA ls hl
  have hS : va_S A s.heap s.heap [] := va_S.rf
  obtain ⟨hx, hb, hml, hown, hts, hr, hlocks, hin⟩ := C0
  have hown : s.vm.findClass RX7 = some m.cls := hown
  have hDD : ∀ f' r', va_D A (mM G y b f' r') := fun f' r' => D_same hD rfl
  have hl : lv_has ls 6 [(0, .ref y)] := hl
  refine lv_iconst (v := 0) hx hb dX7_flow_0 (by decide) ?_
  refine lv_istore_n (lv' := [(1, .int 0), (0, .ref y)]) hx hb dX7_flow_1 rfl hl (by decide) rfl (fun ls hl => ?_)
  have loop2 : ∀ (k1 : Nat) (z3 : Int32) (x4 : Nat → Int32) (x5 : Nat → Int32) (x6 : Nat → Int32), sC x4 28 < k1 → (capOK x4) → ∀ (H : Heap) (locs : List Loc) (ls : Array Slot), PP G (mM G y b f (up2 (up2 (up2 r 36 x4) 37 x5) 38 x6)) H → va_S A s.heap H locs → lv_has ls 6 [(1, .int z3), (0, .ref y)] → W p l e ({ frames := 1, cells := 0, slots := 0, locals := 21 }) s m ([.ref y] : List Value).toArray below meth c H locs 0 0 (MQ below (QwI G (fun q w => ∃ (n_r_36 : Nat → Int32) (n_r_37 : Nat → Int32) (n_r_38 : Nat → Int32), w = mM G y b f (up2 (up2 (up2 r 36 n_r_36) 37 n_r_37) 38 n_r_38)) A) ([.ref y] : List Value).toArray s 0 0 A) (F0 m 2 ls []) := by
    intro k1
    induction k1 with
    | zero => intro z3 x4 x5 x6 h1; exact absurd h1 (Nat.not_lt_zero _)
    | succ k1 ih2k1 =>
      intro  z3 x4 x5 x6 hm_k1 hcap H locs ls hP hS hl
      refine lv_iconst (v := 0) hx hb dX7_flow_2 (by decide) ?_
      refine lv_istore_n (lv' := [(2, .int 0), (1, .int z3), (0, .ref y)]) hx hb dX7_flow_3 rfl hl (by decide) rfl (fun ls hl => ?_)
      have loop4 : ∀ (k7 i : Nat) (x8 : Nat → Int32), i ≤ 28 → 28 < i + k7 → (∀ n, n < i → x8 n = -1) → ∀ (H : Heap) (locs : List Loc) (ls : Array Slot), PP G (mM G y b f (up2 (up2 (up2 r 36 x4) 37 x8) 38 x6)) H → va_S A s.heap H locs → lv_has ls 6 [(2, .int (nI i)), (1, .int z3), (0, .ref y)] → W p l e ({ frames := 1, cells := 0, slots := 0, locals := 21 }) s m ([.ref y] : List Value).toArray below meth c H locs 0 0 (MQ below (QwI G (fun q w => ∃ (n_r_36 : Nat → Int32) (n_r_37 : Nat → Int32) (n_r_38 : Nat → Int32), w = mM G y b f (up2 (up2 (up2 r 36 n_r_36) 37 n_r_37) 38 n_r_38)) A) ([.ref y] : List Value).toArray s 0 0 A) (F0 m 4 ls []) := by
        intro k7
        induction k7 with
        | zero => intro i x8 h1 h2; exact absurd h1 (by omega)
        | succ k7 ih4k7 =>
          intro i x8 hi_i hk_i hfr H locs ls hP hS hl
          refine lv_iload_n hx hb dX7_flow_4 rfl (lv_at hl 0 rfl) ?_
          refine lv_bipush (v := 28) hx hb dX7_flow_5 (by decide) ?_
          refine lv_icmp_ge (tgt := 23) hx hb dX7_flow_7 (by decide) (fun c9 => ?_) (fun c9 => ?_)
          · have b7 := qge_t (a := i) (b := 28) (by omega) (by omega) c9
            refine lv_aload_n hx hb dX7_flow_23 rfl (lv_at hl 2 rfl) ?_
            refine va_get (D := G.1) (ci := 7) (v := .ref (b 37)) (C := RX7) (T := TX7) (N := 43) hx hb hts inX7 hown hK.1 hP 0 rfl rfl 37 (by decide) (hts _ mf_X7_101) (fun _ h9 => h9) rfl dX7_flow_24 ?_
            refine lv_bipush (v := 26) hx hb dX7_flow_27 (by decide) ?_
            refine lv_bipush (v := 26) hx hb dX7_flow_29 (by decide) ?_
            refine xiast (f := x8) (x := 26) hx hb hK hP (hDD _ _) hS 31 (26) (rfl) (by omega) (by decide) rfl dX7_flow_31 (fun H locs hP _ hS => ?_)
            have hP : PP G (mM G y b f (up2 (up2 (up2 r 36 x4) 37 (upd x8 (26) (26))) 38 x6)) H := hP
            refine lv_aload_n hx hb dX7_flow_32 rfl (lv_at hl 2 rfl) ?_
            refine va_get (D := G.1) (ci := 7) (v := .ref (b 38)) (C := RX7) (T := TX7) (N := 43) hx hb hts inX7 hown hK.1 hP 0 rfl rfl 38 (by decide) (hts _ mf_X7_104) (fun _ h9 => h9) rfl dX7_flow_33 ?_
            refine lv_iconst (v := 0) hx hb dX7_flow_36 (by decide) ?_
            refine lv_bipush (v := 26) hx hb dX7_flow_37 (by decide) ?_
            refine xiast (f := x6) (x := 26) hx hb hK hP (hDD _ _) hS 32 (0) (rfl) (by omega) (by decide) rfl dX7_flow_39 (fun H locs hP _ hS => ?_)
            have hP : PP G (mM G y b f (up2 (up2 (up2 r 36 x4) 37 (upd x8 (26) (26))) 38 (upd x6 (0) (26)))) H := hP
            have hJ := wJ_0 (N := 28) (adj := adjC x4) (a := 26) (qu := x6) (fun n h => hfr n (by omega)) (by decide) (by decide)
            have hDi := qDi_0 (upd x6 (0) (26))
            refine lv_iconst (v := 1) hx hb dX7_flow_40 (by decide) ?_
            refine lv_istore_n (lv' := [(2, .int 1), (1, .int z3), (0, .ref y)]) hx hb dX7_flow_41 rfl hl (by decide) rfl (fun ls hl => ?_)
            refine lv_iconst (v := 0) hx hb dX7_flow_42 (by decide) ?_
            refine lv_istore_n (lv' := [(3, .int 0), (2, .int 1), (1, .int z3), (0, .ref y)]) hx hb dX7_flow_43 rfl hl (by decide) rfl (fun ls hl => ?_)
            have loop44 : ∀ (k10 q1 : Nat) (mn : Nat) (x12 : Nat → Int32) (x13 : Nat → Int32), q1 ≤ 28 → 28 < q1 + k10 → (mn ≤ 28) → (wJ 28 (adjC x4) 26 x12 x13 mn) → (qDi x13 mn) → ∀ (H : Heap) (locs : List Loc) (ls : Array Slot), PP G (mM G y b f (up2 (up2 (up2 r 36 x4) 37 x12) 38 x13)) H → va_S A s.heap H locs → lv_has ls 6 [(3, .int (nI q1)), (2, .int (nI mn)), (1, .int z3), (0, .ref y)] → W p l e ({ frames := 1, cells := 0, slots := 0, locals := 21 }) s m ([.ref y] : List Value).toArray below meth c H locs 0 0 (MQ below (QwI G (fun q w => ∃ (n_r_36 : Nat → Int32) (n_r_37 : Nat → Int32) (n_r_38 : Nat → Int32), w = mM G y b f (up2 (up2 (up2 r 36 n_r_36) 37 n_r_37) 38 n_r_38)) A) ([.ref y] : List Value).toArray s 0 0 A) (F0 m 44 ls []) := by
              intro k10
              induction k10 with
              | zero => intro q1 mn x12 x13 h1 h2; exact absurd h1 (by omega)
              | succ k10 ih44k10 =>
                intro q1 mn x12 x13 hi_q1 hk_q1 gmn hJ hDi H locs ls hP hS hl
                refine lv_iload_n hx hb dX7_flow_44 rfl (lv_at hl 0 rfl) ?_
                refine lv_iload_n hx hb dX7_flow_45 rfl (lv_at hl 1 rfl) ?_
                refine lv_icmp_ge (tgt := 140) hx hb dX7_flow_46 (by decide) (fun c14 => ?_) (fun c14 => ?_)
                · have b46 := qge_t (a := q1) (b := mn) (by omega) (by omega) c14
                  refine lv_aload_n hx hb dX7_flow_140 rfl (lv_at hl 3 rfl) ?_
                  refine va_get (D := G.1) (ci := 7) (v := .ref (b 37)) (C := RX7) (T := TX7) (N := 43) hx hb hts inX7 hown hK.1 hP 0 rfl rfl 37 (by decide) (hts _ mf_X7_101) (fun _ h9 => h9) rfl dX7_flow_141 ?_
                  refine lv_bipush (v := 27) hx hb dX7_flow_144 (by decide) ?_
                  refine xiald (f := x12) hx hb hK hP 31 (27) (rfl) (by omega) (by decide) rfl dX7_flow_146 ?_
                  refine lv_topi (fun v15 ev15 => ?_)
                  refine lv_iconst (v := -1) hx hb dX7_flow_147 (by decide) ?_
                  refine lv_icmp_ne (tgt := 153) hx hb dX7_flow_148 (by decide) (fun c16 => ?_) (fun c16 => ?_)
                  · obtain ⟨ps0, hps0, eps0⟩ := hJ.2.1 27 (by decide) (fun h => c16 (ev15.trans h))
                    refine lv_ldc hx hb hown (hts _ mk_X7_195) dX7_flow_153 ?_
                    refine lv_istore_n (lv' := [(3, .int 1000000000), (2, .int (nI mn)), (1, .int z3), (0, .ref y)]) hx hb dX7_flow_155 rfl hl (by decide) rfl (fun ls hl => ?_)
                    refine lv_bipush (v := 27) hx hb dX7_flow_156 (by decide) ?_
                    refine lv_istore (lv' := [(4, .int 27), (3, .int 1000000000), (2, .int (nI mn)), (1, .int z3), (0, .ref y)]) hx hb dX7_flow_158 hl (by decide) rfl (fun ls hl => ?_)
                    have loop160 : ∀ (k17 : Nat) (y7 : Nat) (nn : Nat) (ps : Nat) (dd : Nat), ps < k17 → (y7 < 28) → (0 < nn ∧ nn ≤ 1000000000) → (ps < mn ∧ x13 ps = nI y7) → (y7 = pt x12 dd) → (onW x12 x13 mn ps dd) → (∀ e, e < dd → eC x4 x12 nn e) → ∀ (H : Heap) (locs : List Loc) (ls : Array Slot), PP G (mM G y b f (up2 (up2 (up2 r 36 x4) 37 x12) 38 x13)) H → va_S A s.heap H locs → lv_has ls 6 [(4, .int (nI y7)), (3, .int (nI nn)), (1, .int z3), (0, .ref y)] → W p l e ({ frames := 1, cells := 0, slots := 0, locals := 21 }) s m ([.ref y] : List Value).toArray below meth c H locs 0 0 (MQ below (QwI G (fun q w => ∃ (n_r_36 : Nat → Int32) (n_r_37 : Nat → Int32) (n_r_38 : Nat → Int32), w = mM G y b f (up2 (up2 (up2 r 36 n_r_36) 37 n_r_37) 38 n_r_38)) A) ([.ref y] : List Value).toArray s 0 0 A) (F0 m 160 ls []) := by
                      intro k17
                      induction k17 with
                      | zero => intro y7 nn ps dd h1; exact absurd h1 (Nat.not_lt_zero _)
                      | succ k17 ih160k17 =>
                        intro  y7 nn ps dd hm_k17 gy7 gnn hps hyd hW hmin H locs ls hP hS hl
                        refine lv_iload hx hb dX7_flow_160 (lv_at hl 0 rfl) ?_
                        refine lv_bipush (v := 26) hx hb dX7_flow_162 (by decide) ?_
                        refine lv_icmp_eq (tgt := 202) hx hb dX7_flow_164 (by decide) (fun c21 => ?_) (fun c21 => ?_)
                        · have b164 := qeq_t (a := y7) (b := 26) (by omega) (by omega) c21
                          obtain ⟨D, eD⟩ : ∃ D : Nat, D = dd := ⟨_, rfl⟩
                          have hyD : 26 = pt x12 D := by rw [eD]; exact b164.symm.trans hyd
                          have hW := hW
                          rw [← eD] at hW
                          rw [← eD] at hmin
                          refine lv_bipush (v := 27) hx hb dX7_flow_202 (by decide) ?_
                          refine lv_istore (lv' := [(4, .int 27), (3, .int (nI nn)), (1, .int z3), (0, .ref y)]) hx hb dX7_flow_204 hl (by decide) rfl (fun ls hl => ?_)
                          have loop206 : ∀ (k22 : Nat) (y7 : Nat) (ps : Nat) (dd : Nat) (x25 : Nat → Int32), ps < k22 → (y7 < 28) → (capOK x25) → (ps < mn ∧ x13 ps = nI y7) → (y7 = pt x12 dd) → (dd ≤ D) → (∀ e, dd ≤ e → e < D → x25 (28 * pt x12 (e + 1) + pt x12 e) = x4 (28 * pt x12 (e + 1) + pt x12 e)) → (sS x25 x4 y7) → ∀ (H : Heap) (locs : List Loc) (ls : Array Slot), PP G (mM G y b f (up2 (up2 (up2 r 36 x25) 37 x12) 38 x13)) H → va_S A s.heap H locs → lv_has ls 6 [(4, .int (nI y7)), (3, .int (nI nn)), (1, .int z3), (0, .ref y)] → W p l e ({ frames := 1, cells := 0, slots := 0, locals := 21 }) s m ([.ref y] : List Value).toArray below meth c H locs 0 0 (MQ below (QwI G (fun q w => ∃ (n_r_36 : Nat → Int32) (n_r_37 : Nat → Int32) (n_r_38 : Nat → Int32), w = mM G y b f (up2 (up2 (up2 r 36 n_r_36) 37 n_r_37) 38 n_r_38)) A) ([.ref y] : List Value).toArray s 0 0 A) (F0 m 206 ls []) := by
                            intro k22
                            induction k22 with
                            | zero => intro y7 ps dd x25 h1; exact absurd h1 (Nat.not_lt_zero _)
                            | succ k22 ih206k22 =>
                              intro  y7 ps dd x25 hm_k22 gy7 hcap hps hyd hdl hsame hsS H locs ls hP hS hl
                              refine lv_iload hx hb dX7_flow_206 (lv_at hl 0 rfl) ?_
                              refine lv_bipush (v := 26) hx hb dX7_flow_208 (by decide) ?_
                              refine lv_icmp_eq (tgt := 269) hx hb dX7_flow_210 (by decide) (fun c26 => ?_) (fun c26 => ?_)
                              · have b210 := qeq_t (a := y7) (b := 26) (by omega) (by omega) c26
                                refine lv_iload_n hx hb dX7_flow_269 rfl (lv_at hl 2 rfl) ?_
                                refine lv_iload_n hx hb dX7_flow_270 rfl (lv_at hl 1 rfl) ?_
                                refine lv_iadd hx hb dX7_flow_271 ?_
                                refine lv_topi (fun v27 ev27 => ?_)
                                refine lv_istore_n (lv' := [(1, .int v27), (4, .int (nI y7)), (3, .int (nI nn)), (0, .ref y)]) hx hb dX7_flow_272 rfl hl (by decide) rfl (fun ls hl => ?_)
                                refine lv_goto (tgt := 2) hx hb dX7_flow_273 (by decide) ?_
                                exact ih2k1 v27 x25 x12 x13 (by have h9 := hsS.elim (fun q => absurd b210 q.1) (fun q => q.2); omega) hcap _ _ _ hP hS (lv_sub hl [0, 3] rfl)
                              · have b210 := qeq_f (a := y7) (b := 26) (by omega) (by omega) c26
                                obtain ⟨ps2, u7, hps2, hu7, eq7, ef7, -⟩ := wJ_up hJ hps.1 hps.2 gy7 b210 (by decide)
                                have hu := pt_s hyd ef7 (by omega)
                                have hdD : dd < D := Nat.lt_of_le_of_ne hdl (fun h => b210 (by rw [hyd, h]; exact hyD.symm))
                                obtain ⟨ca, eca0, hca, hca2⟩ := hmin dd hdD
                                have eca : x25 (28 * u7 + y7) = nI ca := by rw [hu, hyd]; exact (hsame dd (Nat.le_refl _) hdD).trans eca0
                                obtain ⟨cb2, cb, q9, ecb, hcs⟩ := hcap u7 y7 (by omega) gy7
                                have hne : u7 ≠ y7 := by rw [hu, hyd]; exact fun h => hW.2.1 dd (dd + 1) (by omega) (by omega) h.symm
                                refine lv_aload_n hx hb dX7_flow_213 rfl (lv_at hl 3 rfl) ?_
                                refine va_get (D := G.1) (ci := 7) (v := .ref (b 36)) (C := RX7) (T := TX7) (N := 43) hx hb hts inX7 hown hK.1 hP 0 rfl rfl 36 (by decide) (hts _ mf_X7_98) (fun _ h9 => h9) rfl dX7_flow_214 ?_
                                refine lv_bipush (v := 28) hx hb dX7_flow_217 (by decide) ?_
                                refine lv_aload_n hx hb dX7_flow_219 rfl (lv_at hl 3 rfl) ?_
                                refine va_get (D := G.1) (ci := 7) (v := .ref (b 37)) (C := RX7) (T := TX7) (N := 43) hx hb hts inX7 hown hK.1 hP 0 rfl rfl 37 (by decide) (hts _ mf_X7_101) (fun _ h9 => h9) rfl dX7_flow_220 ?_
                                refine lv_iload hx hb dX7_flow_223 (lv_at hl 0 rfl) ?_
                                refine xiald (f := x12) hx hb hK hP 31 (y7) (rfl) (by omega) (by decide) rfl dX7_flow_225 ?_
                                refine lv_topi (fun v28 ev28 => ?_)
                                obtain rfl : v28 = nI (u7) := ev28.trans (ef7)
                                refine lv_imul hx hb dX7_flow_226 ?_
                                refine lv_topi (fun v29 ev29 => ?_)
                                obtain rfl : v29 = nI (28 * (u7)) := nI_times ev29 rfl rfl
                                refine lv_iload hx hb dX7_flow_227 (lv_at hl 0 rfl) ?_
                                refine lv_iadd hx hb dX7_flow_229 ?_
                                refine lv_topi (fun v30 ev30 => ?_)
                                obtain rfl : v30 = nI ((28 * (u7)) + y7) := nI_plus ev30 rfl rfl
                                refine lv_dup2_11 hx hb dX7_flow_230 rfl rfl ?_
                                refine xiald (f := x25) hx hb hK hP 30 (((28 * (u7)) + y7)) (rfl) (by omega) (by decide) rfl dX7_flow_231 ?_
                                refine lv_topi (fun v31 ev31 => ?_)
                                obtain rfl : v31 = nI (ca) := ev31.trans (eca)
                                refine lv_iload_n hx hb dX7_flow_232 rfl (lv_at hl 1 rfl) ?_
                                refine lv_isub hx hb dX7_flow_233 ?_
                                refine lv_topi (fun v32 ev32 => ?_)
                                obtain rfl : v32 = nI ((ca) - nn) := nI_minus ev32 rfl rfl (by omega)
                                refine xiast (f := x25) (x := (nI ((ca) - nn))) hx hb hK hP (hDD _ _) hS 30 (((28 * (u7)) + y7)) (rfl) (by omega) (by decide) rfl dX7_flow_234 (fun H locs hP _ hS => ?_)
                                have hP : PP G (mM G y b f (up2 (up2 (up2 r 36 (upd x25 (((28 * (u7)) + y7)) ((nI ((ca) - nn))))) 37 x12) 38 x13)) H := hP
                                refine lv_aload_n hx hb dX7_flow_235 rfl (lv_at hl 3 rfl) ?_
                                refine va_get (D := G.1) (ci := 7) (v := .ref (b 36)) (C := RX7) (T := TX7) (N := 43) hx hb hts inX7 hown hK.1 hP 0 rfl rfl 36 (by decide) (hts _ mf_X7_98) (fun _ h9 => h9) rfl dX7_flow_236 ?_
                                refine lv_bipush (v := 28) hx hb dX7_flow_239 (by decide) ?_
                                refine lv_iload hx hb dX7_flow_241 (lv_at hl 0 rfl) ?_
                                refine lv_imul hx hb dX7_flow_243 ?_
                                refine lv_topi (fun v33 ev33 => ?_)
                                obtain rfl : v33 = nI (28 * y7) := nI_times ev33 rfl rfl
                                refine lv_aload_n hx hb dX7_flow_244 rfl (lv_at hl 3 rfl) ?_
                                refine va_get (D := G.1) (ci := 7) (v := .ref (b 37)) (C := RX7) (T := TX7) (N := 43) hx hb hts inX7 hown hK.1 hP 0 rfl rfl 37 (by decide) (hts _ mf_X7_101) (fun _ h9 => h9) rfl dX7_flow_245 ?_
                                refine lv_iload hx hb dX7_flow_248 (lv_at hl 0 rfl) ?_
                                refine xiald (f := x12) hx hb hK hP 31 (y7) (rfl) (by omega) (by decide) rfl dX7_flow_250 ?_
                                refine lv_topi (fun v34 ev34 => ?_)
                                obtain rfl : v34 = nI (u7) := ev34.trans (ef7)
                                refine lv_iadd hx hb dX7_flow_251 ?_
                                refine lv_topi (fun v35 ev35 => ?_)
                                obtain rfl : v35 = nI ((28 * y7) + (u7)) := nI_plus ev35 rfl rfl
                                refine lv_dup2_11 hx hb dX7_flow_252 rfl rfl ?_
                                refine xiald (f := (upd x25 (((28 * (u7)) + y7)) ((nI ((ca) - nn))))) hx hb hK hP 30 (((28 * y7) + (u7))) (rfl) (by omega) (by decide) rfl dX7_flow_253 ?_
                                refine lv_topi (fun v36 ev36 => ?_)
                                obtain rfl : v36 = nI (cb) := ev36.trans ((pk_un (by omega)).trans ecb)
                                refine lv_iload_n hx hb dX7_flow_254 rfl (lv_at hl 1 rfl) ?_
                                refine lv_iadd hx hb dX7_flow_255 ?_
                                refine lv_topi (fun v37 ev37 => ?_)
                                obtain rfl : v37 = nI ((cb) + nn) := nI_plus ev37 rfl rfl
                                refine xiast (f := (upd x25 (((28 * (u7)) + y7)) ((nI ((ca) - nn))))) (x := (nI ((cb) + nn))) hx hb hK hP (hDD _ _) hS 30 (((28 * y7) + (u7))) (rfl) (by omega) (by decide) rfl dX7_flow_256 (fun H locs hP _ hS => ?_)
                                have hP : PP G (mM G y b f (up2 (up2 (up2 r 36 (upd (upd x25 (((28 * (u7)) + y7)) ((nI ((ca) - nn)))) (((28 * y7) + (u7))) ((nI ((cb) + nn))))) 37 x12) 38 x13)) H := hP
                                have hcap : capOK (upd (upd x25 (((28 * (u7)) + y7)) ((nI ((ca) - nn)))) (((28 * y7) + (u7))) ((nI ((cb) + nn)))) := cap_aug (u := u7) (y := y7) hcap hu7 gy7 hne eca ecb hca2 (by omega) hca
                                have hsame := same_s (ca := ca) (cb := cb) (n := nn) hW hsame hdD hyd hu
                                have hsS := sS_s (cb := cb) hsS b210 hu7 gy7 eca hca2 hca gnn.1 hne
                                refine lv_aload_n hx hb dX7_flow_257 rfl (lv_at hl 3 rfl) ?_
                                refine va_get (D := G.1) (ci := 7) (v := .ref (b 37)) (C := RX7) (T := TX7) (N := 43) hx hb hts inX7 hown hK.1 hP 0 rfl rfl 37 (by decide) (hts _ mf_X7_101) (fun _ h9 => h9) rfl dX7_flow_258 ?_
                                refine lv_iload hx hb dX7_flow_261 (lv_at hl 0 rfl) ?_
                                refine xiald (f := x12) hx hb hK hP 31 (y7) (rfl) (by omega) (by decide) rfl dX7_flow_263 ?_
                                refine lv_topi (fun v38 ev38 => ?_)
                                obtain rfl : v38 = nI (u7) := ev38.trans (ef7)
                                refine lv_istore (lv' := [(4, .int (nI (u7))), (3, .int (nI nn)), (1, .int z3), (0, .ref y)]) hx hb dX7_flow_264 hl (by decide) rfl (fun ls hl => ?_)
                                refine lv_goto (tgt := 206) hx hb dX7_flow_266 (by decide) ?_
                                exact ih206k22 (u7) ps2 (dd + 1) (upd (upd x25 (((28 * (u7)) + y7)) ((nI ((ca) - nn)))) (((28 * y7) + (u7))) ((nI ((cb) + nn)))) (by omega) (by omega) hcap (⟨by omega, eq7⟩) (hu) (hdD) (hsame) (hsS) _ _ _ hP hS (lv_sub hl [0, 1, 2, 3] rfl)
                          exact loop206 (ps0 + 1) 27 ps0 0 x4 (by omega) (by omega) hcap (⟨hps0, eps0⟩) (rfl) (Nat.zero_le _) (fun _ _ _ => rfl) (Or.inl ⟨by decide, rfl⟩) _ _ _ hP hS (lv_sub hl [0, 1, 2, 3] rfl)
                        · have b164 := qeq_f (a := y7) (b := 26) (by omega) (by omega) c21
                          obtain ⟨ps2, u7, hps2, hu7, eq7, ef7, hadj⟩ := wJ_up hJ hps.1 hps.2 gy7 b164 (by decide)
                          obtain ⟨ca, eca, hca, hca2⟩ := hadj
                          have hu := pt_s hyd ef7 (by omega)
                          refine lv_iload_n hx hb dX7_flow_167 rfl (lv_at hl 1 rfl) ?_
                          refine lv_aload_n hx hb dX7_flow_168 rfl (lv_at hl 3 rfl) ?_
                          refine va_get (D := G.1) (ci := 7) (v := .ref (b 36)) (C := RX7) (T := TX7) (N := 43) hx hb hts inX7 hown hK.1 hP 0 rfl rfl 36 (by decide) (hts _ mf_X7_98) (fun _ h9 => h9) rfl dX7_flow_169 ?_
                          refine lv_bipush (v := 28) hx hb dX7_flow_172 (by decide) ?_
                          refine lv_aload_n hx hb dX7_flow_174 rfl (lv_at hl 3 rfl) ?_
                          refine va_get (D := G.1) (ci := 7) (v := .ref (b 37)) (C := RX7) (T := TX7) (N := 43) hx hb hts inX7 hown hK.1 hP 0 rfl rfl 37 (by decide) (hts _ mf_X7_101) (fun _ h9 => h9) rfl dX7_flow_175 ?_
                          refine lv_iload hx hb dX7_flow_178 (lv_at hl 0 rfl) ?_
                          refine xiald (f := x12) hx hb hK hP 31 (y7) (rfl) (by omega) (by decide) rfl dX7_flow_180 ?_
                          refine lv_topi (fun v39 ev39 => ?_)
                          obtain rfl : v39 = nI (u7) := ev39.trans (ef7)
                          refine lv_imul hx hb dX7_flow_181 ?_
                          refine lv_topi (fun v40 ev40 => ?_)
                          obtain rfl : v40 = nI (28 * (u7)) := nI_times ev40 rfl rfl
                          refine lv_iload hx hb dX7_flow_182 (lv_at hl 0 rfl) ?_
                          refine lv_iadd hx hb dX7_flow_184 ?_
                          refine lv_topi (fun v41 ev41 => ?_)
                          obtain rfl : v41 = nI ((28 * (u7)) + y7) := nI_plus ev41 rfl rfl
                          refine xiald (f := x4) hx hb hK hP 30 (((28 * (u7)) + y7)) (rfl) (by omega) (by decide) rfl dX7_flow_185 ?_
                          refine lv_topi (fun v42 ev42 => ?_)
                          obtain rfl : v42 = nI (ca) := ev42.trans (eca)
                          refine va_mmin hx hb (hml.trans hl.1.symm) hown (hts _ ml_X7_207) (hts _ mst_yJ9_min_7cf53) (hts _ mz_RJ9) (hts _ mcode_yJ9_min_7cf53) (Nat.le_of_ble_eq_true rfl) (Nat.le_of_ble_eq_true rfl) (Nat.zero_le _) (Nat.zero_le _) dX7_flow_186 ?_
                          refine lv_topi (fun v43 ev43 => ?_)
                          obtain rfl : v43 = nI (min nn ca) := min_nat ev43 (by omega) (by omega)
                          refine lv_istore_n (lv' := [(3, .int (nI (min nn ca))), (4, .int (nI y7)), (1, .int z3), (0, .ref y)]) hx hb dX7_flow_189 rfl hl (by decide) rfl (fun ls hl => ?_)
                          refine lv_aload_n hx hb dX7_flow_190 rfl (lv_at hl 3 rfl) ?_
                          refine va_get (D := G.1) (ci := 7) (v := .ref (b 37)) (C := RX7) (T := TX7) (N := 43) hx hb hts inX7 hown hK.1 hP 0 rfl rfl 37 (by decide) (hts _ mf_X7_101) (fun _ h9 => h9) rfl dX7_flow_191 ?_
                          refine lv_iload hx hb dX7_flow_194 (lv_at hl 1 rfl) ?_
                          refine xiald (f := x12) hx hb hK hP 31 (y7) (rfl) (by omega) (by decide) rfl dX7_flow_196 ?_
                          refine lv_topi (fun v44 ev44 => ?_)
                          obtain rfl : v44 = nI (u7) := ev44.trans (ef7)
                          refine lv_istore (lv' := [(4, .int (nI (u7))), (3, .int (nI (min nn ca))), (1, .int z3), (0, .ref y)]) hx hb dX7_flow_197 hl (by decide) rfl (fun ls hl => ?_)
                          refine lv_goto (tgt := 160) hx hb dX7_flow_199 (by decide) ?_
                          exact ih160k17 (u7) (min nn ca) ps2 (dd + 1) (by omega) (by omega) (by omega) (⟨by omega, eq7⟩) (hu) (onW_s hW hDi hps2 eq7 hu7 hu) (eC_s hmin hyd hu eca hca2) _ _ _ hP hS (lv_sub hl [0, 1, 2, 3] rfl)
                    exact loop160 (ps0 + 1) 27 1000000000 ps0 0 (by omega) (by omega) (by omega) (⟨hps0, eps0⟩) (rfl) (onW_0 hps0 eps0) (fun e h => absurd h (Nat.not_lt_zero e)) _ _ _ hP hS (lv_sub hl [0, 1, 3, 4] rfl)
                  · refine lv_iload_n hx hb dX7_flow_151 rfl (lv_at hl 2 rfl) ?_
                    exact wr_iret hx hb hr hlocks hS hP ⟨x4, x12, x13, rfl⟩ dX7_flow_152
                · have b46 := qge_f (a := q1) (b := mn) (by omega) (by omega) c14
                  refine lv_aload_n hx hb dX7_flow_49 rfl (lv_at hl 3 rfl) ?_
                  refine va_get (D := G.1) (ci := 7) (v := .ref (b 37)) (C := RX7) (T := TX7) (N := 43) hx hb hts inX7 hown hK.1 hP 0 rfl rfl 37 (by decide) (hts _ mf_X7_101) (fun _ h9 => h9) rfl dX7_flow_50 ?_
                  refine lv_bipush (v := 27) hx hb dX7_flow_53 (by decide) ?_
                  refine xiald (f := x12) hx hb hK hP 31 (27) (rfl) (by omega) (by decide) rfl dX7_flow_55 ?_
                  refine lv_topi (fun v45 ev45 => ?_)
                  refine lv_iconst (v := -1) hx hb dX7_flow_56 (by decide) ?_
                  refine lv_icmp_ne (tgt := 140) hx hb dX7_flow_57 (by decide) (fun c46 => ?_) (fun c46 => ?_)
                  · refine lv_aload_n hx hb dX7_flow_140 rfl (lv_at hl 3 rfl) ?_
                    refine va_get (D := G.1) (ci := 7) (v := .ref (b 37)) (C := RX7) (T := TX7) (N := 43) hx hb hts inX7 hown hK.1 hP 0 rfl rfl 37 (by decide) (hts _ mf_X7_101) (fun _ h9 => h9) rfl dX7_flow_141 ?_
                    refine lv_bipush (v := 27) hx hb dX7_flow_144 (by decide) ?_
                    refine xiald (f := x12) hx hb hK hP 31 (27) (rfl) (by omega) (by decide) rfl dX7_flow_146 ?_
                    refine lv_topi (fun v47 ev47 => ?_)
                    refine lv_iconst (v := -1) hx hb dX7_flow_147 (by decide) ?_
                    refine lv_icmp_ne (tgt := 153) hx hb dX7_flow_148 (by decide) (fun c48 => ?_) (fun c48 => ?_)
                    · obtain ⟨ps0, hps0, eps0⟩ := hJ.2.1 27 (by decide) (fun h => c48 (ev47.trans h))
                      refine lv_ldc hx hb hown (hts _ mk_X7_195) dX7_flow_153 ?_
                      refine lv_istore_n (lv' := [(3, .int 1000000000), (2, .int (nI mn)), (1, .int z3), (0, .ref y)]) hx hb dX7_flow_155 rfl hl (by decide) rfl (fun ls hl => ?_)
                      refine lv_bipush (v := 27) hx hb dX7_flow_156 (by decide) ?_
                      refine lv_istore (lv' := [(4, .int 27), (3, .int 1000000000), (2, .int (nI mn)), (1, .int z3), (0, .ref y)]) hx hb dX7_flow_158 hl (by decide) rfl (fun ls hl => ?_)
                      have loop160 : ∀ (k49 : Nat) (y7 : Nat) (nn : Nat) (ps : Nat) (dd : Nat), ps < k49 → (y7 < 28) → (0 < nn ∧ nn ≤ 1000000000) → (ps < mn ∧ x13 ps = nI y7) → (y7 = pt x12 dd) → (onW x12 x13 mn ps dd) → (∀ e, e < dd → eC x4 x12 nn e) → ∀ (H : Heap) (locs : List Loc) (ls : Array Slot), PP G (mM G y b f (up2 (up2 (up2 r 36 x4) 37 x12) 38 x13)) H → va_S A s.heap H locs → lv_has ls 6 [(4, .int (nI y7)), (3, .int (nI nn)), (1, .int z3), (0, .ref y)] → W p l e ({ frames := 1, cells := 0, slots := 0, locals := 21 }) s m ([.ref y] : List Value).toArray below meth c H locs 0 0 (MQ below (QwI G (fun q w => ∃ (n_r_36 : Nat → Int32) (n_r_37 : Nat → Int32) (n_r_38 : Nat → Int32), w = mM G y b f (up2 (up2 (up2 r 36 n_r_36) 37 n_r_37) 38 n_r_38)) A) ([.ref y] : List Value).toArray s 0 0 A) (F0 m 160 ls []) := by
                        intro k49
                        induction k49 with
                        | zero => intro y7 nn ps dd h1; exact absurd h1 (Nat.not_lt_zero _)
                        | succ k49 ih160k49 =>
                          intro  y7 nn ps dd hm_k49 gy7 gnn hps hyd hW hmin H locs ls hP hS hl
                          refine lv_iload hx hb dX7_flow_160 (lv_at hl 0 rfl) ?_
                          refine lv_bipush (v := 26) hx hb dX7_flow_162 (by decide) ?_
                          refine lv_icmp_eq (tgt := 202) hx hb dX7_flow_164 (by decide) (fun c53 => ?_) (fun c53 => ?_)
                          · have b164 := qeq_t (a := y7) (b := 26) (by omega) (by omega) c53
                            obtain ⟨D, eD⟩ : ∃ D : Nat, D = dd := ⟨_, rfl⟩
                            have hyD : 26 = pt x12 D := by rw [eD]; exact b164.symm.trans hyd
                            have hW := hW
                            rw [← eD] at hW
                            rw [← eD] at hmin
                            refine lv_bipush (v := 27) hx hb dX7_flow_202 (by decide) ?_
                            refine lv_istore (lv' := [(4, .int 27), (3, .int (nI nn)), (1, .int z3), (0, .ref y)]) hx hb dX7_flow_204 hl (by decide) rfl (fun ls hl => ?_)
                            have loop206 : ∀ (k54 : Nat) (y7 : Nat) (ps : Nat) (dd : Nat) (x57 : Nat → Int32), ps < k54 → (y7 < 28) → (capOK x57) → (ps < mn ∧ x13 ps = nI y7) → (y7 = pt x12 dd) → (dd ≤ D) → (∀ e, dd ≤ e → e < D → x57 (28 * pt x12 (e + 1) + pt x12 e) = x4 (28 * pt x12 (e + 1) + pt x12 e)) → (sS x57 x4 y7) → ∀ (H : Heap) (locs : List Loc) (ls : Array Slot), PP G (mM G y b f (up2 (up2 (up2 r 36 x57) 37 x12) 38 x13)) H → va_S A s.heap H locs → lv_has ls 6 [(4, .int (nI y7)), (3, .int (nI nn)), (1, .int z3), (0, .ref y)] → W p l e ({ frames := 1, cells := 0, slots := 0, locals := 21 }) s m ([.ref y] : List Value).toArray below meth c H locs 0 0 (MQ below (QwI G (fun q w => ∃ (n_r_36 : Nat → Int32) (n_r_37 : Nat → Int32) (n_r_38 : Nat → Int32), w = mM G y b f (up2 (up2 (up2 r 36 n_r_36) 37 n_r_37) 38 n_r_38)) A) ([.ref y] : List Value).toArray s 0 0 A) (F0 m 206 ls []) := by
                              intro k54
                              induction k54 with
                              | zero => intro y7 ps dd x57 h1; exact absurd h1 (Nat.not_lt_zero _)
                              | succ k54 ih206k54 =>
                                intro  y7 ps dd x57 hm_k54 gy7 hcap hps hyd hdl hsame hsS H locs ls hP hS hl
                                refine lv_iload hx hb dX7_flow_206 (lv_at hl 0 rfl) ?_
                                refine lv_bipush (v := 26) hx hb dX7_flow_208 (by decide) ?_
                                refine lv_icmp_eq (tgt := 269) hx hb dX7_flow_210 (by decide) (fun c58 => ?_) (fun c58 => ?_)
                                · have b210 := qeq_t (a := y7) (b := 26) (by omega) (by omega) c58
                                  refine lv_iload_n hx hb dX7_flow_269 rfl (lv_at hl 2 rfl) ?_
                                  refine lv_iload_n hx hb dX7_flow_270 rfl (lv_at hl 1 rfl) ?_
                                  refine lv_iadd hx hb dX7_flow_271 ?_
                                  refine lv_topi (fun v59 ev59 => ?_)
                                  refine lv_istore_n (lv' := [(1, .int v59), (4, .int (nI y7)), (3, .int (nI nn)), (0, .ref y)]) hx hb dX7_flow_272 rfl hl (by decide) rfl (fun ls hl => ?_)
                                  refine lv_goto (tgt := 2) hx hb dX7_flow_273 (by decide) ?_
                                  exact ih2k1 v59 x57 x12 x13 (by have h9 := hsS.elim (fun q => absurd b210 q.1) (fun q => q.2); omega) hcap _ _ _ hP hS (lv_sub hl [0, 3] rfl)
                                · have b210 := qeq_f (a := y7) (b := 26) (by omega) (by omega) c58
                                  obtain ⟨ps2, u7, hps2, hu7, eq7, ef7, -⟩ := wJ_up hJ hps.1 hps.2 gy7 b210 (by decide)
                                  have hu := pt_s hyd ef7 (by omega)
                                  have hdD : dd < D := Nat.lt_of_le_of_ne hdl (fun h => b210 (by rw [hyd, h]; exact hyD.symm))
                                  obtain ⟨ca, eca0, hca, hca2⟩ := hmin dd hdD
                                  have eca : x57 (28 * u7 + y7) = nI ca := by rw [hu, hyd]; exact (hsame dd (Nat.le_refl _) hdD).trans eca0
                                  obtain ⟨cb2, cb, q9, ecb, hcs⟩ := hcap u7 y7 (by omega) gy7
                                  have hne : u7 ≠ y7 := by rw [hu, hyd]; exact fun h => hW.2.1 dd (dd + 1) (by omega) (by omega) h.symm
                                  refine lv_aload_n hx hb dX7_flow_213 rfl (lv_at hl 3 rfl) ?_
                                  refine va_get (D := G.1) (ci := 7) (v := .ref (b 36)) (C := RX7) (T := TX7) (N := 43) hx hb hts inX7 hown hK.1 hP 0 rfl rfl 36 (by decide) (hts _ mf_X7_98) (fun _ h9 => h9) rfl dX7_flow_214 ?_
                                  refine lv_bipush (v := 28) hx hb dX7_flow_217 (by decide) ?_
                                  refine lv_aload_n hx hb dX7_flow_219 rfl (lv_at hl 3 rfl) ?_
                                  refine va_get (D := G.1) (ci := 7) (v := .ref (b 37)) (C := RX7) (T := TX7) (N := 43) hx hb hts inX7 hown hK.1 hP 0 rfl rfl 37 (by decide) (hts _ mf_X7_101) (fun _ h9 => h9) rfl dX7_flow_220 ?_
                                  refine lv_iload hx hb dX7_flow_223 (lv_at hl 0 rfl) ?_
                                  refine xiald (f := x12) hx hb hK hP 31 (y7) (rfl) (by omega) (by decide) rfl dX7_flow_225 ?_
                                  refine lv_topi (fun v60 ev60 => ?_)
                                  obtain rfl : v60 = nI (u7) := ev60.trans (ef7)
                                  refine lv_imul hx hb dX7_flow_226 ?_
                                  refine lv_topi (fun v61 ev61 => ?_)
                                  obtain rfl : v61 = nI (28 * (u7)) := nI_times ev61 rfl rfl
                                  refine lv_iload hx hb dX7_flow_227 (lv_at hl 0 rfl) ?_
                                  refine lv_iadd hx hb dX7_flow_229 ?_
                                  refine lv_topi (fun v62 ev62 => ?_)
                                  obtain rfl : v62 = nI ((28 * (u7)) + y7) := nI_plus ev62 rfl rfl
                                  refine lv_dup2_11 hx hb dX7_flow_230 rfl rfl ?_
                                  refine xiald (f := x57) hx hb hK hP 30 (((28 * (u7)) + y7)) (rfl) (by omega) (by decide) rfl dX7_flow_231 ?_
                                  refine lv_topi (fun v63 ev63 => ?_)
                                  obtain rfl : v63 = nI (ca) := ev63.trans (eca)
                                  refine lv_iload_n hx hb dX7_flow_232 rfl (lv_at hl 1 rfl) ?_
                                  refine lv_isub hx hb dX7_flow_233 ?_
                                  refine lv_topi (fun v64 ev64 => ?_)
                                  obtain rfl : v64 = nI ((ca) - nn) := nI_minus ev64 rfl rfl (by omega)
                                  refine xiast (f := x57) (x := (nI ((ca) - nn))) hx hb hK hP (hDD _ _) hS 30 (((28 * (u7)) + y7)) (rfl) (by omega) (by decide) rfl dX7_flow_234 (fun H locs hP _ hS => ?_)
                                  have hP : PP G (mM G y b f (up2 (up2 (up2 r 36 (upd x57 (((28 * (u7)) + y7)) ((nI ((ca) - nn))))) 37 x12) 38 x13)) H := hP
                                  refine lv_aload_n hx hb dX7_flow_235 rfl (lv_at hl 3 rfl) ?_
                                  refine va_get (D := G.1) (ci := 7) (v := .ref (b 36)) (C := RX7) (T := TX7) (N := 43) hx hb hts inX7 hown hK.1 hP 0 rfl rfl 36 (by decide) (hts _ mf_X7_98) (fun _ h9 => h9) rfl dX7_flow_236 ?_
                                  refine lv_bipush (v := 28) hx hb dX7_flow_239 (by decide) ?_
                                  refine lv_iload hx hb dX7_flow_241 (lv_at hl 0 rfl) ?_
                                  refine lv_imul hx hb dX7_flow_243 ?_
                                  refine lv_topi (fun v65 ev65 => ?_)
                                  obtain rfl : v65 = nI (28 * y7) := nI_times ev65 rfl rfl
                                  refine lv_aload_n hx hb dX7_flow_244 rfl (lv_at hl 3 rfl) ?_
                                  refine va_get (D := G.1) (ci := 7) (v := .ref (b 37)) (C := RX7) (T := TX7) (N := 43) hx hb hts inX7 hown hK.1 hP 0 rfl rfl 37 (by decide) (hts _ mf_X7_101) (fun _ h9 => h9) rfl dX7_flow_245 ?_
                                  refine lv_iload hx hb dX7_flow_248 (lv_at hl 0 rfl) ?_
                                  refine xiald (f := x12) hx hb hK hP 31 (y7) (rfl) (by omega) (by decide) rfl dX7_flow_250 ?_
                                  refine lv_topi (fun v66 ev66 => ?_)
                                  obtain rfl : v66 = nI (u7) := ev66.trans (ef7)
                                  refine lv_iadd hx hb dX7_flow_251 ?_
                                  refine lv_topi (fun v67 ev67 => ?_)
                                  obtain rfl : v67 = nI ((28 * y7) + (u7)) := nI_plus ev67 rfl rfl
                                  refine lv_dup2_11 hx hb dX7_flow_252 rfl rfl ?_
                                  refine xiald (f := (upd x57 (((28 * (u7)) + y7)) ((nI ((ca) - nn))))) hx hb hK hP 30 (((28 * y7) + (u7))) (rfl) (by omega) (by decide) rfl dX7_flow_253 ?_
                                  refine lv_topi (fun v68 ev68 => ?_)
                                  obtain rfl : v68 = nI (cb) := ev68.trans ((pk_un (by omega)).trans ecb)
                                  refine lv_iload_n hx hb dX7_flow_254 rfl (lv_at hl 1 rfl) ?_
                                  refine lv_iadd hx hb dX7_flow_255 ?_
                                  refine lv_topi (fun v69 ev69 => ?_)
                                  obtain rfl : v69 = nI ((cb) + nn) := nI_plus ev69 rfl rfl
                                  refine xiast (f := (upd x57 (((28 * (u7)) + y7)) ((nI ((ca) - nn))))) (x := (nI ((cb) + nn))) hx hb hK hP (hDD _ _) hS 30 (((28 * y7) + (u7))) (rfl) (by omega) (by decide) rfl dX7_flow_256 (fun H locs hP _ hS => ?_)
                                  have hP : PP G (mM G y b f (up2 (up2 (up2 r 36 (upd (upd x57 (((28 * (u7)) + y7)) ((nI ((ca) - nn)))) (((28 * y7) + (u7))) ((nI ((cb) + nn))))) 37 x12) 38 x13)) H := hP
                                  have hcap : capOK (upd (upd x57 (((28 * (u7)) + y7)) ((nI ((ca) - nn)))) (((28 * y7) + (u7))) ((nI ((cb) + nn)))) := cap_aug (u := u7) (y := y7) hcap hu7 gy7 hne eca ecb hca2 (by omega) hca
                                  have hsame := same_s (ca := ca) (cb := cb) (n := nn) hW hsame hdD hyd hu
                                  have hsS := sS_s (cb := cb) hsS b210 hu7 gy7 eca hca2 hca gnn.1 hne
                                  refine lv_aload_n hx hb dX7_flow_257 rfl (lv_at hl 3 rfl) ?_
                                  refine va_get (D := G.1) (ci := 7) (v := .ref (b 37)) (C := RX7) (T := TX7) (N := 43) hx hb hts inX7 hown hK.1 hP 0 rfl rfl 37 (by decide) (hts _ mf_X7_101) (fun _ h9 => h9) rfl dX7_flow_258 ?_
                                  refine lv_iload hx hb dX7_flow_261 (lv_at hl 0 rfl) ?_
                                  refine xiald (f := x12) hx hb hK hP 31 (y7) (rfl) (by omega) (by decide) rfl dX7_flow_263 ?_
                                  refine lv_topi (fun v70 ev70 => ?_)
                                  obtain rfl : v70 = nI (u7) := ev70.trans (ef7)
                                  refine lv_istore (lv' := [(4, .int (nI (u7))), (3, .int (nI nn)), (1, .int z3), (0, .ref y)]) hx hb dX7_flow_264 hl (by decide) rfl (fun ls hl => ?_)
                                  refine lv_goto (tgt := 206) hx hb dX7_flow_266 (by decide) ?_
                                  exact ih206k54 (u7) ps2 (dd + 1) (upd (upd x57 (((28 * (u7)) + y7)) ((nI ((ca) - nn)))) (((28 * y7) + (u7))) ((nI ((cb) + nn)))) (by omega) (by omega) hcap (⟨by omega, eq7⟩) (hu) (hdD) (hsame) (hsS) _ _ _ hP hS (lv_sub hl [0, 1, 2, 3] rfl)
                            exact loop206 (ps0 + 1) 27 ps0 0 x4 (by omega) (by omega) hcap (⟨hps0, eps0⟩) (rfl) (Nat.zero_le _) (fun _ _ _ => rfl) (Or.inl ⟨by decide, rfl⟩) _ _ _ hP hS (lv_sub hl [0, 1, 2, 3] rfl)
                          · have b164 := qeq_f (a := y7) (b := 26) (by omega) (by omega) c53
                            obtain ⟨ps2, u7, hps2, hu7, eq7, ef7, hadj⟩ := wJ_up hJ hps.1 hps.2 gy7 b164 (by decide)
                            obtain ⟨ca, eca, hca, hca2⟩ := hadj
                            have hu := pt_s hyd ef7 (by omega)
                            refine lv_iload_n hx hb dX7_flow_167 rfl (lv_at hl 1 rfl) ?_
                            refine lv_aload_n hx hb dX7_flow_168 rfl (lv_at hl 3 rfl) ?_
                            refine va_get (D := G.1) (ci := 7) (v := .ref (b 36)) (C := RX7) (T := TX7) (N := 43) hx hb hts inX7 hown hK.1 hP 0 rfl rfl 36 (by decide) (hts _ mf_X7_98) (fun _ h9 => h9) rfl dX7_flow_169 ?_
                            refine lv_bipush (v := 28) hx hb dX7_flow_172 (by decide) ?_
                            refine lv_aload_n hx hb dX7_flow_174 rfl (lv_at hl 3 rfl) ?_
                            refine va_get (D := G.1) (ci := 7) (v := .ref (b 37)) (C := RX7) (T := TX7) (N := 43) hx hb hts inX7 hown hK.1 hP 0 rfl rfl 37 (by decide) (hts _ mf_X7_101) (fun _ h9 => h9) rfl dX7_flow_175 ?_
                            refine lv_iload hx hb dX7_flow_178 (lv_at hl 0 rfl) ?_
                            refine xiald (f := x12) hx hb hK hP 31 (y7) (rfl) (by omega) (by decide) rfl dX7_flow_180 ?_
                            refine lv_topi (fun v71 ev71 => ?_)
                            obtain rfl : v71 = nI (u7) := ev71.trans (ef7)
                            refine lv_imul hx hb dX7_flow_181 ?_
                            refine lv_topi (fun v72 ev72 => ?_)
                            obtain rfl : v72 = nI (28 * (u7)) := nI_times ev72 rfl rfl
                            refine lv_iload hx hb dX7_flow_182 (lv_at hl 0 rfl) ?_
                            refine lv_iadd hx hb dX7_flow_184 ?_
                            refine lv_topi (fun v73 ev73 => ?_)
                            obtain rfl : v73 = nI ((28 * (u7)) + y7) := nI_plus ev73 rfl rfl
                            refine xiald (f := x4) hx hb hK hP 30 (((28 * (u7)) + y7)) (rfl) (by omega) (by decide) rfl dX7_flow_185 ?_
                            refine lv_topi (fun v74 ev74 => ?_)
                            obtain rfl : v74 = nI (ca) := ev74.trans (eca)
                            refine va_mmin hx hb (hml.trans hl.1.symm) hown (hts _ ml_X7_207) (hts _ mst_yJ9_min_7cf53) (hts _ mz_RJ9) (hts _ mcode_yJ9_min_7cf53) (Nat.le_of_ble_eq_true rfl) (Nat.le_of_ble_eq_true rfl) (Nat.zero_le _) (Nat.zero_le _) dX7_flow_186 ?_
                            refine lv_topi (fun v75 ev75 => ?_)
                            obtain rfl : v75 = nI (min nn ca) := min_nat ev75 (by omega) (by omega)
                            refine lv_istore_n (lv' := [(3, .int (nI (min nn ca))), (4, .int (nI y7)), (1, .int z3), (0, .ref y)]) hx hb dX7_flow_189 rfl hl (by decide) rfl (fun ls hl => ?_)
                            refine lv_aload_n hx hb dX7_flow_190 rfl (lv_at hl 3 rfl) ?_
                            refine va_get (D := G.1) (ci := 7) (v := .ref (b 37)) (C := RX7) (T := TX7) (N := 43) hx hb hts inX7 hown hK.1 hP 0 rfl rfl 37 (by decide) (hts _ mf_X7_101) (fun _ h9 => h9) rfl dX7_flow_191 ?_
                            refine lv_iload hx hb dX7_flow_194 (lv_at hl 1 rfl) ?_
                            refine xiald (f := x12) hx hb hK hP 31 (y7) (rfl) (by omega) (by decide) rfl dX7_flow_196 ?_
                            refine lv_topi (fun v76 ev76 => ?_)
                            obtain rfl : v76 = nI (u7) := ev76.trans (ef7)
                            refine lv_istore (lv' := [(4, .int (nI (u7))), (3, .int (nI (min nn ca))), (1, .int z3), (0, .ref y)]) hx hb dX7_flow_197 hl (by decide) rfl (fun ls hl => ?_)
                            refine lv_goto (tgt := 160) hx hb dX7_flow_199 (by decide) ?_
                            exact ih160k49 (u7) (min nn ca) ps2 (dd + 1) (by omega) (by omega) (by omega) (⟨by omega, eq7⟩) (hu) (onW_s hW hDi hps2 eq7 hu7 hu) (eC_s hmin hyd hu eca hca2) _ _ _ hP hS (lv_sub hl [0, 1, 2, 3] rfl)
                      exact loop160 (ps0 + 1) 27 1000000000 ps0 0 (by omega) (by omega) (by omega) (⟨hps0, eps0⟩) (rfl) (onW_0 hps0 eps0) (fun e h => absurd h (Nat.not_lt_zero e)) _ _ _ hP hS (lv_sub hl [0, 1, 3, 4] rfl)
                    · refine lv_iload_n hx hb dX7_flow_151 rfl (lv_at hl 2 rfl) ?_
                      exact wr_iret hx hb hr hlocks hS hP ⟨x4, x12, x13, rfl⟩ dX7_flow_152
                  · refine lv_aload_n hx hb dX7_flow_60 rfl (lv_at hl 3 rfl) ?_
                    refine va_get (D := G.1) (ci := 7) (v := .ref (b 38)) (C := RX7) (T := TX7) (N := 43) hx hb hts inX7 hown hK.1 hP 0 rfl rfl 38 (by decide) (hts _ mf_X7_104) (fun _ h9 => h9) rfl dX7_flow_61 ?_
                    refine lv_iload_n hx hb dX7_flow_64 rfl (lv_at hl 0 rfl) ?_
                    refine xiald (f := x13) hx hb hK hP 32 (q1) (rfl) (by omega) (by decide) rfl dX7_flow_65 ?_
                    refine lv_topi (fun v77 ev77 => ?_)
                    obtain ⟨nd, hnd, end_⟩ := wJ_at hJ b46
                    obtain rfl : v77 = nI (nd) := ev77.trans (end_)
                    refine lv_istore (lv' := [(4, .int (nI (nd))), (3, .int (nI q1)), (2, .int (nI mn)), (1, .int z3), (0, .ref y)]) hx hb dX7_flow_66 hl (by decide) rfl (fun ls hl => ?_)
                    refine lv_iconst (v := 0) hx hb dX7_flow_68 (by decide) ?_
                    refine lv_istore (lv' := [(5, .int 0), (4, .int (nI (nd))), (3, .int (nI q1)), (2, .int (nI mn)), (1, .int z3), (0, .ref y)]) hx hb dX7_flow_69 hl (by decide) rfl (fun ls hl => ?_)
                    have loop71 : ∀ (k78 j : Nat) (mn : Nat) (x80 : Nat → Int32) (x81 : Nat → Int32), j ≤ 28 → 28 < j + k78 → (mn ≤ 28) → (wJ 28 (adjC x4) 26 x80 x81 mn) → (qDi x81 mn) → (q1 < mn ∧ x81 q1 = nI nd) → ∀ (H : Heap) (locs : List Loc) (ls : Array Slot), PP G (mM G y b f (up2 (up2 (up2 r 36 x4) 37 x80) 38 x81)) H → va_S A s.heap H locs → lv_has ls 6 [(5, .int (nI j)), (4, .int (nI (nd))), (3, .int (nI q1)), (2, .int (nI mn)), (1, .int z3), (0, .ref y)] → W p l e ({ frames := 1, cells := 0, slots := 0, locals := 21 }) s m ([.ref y] : List Value).toArray below meth c H locs 0 0 (MQ below (QwI G (fun q w => ∃ (n_r_36 : Nat → Int32) (n_r_37 : Nat → Int32) (n_r_38 : Nat → Int32), w = mM G y b f (up2 (up2 (up2 r 36 n_r_36) 37 n_r_37) 38 n_r_38)) A) ([.ref y] : List Value).toArray s 0 0 A) (F0 m 71 ls []) := by
                      intro k78
                      induction k78 with
                      | zero => intro j mn x80 x81 h1 h2; exact absurd h1 (by omega)
                      | succ k78 ih71k78 =>
                        intro j mn x80 x81 hi_j hk_j gmn hJ hDi hqd H locs ls hP hS hl
                        refine lv_iload hx hb dX7_flow_71 (lv_at hl 0 rfl) ?_
                        refine lv_bipush (v := 28) hx hb dX7_flow_73 (by decide) ?_
                        refine lv_icmp_ge (tgt := 134) hx hb dX7_flow_75 (by decide) (fun c82 => ?_) (fun c82 => ?_)
                        · have b75 := qge_t (a := j) (b := 28) (by omega) (by omega) c82
                          obtain ⟨v83, ev83⟩ : ∃ y9 : Int32, y9 = (nI q1) + Int32.ofInt (1) := ⟨_, rfl⟩
                          refine lv_iinc (v := v83) (lv' := [(3, .int v83), (5, .int (nI j)), (4, .int (nI (nd))), (2, .int (nI mn)), (1, .int z3), (0, .ref y)]) hx hb dX7_flow_134 hl (k := 2) rfl ev83.symm (by decide) rfl (fun ls hl => ?_)
                          obtain rfl : v83 = nI (q1 + 1) := nI_plus (i := q1) (j := 1) ev83 rfl (by decide)
                          refine lv_goto (tgt := 44) hx hb dX7_flow_137 (by decide) ?_
                          exact ih44k10 (q1 + 1) mn x80 x81 (by omega) (by omega) (by omega) (hJ) (hDi) _ _ _ hP hS (lv_sub hl [0, 3, 4, 5] rfl)
                        · have b75 := qge_f (a := j) (b := 28) (by omega) (by omega) c82
                          refine lv_aload_n hx hb dX7_flow_78 rfl (lv_at hl 5 rfl) ?_
                          refine va_get (D := G.1) (ci := 7) (v := .ref (b 37)) (C := RX7) (T := TX7) (N := 43) hx hb hts inX7 hown hK.1 hP 0 rfl rfl 37 (by decide) (hts _ mf_X7_101) (fun _ h9 => h9) rfl dX7_flow_79 ?_
                          refine lv_iload hx hb dX7_flow_82 (lv_at hl 0 rfl) ?_
                          refine xiald (f := x80) hx hb hK hP 31 (j) (rfl) (by omega) (by decide) rfl dX7_flow_84 ?_
                          refine lv_topi (fun v84 ev84 => ?_)
                          refine lv_iconst (v := -1) hx hb dX7_flow_85 (by decide) ?_
                          refine lv_icmp_ne (tgt := 128) hx hb dX7_flow_86 (by decide) (fun c85 => ?_) (fun c85 => ?_)
                          · obtain ⟨v86, ev86⟩ : ∃ y9 : Int32, y9 = (nI j) + Int32.ofInt (1) := ⟨_, rfl⟩
                            refine lv_iinc (v := v86) (lv' := [(5, .int v86), (4, .int (nI (nd))), (3, .int (nI q1)), (2, .int (nI mn)), (1, .int z3), (0, .ref y)]) hx hb dX7_flow_128 hl (k := 0) rfl ev86.symm (by decide) rfl (fun ls hl => ?_)
                            obtain rfl : v86 = nI (j + 1) := nI_plus (i := j) (j := 1) ev86 rfl (by decide)
                            refine lv_goto (tgt := 71) hx hb dX7_flow_131 (by decide) ?_
                            exact ih71k78 (j + 1) mn x80 x81 (by omega) (by omega) (by omega) (hJ) (hDi) (hqd) _ _ _ hP hS (lv_sub hl [0, 1, 2, 3, 4, 5] rfl)
                          · refine lv_aload_n hx hb dX7_flow_89 rfl (lv_at hl 5 rfl) ?_
                            refine va_get (D := G.1) (ci := 7) (v := .ref (b 36)) (C := RX7) (T := TX7) (N := 43) hx hb hts inX7 hown hK.1 hP 0 rfl rfl 36 (by decide) (hts _ mf_X7_98) (fun _ h9 => h9) rfl dX7_flow_90 ?_
                            refine lv_bipush (v := 28) hx hb dX7_flow_93 (by decide) ?_
                            refine lv_iload hx hb dX7_flow_95 (lv_at hl 1 rfl) ?_
                            refine lv_imul hx hb dX7_flow_97 ?_
                            refine lv_topi (fun v87 ev87 => ?_)
                            obtain rfl : v87 = nI (28 * (nd)) := nI_times ev87 rfl rfl
                            refine lv_iload hx hb dX7_flow_98 (lv_at hl 0 rfl) ?_
                            refine lv_iadd hx hb dX7_flow_100 ?_
                            refine lv_topi (fun v88 ev88 => ?_)
                            obtain rfl : v88 = nI ((28 * (nd)) + j) := nI_plus ev88 rfl rfl
                            refine xiald (f := x4) hx hb hK hP 30 (((28 * (nd)) + j)) (rfl) (by omega) (by decide) rfl dX7_flow_101 ?_
                            refine lv_topi (fun v89 ev89 => ?_)
                            obtain ⟨ca, cb, eca, ecb, hcs⟩ := hcap nd j (by omega) (by omega)
                            obtain rfl : v89 = nI (ca) := ev89.trans (eca)
                            refine lv_if_ne (tgt := 108) hx hb dX7_flow_102 (by decide) (fun c90 => ?_) (fun c90 => ?_)
                            · have b102 := qeq_f (a := (ca)) (b := 0) (by omega) (by omega) c90
                              have hlt28 := wJ_lt hJ (show j < 28 by omega) (ev84.symm.trans c85)
                              refine lv_aload_n hx hb dX7_flow_108 rfl (lv_at hl 5 rfl) ?_
                              refine va_get (D := G.1) (ci := 7) (v := .ref (b 37)) (C := RX7) (T := TX7) (N := 43) hx hb hts inX7 hown hK.1 hP 0 rfl rfl 37 (by decide) (hts _ mf_X7_101) (fun _ h9 => h9) rfl dX7_flow_109 ?_
                              refine lv_iload hx hb dX7_flow_112 (lv_at hl 0 rfl) ?_
                              refine lv_iload hx hb dX7_flow_114 (lv_at hl 1 rfl) ?_
                              refine xiast (f := x80) (x := (nI (nd))) hx hb hK hP (hDD _ _) hS 31 (j) (rfl) (by omega) (by decide) rfl dX7_flow_116 (fun H locs hP _ hS => ?_)
                              have hP : PP G (mM G y b f (up2 (up2 (up2 r 36 x4) 37 (upd x80 (j) ((nI (nd))))) 38 x81)) H := hP
                              refine lv_aload_n hx hb dX7_flow_117 rfl (lv_at hl 5 rfl) ?_
                              refine va_get (D := G.1) (ci := 7) (v := .ref (b 38)) (C := RX7) (T := TX7) (N := 43) hx hb hts inX7 hown hK.1 hP 0 rfl rfl 38 (by decide) (hts _ mf_X7_104) (fun _ h9 => h9) rfl dX7_flow_118 ?_
                              refine lv_iload_n hx hb dX7_flow_121 rfl (lv_at hl 3 rfl) ?_
                              refine lv_iload hx hb dX7_flow_122 (lv_at hl 0 rfl) ?_
                              refine xiast (f := x81) (x := (nI j)) hx hb hK hP (hDD _ _) hS 32 (mn) (rfl) (by omega) (by decide) rfl dX7_flow_124 (fun H locs hP _ hS => ?_)
                              have hP : PP G (mM G y b f (up2 (up2 (up2 r 36 x4) 37 (upd x80 (j) ((nI (nd))))) 38 (upd x81 (mn) ((nI j))))) H := hP
                              have hDi := qDi_s hDi hJ (show j < 28 by omega) (ev84.symm.trans c85) (by decide)
                              have hJ := wJ_s hJ hqd.1 hqd.2 hnd (show j < 28 by omega) (ev84.symm.trans c85) ⟨ca, eca, by omega, by omega⟩ (by decide)
                              have hqd := And.intro (show q1 < mn + 1 by omega) ((pk_un (f := x81) (x := nI j) (show q1 ≠ mn by omega)).trans hqd.2)
                              obtain ⟨v91, ev91⟩ : ∃ y9 : Int32, y9 = (nI mn) + Int32.ofInt (1) := ⟨_, rfl⟩
                              refine lv_iinc (v := v91) (lv' := [(2, .int v91), (5, .int (nI j)), (4, .int (nI (nd))), (3, .int (nI q1)), (1, .int z3), (0, .ref y)]) hx hb dX7_flow_125 hl (k := 3) rfl ev91.symm (by decide) rfl (fun ls hl => ?_)
                              obtain rfl : v91 = nI (mn + 1) := nI_plus (i := mn) (j := 1) ev91 rfl (by decide)
                              obtain ⟨v92, ev92⟩ : ∃ y9 : Int32, y9 = (nI j) + Int32.ofInt (1) := ⟨_, rfl⟩
                              refine lv_iinc (v := v92) (lv' := [(5, .int v92), (2, .int (nI (mn + 1))), (4, .int (nI (nd))), (3, .int (nI q1)), (1, .int z3), (0, .ref y)]) hx hb dX7_flow_128 hl (k := 1) rfl ev92.symm (by decide) rfl (fun ls hl => ?_)
                              obtain rfl : v92 = nI (j + 1) := nI_plus (i := j) (j := 1) ev92 rfl (by decide)
                              refine lv_goto (tgt := 71) hx hb dX7_flow_131 (by decide) ?_
                              exact ih71k78 (j + 1) (mn + 1) (upd x80 (j) ((nI (nd)))) (upd x81 (mn) ((nI j))) (by omega) (by omega) (by omega) (hJ) (hDi) (hqd) _ _ _ hP hS (lv_sub hl [0, 2, 3, 1, 4, 5] rfl)
                            · have b102 := qeq_t (a := (ca)) (b := 0) (by omega) (by omega) c90
                              refine lv_goto (tgt := 128) hx hb dX7_flow_105 (by decide) ?_
                              obtain ⟨v93, ev93⟩ : ∃ y9 : Int32, y9 = (nI j) + Int32.ofInt (1) := ⟨_, rfl⟩
                              refine lv_iinc (v := v93) (lv' := [(5, .int v93), (4, .int (nI (nd))), (3, .int (nI q1)), (2, .int (nI mn)), (1, .int z3), (0, .ref y)]) hx hb dX7_flow_128 hl (k := 0) rfl ev93.symm (by decide) rfl (fun ls hl => ?_)
                              obtain rfl : v93 = nI (j + 1) := nI_plus (i := j) (j := 1) ev93 rfl (by decide)
                              refine lv_goto (tgt := 71) hx hb dX7_flow_131 (by decide) ?_
                              exact ih71k78 (j + 1) mn x80 x81 (by omega) (by omega) (by omega) (hJ) (hDi) (hqd) _ _ _ hP hS (lv_sub hl [0, 1, 2, 3, 4, 5] rfl)
                    exact loop71 (28 + 1) 0 mn x12 x13 (by omega) (by omega) (by omega) (hJ) (hDi) (⟨b46, end_⟩) _ _ _ hP hS (lv_sub hl [0, 1, 2, 3, 4, 5] rfl)
            exact loop44 (28 + 1) 0 1 (upd x8 (26) (26)) (upd x6 (0) (26)) (by omega) (by omega) (by omega) (hJ) (hDi) _ _ _ hP hS (lv_sub hl [0, 1, 2, 3] rfl)
          · have b7 := qge_f (a := i) (b := 28) (by omega) (by omega) c9
            refine lv_aload_n hx hb dX7_flow_10 rfl (lv_at hl 2 rfl) ?_
            refine va_get (D := G.1) (ci := 7) (v := .ref (b 37)) (C := RX7) (T := TX7) (N := 43) hx hb hts inX7 hown hK.1 hP 0 rfl rfl 37 (by decide) (hts _ mf_X7_101) (fun _ h9 => h9) rfl dX7_flow_11 ?_
            refine lv_iload_n hx hb dX7_flow_14 rfl (lv_at hl 0 rfl) ?_
            refine lv_iconst (v := -1) hx hb dX7_flow_15 (by decide) ?_
            refine xiast (f := x8) (x := (-1)) hx hb hK hP (hDD _ _) hS 31 (i) (rfl) (by omega) (by decide) rfl dX7_flow_16 (fun H locs hP _ hS => ?_)
            have hP : PP G (mM G y b f (up2 (up2 (up2 r 36 x4) 37 (upd x8 (i) ((-1)))) 38 x6)) H := hP
            obtain ⟨v94, ev94⟩ : ∃ y9 : Int32, y9 = (nI i) + Int32.ofInt (1) := ⟨_, rfl⟩
            refine lv_iinc (v := v94) (lv' := [(2, .int v94), (1, .int z3), (0, .ref y)]) hx hb dX7_flow_17 hl (k := 0) rfl ev94.symm (by decide) rfl (fun ls hl => ?_)
            obtain rfl : v94 = nI (i + 1) := nI_plus (i := i) (j := 1) ev94 rfl (by decide)
            refine lv_goto (tgt := 4) hx hb dX7_flow_20 (by decide) ?_
            exact ih4k7 (i + 1) (upd x8 (i) ((-1))) (by omega) (by omega) (fr_s hfr) _ _ _ hP hS (lv_sub hl [0, 1, 2] rfl)
      exact loop4 (28 + 1) 0 x5 (by omega) (by omega) (fun n h => absurd h (Nat.not_lt_zero n)) _ _ _ hP hS (lv_sub hl [0, 1, 2] rfl)
  exact loop2 (sC (r 36) 28 + 1) 0 (r 36) (r 37) (r 38) (Nat.lt_succ_self _) hcap _ _ _ hP hS (lv_sub hl [0, 1] rfl)
set_option maxHeartbeats 4000000 in
set_option maxRecDepth 100000 in
theorem m_X7_bound (l : Launch) (G : GG) (y : Nat) (b : Nat → Nat) (f : Nat → Int32) (r : Nat → Nat → Int32) (a : Nat) (b2 : Nat) (lo : Nat) (hi : Nat) (M : Nat) (ha : a < 26) (hb2 : b2 < 26) (hlh : lo ≤ hi) (hhi : hi ≤ 20000) (hM : M ≤ 10000000) (hcp : nOK 784 M (r 36)) : WrV l yX7_bound cX7_bound 5 ({ frames := 0, cells := 0, slots := 0, locals := 0 }) G (mM G y b f r) [.ref y, .int (nI a), .int (nI b2), .int (nI lo), .int (nI hi)] (fun w => ∃ (n_r_36 : Nat → Int32), w = mM G y b f (up2 r 36 n_r_36) ∧ (nOK 784 (M + 60000) n_r_36)) := by
  refine wr_entryV (by decide +kernel) (Nat.le_of_ble_eq_true rfl) ?_
  intro p e s m below meth c A C0 hP hK hD hA ls hl
  have hS : va_S A s.heap s.heap [] := va_S.rf
  obtain ⟨hx, hb, hml, hown, hts, hr, hlocks, hin⟩ := C0
  have hown : s.vm.findClass RX7 = some m.cls := hown
  have hDD : ∀ f' r', va_D A (mM G y b f' r') := fun f' r' => D_same hD rfl
  have hl : lv_has ls 5 [(0, .ref y), (1, .int (nI a)), (2, .int (nI b2)), (3, .int (nI lo)), (4, .int (nI hi))] := hl
  refine lv_aload_n hx hb dX7_bound_0 rfl (lv_at hl 0 rfl) ?_
  refine va_get (D := G.1) (ci := 7) (v := .ref (b 36)) (C := RX7) (T := TX7) (N := 43) hx hb hts inX7 hown hK.1 hP 0 rfl rfl 36 (by decide) (hts _ mf_X7_98) (fun _ h9 => h9) rfl dX7_bound_1 ?_
  refine lv_bipush (v := 28) hx hb dX7_bound_4 (by decide) ?_
  refine lv_iload_n hx hb dX7_bound_6 rfl (lv_at hl 1 rfl) ?_
  refine lv_imul hx hb dX7_bound_7 ?_
  refine lv_topi (fun v1 ev1 => ?_)
  obtain rfl : v1 = nI (28 * a) := nI_times ev1 rfl rfl
  refine lv_iload_n hx hb dX7_bound_8 rfl (lv_at hl 2 rfl) ?_
  refine lv_iadd hx hb dX7_bound_9 ?_
  refine lv_topi (fun v2 ev2 => ?_)
  obtain rfl : v2 = nI ((28 * a) + b2) := nI_plus ev2 rfl rfl
  refine lv_dup2_11 hx hb dX7_bound_10 rfl rfl ?_
  refine xiald (f := (r 36)) hx hb hK hP 30 (((28 * a) + b2)) (rfl) (by omega) (by decide) rfl dX7_bound_11 ?_
  refine lv_topi (fun v3 ev3 => ?_)
  obtain ⟨c1, hc1, ec1_⟩ := hcp (((28 * a) + b2)) (by omega)
  obtain rfl : v3 = nI (c1) := ev3.trans (ec1_)
  refine lv_iload hx hb dX7_bound_12 (lv_at hl 4 rfl) ?_
  refine lv_iload_n hx hb dX7_bound_14 rfl (lv_at hl 3 rfl) ?_
  refine lv_isub hx hb dX7_bound_15 ?_
  refine lv_topi (fun v4 ev4 => ?_)
  obtain rfl : v4 = nI (hi - lo) := nI_minus ev4 rfl rfl (by omega)
  refine lv_iadd hx hb dX7_bound_16 ?_
  refine lv_topi (fun v5 ev5 => ?_)
  obtain rfl : v5 = nI ((c1) + (hi - lo)) := nI_plus ev5 rfl rfl
  refine xiast (f := (r 36)) (x := (nI ((c1) + (hi - lo)))) hx hb hK hP (hDD _ _) hS 30 (((28 * a) + b2)) (rfl) (by omega) (by decide) rfl dX7_bound_17 (fun H locs hP _ hS => ?_)
  have hP : PP G (mM G y b f (up2 r 36 (upd (r 36) (((28 * a) + b2)) ((nI ((c1) + (hi - lo))))))) H := hP
  have hcp1 := nOK_u (t := (28 * a) + b2) (nOK_mo hcp (show M ≤ M + 20000 by omega)) (show c1 + (hi - lo) ≤ M + 20000 by omega)
  refine lv_aload_n hx hb dX7_bound_18 rfl (lv_at hl 0 rfl) ?_
  refine va_get (D := G.1) (ci := 7) (v := .ref (b 36)) (C := RX7) (T := TX7) (N := 43) hx hb hts inX7 hown hK.1 hP 0 rfl rfl 36 (by decide) (hts _ mf_X7_98) (fun _ h9 => h9) rfl dX7_bound_19 ?_
  refine lv_sipush (v := 728) hx hb dX7_bound_22 (by decide) ?_
  refine lv_iload_n hx hb dX7_bound_25 rfl (lv_at hl 2 rfl) ?_
  refine lv_iadd hx hb dX7_bound_26 ?_
  refine lv_topi (fun v6 ev6 => ?_)
  obtain rfl : v6 = nI (728 + b2) := nI_plus ev6 rfl rfl
  refine lv_dup2_11 hx hb dX7_bound_27 rfl rfl ?_
  refine xiald (f := (upd (r 36) (((28 * a) + b2)) ((nI ((c1) + (hi - lo)))))) hx hb hK hP 30 ((728 + b2)) (rfl) (by omega) (by decide) rfl dX7_bound_28 ?_
  refine lv_topi (fun v7 ev7 => ?_)
  obtain ⟨c2, hc2, ec2_⟩ := hcp1 ((728 + b2)) (by omega)
  obtain rfl : v7 = nI (c2) := ev7.trans (ec2_)
  refine lv_iload_n hx hb dX7_bound_29 rfl (lv_at hl 3 rfl) ?_
  refine lv_iadd hx hb dX7_bound_30 ?_
  refine lv_topi (fun v8 ev8 => ?_)
  obtain rfl : v8 = nI ((c2) + lo) := nI_plus ev8 rfl rfl
  refine xiast (f := (upd (r 36) (((28 * a) + b2)) ((nI ((c1) + (hi - lo)))))) (x := (nI ((c2) + lo))) hx hb hK hP (hDD _ _) hS 30 ((728 + b2)) (rfl) (by omega) (by decide) rfl dX7_bound_31 (fun H locs hP _ hS => ?_)
  have hP : PP G (mM G y b f (up2 r 36 (upd (upd (r 36) (((28 * a) + b2)) ((nI ((c1) + (hi - lo))))) ((728 + b2)) ((nI ((c2) + lo)))))) H := hP
  have hcp2 := nOK_u (t := 728 + b2) (nOK_mo hcp1 (show M + 20000 ≤ M + 40000 by omega)) (show c2 + lo ≤ M + 40000 by omega)
  refine lv_aload_n hx hb dX7_bound_32 rfl (lv_at hl 0 rfl) ?_
  refine va_get (D := G.1) (ci := 7) (v := .ref (b 36)) (C := RX7) (T := TX7) (N := 43) hx hb hts inX7 hown hK.1 hP 0 rfl rfl 36 (by decide) (hts _ mf_X7_98) (fun _ h9 => h9) rfl dX7_bound_33 ?_
  refine lv_bipush (v := 28) hx hb dX7_bound_36 (by decide) ?_
  refine lv_iload_n hx hb dX7_bound_38 rfl (lv_at hl 1 rfl) ?_
  refine lv_imul hx hb dX7_bound_39 ?_
  refine lv_topi (fun v9 ev9 => ?_)
  obtain rfl : v9 = nI (28 * a) := nI_times ev9 rfl rfl
  refine lv_bipush (v := 27) hx hb dX7_bound_40 (by decide) ?_
  refine lv_iadd hx hb dX7_bound_42 ?_
  refine lv_topi (fun v10 ev10 => ?_)
  obtain rfl : v10 = nI ((28 * a) + 27) := nI_plus ev10 rfl rfl
  refine lv_dup2_11 hx hb dX7_bound_43 rfl rfl ?_
  refine xiald (f := (upd (upd (r 36) (((28 * a) + b2)) ((nI ((c1) + (hi - lo))))) ((728 + b2)) ((nI ((c2) + lo))))) hx hb hK hP 30 (((28 * a) + 27)) (rfl) (by omega) (by decide) rfl dX7_bound_44 ?_
  refine lv_topi (fun v11 ev11 => ?_)
  obtain ⟨c3, hc3, ec3_⟩ := hcp2 (((28 * a) + 27)) (by omega)
  obtain rfl : v11 = nI (c3) := ev11.trans (ec3_)
  refine lv_iload_n hx hb dX7_bound_45 rfl (lv_at hl 3 rfl) ?_
  refine lv_iadd hx hb dX7_bound_46 ?_
  refine lv_topi (fun v12 ev12 => ?_)
  obtain rfl : v12 = nI ((c3) + lo) := nI_plus ev12 rfl rfl
  refine xiast (f := (upd (upd (r 36) (((28 * a) + b2)) ((nI ((c1) + (hi - lo))))) ((728 + b2)) ((nI ((c2) + lo))))) (x := (nI ((c3) + lo))) hx hb hK hP (hDD _ _) hS 30 (((28 * a) + 27)) (rfl) (by omega) (by decide) rfl dX7_bound_47 (fun H locs hP _ hS => ?_)
  have hP : PP G (mM G y b f (up2 r 36 (upd (upd (upd (r 36) (((28 * a) + b2)) ((nI ((c1) + (hi - lo))))) ((728 + b2)) ((nI ((c2) + lo)))) (((28 * a) + 27)) ((nI ((c3) + lo)))))) H := hP
  have hcp3 := nOK_u (t := (28 * a) + 27) (nOK_mo hcp2 (show M + 40000 ≤ M + 60000 by omega)) (show c3 + lo ≤ M + 60000 by omega)
  exact wr_vret hx hb hr hlocks hS hP ⟨(upd (upd (upd (r 36) (((28 * a) + b2)) ((nI ((c1) + (hi - lo))))) ((728 + b2)) ((nI ((c2) + lo)))) (((28 * a) + 27)) ((nI ((c3) + lo)))), rfl, hcp3⟩ dX7_bound_48
set_option maxHeartbeats 4000000 in
set_option maxRecDepth 100000 in
theorem m_X7_canBe (l : Launch) (G : GG) (y : Nat) (b : Nat → Nat) (f : Nat → Int32) (r : Nat → Nat → Int32) (t : Nat) (bs : Nat) (its : Int32) (rw : Nat) (cl : Nat) (bk : Nat) (ht : t < 6) (hrw : rw ≤ 12) (hcl : cl ≤ 12) (hbk : bk ≤ 12) (h2 : (r 2) t = nI rw) (h3 : (r 3) t = nI cl) (h12 : (r 12) t = nI bk) (hb1 : 2 ≤ bs) (hb9 : bs ≤ 1000) : WrI l yX7_canBe cX7_canBe 10 (some .boolean) ({ frames := 2, cells := 0, slots := 0, locals := 46 }) G (mM G y b f r) [.ref y, .int (nI t), .int (nI bs), .int its] (fun q w => ∃ (n_r_36 : Nat → Int32) (n_r_37 : Nat → Int32) (n_r_38 : Nat → Int32), w = mM G y b f (up2 (up2 (up2 r 36 n_r_36) 37 n_r_37) 38 n_r_38) ∧ (q = 0 ∨ q = 1)) := by
  refine wr_entryI (by decide +kernel) (Nat.le_of_ble_eq_true rfl) ?_
  intro p e s m below meth c A C0 hP hK hD hA ls hl
  have hS : va_S A s.heap s.heap [] := va_S.rf
  obtain ⟨hx, hb, hml, hown, hts, hr, hlocks, hin⟩ := C0
  have hown : s.vm.findClass RX7 = some m.cls := hown
  have hDD : ∀ f' r', va_D A (mM G y b f' r') := fun f' r' => D_same hD rfl
  have hl : lv_has ls 10 [(0, .ref y), (1, .int (nI t)), (2, .int (nI bs)), (3, .int its)] := hl
  refine lv_iconst (v := 0) hx hb dX7_canBe_0 (by decide) ?_
  refine lv_istore (lv' := [(4, .int 0), (0, .ref y), (1, .int (nI t)), (2, .int (nI bs)), (3, .int its)]) hx hb dX7_canBe_1 hl (by decide) rfl (fun ls hl => ?_)
  have loop3 : ∀ (k1 n1 : Nat) (x2 : Nat → Int32), n1 ≤ 784 → 784 < n1 + k1 → (∀ n, n < n1 → x2 n = 0) → ∀ (H : Heap) (locs : List Loc) (ls : Array Slot), PP G (mM G y b f (up2 r 36 x2)) H → va_S A s.heap H locs → lv_has ls 10 [(4, .int (nI n1)), (0, .ref y), (1, .int (nI t)), (2, .int (nI bs)), (3, .int its)] → W p l e ({ frames := 2, cells := 0, slots := 0, locals := 46 }) s m ([.ref y, .int (nI t), .int (nI bs), .int its] : List Value).toArray below meth c H locs 0 0 (MQ below (QwI G (fun q w => ∃ (n_r_36 : Nat → Int32) (n_r_37 : Nat → Int32) (n_r_38 : Nat → Int32), w = mM G y b f (up2 (up2 (up2 r 36 n_r_36) 37 n_r_37) 38 n_r_38) ∧ (q = 0 ∨ q = 1)) A) ([.ref y, .int (nI t), .int (nI bs), .int its] : List Value).toArray s 0 0 A) (F0 m 3 ls []) := by
    intro k1
    induction k1 with
    | zero => intro n1 x2 h1 h2; exact absurd h1 (by omega)
    | succ k1 ih3k1 =>
      intro n1 x2 hi_n1 hk_n1 hz H locs ls hP hS hl
      refine lv_iload hx hb dX7_canBe_3 (lv_at hl 0 rfl) ?_
      refine lv_aload_n hx hb dX7_canBe_5 rfl (lv_at hl 1 rfl) ?_
      refine va_get (D := G.1) (ci := 7) (v := .ref (b 36)) (C := RX7) (T := TX7) (N := 43) hx hb hts inX7 hown hK.1 hP 0 rfl rfl 36 (by decide) (hts _ mf_X7_98) (fun _ h9 => h9) rfl dX7_canBe_6 ?_
      refine xalen hx hb hK hP 30 rfl dX7_canBe_9 ?_
      refine lv_icmp_ge (tgt := 27) hx hb dX7_canBe_10 (by decide) (fun c3 => ?_) (fun c3 => ?_)
      · have b10 := qge_t (a := n1) (b := 784) (by omega) (by omega) c3
        have hcp : nOK 784 1 x2 := fun n hn => ⟨0, by omega, hz n (by omega)⟩
        refine lv_iconst (v := 0) hx hb dX7_canBe_27 (by decide) ?_
        refine lv_istore (lv' := [(4, .int 0), (0, .ref y), (1, .int (nI t)), (2, .int (nI bs)), (3, .int its)]) hx hb dX7_canBe_28 hl (by decide) rfl (fun ls hl => ?_)
        refine lv_iconst (v := 0) hx hb dX7_canBe_30 (by decide) ?_
        refine lv_istore (lv' := [(5, .int 0), (4, .int 0), (0, .ref y), (1, .int (nI t)), (2, .int (nI bs)), (3, .int its)]) hx hb dX7_canBe_31 hl (by decide) rfl (fun ls hl => ?_)
        have loop33 : ∀ (k4 r1 : Nat) (z5 : Int32) (x6 : Nat → Int32), r1 ≤ rw → rw < r1 + k4 → (nOK 784 (1 + 60000 * r1) x6) → ∀ (H : Heap) (locs : List Loc) (ls : Array Slot), PP G (mM G y b f (up2 r 36 x6)) H → va_S A s.heap H locs → lv_has ls 10 [(5, .int (nI r1)), (4, .int z5), (0, .ref y), (1, .int (nI t)), (2, .int (nI bs)), (3, .int its)] → W p l e ({ frames := 2, cells := 0, slots := 0, locals := 46 }) s m ([.ref y, .int (nI t), .int (nI bs), .int its] : List Value).toArray below meth c H locs 0 0 (MQ below (QwI G (fun q w => ∃ (n_r_36 : Nat → Int32) (n_r_37 : Nat → Int32) (n_r_38 : Nat → Int32), w = mM G y b f (up2 (up2 (up2 r 36 n_r_36) 37 n_r_37) 38 n_r_38) ∧ (q = 0 ∨ q = 1)) A) ([.ref y, .int (nI t), .int (nI bs), .int its] : List Value).toArray s 0 0 A) (F0 m 33 ls []) := by
          intro k4
          induction k4 with
          | zero => intro r1 z5 x6 h1 h2; exact absurd h1 (by omega)
          | succ k4 ih33k4 =>
            intro r1 z5 x6 hi_r1 hk_r1 hcp H locs ls hP hS hl
            refine lv_iload hx hb dX7_canBe_33 (lv_at hl 0 rfl) ?_
            refine lv_aload_n hx hb dX7_canBe_35 rfl (lv_at hl 2 rfl) ?_
            refine va_get (D := G.1) (ci := 7) (v := .ref (b 2)) (C := RX7) (T := TX7) (N := 43) hx hb hts inX7 hown hK.1 hP 0 rfl rfl 2 (by decide) (hts _ mf_X7_13) (fun _ h9 => h9) rfl dX7_canBe_36 ?_
            refine lv_iload_n hx hb dX7_canBe_39 rfl (lv_at hl 3 rfl) ?_
            refine xiald (f := (r 2)) hx hb hK hP 2 (t) (rfl) (by omega) (by decide) rfl dX7_canBe_40 ?_
            refine lv_topi (fun v7 ev7 => ?_)
            obtain rfl : v7 = nI (rw) := ev7.trans (h2)
            refine lv_icmp_ge (tgt := 221) hx hb dX7_canBe_41 (by decide) (fun c8 => ?_) (fun c8 => ?_)
            · have b41 := qge_t (a := r1) (b := (rw)) (by omega) (by omega) c8
              refine lv_iconst (v := 0) hx hb dX7_canBe_221 (by decide) ?_
              refine lv_istore (lv' := [(5, .int 0), (4, .int z5), (0, .ref y), (1, .int (nI t)), (2, .int (nI bs)), (3, .int its)]) hx hb dX7_canBe_222 hl (by decide) rfl (fun ls hl => ?_)
              have loop224 : ∀ (k9 k1 : Nat) (z10 : Int32) (x11 : Nat → Int32), k1 ≤ cl → cl < k1 + k9 → (nOK 784 (1 + 60000 * rw + 60000 * k1) x11) → ∀ (H : Heap) (locs : List Loc) (ls : Array Slot), PP G (mM G y b f (up2 r 36 x11)) H → va_S A s.heap H locs → lv_has ls 10 [(5, .int (nI k1)), (4, .int z10), (0, .ref y), (1, .int (nI t)), (2, .int (nI bs)), (3, .int its)] → W p l e ({ frames := 2, cells := 0, slots := 0, locals := 46 }) s m ([.ref y, .int (nI t), .int (nI bs), .int its] : List Value).toArray below meth c H locs 0 0 (MQ below (QwI G (fun q w => ∃ (n_r_36 : Nat → Int32) (n_r_37 : Nat → Int32) (n_r_38 : Nat → Int32), w = mM G y b f (up2 (up2 (up2 r 36 n_r_36) 37 n_r_37) 38 n_r_38) ∧ (q = 0 ∨ q = 1)) A) ([.ref y, .int (nI t), .int (nI bs), .int its] : List Value).toArray s 0 0 A) (F0 m 224 ls []) := by
                intro k9
                induction k9 with
                | zero => intro k1 z10 x11 h1 h2; exact absurd h1 (by omega)
                | succ k9 ih224k9 =>
                  intro k1 z10 x11 hi_k1 hk_k1 hcp H locs ls hP hS hl
                  refine lv_iload hx hb dX7_canBe_224 (lv_at hl 0 rfl) ?_
                  refine lv_aload_n hx hb dX7_canBe_226 rfl (lv_at hl 2 rfl) ?_
                  refine va_get (D := G.1) (ci := 7) (v := .ref (b 3)) (C := RX7) (T := TX7) (N := 43) hx hb hts inX7 hown hK.1 hP 0 rfl rfl 3 (by decide) (hts _ mf_X7_17) (fun _ h9 => h9) rfl dX7_canBe_227 ?_
                  refine lv_iload_n hx hb dX7_canBe_230 rfl (lv_at hl 3 rfl) ?_
                  refine xiald (f := (r 3)) hx hb hK hP 3 (t) (rfl) (by omega) (by decide) rfl dX7_canBe_231 ?_
                  refine lv_topi (fun v12 ev12 => ?_)
                  obtain rfl : v12 = nI (cl) := ev12.trans (h3)
                  refine lv_icmp_ge (tgt := 383) hx hb dX7_canBe_232 (by decide) (fun c13 => ?_) (fun c13 => ?_)
                  · have b232 := qge_t (a := k1) (b := (cl)) (by omega) (by omega) c13
                    refine lv_aload_n hx hb dX7_canBe_383 rfl (lv_at hl 2 rfl) ?_
                    refine va_get (D := G.1) (ci := 7) (v := .ref (b 36)) (C := RX7) (T := TX7) (N := 43) hx hb hts inX7 hown hK.1 hP 0 rfl rfl 36 (by decide) (hts _ mf_X7_98) (fun _ h9 => h9) rfl dX7_canBe_384 ?_
                    refine lv_sipush (v := 724) hx hb dX7_canBe_387 (by decide) ?_
                    refine lv_ldc hx hb hown (hts _ mk_X7_195) dX7_canBe_390 ?_
                    refine xiast (f := x11) (x := 1000000000) hx hb hK hP (hDD _ _) hS 30 (724) (rfl) (by omega) (by decide) rfl dX7_canBe_392 (fun H locs hP _ hS => ?_)
                    have hP : PP G (mM G y b f (up2 r 36 (upd x11 (724) (1000000000)))) H := hP
                    refine lv_aload_n hx hb dX7_canBe_393 rfl (lv_at hl 2 rfl) ?_
                    refine wrVIa (rest := []) (q0 := 0) ⟨hx, hb, hml, hown, hts⟩ (m_X7_flow l G y b f (up2 r 36 (upd x11 (724) (1000000000)))   (capOK_of hcp (by omega))) mi_yX7_flow mv_yX7_flow ml_X7_261 ⟨rfl, rfl, Nat.le_of_ble_eq_true rfl, Nat.le_of_ble_eq_true rfl⟩ hK hP (hDD _ _) rfl rfl rfl hl.1 rfl (Nat.le_of_ble_eq_true rfl) dX7_canBe_394 ⟨Nat.zero_le _, Nat.zero_le _⟩ hS hA (fun r14 w15 H locs hw15 hP hS => ?_)
                    obtain ⟨x16, x17, x18, rfl⟩ := hw15
                    have hP : PP G (mM G y b f (up2 (up2 (up2 r 36 x16) 37 x17) 38 x18)) H := hP
                    refine lv_iload hx hb dX7_canBe_397 (lv_at hl 1 rfl) ?_
                    refine lv_icmp_ne (tgt := 406) hx hb dX7_canBe_399 (by decide) (fun c19 => ?_) (fun c19 => ?_)
                    · refine lv_iconst (v := 0) hx hb dX7_canBe_406 (by decide) ?_
                      exact wr_zret hx hb hr hlocks (Or.inl rfl) hS hP ⟨x16, x17, x18, rfl, (Or.inl rfl)⟩ dX7_canBe_407
                    · refine lv_iconst (v := 1) hx hb dX7_canBe_402 (by decide) ?_
                      refine lv_goto (tgt := 407) hx hb dX7_canBe_403 (by decide) ?_
                      exact wr_zret hx hb hr hlocks (Or.inr rfl) hS hP ⟨x16, x17, x18, rfl, (Or.inr rfl)⟩ dX7_canBe_407
                  · have b232 := qge_f (a := k1) (b := (cl)) (by omega) (by omega) c13
                    refine lv_iconst (v := 0) hx hb dX7_canBe_235 (by decide) ?_
                    refine lv_istore (lv' := [(6, .int 0), (5, .int (nI k1)), (4, .int z10), (0, .ref y), (1, .int (nI t)), (2, .int (nI bs)), (3, .int its)]) hx hb dX7_canBe_236 hl (by decide) rfl (fun ls hl => ?_)
                    refine lv_iconst (v := 0) hx hb dX7_canBe_238 (by decide) ?_
                    refine lv_istore (lv' := [(7, .int 0), (6, .int 0), (5, .int (nI k1)), (4, .int z10), (0, .ref y), (1, .int (nI t)), (2, .int (nI bs)), (3, .int its)]) hx hb dX7_canBe_239 hl (by decide) rfl (fun ls hl => ?_)
                    refine lv_iconst (v := 0) hx hb dX7_canBe_241 (by decide) ?_
                    refine lv_istore (lv' := [(8, .int 0), (7, .int 0), (6, .int 0), (5, .int (nI k1)), (4, .int z10), (0, .ref y), (1, .int (nI t)), (2, .int (nI bs)), (3, .int its)]) hx hb dX7_canBe_242 hl (by decide) rfl (fun ls hl => ?_)
                    have loop244 : ∀ (k20 r2 : Nat) (ab : Nat) (z22 : Int32), r2 ≤ rw → rw < r2 + k20 → (ab ≤ r2) → (aB (z22 : Int32) (1000 * r2)) → ∀ (H : Heap) (locs : List Loc) (ls : Array Slot), PP G (mM G y b f (up2 r 36 x11)) H → va_S A s.heap H locs → lv_has ls 10 [(8, .int (nI r2)), (7, .int (nI ab)), (6, .int z22), (5, .int (nI k1)), (4, .int z10), (0, .ref y), (1, .int (nI t)), (2, .int (nI bs)), (3, .int its)] → W p l e ({ frames := 2, cells := 0, slots := 0, locals := 46 }) s m ([.ref y, .int (nI t), .int (nI bs), .int its] : List Value).toArray below meth c H locs 0 0 (MQ below (QwI G (fun q w => ∃ (n_r_36 : Nat → Int32) (n_r_37 : Nat → Int32) (n_r_38 : Nat → Int32), w = mM G y b f (up2 (up2 (up2 r 36 n_r_36) 37 n_r_37) 38 n_r_38) ∧ (q = 0 ∨ q = 1)) A) ([.ref y, .int (nI t), .int (nI bs), .int its] : List Value).toArray s 0 0 A) (F0 m 244 ls []) := by
                      intro k20
                      induction k20 with
                      | zero => intro r2 ab z22 h1 h2; exact absurd h1 (by omega)
                      | succ k20 ih244k20 =>
                        intro r2 ab z22 hi_r2 hk_r2 gab haB H locs ls hP hS hl
                        refine lv_iload hx hb dX7_canBe_244 (lv_at hl 0 rfl) ?_
                        refine lv_aload_n hx hb dX7_canBe_246 rfl (lv_at hl 5 rfl) ?_
                        refine va_get (D := G.1) (ci := 7) (v := .ref (b 2)) (C := RX7) (T := TX7) (N := 43) hx hb hts inX7 hown hK.1 hP 0 rfl rfl 2 (by decide) (hts _ mf_X7_13) (fun _ h9 => h9) rfl dX7_canBe_247 ?_
                        refine lv_iload_n hx hb dX7_canBe_250 rfl (lv_at hl 6 rfl) ?_
                        refine xiald (f := (r 2)) hx hb hK hP 2 (t) (rfl) (by omega) (by decide) rfl dX7_canBe_251 ?_
                        refine lv_topi (fun v23 ev23 => ?_)
                        obtain rfl : v23 = nI (rw) := ev23.trans (h2)
                        refine lv_icmp_ge (tgt := 322) hx hb dX7_canBe_252 (by decide) (fun c24 => ?_) (fun c24 => ?_)
                        · have b252 := qge_t (a := r2) (b := (rw)) (by omega) (by omega) c24
                          refine lv_iconst (v := 0) hx hb dX7_canBe_322 (by decide) ?_
                          refine lv_iload hx hb dX7_canBe_323 (lv_at hl 2 rfl) ?_
                          refine lv_iload_n hx hb dX7_canBe_325 rfl (lv_at hl 7 rfl) ?_
                          refine lv_idiv hx hb dX7_canBe_326 (nI_ne0 (by omega) (by omega)) ?_
                          refine lv_topi (fun v25 ev25 => ?_)
                          refine lv_iload hx hb dX7_canBe_327 (lv_at hl 1 rfl) ?_
                          refine lv_isub hx hb dX7_canBe_329 ?_
                          refine lv_topi (fun v26 ev26 => ?_)
                          refine va_mmax hx hb (hml.trans hl.1.symm) hown (hts _ ml_X7_254) (hts _ mst_yJ9_max_7cf53) (hts _ mz_RJ9) (hts _ mcode_yJ9_max_7cf53) (Nat.le_of_ble_eq_true rfl) (Nat.le_of_ble_eq_true rfl) (Nat.zero_le _) (Nat.zero_le _) dX7_canBe_330 ?_
                          refine lv_topi (fun v27 ev27 => ?_)
                          refine lv_istore (lv' := [(8, .int v27), (7, .int (nI ab)), (6, .int z22), (5, .int (nI k1)), (4, .int z10), (0, .ref y), (1, .int (nI t)), (2, .int (nI bs)), (3, .int its)]) hx hb dX7_canBe_333 hl (by decide) rfl (fun ls hl => ?_)
                          refine lv_iload hx hb dX7_canBe_335 (lv_at hl 2 rfl) ?_
                          refine lv_iload_n hx hb dX7_canBe_337 rfl (lv_at hl 7 rfl) ?_
                          refine lv_iadd hx hb dX7_canBe_338 ?_
                          refine lv_topi (fun v28 ev28 => ?_)
                          refine lv_iconst (v := 1) hx hb dX7_canBe_339 (by decide) ?_
                          refine lv_isub hx hb dX7_canBe_340 ?_
                          refine lv_topi (fun v29 ev29 => ?_)
                          refine lv_iload_n hx hb dX7_canBe_341 rfl (lv_at hl 7 rfl) ?_
                          refine lv_idiv hx hb dX7_canBe_342 (nI_ne0 (by omega) (by omega)) ?_
                          refine lv_topi (fun v30 ev30 => ?_)
                          refine lv_iload hx hb dX7_canBe_343 (lv_at hl 1 rfl) ?_
                          refine lv_isub hx hb dX7_canBe_345 ?_
                          refine lv_topi (fun v31 ev31 => ?_)
                          refine lv_istore (lv' := [(9, .int v31), (8, .int v27), (7, .int (nI ab)), (6, .int z22), (5, .int (nI k1)), (4, .int z10), (0, .ref y), (1, .int (nI t)), (2, .int (nI bs)), (3, .int its)]) hx hb dX7_canBe_346 hl (by decide) rfl (fun ls hl => ?_)
                          refine lv_iload hx hb dX7_canBe_348 (lv_at hl 0 rfl) ?_
                          refine lv_if_ge (tgt := 355) hx hb dX7_canBe_350 (by decide) (fun c32 => ?_) (fun c32 => ?_)
                          · obtain ⟨lo, hi, elo, ehi, hlh, hhi⟩ := lohi (aB_mo haB (by omega)) (show 0 < bs by omega) hb9 (show ab ≤ 12 by omega) ev25 ev26 ev27 ev28 ev29 ev30 ev31 c32
                            subst elo
                            subst ehi
                            refine lv_aload_n hx hb dX7_canBe_355 rfl (lv_at hl 6 rfl) ?_
                            refine lv_bipush (v := 12) hx hb dX7_canBe_356 (by decide) ?_
                            refine lv_iload hx hb dX7_canBe_358 (lv_at hl 4 rfl) ?_
                            refine lv_iadd hx hb dX7_canBe_360 ?_
                            refine lv_topi (fun v33 ev33 => ?_)
                            obtain rfl : v33 = nI (12 + k1) := nI_plus ev33 rfl rfl
                            refine lv_bipush (v := 25) hx hb dX7_canBe_361 (by decide) ?_
                            refine lv_iload hx hb dX7_canBe_363 (lv_at hl 1 rfl) ?_
                            refine lv_iload hx hb dX7_canBe_365 (lv_at hl 0 rfl) ?_
                            refine wrVVa (rest := []) (q0 := 0) ⟨hx, hb, hml, hown, hts⟩ (m_X7_bound l G y b f (up2 r 36 x11) (12 + k1) 25 lo hi (1 + 60000 * rw + 60000 * k1) (by omega) (by omega) (by omega) (by omega) (by omega) hcp) mi_yX7_bound mv_yX7_bound ml_X7_257 ⟨rfl, rfl, Nat.le_of_ble_eq_true rfl, Nat.le_of_ble_eq_true rfl⟩ hK hP (hDD _ _) rfl rfl rfl hl.1 rfl (Nat.le_of_ble_eq_true rfl) dX7_canBe_367 ⟨Nat.zero_le _, Nat.zero_le _⟩ hS hA (fun w35 H locs hw35 hP hS => ?_)
                            obtain ⟨x36, rfl, hcp⟩ := hw35
                            have hP : PP G (mM G y b f (up2 r 36 x36)) H := hP
                            have hcp : nOK 784 ((1 + 60000 * rw + 60000 * k1) + 60000) x36 := hcp
                            refine lv_iload hx hb dX7_canBe_370 (lv_at hl 5 rfl) ?_
                            refine lv_iload hx hb dX7_canBe_372 (lv_at hl 1 rfl) ?_
                            refine lv_iadd hx hb dX7_canBe_374 ?_
                            refine lv_topi (fun v37 ev37 => ?_)
                            refine lv_istore (lv' := [(4, .int v37), (9, .int (nI hi)), (8, .int (nI lo)), (7, .int (nI ab)), (6, .int z22), (5, .int (nI k1)), (0, .ref y), (1, .int (nI t)), (2, .int (nI bs)), (3, .int its)]) hx hb dX7_canBe_375 hl (by decide) rfl (fun ls hl => ?_)
                            obtain ⟨v38, ev38⟩ : ∃ y9 : Int32, y9 = (nI k1) + Int32.ofInt (1) := ⟨_, rfl⟩
                            refine lv_iinc (v := v38) (lv' := [(5, .int v38), (4, .int v37), (9, .int (nI hi)), (8, .int (nI lo)), (7, .int (nI ab)), (6, .int z22), (0, .ref y), (1, .int (nI t)), (2, .int (nI bs)), (3, .int its)]) hx hb dX7_canBe_377 hl (k := 5) rfl ev38.symm (by decide) rfl (fun ls hl => ?_)
                            obtain rfl : v38 = nI (k1 + 1) := nI_plus (i := k1) (j := 1) ev38 rfl (by decide)
                            refine lv_goto (tgt := 224) hx hb dX7_canBe_380 (by decide) ?_
                            exact ih224k9 (k1 + 1) v37 x36 (by omega) (by omega) (nOK_mo hcp (by omega)) _ _ _ hP hS (lv_sub hl [0, 1, 6, 7, 8, 9] rfl)
                          · refine lv_iconst (v := 0) hx hb dX7_canBe_353 (by decide) ?_
                            exact wr_zret hx hb hr hlocks (Or.inl rfl) hS hP ⟨x11, (r 37), (r 38), rfl, (Or.inl rfl)⟩ dX7_canBe_354
                        · have b252 := qge_f (a := r2) (b := (rw)) (by omega) (by omega) c24
                          refine lv_aload_n hx hb dX7_canBe_255 rfl (lv_at hl 5 rfl) ?_
                          refine va_get (D := G.1) (ci := 7) (v := .ref (b 33)) (C := RX7) (T := TX7) (N := 43) hx hb hts inX7 hown hK.1 hP 0 rfl rfl 33 (by decide) (hts _ mf_X7_95) (fun _ h9 => h9) rfl dX7_canBe_256 ?_
                          refine lv_iload hx hb dX7_canBe_259 (lv_at hl 0 rfl) ?_
                          refine xiald (f := (r 33)) hx hb hK hP 29 (r2) (rfl) (by omega) (by decide) rfl dX7_canBe_261 ?_
                          refine lv_topi (fun v39 ev39 => ?_)
                          refine lv_iload_n hx hb dX7_canBe_262 rfl (lv_at hl 8 rfl) ?_
                          refine lv_icmp_eq (tgt := 269) hx hb dX7_canBe_263 (by decide) (fun c40 => ?_) (fun c40 => ?_)
                          · refine lv_iload hx hb dX7_canBe_269 (lv_at hl 2 rfl) ?_
                            refine lv_aload_n hx hb dX7_canBe_271 rfl (lv_at hl 5 rfl) ?_
                            refine va_get (D := G.1) (ci := 7) (v := .ref (b 6)) (C := RX7) (T := TX7) (N := 43) hx hb hts inX7 hown hK.1 hP 0 rfl rfl 6 (by decide) (hts _ mf_X7_26) (fun _ h9 => h9) rfl dX7_canBe_272 ?_
                            refine lv_iload_n hx hb dX7_canBe_275 rfl (lv_at hl 6 rfl) ?_
                            refine lv_iload hx hb dX7_canBe_276 (lv_at hl 0 rfl) ?_
                            refine lv_iload hx hb dX7_canBe_278 (lv_at hl 3 rfl) ?_
                            refine rdS (rest := [.ref (b 6), .int z22]) ⟨hx, hb, hml, hown, hts⟩ (m_X7_at l G y b f (up2 r 36 x11) t r2 k1  ) mi_yX7_at mst_yX7_at ml_X7_147 ⟨rfl, rfl, Nat.le_of_ble_eq_true rfl, Nat.le_of_ble_eq_true rfl⟩ hK (hP) rfl hl.1 rfl (Nat.le_of_ble_eq_true rfl) dX7_canBe_280 ⟨Nat.zero_le _, Nat.zero_le _⟩ hS hA hP (fun r41 H locs hr41 hP hS => ?_)
                            obtain rfl := hr41
                            refine xiald (f := (r 6)) hx hb hK hP 6 ((144 * t + 12 * r2 + k1)) (rfl) (by omega) (by decide) rfl dX7_canBe_283 ?_
                            refine lv_topi (fun v42 ev42 => ?_)
                            refine lv_iload_n hx hb dX7_canBe_284 rfl (lv_at hl 7 rfl) ?_
                            refine lv_irem hx hb dX7_canBe_285 (nI_ne0 (by omega) (by omega)) ?_
                            refine lv_topi (fun v43 ev43 => ?_)
                            refine lv_iadd hx hb dX7_canBe_286 ?_
                            refine lv_topi (fun v44 ev44 => ?_)
                            refine lv_istore (lv' := [(6, .int v44), (8, .int (nI r2)), (7, .int (nI ab)), (5, .int (nI k1)), (4, .int z10), (0, .ref y), (1, .int (nI t)), (2, .int (nI bs)), (3, .int its)]) hx hb dX7_canBe_287 hl (by decide) rfl (fun ls hl => ?_)
                            refine lv_iload hx hb dX7_canBe_289 (lv_at hl 2 rfl) ?_
                            refine lv_aload_n hx hb dX7_canBe_291 rfl (lv_at hl 5 rfl) ?_
                            refine va_get (D := G.1) (ci := 7) (v := .ref (b 31)) (C := RX7) (T := TX7) (N := 43) hx hb hts inX7 hown hK.1 hP 0 rfl rfl 31 (by decide) (hts _ mf_X7_89) (fun _ h9 => h9) rfl dX7_canBe_292 ?_
                            refine lv_bipush (v := 12) hx hb dX7_canBe_295 (by decide) ?_
                            refine lv_iload hx hb dX7_canBe_297 (lv_at hl 1 rfl) ?_
                            refine lv_imul hx hb dX7_canBe_299 ?_
                            refine lv_topi (fun v45 ev45 => ?_)
                            obtain rfl : v45 = nI (12 * r2) := nI_times ev45 rfl rfl
                            refine lv_iload hx hb dX7_canBe_300 (lv_at hl 3 rfl) ?_
                            refine lv_iadd hx hb dX7_canBe_302 ?_
                            refine lv_topi (fun v46 ev46 => ?_)
                            obtain rfl : v46 = nI ((12 * r2) + k1) := nI_plus ev46 rfl rfl
                            refine xiald (f := (r 31)) hx hb hK hP 27 (((12 * r2) + k1)) (rfl) (by omega) (by decide) rfl dX7_canBe_303 ?_
                            refine lv_topi (fun v47 ev47 => ?_)
                            refine lv_iconst (v := 1) hx hb dX7_canBe_304 (by decide) ?_
                            have j313_48 : ∀ (z48 : Nat) (gz48 : z48 ≤ 1) (H : Heap) (locs : List Loc) (ls : Array Slot), PP G (mM G y b f (up2 r 36 x11)) H → va_S A s.heap H locs → lv_has ls 10 [(6, .int v44), (8, .int (nI r2)), (5, .int (nI k1)), (4, .int z10), (0, .ref y), (1, .int (nI t)), (2, .int (nI bs)), (3, .int its)] → W p l e ({ frames := 2, cells := 0, slots := 0, locals := 46 }) s m ([.ref y, .int (nI t), .int (nI bs), .int its] : List Value).toArray below meth c H locs 0 0 (MQ below (QwI G (fun q w => ∃ (n_r_36 : Nat → Int32) (n_r_37 : Nat → Int32) (n_r_38 : Nat → Int32), w = mM G y b f (up2 (up2 (up2 r 36 n_r_36) 37 n_r_37) 38 n_r_38) ∧ (q = 0 ∨ q = 1)) A) ([.ref y, .int (nI t), .int (nI bs), .int its] : List Value).toArray s 0 0 A) (F0 m 313 ls [.int (nI z48), .int (nI ab)]) := by
                              intro z48 gz48 H locs ls hP hS hl
                              refine lv_iadd hx hb dX7_canBe_313 ?_
                              refine lv_topi (fun v49 ev49 => ?_)
                              obtain rfl : v49 = nI (ab + z48) := nI_plus ev49 rfl rfl
                              refine lv_istore (lv' := [(7, .int (nI (ab + z48))), (6, .int v44), (8, .int (nI r2)), (5, .int (nI k1)), (4, .int z10), (0, .ref y), (1, .int (nI t)), (2, .int (nI bs)), (3, .int its)]) hx hb dX7_canBe_314 hl (by decide) rfl (fun ls hl => ?_)
                              obtain ⟨v50, ev50⟩ : ∃ y9 : Int32, y9 = (nI r2) + Int32.ofInt (1) := ⟨_, rfl⟩
                              refine lv_iinc (v := v50) (lv' := [(8, .int v50), (7, .int (nI (ab + z48))), (6, .int v44), (5, .int (nI k1)), (4, .int z10), (0, .ref y), (1, .int (nI t)), (2, .int (nI bs)), (3, .int its)]) hx hb dX7_canBe_316 hl (k := 2) rfl ev50.symm (by decide) rfl (fun ls hl => ?_)
                              obtain rfl : v50 = nI (r2 + 1) := nI_plus (i := r2) (j := 1) ev50 rfl (by decide)
                              refine lv_goto (tgt := 244) hx hb dX7_canBe_319 (by decide) ?_
                              exact ih244k20 (r2 + 1) (ab + z48) v44 (by omega) (by omega) (by omega) (by have h9 := aB_add ev44 haB (rem_b ev43 (by omega) hb9) (by omega); exact aB_mo h9 (by omega)) _ _ _ hP hS (lv_sub hl [0, 1, 2, 3, 4, 5, 6, 7, 8] rfl)
                            refine lv_icmp_ne (tgt := 312) hx hb dX7_canBe_305 (by decide) (fun c51 => ?_) (fun c51 => ?_)
                            · refine lv_iconst (v := 0) hx hb dX7_canBe_312 (by decide) ?_
                              exact j313_48 0 (by omega) _ _ _ hP hS (lv_sub hl [0, 1, 3, 4, 5, 6, 7, 8] rfl)
                            · refine lv_iconst (v := 1) hx hb dX7_canBe_308 (by decide) ?_
                              refine lv_goto (tgt := 313) hx hb dX7_canBe_309 (by decide) ?_
                              exact j313_48 1 (by omega) _ _ _ hP hS (lv_sub hl [0, 1, 3, 4, 5, 6, 7, 8] rfl)
                          · refine lv_goto (tgt := 316) hx hb dX7_canBe_266 (by decide) ?_
                            obtain ⟨v52, ev52⟩ : ∃ y9 : Int32, y9 = (nI r2) + Int32.ofInt (1) := ⟨_, rfl⟩
                            refine lv_iinc (v := v52) (lv' := [(8, .int v52), (7, .int (nI ab)), (6, .int z22), (5, .int (nI k1)), (4, .int z10), (0, .ref y), (1, .int (nI t)), (2, .int (nI bs)), (3, .int its)]) hx hb dX7_canBe_316 hl (k := 0) rfl ev52.symm (by decide) rfl (fun ls hl => ?_)
                            obtain rfl : v52 = nI (r2 + 1) := nI_plus (i := r2) (j := 1) ev52 rfl (by decide)
                            refine lv_goto (tgt := 244) hx hb dX7_canBe_319 (by decide) ?_
                            exact ih244k20 (r2 + 1) ab z22 (by omega) (by omega) (by omega) (aB_mo haB (by omega)) _ _ _ hP hS (lv_sub hl [0, 1, 2, 3, 4, 5, 6, 7, 8] rfl)
                    exact loop244 (rw + 1) 0 0 0 (by omega) (by omega) (by omega) (aB_0) _ _ _ hP hS (lv_sub hl [0, 1, 2, 3, 4, 5, 6, 7, 8] rfl)
              exact loop224 (cl + 1) 0 z5 x6 (by omega) (by omega) (nOK_mo hcp (by omega)) _ _ _ hP hS (lv_sub hl [0, 1, 2, 3, 4, 5] rfl)
            · have b41 := qge_f (a := r1) (b := (rw)) (by omega) (by omega) c8
              refine lv_aload_n hx hb dX7_canBe_44 rfl (lv_at hl 2 rfl) ?_
              refine va_get (D := G.1) (ci := 7) (v := .ref (b 33)) (C := RX7) (T := TX7) (N := 43) hx hb hts inX7 hown hK.1 hP 0 rfl rfl 33 (by decide) (hts _ mf_X7_95) (fun _ h9 => h9) rfl dX7_canBe_45 ?_
              refine lv_iload hx hb dX7_canBe_48 (lv_at hl 0 rfl) ?_
              refine xiald (f := (r 33)) hx hb hK hP 29 (r1) (rfl) (by omega) (by decide) rfl dX7_canBe_50 ?_
              refine lv_topi (fun v53 ev53 => ?_)
              refine lv_iload_n hx hb dX7_canBe_51 rfl (lv_at hl 5 rfl) ?_
              refine lv_icmp_eq (tgt := 58) hx hb dX7_canBe_52 (by decide) (fun c54 => ?_) (fun c54 => ?_)
              · refine lv_iconst (v := 0) hx hb dX7_canBe_58 (by decide) ?_
                refine lv_istore (lv' := [(6, .int 0), (5, .int (nI r1)), (4, .int z5), (0, .ref y), (1, .int (nI t)), (2, .int (nI bs)), (3, .int its)]) hx hb dX7_canBe_59 hl (by decide) rfl (fun ls hl => ?_)
                refine lv_iconst (v := 0) hx hb dX7_canBe_61 (by decide) ?_
                refine lv_istore (lv' := [(7, .int 0), (6, .int 0), (5, .int (nI r1)), (4, .int z5), (0, .ref y), (1, .int (nI t)), (2, .int (nI bs)), (3, .int its)]) hx hb dX7_canBe_62 hl (by decide) rfl (fun ls hl => ?_)
                refine lv_iconst (v := 0) hx hb dX7_canBe_64 (by decide) ?_
                refine lv_istore (lv' := [(8, .int 0), (7, .int 0), (6, .int 0), (5, .int (nI r1)), (4, .int z5), (0, .ref y), (1, .int (nI t)), (2, .int (nI bs)), (3, .int its)]) hx hb dX7_canBe_65 hl (by decide) rfl (fun ls hl => ?_)
                have loop67 : ∀ (k55 k1 : Nat) (ab : Nat) (z57 : Int32) (x58 : Nat → Int32), k1 ≤ cl → cl < k1 + k55 → (ab ≤ k1) → (aB (z57 : Int32) (1000 * k1)) → (nOK 784 (1 + 60000 * r1) x58) → ∀ (H : Heap) (locs : List Loc) (ls : Array Slot), PP G (mM G y b f (up2 r 36 x58)) H → va_S A s.heap H locs → lv_has ls 10 [(8, .int (nI k1)), (7, .int (nI ab)), (6, .int z57), (5, .int (nI r1)), (4, .int z5), (0, .ref y), (1, .int (nI t)), (2, .int (nI bs)), (3, .int its)] → W p l e ({ frames := 2, cells := 0, slots := 0, locals := 46 }) s m ([.ref y, .int (nI t), .int (nI bs), .int its] : List Value).toArray below meth c H locs 0 0 (MQ below (QwI G (fun q w => ∃ (n_r_36 : Nat → Int32) (n_r_37 : Nat → Int32) (n_r_38 : Nat → Int32), w = mM G y b f (up2 (up2 (up2 r 36 n_r_36) 37 n_r_37) 38 n_r_38) ∧ (q = 0 ∨ q = 1)) A) ([.ref y, .int (nI t), .int (nI bs), .int its] : List Value).toArray s 0 0 A) (F0 m 67 ls []) := by
                  intro k55
                  induction k55 with
                  | zero => intro k1 ab z57 x58 h1 h2; exact absurd h1 (by omega)
                  | succ k55 ih67k55 =>
                    intro k1 ab z57 x58 hi_k1 hk_k1 gab haB hcp H locs ls hP hS hl
                    refine lv_iload hx hb dX7_canBe_67 (lv_at hl 0 rfl) ?_
                    refine lv_aload_n hx hb dX7_canBe_69 rfl (lv_at hl 5 rfl) ?_
                    refine va_get (D := G.1) (ci := 7) (v := .ref (b 3)) (C := RX7) (T := TX7) (N := 43) hx hb hts inX7 hown hK.1 hP 0 rfl rfl 3 (by decide) (hts _ mf_X7_17) (fun _ h9 => h9) rfl dX7_canBe_70 ?_
                    refine lv_iload_n hx hb dX7_canBe_73 rfl (lv_at hl 6 rfl) ?_
                    refine xiald (f := (r 3)) hx hb hK hP 3 (t) (rfl) (by omega) (by decide) rfl dX7_canBe_74 ?_
                    refine lv_topi (fun v59 ev59 => ?_)
                    obtain rfl : v59 = nI (cl) := ev59.trans (h3)
                    refine lv_icmp_ge (tgt := 163) hx hb dX7_canBe_75 (by decide) (fun c60 => ?_) (fun c60 => ?_)
                    · have b75 := qge_t (a := k1) (b := (cl)) (by omega) (by omega) c60
                      refine lv_iconst (v := 0) hx hb dX7_canBe_163 (by decide) ?_
                      refine lv_iload hx hb dX7_canBe_164 (lv_at hl 2 rfl) ?_
                      refine lv_iload_n hx hb dX7_canBe_166 rfl (lv_at hl 7 rfl) ?_
                      refine lv_idiv hx hb dX7_canBe_167 (nI_ne0 (by omega) (by omega)) ?_
                      refine lv_topi (fun v61 ev61 => ?_)
                      refine lv_iload hx hb dX7_canBe_168 (lv_at hl 1 rfl) ?_
                      refine lv_isub hx hb dX7_canBe_170 ?_
                      refine lv_topi (fun v62 ev62 => ?_)
                      refine va_mmax hx hb (hml.trans hl.1.symm) hown (hts _ ml_X7_254) (hts _ mst_yJ9_max_7cf53) (hts _ mz_RJ9) (hts _ mcode_yJ9_max_7cf53) (Nat.le_of_ble_eq_true rfl) (Nat.le_of_ble_eq_true rfl) (Nat.zero_le _) (Nat.zero_le _) dX7_canBe_171 ?_
                      refine lv_topi (fun v63 ev63 => ?_)
                      refine lv_istore (lv' := [(8, .int v63), (7, .int (nI ab)), (6, .int z57), (5, .int (nI r1)), (4, .int z5), (0, .ref y), (1, .int (nI t)), (2, .int (nI bs)), (3, .int its)]) hx hb dX7_canBe_174 hl (by decide) rfl (fun ls hl => ?_)
                      refine lv_iload hx hb dX7_canBe_176 (lv_at hl 2 rfl) ?_
                      refine lv_iload_n hx hb dX7_canBe_178 rfl (lv_at hl 7 rfl) ?_
                      refine lv_iadd hx hb dX7_canBe_179 ?_
                      refine lv_topi (fun v64 ev64 => ?_)
                      refine lv_iconst (v := 1) hx hb dX7_canBe_180 (by decide) ?_
                      refine lv_isub hx hb dX7_canBe_181 ?_
                      refine lv_topi (fun v65 ev65 => ?_)
                      refine lv_iload_n hx hb dX7_canBe_182 rfl (lv_at hl 7 rfl) ?_
                      refine lv_idiv hx hb dX7_canBe_183 (nI_ne0 (by omega) (by omega)) ?_
                      refine lv_topi (fun v66 ev66 => ?_)
                      refine lv_iload hx hb dX7_canBe_184 (lv_at hl 1 rfl) ?_
                      refine lv_isub hx hb dX7_canBe_186 ?_
                      refine lv_topi (fun v67 ev67 => ?_)
                      refine lv_istore (lv' := [(9, .int v67), (8, .int v63), (7, .int (nI ab)), (6, .int z57), (5, .int (nI r1)), (4, .int z5), (0, .ref y), (1, .int (nI t)), (2, .int (nI bs)), (3, .int its)]) hx hb dX7_canBe_187 hl (by decide) rfl (fun ls hl => ?_)
                      refine lv_iload hx hb dX7_canBe_189 (lv_at hl 0 rfl) ?_
                      refine lv_if_ge (tgt := 196) hx hb dX7_canBe_191 (by decide) (fun c68 => ?_) (fun c68 => ?_)
                      · obtain ⟨lo, hi, elo, ehi, hlh, hhi⟩ := lohi (aB_mo haB (by omega)) (show 0 < bs by omega) hb9 (show ab ≤ 12 by omega) ev61 ev62 ev63 ev64 ev65 ev66 ev67 c68
                        subst elo
                        subst ehi
                        refine lv_aload_n hx hb dX7_canBe_196 rfl (lv_at hl 6 rfl) ?_
                        refine lv_bipush (v := 24) hx hb dX7_canBe_197 (by decide) ?_
                        refine lv_iload hx hb dX7_canBe_199 (lv_at hl 4 rfl) ?_
                        refine lv_iload hx hb dX7_canBe_201 (lv_at hl 1 rfl) ?_
                        refine lv_iload hx hb dX7_canBe_203 (lv_at hl 0 rfl) ?_
                        refine wrVVa (rest := []) (q0 := 0) ⟨hx, hb, hml, hown, hts⟩ (m_X7_bound l G y b f (up2 r 36 x58) 24 r1 lo hi (1 + 60000 * r1) (by omega) (by omega) (by omega) (by omega) (by omega) hcp) mi_yX7_bound mv_yX7_bound ml_X7_257 ⟨rfl, rfl, Nat.le_of_ble_eq_true rfl, Nat.le_of_ble_eq_true rfl⟩ hK hP (hDD _ _) rfl rfl rfl hl.1 rfl (Nat.le_of_ble_eq_true rfl) dX7_canBe_205 ⟨Nat.zero_le _, Nat.zero_le _⟩ hS hA (fun w70 H locs hw70 hP hS => ?_)
                        obtain ⟨x71, rfl, hcp⟩ := hw70
                        have hP : PP G (mM G y b f (up2 r 36 x71)) H := hP
                        have hcp : nOK 784 ((1 + 60000 * r1) + 60000) x71 := hcp
                        refine lv_iload hx hb dX7_canBe_208 (lv_at hl 5 rfl) ?_
                        refine lv_iload hx hb dX7_canBe_210 (lv_at hl 1 rfl) ?_
                        refine lv_iadd hx hb dX7_canBe_212 ?_
                        refine lv_topi (fun v72 ev72 => ?_)
                        refine lv_istore (lv' := [(4, .int v72), (9, .int (nI hi)), (8, .int (nI lo)), (7, .int (nI ab)), (6, .int z57), (5, .int (nI r1)), (0, .ref y), (1, .int (nI t)), (2, .int (nI bs)), (3, .int its)]) hx hb dX7_canBe_213 hl (by decide) rfl (fun ls hl => ?_)
                        obtain ⟨v73, ev73⟩ : ∃ y9 : Int32, y9 = (nI r1) + Int32.ofInt (1) := ⟨_, rfl⟩
                        refine lv_iinc (v := v73) (lv' := [(5, .int v73), (4, .int v72), (9, .int (nI hi)), (8, .int (nI lo)), (7, .int (nI ab)), (6, .int z57), (0, .ref y), (1, .int (nI t)), (2, .int (nI bs)), (3, .int its)]) hx hb dX7_canBe_215 hl (k := 5) rfl ev73.symm (by decide) rfl (fun ls hl => ?_)
                        obtain rfl : v73 = nI (r1 + 1) := nI_plus (i := r1) (j := 1) ev73 rfl (by decide)
                        refine lv_goto (tgt := 33) hx hb dX7_canBe_218 (by decide) ?_
                        exact ih33k4 (r1 + 1) v72 x71 (by omega) (by omega) (nOK_mo hcp (by omega)) _ _ _ hP hS (lv_sub hl [0, 1, 6, 7, 8, 9] rfl)
                      · refine lv_iconst (v := 0) hx hb dX7_canBe_194 (by decide) ?_
                        exact wr_zret hx hb hr hlocks (Or.inl rfl) hS hP ⟨x58, (r 37), (r 38), rfl, (Or.inl rfl)⟩ dX7_canBe_195
                    · have b75 := qge_f (a := k1) (b := (cl)) (by omega) (by omega) c60
                      refine lv_bipush (v := 12) hx hb dX7_canBe_78 (by decide) ?_
                      refine lv_iload hx hb dX7_canBe_80 (lv_at hl 3 rfl) ?_
                      refine lv_imul hx hb dX7_canBe_82 ?_
                      refine lv_topi (fun v74 ev74 => ?_)
                      obtain rfl : v74 = nI (12 * r1) := nI_times ev74 rfl rfl
                      refine lv_iload hx hb dX7_canBe_83 (lv_at hl 0 rfl) ?_
                      refine lv_iadd hx hb dX7_canBe_85 ?_
                      refine lv_topi (fun v75 ev75 => ?_)
                      obtain rfl : v75 = nI ((12 * r1) + k1) := nI_plus ev75 rfl rfl
                      refine lv_istore (lv' := [(9, .int (nI ((12 * r1) + k1))), (8, .int (nI k1)), (7, .int (nI ab)), (6, .int z57), (5, .int (nI r1)), (4, .int z5), (0, .ref y), (1, .int (nI t)), (2, .int (nI bs)), (3, .int its)]) hx hb dX7_canBe_86 hl (by decide) rfl (fun ls hl => ?_)
                      refine lv_iload hx hb dX7_canBe_88 (lv_at hl 3 rfl) ?_
                      refine lv_aload_n hx hb dX7_canBe_90 rfl (lv_at hl 6 rfl) ?_
                      refine va_get (D := G.1) (ci := 7) (v := .ref (b 6)) (C := RX7) (T := TX7) (N := 43) hx hb hts inX7 hown hK.1 hP 0 rfl rfl 6 (by decide) (hts _ mf_X7_26) (fun _ h9 => h9) rfl dX7_canBe_91 ?_
                      refine lv_iload_n hx hb dX7_canBe_94 rfl (lv_at hl 7 rfl) ?_
                      refine lv_iload hx hb dX7_canBe_95 (lv_at hl 4 rfl) ?_
                      refine lv_iload hx hb dX7_canBe_97 (lv_at hl 1 rfl) ?_
                      refine rdS (rest := [.ref (b 6), .int z57]) ⟨hx, hb, hml, hown, hts⟩ (m_X7_at l G y b f (up2 r 36 x58) t r1 k1  ) mi_yX7_at mst_yX7_at ml_X7_147 ⟨rfl, rfl, Nat.le_of_ble_eq_true rfl, Nat.le_of_ble_eq_true rfl⟩ hK (hP) rfl hl.1 rfl (Nat.le_of_ble_eq_true rfl) dX7_canBe_99 ⟨Nat.zero_le _, Nat.zero_le _⟩ hS hA hP (fun r76 H locs hr76 hP hS => ?_)
                      obtain rfl := hr76
                      refine xiald (f := (r 6)) hx hb hK hP 6 ((144 * t + 12 * r1 + k1)) (rfl) (by omega) (by decide) rfl dX7_canBe_102 ?_
                      refine lv_topi (fun v77 ev77 => ?_)
                      refine lv_iload_n hx hb dX7_canBe_103 rfl (lv_at hl 8 rfl) ?_
                      refine lv_irem hx hb dX7_canBe_104 (nI_ne0 (by omega) (by omega)) ?_
                      refine lv_topi (fun v78 ev78 => ?_)
                      refine lv_iadd hx hb dX7_canBe_105 ?_
                      refine lv_topi (fun v79 ev79 => ?_)
                      refine lv_istore (lv' := [(6, .int v79), (9, .int (nI ((12 * r1) + k1))), (8, .int (nI k1)), (7, .int (nI ab)), (5, .int (nI r1)), (4, .int z5), (0, .ref y), (1, .int (nI t)), (2, .int (nI bs)), (3, .int its)]) hx hb dX7_canBe_106 hl (by decide) rfl (fun ls hl => ?_)
                      refine lv_iload hx hb dX7_canBe_108 (lv_at hl 3 rfl) ?_
                      refine lv_aload_n hx hb dX7_canBe_110 rfl (lv_at hl 6 rfl) ?_
                      refine va_get (D := G.1) (ci := 7) (v := .ref (b 31)) (C := RX7) (T := TX7) (N := 43) hx hb hts inX7 hown hK.1 hP 0 rfl rfl 31 (by decide) (hts _ mf_X7_89) (fun _ h9 => h9) rfl dX7_canBe_111 ?_
                      refine lv_iload hx hb dX7_canBe_114 (lv_at hl 1 rfl) ?_
                      refine xiald (f := (r 31)) hx hb hK hP 27 (((12 * r1) + k1)) (rfl) (by omega) (by decide) rfl dX7_canBe_116 ?_
                      refine lv_topi (fun v80 ev80 => ?_)
                      refine lv_iconst (v := 1) hx hb dX7_canBe_117 (by decide) ?_
                      have j126_81 : ∀ (z81 : Nat) (gz81 : z81 ≤ 1) (H : Heap) (locs : List Loc) (ls : Array Slot), PP G (mM G y b f (up2 r 36 x58)) H → va_S A s.heap H locs → lv_has ls 10 [(6, .int v79), (9, .int (nI ((12 * r1) + k1))), (8, .int (nI k1)), (5, .int (nI r1)), (4, .int z5), (0, .ref y), (1, .int (nI t)), (2, .int (nI bs)), (3, .int its)] → W p l e ({ frames := 2, cells := 0, slots := 0, locals := 46 }) s m ([.ref y, .int (nI t), .int (nI bs), .int its] : List Value).toArray below meth c H locs 0 0 (MQ below (QwI G (fun q w => ∃ (n_r_36 : Nat → Int32) (n_r_37 : Nat → Int32) (n_r_38 : Nat → Int32), w = mM G y b f (up2 (up2 (up2 r 36 n_r_36) 37 n_r_37) 38 n_r_38) ∧ (q = 0 ∨ q = 1)) A) ([.ref y, .int (nI t), .int (nI bs), .int its] : List Value).toArray s 0 0 A) (F0 m 126 ls [.int (nI z81), .int (nI ab)]) := by
                        intro z81 gz81 H locs ls hP hS hl
                        refine lv_iadd hx hb dX7_canBe_126 ?_
                        refine lv_topi (fun v82 ev82 => ?_)
                        obtain rfl : v82 = nI (ab + z81) := nI_plus ev82 rfl rfl
                        refine lv_istore (lv' := [(7, .int (nI (ab + z81))), (6, .int v79), (9, .int (nI ((12 * r1) + k1))), (8, .int (nI k1)), (5, .int (nI r1)), (4, .int z5), (0, .ref y), (1, .int (nI t)), (2, .int (nI bs)), (3, .int its)]) hx hb dX7_canBe_127 hl (by decide) rfl (fun ls hl => ?_)
                        refine lv_aload_n hx hb dX7_canBe_129 rfl (lv_at hl 6 rfl) ?_
                        refine va_get (D := G.1) (ci := 7) (v := .ref (b 31)) (C := RX7) (T := TX7) (N := 43) hx hb hts inX7 hown hK.1 hP 0 rfl rfl 31 (by decide) (hts _ mf_X7_89) (fun _ h9 => h9) rfl dX7_canBe_130 ?_
                        refine lv_iload hx hb dX7_canBe_133 (lv_at hl 2 rfl) ?_
                        refine xiald (f := (r 31)) hx hb hK hP 27 (((12 * r1) + k1)) (rfl) (by omega) (by decide) rfl dX7_canBe_135 ?_
                        refine lv_topi (fun v83 ev83 => ?_)
                        refine lv_iconst (v := 2) hx hb dX7_canBe_136 (by decide) ?_
                        refine lv_icmp_ne (tgt := 157) hx hb dX7_canBe_137 (by decide) (fun c84 => ?_) (fun c84 => ?_)
                        · obtain ⟨v85, ev85⟩ : ∃ y9 : Int32, y9 = (nI k1) + Int32.ofInt (1) := ⟨_, rfl⟩
                          refine lv_iinc (v := v85) (lv' := [(8, .int v85), (7, .int (nI (ab + z81))), (6, .int v79), (9, .int (nI ((12 * r1) + k1))), (5, .int (nI r1)), (4, .int z5), (0, .ref y), (1, .int (nI t)), (2, .int (nI bs)), (3, .int its)]) hx hb dX7_canBe_157 hl (k := 3) rfl ev85.symm (by decide) rfl (fun ls hl => ?_)
                          obtain rfl : v85 = nI (k1 + 1) := nI_plus (i := k1) (j := 1) ev85 rfl (by decide)
                          refine lv_goto (tgt := 67) hx hb dX7_canBe_160 (by decide) ?_
                          exact ih67k55 (k1 + 1) (ab + z81) v79 x58 (by omega) (by omega) (by omega) (by have h9 := aB_add ev79 haB (rem_b ev78 (by omega) hb9) (by omega); exact aB_mo h9 (by omega)) (hcp) _ _ _ hP hS (lv_sub hl [0, 1, 2, 4, 5, 6, 7, 8, 9] rfl)
                        · refine lv_aload_n hx hb dX7_canBe_140 rfl (lv_at hl 6 rfl) ?_
                          refine va_get (D := G.1) (ci := 7) (v := .ref (b 36)) (C := RX7) (T := TX7) (N := 43) hx hb hts inX7 hown hK.1 hP 0 rfl rfl 36 (by decide) (hts _ mf_X7_98) (fun _ h9 => h9) rfl dX7_canBe_141 ?_
                          refine lv_bipush (v := 28) hx hb dX7_canBe_144 (by decide) ?_
                          refine lv_iload hx hb dX7_canBe_146 (lv_at hl 4 rfl) ?_
                          refine lv_imul hx hb dX7_canBe_148 ?_
                          refine lv_topi (fun v86 ev86 => ?_)
                          obtain rfl : v86 = nI (28 * r1) := nI_times ev86 rfl rfl
                          refine lv_bipush (v := 12) hx hb dX7_canBe_149 (by decide) ?_
                          refine lv_iadd hx hb dX7_canBe_151 ?_
                          refine lv_topi (fun v87 ev87 => ?_)
                          obtain rfl : v87 = nI ((28 * r1) + 12) := nI_plus ev87 rfl rfl
                          refine lv_iload hx hb dX7_canBe_152 (lv_at hl 3 rfl) ?_
                          refine lv_iadd hx hb dX7_canBe_154 ?_
                          refine lv_topi (fun v88 ev88 => ?_)
                          obtain rfl : v88 = nI (((28 * r1) + 12) + k1) := nI_plus ev88 rfl rfl
                          refine lv_iconst (v := 1) hx hb dX7_canBe_155 (by decide) ?_
                          refine xiast (f := x58) (x := 1) hx hb hK hP (hDD _ _) hS 30 ((((28 * r1) + 12) + k1)) (rfl) (by omega) (by decide) rfl dX7_canBe_156 (fun H locs hP _ hS => ?_)
                          have hP : PP G (mM G y b f (up2 r 36 (upd x58 ((((28 * r1) + 12) + k1)) (1)))) H := hP
                          obtain ⟨v89, ev89⟩ : ∃ y9 : Int32, y9 = (nI k1) + Int32.ofInt (1) := ⟨_, rfl⟩
                          refine lv_iinc (v := v89) (lv' := [(8, .int v89), (7, .int (nI (ab + z81))), (6, .int v79), (9, .int (nI ((12 * r1) + k1))), (5, .int (nI r1)), (4, .int z5), (0, .ref y), (1, .int (nI t)), (2, .int (nI bs)), (3, .int its)]) hx hb dX7_canBe_157 hl (k := 3) rfl ev89.symm (by decide) rfl (fun ls hl => ?_)
                          obtain rfl : v89 = nI (k1 + 1) := nI_plus (i := k1) (j := 1) ev89 rfl (by decide)
                          refine lv_goto (tgt := 67) hx hb dX7_canBe_160 (by decide) ?_
                          exact ih67k55 (k1 + 1) (ab + z81) v79 (upd x58 ((((28 * r1) + 12) + k1)) (1)) (by omega) (by omega) (by omega) (by have h9 := aB_add ev79 haB (rem_b ev78 (by omega) hb9) (by omega); exact aB_mo h9 (by omega)) (nOK_u (k := 1) hcp (by omega)) _ _ _ hP hS (lv_sub hl [0, 1, 2, 4, 5, 6, 7, 8, 9] rfl)
                      refine lv_icmp_ne (tgt := 125) hx hb dX7_canBe_118 (by decide) (fun c90 => ?_) (fun c90 => ?_)
                      · refine lv_iconst (v := 0) hx hb dX7_canBe_125 (by decide) ?_
                        exact j126_81 0 (by omega) _ _ _ hP hS (lv_sub hl [0, 1, 2, 4, 5, 6, 7, 8, 9] rfl)
                      · refine lv_iconst (v := 1) hx hb dX7_canBe_121 (by decide) ?_
                        refine lv_goto (tgt := 126) hx hb dX7_canBe_122 (by decide) ?_
                        exact j126_81 1 (by omega) _ _ _ hP hS (lv_sub hl [0, 1, 2, 4, 5, 6, 7, 8, 9] rfl)
                exact loop67 (cl + 1) 0 0 0 x6 (by omega) (by omega) (by omega) (aB_0) (hcp) _ _ _ hP hS (lv_sub hl [0, 1, 2, 3, 4, 5, 6, 7, 8] rfl)
              · refine lv_goto (tgt := 215) hx hb dX7_canBe_55 (by decide) ?_
                obtain ⟨v91, ev91⟩ : ∃ y9 : Int32, y9 = (nI r1) + Int32.ofInt (1) := ⟨_, rfl⟩
                refine lv_iinc (v := v91) (lv' := [(5, .int v91), (4, .int z5), (0, .ref y), (1, .int (nI t)), (2, .int (nI bs)), (3, .int its)]) hx hb dX7_canBe_215 hl (k := 0) rfl ev91.symm (by decide) rfl (fun ls hl => ?_)
                obtain rfl : v91 = nI (r1 + 1) := nI_plus (i := r1) (j := 1) ev91 rfl (by decide)
                refine lv_goto (tgt := 33) hx hb dX7_canBe_218 (by decide) ?_
                exact ih33k4 (r1 + 1) z5 x6 (by omega) (by omega) (nOK_mo hcp (by omega)) _ _ _ hP hS (lv_sub hl [0, 1, 2, 3, 4, 5] rfl)
        exact loop33 (rw + 1) 0 0 x2 (by omega) (by omega) (nOK_mo hcp (by omega)) _ _ _ hP hS (lv_sub hl [0, 1, 2, 3, 4, 5] rfl)
      · have b10 := qge_f (a := n1) (b := 784) (by omega) (by omega) c3
        refine lv_aload_n hx hb dX7_canBe_13 rfl (lv_at hl 1 rfl) ?_
        refine va_get (D := G.1) (ci := 7) (v := .ref (b 36)) (C := RX7) (T := TX7) (N := 43) hx hb hts inX7 hown hK.1 hP 0 rfl rfl 36 (by decide) (hts _ mf_X7_98) (fun _ h9 => h9) rfl dX7_canBe_14 ?_
        refine lv_iload hx hb dX7_canBe_17 (lv_at hl 0 rfl) ?_
        refine lv_iconst (v := 0) hx hb dX7_canBe_19 (by decide) ?_
        refine xiast (f := x2) (x := 0) hx hb hK hP (hDD _ _) hS 30 (n1) (rfl) (by omega) (by decide) rfl dX7_canBe_20 (fun H locs hP _ hS => ?_)
        have hP : PP G (mM G y b f (up2 r 36 (upd x2 (n1) (0)))) H := hP
        obtain ⟨v92, ev92⟩ : ∃ y9 : Int32, y9 = (nI n1) + Int32.ofInt (1) := ⟨_, rfl⟩
        refine lv_iinc (v := v92) (lv' := [(4, .int v92), (0, .ref y), (1, .int (nI t)), (2, .int (nI bs)), (3, .int its)]) hx hb dX7_canBe_21 hl (k := 0) rfl ev92.symm (by decide) rfl (fun ls hl => ?_)
        obtain rfl : v92 = nI (n1 + 1) := nI_plus (i := n1) (j := 1) ev92 rfl (by decide)
        refine lv_goto (tgt := 3) hx hb dX7_canBe_24 (by decide) ?_
        exact ih3k1 (n1 + 1) (upd x2 (n1) (0)) (by omega) (by omega) (zz_s hz) _ _ _ hP hS (lv_sub hl [0, 1, 2, 3, 4] rfl)
  exact loop3 (784 + 1) 0 (r 36) (by omega) (by omega) (fun n h => absurd h (Nat.not_lt_zero n)) _ _ _ hP hS (lv_sub hl [0, 1, 2, 3, 4] rfl)
set_option maxHeartbeats 4000000 in
set_option maxRecDepth 100000 in
theorem m_X7_round (l : Launch) (G : GG) (y : Nat) (b : Nat → Nat) (f : Nat → Int32) (r : Nat → Nat → Int32) (tb : Int32) (ba : Int32) (hM2 : nOK 6 12 (r 2)) (hM3 : nOK 6 12 (r 3)) (hM12 : nOK 6 12 (r 12)) (h34 : nL 12 (f 34)) (h35 : nL 12 (f 35)) : WrI l yX7_round cX7_round 7 (some .int) ({ frames := 3, cells := 0, slots := 0, locals := 75 }) G (mM G y b f r) [.ref y, .int tb, .int ba] (fun q w => ∃ (n_f_0 : Int32) (n_f_34 : Int32) (n_f_35 : Int32) (n_r_31 : Nat → Int32) (n_r_32 : Nat → Int32) (n_r_33 : Nat → Int32) (n_r_36 : Nat → Int32) (n_r_37 : Nat → Int32) (n_r_38 : Nat → Int32), w = mM G y b (upd (upd (upd f 0 n_f_0) 34 n_f_34) 35 n_f_35) (up2 (up2 (up2 (up2 (up2 (up2 r 31 n_r_31) 32 n_r_32) 33 n_r_33) 36 n_r_36) 37 n_r_37) 38 n_r_38) ∧ (nL 12 n_f_34) ∧ (nL 12 n_f_35)) := by
  refine wr_entryI (by decide +kernel) (Nat.le_of_ble_eq_true rfl) ?_
  intro p e s m below meth c A C0 hP hK hD hA ls hl
  have hS : va_S A s.heap s.heap [] := va_S.rf
  obtain ⟨hx, hb, hml, hown, hts, hr, hlocks, hin⟩ := C0
  have hown : s.vm.findClass RX7 = some m.cls := hown
  have hDD : ∀ f' r', va_D A (mM G y b f' r') := fun f' r' => D_same hD rfl
  have hl : lv_has ls 7 [(0, .ref y), (1, .int tb), (2, .int ba)] := hl
  refine lv_aload_n hx hb dX7_round_0 rfl (lv_at hl 0 rfl) ?_
  refine lv_aload_n hx hb dX7_round_1 rfl (lv_at hl 0 rfl) ?_
  refine lv_iload_n hx hb dX7_round_2 rfl (lv_at hl 1 rfl) ?_
  refine rdV (rest := [.ref y]) (q0 := 0) ⟨hx, hb, hml, hown, hts⟩ (m_X7_isTable l G y b f r tb  ) mi_yX7_isTable mv_yX7_isTable ml_X7_120 ⟨rfl, rfl, Nat.le_of_ble_eq_true rfl, Nat.le_of_ble_eq_true rfl⟩ hK (hP) rfl rfl rfl hl.1 rfl (Nat.le_of_ble_eq_true rfl) dX7_round_3 ⟨Nat.zero_le _, Nat.zero_le _⟩ hS hA hP (fun r1 H locs hr1 hP hS => ?_)
  have hr1 : ((r1 = 1 ∧ (opn (r 1) tb)) ∨ (r1 = 0 ∧ ¬ (opn (r 1) tb))) := hr1
  refine lv_if_ne (tgt := 13) hx hb dX7_round_6 (by decide) (fun c2 => ?_) (fun c2 => ?_)
  · have b6 := bT hr1 c2
    obtain ⟨t, ht, rfl, hop⟩ := b6
    obtain ⟨rw, hrw, h2⟩ := hM2 t ht
    obtain ⟨cl, hcl, h3⟩ := hM3 t ht
    obtain ⟨bk, hbk, h12⟩ := hM12 t ht
    refine lv_iload_n hx hb dX7_round_13 rfl (lv_at hl 2 rfl) ?_
    refine lv_iconst (v := 2) hx hb dX7_round_14 (by decide) ?_
    refine lv_icmp_lt (tgt := 25) hx hb dX7_round_15 (by decide) (fun c3 => ?_) (fun c3 => ?_)
    · refine lv_bipush (v := 7) hx hb dX7_round_25 (by decide) ?_
      refine lv_goto (tgt := 31) hx hb dX7_round_27 (by decide) ?_
      refine va_put (D := G.1) (ci := 7) (v := .int 7) (C := RX7) (T := TX7) (N := 43) hx hb hts inX7 tyX7 tyX7_ok nmX7 hown hK.1 hP (hDD _ _) hS 0 rfl rfl 0 (by decide) (hts _ mf_X7_116) (fun _ h9 => h9) rfl (tyX7_ok 0 (by decide)) (rfl) (rfl) (Nat.le_of_ble_eq_true rfl) dX7_round_31 (fun H locs hP _ hS => ?_)
      have hP : PP G (mM G y b (upd f 0 7) r) H := hP
      refine lv_aload_n hx hb dX7_round_34 rfl (lv_at hl 0 rfl) ?_
      refine va_get (D := G.1) (ci := 7) (v := .int 7) (C := RX7) (T := TX7) (N := 43) hx hb hts inX7 hown hK.1 hP 0 rfl rfl 0 (by decide) (hts _ mf_X7_116) (fun _ h9 => h9) rfl dX7_round_35 ?_
      refine lv_if_le (tgt := 43) hx hb dX7_round_38 (by decide) (fun c4 => absurd c4 (by decide)) (fun c4 => ?_)
      refine lv_iconst (v := -1) hx hb dX7_round_41 (by decide) ?_
      exact wr_iret hx hb hr hlocks hS hP ⟨7, (f 34), (f 35), (r 31), (r 32), (r 33), (r 36), (r 37), (r 38), rfl, h34, h35⟩ dX7_round_42
    · refine lv_iload_n hx hb dX7_round_18 rfl (lv_at hl 2 rfl) ?_
      refine lv_sipush (v := 1000) hx hb dX7_round_19 (by decide) ?_
      refine lv_icmp_le (tgt := 30) hx hb dX7_round_22 (by decide) (fun c5 => ?_) (fun c5 => ?_)
      · obtain ⟨bs, hb1, hb9, rfl⟩ := bs_n c3 c5
        refine lv_iconst (v := 0) hx hb dX7_round_30 (by decide) ?_
        refine va_put (D := G.1) (ci := 7) (v := .int 0) (C := RX7) (T := TX7) (N := 43) hx hb hts inX7 tyX7 tyX7_ok nmX7 hown hK.1 hP (hDD _ _) hS 0 rfl rfl 0 (by decide) (hts _ mf_X7_116) (fun _ h9 => h9) rfl (tyX7_ok 0 (by decide)) (rfl) (rfl) (Nat.le_of_ble_eq_true rfl) dX7_round_31 (fun H locs hP _ hS => ?_)
        have hP : PP G (mM G y b (upd f 0 0) r) H := hP
        refine lv_aload_n hx hb dX7_round_34 rfl (lv_at hl 0 rfl) ?_
        refine va_get (D := G.1) (ci := 7) (v := .int 0) (C := RX7) (T := TX7) (N := 43) hx hb hts inX7 hown hK.1 hP 0 rfl rfl 0 (by decide) (hts _ mf_X7_116) (fun _ h9 => h9) rfl dX7_round_35 ?_
        refine lv_if_le (tgt := 43) hx hb dX7_round_38 (by decide) (fun c6 => ?_) (fun c6 => absurd (by decide) c6)
        refine lv_aload_n hx hb dX7_round_43 rfl (lv_at hl 0 rfl) ?_
        refine lv_aload_n hx hb dX7_round_44 rfl (lv_at hl 0 rfl) ?_
        refine va_get (D := G.1) (ci := 7) (v := .ref (b 2)) (C := RX7) (T := TX7) (N := 43) hx hb hts inX7 hown hK.1 hP 0 rfl rfl 2 (by decide) (hts _ mf_X7_13) (fun _ h9 => h9) rfl dX7_round_45 ?_
        refine lv_iload_n hx hb dX7_round_48 rfl (lv_at hl 1 rfl) ?_
        refine xiald (f := (r 2)) hx hb hK hP 2 (t) (rfl) (by omega) (by decide) rfl dX7_round_49 ?_
        refine lv_topi (fun v7 ev7 => ?_)
        obtain rfl : v7 = nI (rw) := ev7.trans (h2)
        refine va_put (D := G.1) (ci := 7) (v := .int (nI (rw))) (C := RX7) (T := TX7) (N := 43) hx hb hts inX7 tyX7 tyX7_ok nmX7 hown hK.1 hP (hDD _ _) hS 0 rfl rfl 34 (by decide) (hts _ mf_X7_265) (fun _ h9 => h9) rfl (tyX7_ok 34 (by decide)) (rfl) (rfl) (Nat.le_of_ble_eq_true rfl) dX7_round_50 (fun H locs hP _ hS => ?_)
        have hP : PP G (mM G y b (upd (upd f 0 0) 34 (nI (rw))) r) H := hP
        have h34 : nL 12 (nI (rw)) := ⟨rw, hrw, rfl⟩
        refine lv_aload_n hx hb dX7_round_53 rfl (lv_at hl 0 rfl) ?_
        refine lv_aload_n hx hb dX7_round_54 rfl (lv_at hl 0 rfl) ?_
        refine va_get (D := G.1) (ci := 7) (v := .ref (b 3)) (C := RX7) (T := TX7) (N := 43) hx hb hts inX7 hown hK.1 hP 0 rfl rfl 3 (by decide) (hts _ mf_X7_17) (fun _ h9 => h9) rfl dX7_round_55 ?_
        refine lv_iload_n hx hb dX7_round_58 rfl (lv_at hl 1 rfl) ?_
        refine xiald (f := (r 3)) hx hb hK hP 3 (t) (rfl) (by omega) (by decide) rfl dX7_round_59 ?_
        refine lv_topi (fun v8 ev8 => ?_)
        obtain rfl : v8 = nI (cl) := ev8.trans (h3)
        refine va_put (D := G.1) (ci := 7) (v := .int (nI (cl))) (C := RX7) (T := TX7) (N := 43) hx hb hts inX7 tyX7 tyX7_ok nmX7 hown hK.1 hP (hDD _ _) hS 0 rfl rfl 35 (by decide) (hts _ mf_X7_268) (fun _ h9 => h9) rfl (tyX7_ok 35 (by decide)) (rfl) (rfl) (Nat.le_of_ble_eq_true rfl) dX7_round_60 (fun H locs hP _ hS => ?_)
        have hP : PP G (mM G y b (upd (upd (upd f 0 0) 34 (nI (rw))) 35 (nI (cl))) r) H := hP
        have h35 : nL 12 (nI (cl)) := ⟨cl, hcl, rfl⟩
        refine lv_iconst (v := 0) hx hb dX7_round_63 (by decide) ?_
        refine lv_istore_n (lv' := [(3, .int 0), (0, .ref y), (1, .int (nI t)), (2, .int (nI bs))]) hx hb dX7_round_64 rfl hl (by decide) rfl (fun ls hl => ?_)
        have loop65 : ∀ (k9 i : Nat) (x10 : Nat → Int32) (x11 : Nat → Int32), i ≤ rw → rw < i + k9 → ∀ (H : Heap) (locs : List Loc) (ls : Array Slot), PP G (mM G y b (upd (upd (upd f 0 0) 34 (nI (rw))) 35 (nI (cl))) (up2 (up2 r 31 x10) 33 x11)) H → va_S A s.heap H locs → lv_has ls 7 [(3, .int (nI i)), (0, .ref y), (1, .int (nI t)), (2, .int (nI bs))] → W p l e ({ frames := 3, cells := 0, slots := 0, locals := 75 }) s m ([.ref y, .int (nI t), .int (nI bs)] : List Value).toArray below meth c H locs 0 0 (MQ below (QwI G (fun q w => ∃ (n_f_0 : Int32) (n_f_34 : Int32) (n_f_35 : Int32) (n_r_31 : Nat → Int32) (n_r_32 : Nat → Int32) (n_r_33 : Nat → Int32) (n_r_36 : Nat → Int32) (n_r_37 : Nat → Int32) (n_r_38 : Nat → Int32), w = mM G y b (upd (upd (upd f 0 n_f_0) 34 n_f_34) 35 n_f_35) (up2 (up2 (up2 (up2 (up2 (up2 r 31 n_r_31) 32 n_r_32) 33 n_r_33) 36 n_r_36) 37 n_r_37) 38 n_r_38) ∧ (nL 12 n_f_34) ∧ (nL 12 n_f_35)) A) ([.ref y, .int (nI t), .int (nI bs)] : List Value).toArray s 0 0 A) (F0 m 65 ls []) := by
          intro k9
          induction k9 with
          | zero => intro i x10 x11 h1 h2; exact absurd h1 (by omega)
          | succ k9 ih65k9 =>
            intro i x10 x11 hi_i hk_i  H locs ls hP hS hl
            refine lv_iload_n hx hb dX7_round_65 rfl (lv_at hl 0 rfl) ?_
            refine lv_aload_n hx hb dX7_round_66 rfl (lv_at hl 1 rfl) ?_
            refine va_get (D := G.1) (ci := 7) (v := .int (nI (rw))) (C := RX7) (T := TX7) (N := 43) hx hb hts inX7 hown hK.1 hP 0 rfl rfl 34 (by decide) (hts _ mf_X7_265) (fun _ h9 => h9) rfl dX7_round_67 ?_
            refine lv_icmp_ge (tgt := 168) hx hb dX7_round_70 (by decide) (fun c12 => ?_) (fun c12 => ?_)
            · have b70 := qge_t (a := i) (b := (rw)) (by omega) (by omega) c12
              refine lv_iconst (v := 0) hx hb dX7_round_168 (by decide) ?_
              refine lv_istore_n (lv' := [(3, .int 0), (0, .ref y), (1, .int (nI t)), (2, .int (nI bs))]) hx hb dX7_round_169 rfl hl (by decide) rfl (fun ls hl => ?_)
              refine lv_iconst (v := 0) hx hb dX7_round_170 (by decide) ?_
              refine lv_istore (lv' := [(4, .int 0), (3, .int 0), (0, .ref y), (1, .int (nI t)), (2, .int (nI bs))]) hx hb dX7_round_171 hl (by decide) rfl (fun ls hl => ?_)
              have loop173 : ∀ (k13 i2 : Nat) (z14 : Int32) (x15 : Nat → Int32) (x16 : Nat → Int32) (x17 : Nat → Int32) (x18 : Nat → Int32) (x19 : Nat → Int32), i2 ≤ rw → rw < i2 + k13 → ∀ (H : Heap) (locs : List Loc) (ls : Array Slot), PP G (mM G y b (upd (upd (upd f 0 0) 34 (nI (rw))) 35 (nI (cl))) (up2 (up2 (up2 (up2 (up2 (up2 r 31 x15) 32 x16) 33 x11) 36 x17) 37 x18) 38 x19)) H → va_S A s.heap H locs → lv_has ls 7 [(4, .int (nI i2)), (3, .int z14), (0, .ref y), (1, .int (nI t)), (2, .int (nI bs))] → W p l e ({ frames := 3, cells := 0, slots := 0, locals := 75 }) s m ([.ref y, .int (nI t), .int (nI bs)] : List Value).toArray below meth c H locs 0 0 (MQ below (QwI G (fun q w => ∃ (n_f_0 : Int32) (n_f_34 : Int32) (n_f_35 : Int32) (n_r_31 : Nat → Int32) (n_r_32 : Nat → Int32) (n_r_33 : Nat → Int32) (n_r_36 : Nat → Int32) (n_r_37 : Nat → Int32) (n_r_38 : Nat → Int32), w = mM G y b (upd (upd (upd f 0 n_f_0) 34 n_f_34) 35 n_f_35) (up2 (up2 (up2 (up2 (up2 (up2 r 31 n_r_31) 32 n_r_32) 33 n_r_33) 36 n_r_36) 37 n_r_37) 38 n_r_38) ∧ (nL 12 n_f_34) ∧ (nL 12 n_f_35)) A) ([.ref y, .int (nI t), .int (nI bs)] : List Value).toArray s 0 0 A) (F0 m 173 ls []) := by
                intro k13
                induction k13 with
                | zero => intro i2 z14 x15 x16 x17 x18 x19 h1 h2; exact absurd h1 (by omega)
                | succ k13 ih173k13 =>
                  intro i2 z14 x15 x16 x17 x18 x19 hi_i2 hk_i2  H locs ls hP hS hl
                  refine lv_iload hx hb dX7_round_173 (lv_at hl 0 rfl) ?_
                  refine lv_aload_n hx hb dX7_round_175 rfl (lv_at hl 2 rfl) ?_
                  refine va_get (D := G.1) (ci := 7) (v := .int (nI (rw))) (C := RX7) (T := TX7) (N := 43) hx hb hts inX7 hown hK.1 hP 0 rfl rfl 34 (by decide) (hts _ mf_X7_265) (fun _ h9 => h9) rfl dX7_round_176 ?_
                  refine lv_icmp_ge (tgt := 303) hx hb dX7_round_179 (by decide) (fun c20 => ?_) (fun c20 => ?_)
                  · have b179 := qge_t (a := i2) (b := (rw)) (by omega) (by omega) c20
                    refine lv_iload_n hx hb dX7_round_303 rfl (lv_at hl 1 rfl) ?_
                    exact wr_iret hx hb hr hlocks hS hP ⟨0, (nI (rw)), (nI (cl)), x15, x16, x11, x17, x18, x19, rfl, h34, h35⟩ dX7_round_304
                  · have b179 := qge_f (a := i2) (b := (rw)) (by omega) (by omega) c20
                    refine lv_iconst (v := 0) hx hb dX7_round_182 (by decide) ?_
                    refine lv_istore (lv' := [(5, .int 0), (4, .int (nI i2)), (3, .int z14), (0, .ref y), (1, .int (nI t)), (2, .int (nI bs))]) hx hb dX7_round_183 hl (by decide) rfl (fun ls hl => ?_)
                    have loop185 : ∀ (k21 k2 : Nat) (z22 : Int32) (x23 : Nat → Int32) (x24 : Nat → Int32) (x25 : Nat → Int32) (x26 : Nat → Int32) (x27 : Nat → Int32), k2 ≤ cl → cl < k2 + k21 → ∀ (H : Heap) (locs : List Loc) (ls : Array Slot), PP G (mM G y b (upd (upd (upd f 0 0) 34 (nI (rw))) 35 (nI (cl))) (up2 (up2 (up2 (up2 (up2 (up2 r 31 x23) 32 x24) 33 x11) 36 x25) 37 x26) 38 x27)) H → va_S A s.heap H locs → lv_has ls 7 [(5, .int (nI k2)), (4, .int (nI i2)), (3, .int z22), (0, .ref y), (1, .int (nI t)), (2, .int (nI bs))] → W p l e ({ frames := 3, cells := 0, slots := 0, locals := 75 }) s m ([.ref y, .int (nI t), .int (nI bs)] : List Value).toArray below meth c H locs 0 0 (MQ below (QwI G (fun q w => ∃ (n_f_0 : Int32) (n_f_34 : Int32) (n_f_35 : Int32) (n_r_31 : Nat → Int32) (n_r_32 : Nat → Int32) (n_r_33 : Nat → Int32) (n_r_36 : Nat → Int32) (n_r_37 : Nat → Int32) (n_r_38 : Nat → Int32), w = mM G y b (upd (upd (upd f 0 n_f_0) 34 n_f_34) 35 n_f_35) (up2 (up2 (up2 (up2 (up2 (up2 r 31 n_r_31) 32 n_r_32) 33 n_r_33) 36 n_r_36) 37 n_r_37) 38 n_r_38) ∧ (nL 12 n_f_34) ∧ (nL 12 n_f_35)) A) ([.ref y, .int (nI t), .int (nI bs)] : List Value).toArray s 0 0 A) (F0 m 185 ls []) := by
                      intro k21
                      induction k21 with
                      | zero => intro k2 z22 x23 x24 x25 x26 x27 h1 h2; exact absurd h1 (by omega)
                      | succ k21 ih185k21 =>
                        intro k2 z22 x23 x24 x25 x26 x27 hi_k2 hk_k2  H locs ls hP hS hl
                        refine lv_iload hx hb dX7_round_185 (lv_at hl 0 rfl) ?_
                        refine lv_aload_n hx hb dX7_round_187 rfl (lv_at hl 3 rfl) ?_
                        refine va_get (D := G.1) (ci := 7) (v := .int (nI (cl))) (C := RX7) (T := TX7) (N := 43) hx hb hts inX7 hown hK.1 hP 0 rfl rfl 35 (by decide) (hts _ mf_X7_268) (fun _ h9 => h9) rfl dX7_round_188 ?_
                        refine lv_icmp_ge (tgt := 297) hx hb dX7_round_191 (by decide) (fun c28 => ?_) (fun c28 => ?_)
                        · have b191 := qge_t (a := k2) (b := (cl)) (by omega) (by omega) c28
                          obtain ⟨v29, ev29⟩ : ∃ y9 : Int32, y9 = (nI i2) + Int32.ofInt (1) := ⟨_, rfl⟩
                          refine lv_iinc (v := v29) (lv' := [(4, .int v29), (5, .int (nI k2)), (3, .int z22), (0, .ref y), (1, .int (nI t)), (2, .int (nI bs))]) hx hb dX7_round_297 hl (k := 1) rfl ev29.symm (by decide) rfl (fun ls hl => ?_)
                          obtain rfl : v29 = nI (i2 + 1) := nI_plus (i := i2) (j := 1) ev29 rfl (by decide)
                          refine lv_goto (tgt := 173) hx hb dX7_round_300 (by decide) ?_
                          exact ih173k13 (i2 + 1) z22 x23 x24 x25 x26 x27 (by omega) (by omega) _ _ _ hP hS (lv_sub hl [0, 2, 3, 4, 5] rfl)
                        · have b191 := qge_f (a := k2) (b := (cl)) (by omega) (by omega) c28
                          refine lv_bipush (v := 12) hx hb dX7_round_194 (by decide) ?_
                          refine lv_iload hx hb dX7_round_196 (lv_at hl 1 rfl) ?_
                          refine lv_imul hx hb dX7_round_198 ?_
                          refine lv_topi (fun v30 ev30 => ?_)
                          obtain rfl : v30 = nI (12 * i2) := nI_times ev30 rfl rfl
                          refine lv_iload hx hb dX7_round_199 (lv_at hl 0 rfl) ?_
                          refine lv_iadd hx hb dX7_round_201 ?_
                          refine lv_topi (fun v31 ev31 => ?_)
                          obtain rfl : v31 = nI ((12 * i2) + k2) := nI_plus ev31 rfl rfl
                          refine lv_istore (lv' := [(6, .int (nI ((12 * i2) + k2))), (5, .int (nI k2)), (4, .int (nI i2)), (3, .int z22), (0, .ref y), (1, .int (nI t)), (2, .int (nI bs))]) hx hb dX7_round_202 hl (by decide) rfl (fun ls hl => ?_)
                          refine lv_aload_n hx hb dX7_round_204 rfl (lv_at hl 4 rfl) ?_
                          refine va_get (D := G.1) (ci := 7) (v := .ref (b 31)) (C := RX7) (T := TX7) (N := 43) hx hb hts inX7 hown hK.1 hP 0 rfl rfl 31 (by decide) (hts _ mf_X7_89) (fun _ h9 => h9) rfl dX7_round_205 ?_
                          refine lv_iload hx hb dX7_round_208 (lv_at hl 0 rfl) ?_
                          refine xiald (f := x23) hx hb hK hP 27 (((12 * i2) + k2)) (rfl) (by omega) (by decide) rfl dX7_round_210 ?_
                          refine lv_topi (fun v32 ev32 => ?_)
                          refine lv_iconst (v := 2) hx hb dX7_round_211 (by decide) ?_
                          have j247_36 : ∀ (x33 : Nat → Int32) (x34 : Nat → Int32) (x35 : Nat → Int32) (x36 : Nat → Int32) (H : Heap) (locs : List Loc) (ls : Array Slot), PP G (mM G y b (upd (upd (upd f 0 0) 34 (nI (rw))) 35 (nI (cl))) (up2 (up2 (up2 (up2 (up2 (up2 r 31 x33) 32 x24) 33 x11) 36 x34) 37 x35) 38 x36)) H → va_S A s.heap H locs → lv_has ls 7 [(6, .int (nI ((12 * i2) + k2))), (5, .int (nI k2)), (4, .int (nI i2)), (3, .int z22), (0, .ref y), (1, .int (nI t)), (2, .int (nI bs))] → W p l e ({ frames := 3, cells := 0, slots := 0, locals := 75 }) s m ([.ref y, .int (nI t), .int (nI bs)] : List Value).toArray below meth c H locs 0 0 (MQ below (QwI G (fun q w => ∃ (n_f_0 : Int32) (n_f_34 : Int32) (n_f_35 : Int32) (n_r_31 : Nat → Int32) (n_r_32 : Nat → Int32) (n_r_33 : Nat → Int32) (n_r_36 : Nat → Int32) (n_r_37 : Nat → Int32) (n_r_38 : Nat → Int32), w = mM G y b (upd (upd (upd f 0 n_f_0) 34 n_f_34) 35 n_f_35) (up2 (up2 (up2 (up2 (up2 (up2 r 31 n_r_31) 32 n_r_32) 33 n_r_33) 36 n_r_36) 37 n_r_37) 38 n_r_38) ∧ (nL 12 n_f_34) ∧ (nL 12 n_f_35)) A) ([.ref y, .int (nI t), .int (nI bs)] : List Value).toArray s 0 0 A) (F0 m 247 ls []) := by
                            intro x33 x34 x35 x36  H locs ls hP hS hl
                            refine lv_iload_n hx hb dX7_round_247 rfl (lv_at hl 3 rfl) ?_
                            refine lv_aload_n hx hb dX7_round_248 rfl (lv_at hl 4 rfl) ?_
                            refine va_get (D := G.1) (ci := 7) (v := .ref (b 31)) (C := RX7) (T := TX7) (N := 43) hx hb hts inX7 hown hK.1 hP 0 rfl rfl 31 (by decide) (hts _ mf_X7_89) (fun _ h9 => h9) rfl dX7_round_249 ?_
                            refine lv_iload hx hb dX7_round_252 (lv_at hl 0 rfl) ?_
                            refine xiald (f := x33) hx hb hK hP 27 (((12 * i2) + k2)) (rfl) (by omega) (by decide) rfl dX7_round_254 ?_
                            refine lv_topi (fun v37 ev37 => ?_)
                            refine lv_iadd hx hb dX7_round_255 ?_
                            refine lv_topi (fun v38 ev38 => ?_)
                            refine lv_istore_n (lv' := [(3, .int v38), (6, .int (nI ((12 * i2) + k2))), (5, .int (nI k2)), (4, .int (nI i2)), (0, .ref y), (1, .int (nI t)), (2, .int (nI bs))]) hx hb dX7_round_256 rfl hl (by decide) rfl (fun ls hl => ?_)
                            refine lv_aload_n hx hb dX7_round_257 rfl (lv_at hl 4 rfl) ?_
                            refine va_get (D := G.1) (ci := 7) (v := .ref (b 32)) (C := RX7) (T := TX7) (N := 43) hx hb hts inX7 hown hK.1 hP 0 rfl rfl 32 (by decide) (hts _ mf_X7_92) (fun _ h9 => h9) rfl dX7_round_258 ?_
                            refine lv_iload hx hb dX7_round_261 (lv_at hl 1 rfl) ?_
                            refine lv_aload_n hx hb dX7_round_263 rfl (lv_at hl 4 rfl) ?_
                            refine va_get (D := G.1) (ci := 7) (v := .ref (b 6)) (C := RX7) (T := TX7) (N := 43) hx hb hts inX7 hown hK.1 hP 0 rfl rfl 6 (by decide) (hts _ mf_X7_26) (fun _ h9 => h9) rfl dX7_round_264 ?_
                            refine lv_iload_n hx hb dX7_round_267 rfl (lv_at hl 5 rfl) ?_
                            refine lv_iload hx hb dX7_round_268 (lv_at hl 3 rfl) ?_
                            refine lv_iload hx hb dX7_round_270 (lv_at hl 2 rfl) ?_
                            refine rdS (rest := [.ref (b 6), .int (nI ((12 * i2) + k2)), .ref (b 32)]) ⟨hx, hb, hml, hown, hts⟩ (m_X7_at l G y b (upd (upd (upd f 0 0) 34 (nI (rw))) 35 (nI (cl))) (up2 (up2 (up2 (up2 (up2 (up2 r 31 x33) 32 x24) 33 x11) 36 x34) 37 x35) 38 x36) t i2 k2  ) mi_yX7_at mst_yX7_at ml_X7_147 ⟨rfl, rfl, Nat.le_of_ble_eq_true rfl, Nat.le_of_ble_eq_true rfl⟩ hK (hP) rfl hl.1 rfl (Nat.le_of_ble_eq_true rfl) dX7_round_272 ⟨Nat.zero_le _, Nat.zero_le _⟩ hS hA hP (fun r39 H locs hr39 hP hS => ?_)
                            obtain rfl := hr39
                            refine xiald (f := (r 6)) hx hb hK hP 6 ((144 * t + 12 * i2 + k2)) (rfl) (by omega) (by decide) rfl dX7_round_275 ?_
                            refine lv_topi (fun v40 ev40 => ?_)
                            refine lv_iload_n hx hb dX7_round_276 rfl (lv_at hl 6 rfl) ?_
                            refine lv_idiv hx hb dX7_round_277 (nI_ne0 (by omega) (by omega)) ?_
                            refine lv_topi (fun v41 ev41 => ?_)
                            refine lv_iload_n hx hb dX7_round_278 rfl (lv_at hl 6 rfl) ?_
                            refine lv_imul hx hb dX7_round_279 ?_
                            refine lv_topi (fun v42 ev42 => ?_)
                            refine lv_aload_n hx hb dX7_round_280 rfl (lv_at hl 4 rfl) ?_
                            refine va_get (D := G.1) (ci := 7) (v := .ref (b 31)) (C := RX7) (T := TX7) (N := 43) hx hb hts inX7 hown hK.1 hP 0 rfl rfl 31 (by decide) (hts _ mf_X7_89) (fun _ h9 => h9) rfl dX7_round_281 ?_
                            refine lv_iload hx hb dX7_round_284 (lv_at hl 1 rfl) ?_
                            refine xiald (f := x33) hx hb hK hP 27 (((12 * i2) + k2)) (rfl) (by omega) (by decide) rfl dX7_round_286 ?_
                            refine lv_topi (fun v43 ev43 => ?_)
                            refine lv_iload_n hx hb dX7_round_287 rfl (lv_at hl 6 rfl) ?_
                            refine lv_imul hx hb dX7_round_288 ?_
                            refine lv_topi (fun v44 ev44 => ?_)
                            refine lv_iadd hx hb dX7_round_289 ?_
                            refine lv_topi (fun v45 ev45 => ?_)
                            refine xiast (f := x24) (x := v45) hx hb hK hP (hDD _ _) hS 28 (((12 * i2) + k2)) (rfl) (by omega) (by decide) rfl dX7_round_290 (fun H locs hP _ hS => ?_)
                            have hP : PP G (mM G y b (upd (upd (upd f 0 0) 34 (nI (rw))) 35 (nI (cl))) (up2 (up2 (up2 (up2 (up2 (up2 r 31 x33) 32 (upd x24 (((12 * i2) + k2)) (v45))) 33 x11) 36 x34) 37 x35) 38 x36)) H := hP
                            obtain ⟨v46, ev46⟩ : ∃ y9 : Int32, y9 = (nI k2) + Int32.ofInt (1) := ⟨_, rfl⟩
                            refine lv_iinc (v := v46) (lv' := [(5, .int v46), (3, .int v38), (6, .int (nI ((12 * i2) + k2))), (4, .int (nI i2)), (0, .ref y), (1, .int (nI t)), (2, .int (nI bs))]) hx hb dX7_round_291 hl (k := 2) rfl ev46.symm (by decide) rfl (fun ls hl => ?_)
                            obtain rfl : v46 = nI (k2 + 1) := nI_plus (i := k2) (j := 1) ev46 rfl (by decide)
                            refine lv_goto (tgt := 185) hx hb dX7_round_294 (by decide) ?_
                            exact ih185k21 (k2 + 1) v38 x33 (upd x24 (((12 * i2) + k2)) (v45)) x34 x35 x36 (by omega) (by omega) _ _ _ hP hS (lv_sub hl [0, 3, 1, 4, 5, 6] rfl)
                          refine lv_icmp_ne (tgt := 247) hx hb dX7_round_212 (by decide) (fun c47 => ?_) (fun c47 => ?_)
                          · exact j247_36 x23 x25 x26 x27 _ _ _ hP hS (lv_sub hl [0, 1, 2, 3, 4, 5, 6] rfl)
                          · refine lv_aload_n hx hb dX7_round_215 rfl (lv_at hl 4 rfl) ?_
                            refine va_get (D := G.1) (ci := 7) (v := .ref (b 31)) (C := RX7) (T := TX7) (N := 43) hx hb hts inX7 hown hK.1 hP 0 rfl rfl 31 (by decide) (hts _ mf_X7_89) (fun _ h9 => h9) rfl dX7_round_216 ?_
                            refine lv_iload hx hb dX7_round_219 (lv_at hl 0 rfl) ?_
                            refine lv_iconst (v := 0) hx hb dX7_round_221 (by decide) ?_
                            refine xiast (f := x23) (x := 0) hx hb hK hP (hDD _ _) hS 27 (((12 * i2) + k2)) (rfl) (by omega) (by decide) rfl dX7_round_222 (fun H locs hP _ hS => ?_)
                            have hP : PP G (mM G y b (upd (upd (upd f 0 0) 34 (nI (rw))) 35 (nI (cl))) (up2 (up2 (up2 (up2 (up2 (up2 r 31 (upd x23 (((12 * i2) + k2)) (0))) 32 x24) 33 x11) 36 x25) 37 x26) 38 x27)) H := hP
                            refine lv_aload_n hx hb dX7_round_223 rfl (lv_at hl 4 rfl) ?_
                            refine lv_iload_n hx hb dX7_round_224 rfl (lv_at hl 5 rfl) ?_
                            refine lv_iload_n hx hb dX7_round_225 rfl (lv_at hl 6 rfl) ?_
                            refine lv_aload_n hx hb dX7_round_226 rfl (lv_at hl 4 rfl) ?_
                            refine va_get (D := G.1) (ci := 7) (v := .ref (b 33)) (C := RX7) (T := TX7) (N := 43) hx hb hts inX7 hown hK.1 hP 0 rfl rfl 33 (by decide) (hts _ mf_X7_95) (fun _ h9 => h9) rfl dX7_round_227 ?_
                            refine lv_iload hx hb dX7_round_230 (lv_at hl 2 rfl) ?_
                            refine xiald (f := x11) hx hb hK hP 29 (i2) (rfl) (by omega) (by decide) rfl dX7_round_232 ?_
                            refine lv_topi (fun v48 ev48 => ?_)
                            refine wrVIa (rest := []) (q0 := 0) ⟨hx, hb, hml, hown, hts⟩ (m_X7_canBe l G y b (upd (upd (upd f 0 0) 34 (nI (rw))) 35 (nI (cl))) (up2 (up2 (up2 (up2 (up2 (up2 r 31 (upd x23 (((12 * i2) + k2)) (0))) 32 x24) 33 x11) 36 x25) 37 x26) 38 x27) t bs v48 rw cl bk (by omega) (by omega) (by omega) (by omega) h2 h3 h12 (by omega) (by omega)) mi_yX7_canBe mv_yX7_canBe ml_X7_271 ⟨rfl, rfl, Nat.le_of_ble_eq_true rfl, Nat.le_of_ble_eq_true rfl⟩ hK hP (hDD _ _) rfl rfl rfl hl.1 rfl (Nat.le_of_ble_eq_true rfl) dX7_round_233 ⟨Nat.zero_le _, Nat.zero_le _⟩ hS hA (fun r49 w50 H locs hw50 hP hS => ?_)
                            obtain ⟨x51, x52, x53, rfl, hw50r⟩ := hw50
                            have hP : PP G (mM G y b (upd (upd (upd f 0 0) 34 (nI (rw))) 35 (nI (cl))) (up2 (up2 (up2 (up2 (up2 (up2 r 31 (upd x23 (((12 * i2) + k2)) (0))) 32 x24) 33 x11) 36 x51) 37 x52) 38 x53)) H := hP
                            have hw50r : (r49 = 0 ∨ r49 = 1) := hw50r
                            refine lv_if_ne (tgt := 247) hx hb dX7_round_236 (by decide) (fun c54 => ?_) (fun c54 => ?_)
                            · exact j247_36 (upd x23 (((12 * i2) + k2)) (0)) x51 x52 x53 _ _ _ hP hS (lv_sub hl [0, 1, 2, 3, 4, 5, 6] rfl)
                            · refine lv_aload_n hx hb dX7_round_239 rfl (lv_at hl 4 rfl) ?_
                              refine va_get (D := G.1) (ci := 7) (v := .ref (b 31)) (C := RX7) (T := TX7) (N := 43) hx hb hts inX7 hown hK.1 hP 0 rfl rfl 31 (by decide) (hts _ mf_X7_89) (fun _ h9 => h9) rfl dX7_round_240 ?_
                              refine lv_iload hx hb dX7_round_243 (lv_at hl 0 rfl) ?_
                              refine lv_iconst (v := 1) hx hb dX7_round_245 (by decide) ?_
                              refine xiast (f := (upd x23 (((12 * i2) + k2)) (0))) (x := 1) hx hb hK hP (hDD _ _) hS 27 (((12 * i2) + k2)) (rfl) (by omega) (by decide) rfl dX7_round_246 (fun H locs hP _ hS => ?_)
                              have hP : PP G (mM G y b (upd (upd (upd f 0 0) 34 (nI (rw))) 35 (nI (cl))) (up2 (up2 (up2 (up2 (up2 (up2 r 31 (upd (upd x23 (((12 * i2) + k2)) (0)) (((12 * i2) + k2)) (1))) 32 x24) 33 x11) 36 x51) 37 x52) 38 x53)) H := hP
                              exact j247_36 (upd (upd x23 (((12 * i2) + k2)) (0)) (((12 * i2) + k2)) (1)) x51 x52 x53 _ _ _ hP hS (lv_sub hl [0, 1, 2, 3, 4, 5, 6] rfl)
                    exact loop185 (cl + 1) 0 z14 x15 x16 x17 x18 x19 (by omega) (by omega) _ _ _ hP hS (lv_sub hl [0, 1, 2, 3, 4, 5] rfl)
              exact loop173 (rw + 1) 0 0 x10 (r 32) (r 36) (r 37) (r 38) (by omega) (by omega) _ _ _ hP hS (lv_sub hl [0, 1, 2, 3, 4] rfl)
            · have b70 := qge_f (a := i) (b := (rw)) (by omega) (by omega) c12
              refine lv_aload_n hx hb dX7_round_73 rfl (lv_at hl 1 rfl) ?_
              refine va_get (D := G.1) (ci := 7) (v := .ref (b 33)) (C := RX7) (T := TX7) (N := 43) hx hb hts inX7 hown hK.1 hP 0 rfl rfl 33 (by decide) (hts _ mf_X7_95) (fun _ h9 => h9) rfl dX7_round_74 ?_
              refine lv_iload_n hx hb dX7_round_77 rfl (lv_at hl 0 rfl) ?_
              refine lv_aload_n hx hb dX7_round_78 rfl (lv_at hl 1 rfl) ?_
              refine lv_iload_n hx hb dX7_round_79 rfl (lv_at hl 2 rfl) ?_
              refine lv_iload_n hx hb dX7_round_80 rfl (lv_at hl 0 rfl) ?_
              refine rdV (rest := [.int (nI i), .ref (b 33)]) (q0 := 0) ⟨hx, hb, hml, hown, hts⟩ (m_X7_isSound l G y b (upd (upd (upd f 0 0) 34 (nI (rw))) 35 (nI (cl))) (up2 (up2 r 31 x10) 33 x11) t i rw cl bk (by omega) (by omega) (by omega) (by omega) h2 h3 h12 (by omega)) mi_yX7_isSound mv_yX7_isSound ml_X7_161 ⟨rfl, rfl, Nat.le_of_ble_eq_true rfl, Nat.le_of_ble_eq_true rfl⟩ hK (hP) rfl rfl rfl hl.1 rfl (Nat.le_of_ble_eq_true rfl) dX7_round_81 ⟨Nat.zero_le _, Nat.zero_le _⟩ hS hA hP (fun r55 H locs hr55 hP hS => ?_)
              have hr55 : ((r55 = 1 ∧ (sndN ((r 3) t) (r 11) (r 5) t i)) ∨ (r55 = 0 ∧ ¬ (sndN ((r 3) t) (r 11) (r 5) t i))) := hr55
              have j98_56 : ∀ (z56 : Int32) (H : Heap) (locs : List Loc) (ls : Array Slot), PP G (mM G y b (upd (upd (upd f 0 0) 34 (nI (rw))) 35 (nI (cl))) (up2 (up2 r 31 x10) 33 x11)) H → va_S A s.heap H locs → lv_has ls 7 [(3, .int (nI i)), (0, .ref y), (1, .int (nI t)), (2, .int (nI bs))] → W p l e ({ frames := 3, cells := 0, slots := 0, locals := 75 }) s m ([.ref y, .int (nI t), .int (nI bs)] : List Value).toArray below meth c H locs 0 0 (MQ below (QwI G (fun q w => ∃ (n_f_0 : Int32) (n_f_34 : Int32) (n_f_35 : Int32) (n_r_31 : Nat → Int32) (n_r_32 : Nat → Int32) (n_r_33 : Nat → Int32) (n_r_36 : Nat → Int32) (n_r_37 : Nat → Int32) (n_r_38 : Nat → Int32), w = mM G y b (upd (upd (upd f 0 n_f_0) 34 n_f_34) 35 n_f_35) (up2 (up2 (up2 (up2 (up2 (up2 r 31 n_r_31) 32 n_r_32) 33 n_r_33) 36 n_r_36) 37 n_r_37) 38 n_r_38) ∧ (nL 12 n_f_34) ∧ (nL 12 n_f_35)) A) ([.ref y, .int (nI t), .int (nI bs)] : List Value).toArray s 0 0 A) (F0 m 98 ls [.int z56, .int (nI i), .ref (b 33)]) := by
                intro z56  H locs ls hP hS hl
                refine xiast (f := x11) (x := z56) hx hb hK hP (hDD _ _) hS 29 (i) (rfl) (by omega) (by decide) rfl dX7_round_98 (fun H locs hP _ hS => ?_)
                have hP : PP G (mM G y b (upd (upd (upd f 0 0) 34 (nI (rw))) 35 (nI (cl))) (up2 (up2 r 31 x10) 33 (upd x11 (i) (z56)))) H := hP
                refine lv_iconst (v := 0) hx hb dX7_round_99 (by decide) ?_
                refine lv_istore (lv' := [(4, .int 0), (3, .int (nI i)), (0, .ref y), (1, .int (nI t)), (2, .int (nI bs))]) hx hb dX7_round_100 hl (by decide) rfl (fun ls hl => ?_)
                have loop102 : ∀ (k57 k : Nat) (x58 : Nat → Int32), k ≤ cl → cl < k + k57 → ∀ (H : Heap) (locs : List Loc) (ls : Array Slot), PP G (mM G y b (upd (upd (upd f 0 0) 34 (nI (rw))) 35 (nI (cl))) (up2 (up2 r 31 x58) 33 (upd x11 (i) (z56)))) H → va_S A s.heap H locs → lv_has ls 7 [(4, .int (nI k)), (3, .int (nI i)), (0, .ref y), (1, .int (nI t)), (2, .int (nI bs))] → W p l e ({ frames := 3, cells := 0, slots := 0, locals := 75 }) s m ([.ref y, .int (nI t), .int (nI bs)] : List Value).toArray below meth c H locs 0 0 (MQ below (QwI G (fun q w => ∃ (n_f_0 : Int32) (n_f_34 : Int32) (n_f_35 : Int32) (n_r_31 : Nat → Int32) (n_r_32 : Nat → Int32) (n_r_33 : Nat → Int32) (n_r_36 : Nat → Int32) (n_r_37 : Nat → Int32) (n_r_38 : Nat → Int32), w = mM G y b (upd (upd (upd f 0 n_f_0) 34 n_f_34) 35 n_f_35) (up2 (up2 (up2 (up2 (up2 (up2 r 31 n_r_31) 32 n_r_32) 33 n_r_33) 36 n_r_36) 37 n_r_37) 38 n_r_38) ∧ (nL 12 n_f_34) ∧ (nL 12 n_f_35)) A) ([.ref y, .int (nI t), .int (nI bs)] : List Value).toArray s 0 0 A) (F0 m 102 ls []) := by
                  intro k57
                  induction k57 with
                  | zero => intro k x58 h1 h2; exact absurd h1 (by omega)
                  | succ k57 ih102k57 =>
                    intro k x58 hi_k hk_k  H locs ls hP hS hl
                    refine lv_iload hx hb dX7_round_102 (lv_at hl 0 rfl) ?_
                    refine lv_aload_n hx hb dX7_round_104 rfl (lv_at hl 2 rfl) ?_
                    refine va_get (D := G.1) (ci := 7) (v := .int (nI (cl))) (C := RX7) (T := TX7) (N := 43) hx hb hts inX7 hown hK.1 hP 0 rfl rfl 35 (by decide) (hts _ mf_X7_268) (fun _ h9 => h9) rfl dX7_round_105 ?_
                    refine lv_icmp_ge (tgt := 162) hx hb dX7_round_108 (by decide) (fun c59 => ?_) (fun c59 => ?_)
                    · have b108 := qge_t (a := k) (b := (cl)) (by omega) (by omega) c59
                      obtain ⟨v60, ev60⟩ : ∃ y9 : Int32, y9 = (nI i) + Int32.ofInt (1) := ⟨_, rfl⟩
                      refine lv_iinc (v := v60) (lv' := [(3, .int v60), (4, .int (nI k)), (0, .ref y), (1, .int (nI t)), (2, .int (nI bs))]) hx hb dX7_round_162 hl (k := 1) rfl ev60.symm (by decide) rfl (fun ls hl => ?_)
                      obtain rfl : v60 = nI (i + 1) := nI_plus (i := i) (j := 1) ev60 rfl (by decide)
                      refine lv_goto (tgt := 65) hx hb dX7_round_165 (by decide) ?_
                      exact ih65k9 (i + 1) x58 (upd x11 (i) (z56)) (by omega) (by omega) _ _ _ hP hS (lv_sub hl [0, 2, 3, 4] rfl)
                    · have b108 := qge_f (a := k) (b := (cl)) (by omega) (by omega) c59
                      refine lv_aload_n hx hb dX7_round_111 rfl (lv_at hl 2 rfl) ?_
                      refine va_get (D := G.1) (ci := 7) (v := .ref (b 31)) (C := RX7) (T := TX7) (N := 43) hx hb hts inX7 hown hK.1 hP 0 rfl rfl 31 (by decide) (hts _ mf_X7_89) (fun _ h9 => h9) rfl dX7_round_112 ?_
                      refine lv_bipush (v := 12) hx hb dX7_round_115 (by decide) ?_
                      refine lv_iload_n hx hb dX7_round_117 rfl (lv_at hl 1 rfl) ?_
                      refine lv_imul hx hb dX7_round_118 ?_
                      refine lv_topi (fun v61 ev61 => ?_)
                      obtain rfl : v61 = nI (12 * i) := nI_times ev61 rfl rfl
                      refine lv_iload hx hb dX7_round_119 (lv_at hl 0 rfl) ?_
                      refine lv_iadd hx hb dX7_round_121 ?_
                      refine lv_topi (fun v62 ev62 => ?_)
                      obtain rfl : v62 = nI ((12 * i) + k) := nI_plus ev62 rfl rfl
                      refine lv_aload_n hx hb dX7_round_122 rfl (lv_at hl 2 rfl) ?_
                      refine va_get (D := G.1) (ci := 7) (v := .ref (b 33)) (C := RX7) (T := TX7) (N := 43) hx hb hts inX7 hown hK.1 hP 0 rfl rfl 33 (by decide) (hts _ mf_X7_95) (fun _ h9 => h9) rfl dX7_round_123 ?_
                      refine lv_iload_n hx hb dX7_round_126 rfl (lv_at hl 1 rfl) ?_
                      refine xiald (f := (upd x11 (i) (z56))) hx hb hK hP 29 (i) (rfl) (by omega) (by decide) rfl dX7_round_127 ?_
                      refine lv_topi (fun v63 ev63 => ?_)
                      refine lv_bipush (v := -2) hx hb dX7_round_128 (by decide) ?_
                      have j155_64 : ∀ (z64 : Nat) (gz64 : z64 = 0 ∨ z64 = 2) (H : Heap) (locs : List Loc) (ls : Array Slot), PP G (mM G y b (upd (upd (upd f 0 0) 34 (nI (rw))) 35 (nI (cl))) (up2 (up2 r 31 x58) 33 (upd x11 (i) (z56)))) H → va_S A s.heap H locs → lv_has ls 7 [(4, .int (nI k)), (3, .int (nI i)), (0, .ref y), (1, .int (nI t)), (2, .int (nI bs))] → W p l e ({ frames := 3, cells := 0, slots := 0, locals := 75 }) s m ([.ref y, .int (nI t), .int (nI bs)] : List Value).toArray below meth c H locs 0 0 (MQ below (QwI G (fun q w => ∃ (n_f_0 : Int32) (n_f_34 : Int32) (n_f_35 : Int32) (n_r_31 : Nat → Int32) (n_r_32 : Nat → Int32) (n_r_33 : Nat → Int32) (n_r_36 : Nat → Int32) (n_r_37 : Nat → Int32) (n_r_38 : Nat → Int32), w = mM G y b (upd (upd (upd f 0 n_f_0) 34 n_f_34) 35 n_f_35) (up2 (up2 (up2 (up2 (up2 (up2 r 31 n_r_31) 32 n_r_32) 33 n_r_33) 36 n_r_36) 37 n_r_37) 38 n_r_38) ∧ (nL 12 n_f_34) ∧ (nL 12 n_f_35)) A) ([.ref y, .int (nI t), .int (nI bs)] : List Value).toArray s 0 0 A) (F0 m 155 ls [.int (nI z64), .int (nI ((12 * i) + k)), .ref (b 31)]) := by
                        intro z64 gz64 H locs ls hP hS hl
                        refine xiast (f := x58) (x := (nI z64)) hx hb hK hP (hDD _ _) hS 27 (((12 * i) + k)) (rfl) (by omega) (by decide) rfl dX7_round_155 (fun H locs hP _ hS => ?_)
                        have hP : PP G (mM G y b (upd (upd (upd f 0 0) 34 (nI (rw))) 35 (nI (cl))) (up2 (up2 r 31 (upd x58 (((12 * i) + k)) ((nI z64)))) 33 (upd x11 (i) (z56)))) H := hP
                        obtain ⟨v65, ev65⟩ : ∃ y9 : Int32, y9 = (nI k) + Int32.ofInt (1) := ⟨_, rfl⟩
                        refine lv_iinc (v := v65) (lv' := [(4, .int v65), (3, .int (nI i)), (0, .ref y), (1, .int (nI t)), (2, .int (nI bs))]) hx hb dX7_round_156 hl (k := 0) rfl ev65.symm (by decide) rfl (fun ls hl => ?_)
                        obtain rfl : v65 = nI (k + 1) := nI_plus (i := k) (j := 1) ev65 rfl (by decide)
                        refine lv_goto (tgt := 102) hx hb dX7_round_159 (by decide) ?_
                        exact ih102k57 (k + 1) (upd x58 (((12 * i) + k)) ((nI z64))) (by omega) (by omega) _ _ _ hP hS (lv_sub hl [0, 1, 2, 3, 4] rfl)
                      refine lv_icmp_eq (tgt := 150) hx hb dX7_round_130 (by decide) (fun c66 => ?_) (fun c66 => ?_)
                      · refine lv_iconst (v := 0) hx hb dX7_round_150 (by decide) ?_
                        refine lv_goto (tgt := 155) hx hb dX7_round_151 (by decide) ?_
                        exact j155_64 0 (by omega) _ _ _ hP hS (lv_sub hl [0, 1, 2, 3, 4] rfl)
                      · refine lv_aload_n hx hb dX7_round_133 rfl (lv_at hl 2 rfl) ?_
                        refine va_get (D := G.1) (ci := 7) (v := .ref (b 6)) (C := RX7) (T := TX7) (N := 43) hx hb hts inX7 hown hK.1 hP 0 rfl rfl 6 (by decide) (hts _ mf_X7_26) (fun _ h9 => h9) rfl dX7_round_134 ?_
                        refine lv_iload_n hx hb dX7_round_137 rfl (lv_at hl 3 rfl) ?_
                        refine lv_iload_n hx hb dX7_round_138 rfl (lv_at hl 1 rfl) ?_
                        refine lv_iload hx hb dX7_round_139 (lv_at hl 0 rfl) ?_
                        refine rdS (rest := [.ref (b 6), .int (nI ((12 * i) + k)), .ref (b 31)]) ⟨hx, hb, hml, hown, hts⟩ (m_X7_at l G y b (upd (upd (upd f 0 0) 34 (nI (rw))) 35 (nI (cl))) (up2 (up2 r 31 x58) 33 (upd x11 (i) (z56))) t i k  ) mi_yX7_at mst_yX7_at ml_X7_147 ⟨rfl, rfl, Nat.le_of_ble_eq_true rfl, Nat.le_of_ble_eq_true rfl⟩ hK (hP) rfl hl.1 rfl (Nat.le_of_ble_eq_true rfl) dX7_round_141 ⟨Nat.zero_le _, Nat.zero_le _⟩ hS hA hP (fun r67 H locs hr67 hP hS => ?_)
                        obtain rfl := hr67
                        refine xiald (f := (r 6)) hx hb hK hP 6 ((144 * t + 12 * i + k)) (rfl) (by omega) (by decide) rfl dX7_round_144 ?_
                        refine lv_topi (fun v68 ev68 => ?_)
                        refine lv_iload_n hx hb dX7_round_145 rfl (lv_at hl 4 rfl) ?_
                        refine lv_irem hx hb dX7_round_146 (nI_ne0 (by omega) (by omega)) ?_
                        refine lv_topi (fun v69 ev69 => ?_)
                        refine lv_if_ne (tgt := 154) hx hb dX7_round_147 (by decide) (fun c70 => ?_) (fun c70 => ?_)
                        · refine lv_iconst (v := 2) hx hb dX7_round_154 (by decide) ?_
                          exact j155_64 2 (by omega) _ _ _ hP hS (lv_sub hl [0, 1, 2, 3, 4] rfl)
                        · refine lv_iconst (v := 0) hx hb dX7_round_150 (by decide) ?_
                          refine lv_goto (tgt := 155) hx hb dX7_round_151 (by decide) ?_
                          exact j155_64 0 (by omega) _ _ _ hP hS (lv_sub hl [0, 1, 2, 3, 4] rfl)
                exact loop102 (cl + 1) 0 x10 (by omega) (by omega) _ _ _ hP hS (lv_sub hl [0, 1, 2, 3, 4] rfl)
              refine lv_if_eq (tgt := 96) hx hb dX7_round_84 (by decide) (fun c71 => ?_) (fun c71 => ?_)
              · have b84 := bF hr55 c71
                refine lv_bipush (v := -2) hx hb dX7_round_96 (by decide) ?_
                exact j98_56 (-2) _ _ _ hP hS (lv_sub hl [0, 1, 2, 3] rfl)
              · have b84 := bT hr55 c71
                refine lv_aload_n hx hb dX7_round_87 rfl (lv_at hl 1 rfl) ?_
                refine lv_iload_n hx hb dX7_round_88 rfl (lv_at hl 2 rfl) ?_
                refine lv_iload_n hx hb dX7_round_89 rfl (lv_at hl 0 rfl) ?_
                refine rdV (rest := [.int (nI i), .ref (b 33)]) (q0 := 0) ⟨hx, hb, hml, hown, hts⟩ (m_X7_classOf l G y b (upd (upd (upd f 0 0) 34 (nI (rw))) 35 (nI (cl))) (up2 (up2 r 31 x10) 33 x11) t (nI i) rw cl bk (by omega) (by omega) (by omega) (by omega) h2 h3 h12) mi_yX7_classOf mv_yX7_classOf ml_X7_168 ⟨rfl, rfl, Nat.le_of_ble_eq_true rfl, Nat.le_of_ble_eq_true rfl⟩ hK (hP) rfl rfl rfl hl.1 rfl (Nat.le_of_ble_eq_true rfl) dX7_round_90 ⟨Nat.zero_le _, Nat.zero_le _⟩ hS hA hP (fun r72 H locs hr72 hP hS => ?_)
                obtain rfl := hr72
                refine lv_goto (tgt := 98) hx hb dX7_round_93 (by decide) ?_
                exact j98_56 ((clM (r 13) (r 14) t (nI i) ((r 12) t).toNatClampNeg).1) _ _ _ hP hS (lv_sub hl [0, 1, 2, 3] rfl)
        exact loop65 (rw + 1) 0 (r 31) (r 33) (by omega) (by omega) _ _ _ hP hS (lv_sub hl [0, 1, 2, 3] rfl)
      · refine lv_bipush (v := 7) hx hb dX7_round_25 (by decide) ?_
        refine lv_goto (tgt := 31) hx hb dX7_round_27 (by decide) ?_
        refine va_put (D := G.1) (ci := 7) (v := .int 7) (C := RX7) (T := TX7) (N := 43) hx hb hts inX7 tyX7 tyX7_ok nmX7 hown hK.1 hP (hDD _ _) hS 0 rfl rfl 0 (by decide) (hts _ mf_X7_116) (fun _ h9 => h9) rfl (tyX7_ok 0 (by decide)) (rfl) (rfl) (Nat.le_of_ble_eq_true rfl) dX7_round_31 (fun H locs hP _ hS => ?_)
        have hP : PP G (mM G y b (upd f 0 7) r) H := hP
        refine lv_aload_n hx hb dX7_round_34 rfl (lv_at hl 0 rfl) ?_
        refine va_get (D := G.1) (ci := 7) (v := .int 7) (C := RX7) (T := TX7) (N := 43) hx hb hts inX7 hown hK.1 hP 0 rfl rfl 0 (by decide) (hts _ mf_X7_116) (fun _ h9 => h9) rfl dX7_round_35 ?_
        refine lv_if_le (tgt := 43) hx hb dX7_round_38 (by decide) (fun c73 => absurd c73 (by decide)) (fun c73 => ?_)
        refine lv_iconst (v := -1) hx hb dX7_round_41 (by decide) ?_
        exact wr_iret hx hb hr hlocks hS hP ⟨7, (f 34), (f 35), (r 31), (r 32), (r 33), (r 36), (r 37), (r 38), rfl, h34, h35⟩ dX7_round_42
  · have b6 := bF hr1 c2
    refine lv_iconst (v := 1) hx hb dX7_round_9 (by decide) ?_
    refine lv_goto (tgt := 31) hx hb dX7_round_10 (by decide) ?_
    refine va_put (D := G.1) (ci := 7) (v := .int 1) (C := RX7) (T := TX7) (N := 43) hx hb hts inX7 tyX7 tyX7_ok nmX7 hown hK.1 hP (hDD _ _) hS 0 rfl rfl 0 (by decide) (hts _ mf_X7_116) (fun _ h9 => h9) rfl (tyX7_ok 0 (by decide)) (rfl) (rfl) (Nat.le_of_ble_eq_true rfl) dX7_round_31 (fun H locs hP _ hS => ?_)
    have hP : PP G (mM G y b (upd f 0 1) r) H := hP
    refine lv_aload_n hx hb dX7_round_34 rfl (lv_at hl 0 rfl) ?_
    refine va_get (D := G.1) (ci := 7) (v := .int 1) (C := RX7) (T := TX7) (N := 43) hx hb hts inX7 hown hK.1 hP 0 rfl rfl 0 (by decide) (hts _ mf_X7_116) (fun _ h9 => h9) rfl dX7_round_35 ?_
    refine lv_if_le (tgt := 43) hx hb dX7_round_38 (by decide) (fun c74 => absurd c74 (by decide)) (fun c74 => ?_)
    refine lv_iconst (v := -1) hx hb dX7_round_41 (by decide) ?_
    exact wr_iret hx hb hr hlocks hS hP ⟨1, (f 34), (f 35), (r 31), (r 32), (r 33), (r 36), (r 37), (r 38), rfl, h34, h35⟩ dX7_round_42
