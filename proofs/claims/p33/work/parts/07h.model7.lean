theorem mf_X7_101 : Cond.fieldLink RX7 101 "CellKeeperModel" "before" "[I" ∈ TB := TB_t4 137 (by decide +kernel) rfl
theorem mf_X7_104 : Cond.fieldLink RX7 104 "CellKeeperModel" "line" "[I" ∈ TB := TB_t4 138 (by decide +kernel) rfl
theorem mf_X7_98 : Cond.fieldLink RX7 98 "CellKeeperModel" "capacity" "[I" ∈ TB := TB_t4 136 (by decide +kernel) rfl
theorem ml_X7_261 : Cond.methodLink RX7 261 yX7_flow ∈ TB := TB_t6 24 (by decide +kernel) rfl
theorem mcode_yX7_flow : Cond.code yX7_flow cX7_flow 6 (some .int) ∈ TB := TB_t6 27 (by decide +kernel) rfl
theorem mi_yX7_flow : MI yX7_flow cX7_flow 6 (some .int) 0 := ⟨mz_RX7, mcode_yX7_flow, by decide +kernel, by decide +kernel, by decide +kernel⟩
theorem mim_yX7_flow : Cond.instanceMethod yX7_flow ∈ TB := TB_t6 26 (by decide +kernel) rfl
theorem msel_yX7_flow : Cond.selects yX7_flow.cls yX7_flow yX7_flow ∈ TB := TB_s (n := 43) 75 (by decide +kernel)
theorem mv_yX7_flow : Cond.instanceMethod yX7_flow ∈ TB ∧ Cond.selects yX7_flow.cls yX7_flow yX7_flow ∈ TB := ⟨mim_yX7_flow, msel_yX7_flow⟩
theorem mf_X7_89 : Cond.fieldLink RX7 89 "CellKeeperModel" "side" "[I" ∈ TB := TB_t4 131 (by decide +kernel) rfl
theorem ml_X7_254 : Cond.methodLink RX7 254 yJ9_max_7cf53 ∈ TB := TB_t6 19 (by decide +kernel) rfl
theorem mst_yJ9_max_7cf53 : Cond.static yJ9_max_7cf53 ∈ TB := TB_t3 117 (by decide +kernel) rfl
theorem mcode_yJ9_max_7cf53 : Cond.code yJ9_max_7cf53 cJ9_max_7cf53 2 (some .int) ∈ TB := TB_t3 118 (by decide +kernel) rfl
theorem ml_X7_257 : Cond.methodLink RX7 257 yX7_bound ∈ TB := TB_t6 20 (by decide +kernel) rfl
theorem mcode_yX7_bound : Cond.code yX7_bound cX7_bound 5 none ∈ TB := TB_t6 23 (by decide +kernel) rfl
theorem mi_yX7_bound : MI yX7_bound cX7_bound 5 none 4 := ⟨mz_RX7, mcode_yX7_bound, by decide +kernel, by decide +kernel, by decide +kernel⟩
theorem mim_yX7_bound : Cond.instanceMethod yX7_bound ∈ TB := TB_t6 22 (by decide +kernel) rfl
theorem msel_yX7_bound : Cond.selects yX7_bound.cls yX7_bound yX7_bound ∈ TB := TB_s (n := 43) 74 (by decide +kernel)
theorem mv_yX7_bound : Cond.instanceMethod yX7_bound ∈ TB ∧ Cond.selects yX7_bound.cls yX7_bound yX7_bound ∈ TB := ⟨mim_yX7_bound, msel_yX7_bound⟩
theorem ml_X7_271 : Cond.methodLink RX7 271 yX7_canBe ∈ TB := TB_t6 15 (by decide +kernel) rfl
theorem mcode_yX7_canBe : Cond.code yX7_canBe cX7_canBe 10 (some .boolean) ∈ TB := TB_t6 18 (by decide +kernel) rfl
theorem mi_yX7_canBe : MI yX7_canBe cX7_canBe 10 (some .boolean) 3 := ⟨mz_RX7, mcode_yX7_canBe, by decide +kernel, by decide +kernel, by decide +kernel⟩
theorem mim_yX7_canBe : Cond.instanceMethod yX7_canBe ∈ TB := TB_t6 17 (by decide +kernel) rfl
theorem msel_yX7_canBe : Cond.selects yX7_canBe.cls yX7_canBe yX7_canBe ∈ TB := TB_s (n := 43) 73 (by decide +kernel)
theorem mv_yX7_canBe : Cond.instanceMethod yX7_canBe ∈ TB ∧ Cond.selects yX7_canBe.cls yX7_canBe yX7_canBe ∈ TB := ⟨mim_yX7_canBe, msel_yX7_canBe⟩
theorem dX7_flow_0 : decode cX7_flow 0 = .ok (.iconst 0, 1) := by decide +kernel
theorem dX7_flow_1 : decode cX7_flow 1 = .ok (.istore_n 1, 1) := by decide +kernel
theorem dX7_flow_2 : decode cX7_flow 2 = .ok (.iconst 0, 1) := by decide +kernel
theorem dX7_flow_3 : decode cX7_flow 3 = .ok (.istore_n 2, 1) := by decide +kernel
theorem dX7_flow_4 : decode cX7_flow 4 = .ok (.iload_n 2, 1) := by decide +kernel
theorem dX7_flow_5 : decode cX7_flow 5 = .ok (.bipush 28, 2) := by decide +kernel
theorem dX7_flow_7 : decode cX7_flow 7 = .ok (.if_icmp .ge 16, 3) := by decide +kernel
theorem dX7_flow_10 : decode cX7_flow 10 = .ok (.aload_n 0, 1) := by decide +kernel
theorem dX7_flow_11 : decode cX7_flow 11 = .ok (.getfield 101, 3) := by decide +kernel
theorem dX7_flow_14 : decode cX7_flow 14 = .ok (.iload_n 2, 1) := by decide +kernel
theorem dX7_flow_15 : decode cX7_flow 15 = .ok (.iconst (-1), 1) := by decide +kernel
theorem dX7_flow_16 : decode cX7_flow 16 = .ok (.iastore, 1) := by decide +kernel
theorem dX7_flow_17 : decode cX7_flow 17 = .ok (.iinc 2 1, 3) := by decide +kernel
theorem dX7_flow_20 : decode cX7_flow 20 = .ok (.goto (-16), 3) := by decide +kernel
theorem dX7_flow_23 : decode cX7_flow 23 = .ok (.aload_n 0, 1) := by decide +kernel
theorem dX7_flow_24 : decode cX7_flow 24 = .ok (.getfield 101, 3) := by decide +kernel
theorem dX7_flow_27 : decode cX7_flow 27 = .ok (.bipush 26, 2) := by decide +kernel
theorem dX7_flow_29 : decode cX7_flow 29 = .ok (.bipush 26, 2) := by decide +kernel
theorem dX7_flow_31 : decode cX7_flow 31 = .ok (.iastore, 1) := by decide +kernel
theorem dX7_flow_32 : decode cX7_flow 32 = .ok (.aload_n 0, 1) := by decide +kernel
theorem dX7_flow_33 : decode cX7_flow 33 = .ok (.getfield 104, 3) := by decide +kernel
theorem dX7_flow_36 : decode cX7_flow 36 = .ok (.iconst 0, 1) := by decide +kernel
theorem dX7_flow_37 : decode cX7_flow 37 = .ok (.bipush 26, 2) := by decide +kernel
theorem dX7_flow_39 : decode cX7_flow 39 = .ok (.iastore, 1) := by decide +kernel
theorem dX7_flow_40 : decode cX7_flow 40 = .ok (.iconst 1, 1) := by decide +kernel
theorem dX7_flow_41 : decode cX7_flow 41 = .ok (.istore_n 2, 1) := by decide +kernel
theorem dX7_flow_42 : decode cX7_flow 42 = .ok (.iconst 0, 1) := by decide +kernel
theorem dX7_flow_43 : decode cX7_flow 43 = .ok (.istore_n 3, 1) := by decide +kernel
theorem dX7_flow_44 : decode cX7_flow 44 = .ok (.iload_n 3, 1) := by decide +kernel
theorem dX7_flow_45 : decode cX7_flow 45 = .ok (.iload_n 2, 1) := by decide +kernel
theorem dX7_flow_46 : decode cX7_flow 46 = .ok (.if_icmp .ge 94, 3) := by decide +kernel
theorem dX7_flow_140 : decode cX7_flow 140 = .ok (.aload_n 0, 1) := by decide +kernel
theorem dX7_flow_141 : decode cX7_flow 141 = .ok (.getfield 101, 3) := by decide +kernel
theorem dX7_flow_144 : decode cX7_flow 144 = .ok (.bipush 27, 2) := by decide +kernel
theorem dX7_flow_146 : decode cX7_flow 146 = .ok (.iaload, 1) := by decide +kernel
theorem dX7_flow_147 : decode cX7_flow 147 = .ok (.iconst (-1), 1) := by decide +kernel
theorem dX7_flow_148 : decode cX7_flow 148 = .ok (.if_icmp .ne 5, 3) := by decide +kernel
theorem dX7_flow_153 : decode cX7_flow 153 = .ok (.ldc 195, 2) := by decide +kernel
theorem dX7_flow_155 : decode cX7_flow 155 = .ok (.istore_n 3, 1) := by decide +kernel
theorem dX7_flow_156 : decode cX7_flow 156 = .ok (.bipush 27, 2) := by decide +kernel
theorem dX7_flow_158 : decode cX7_flow 158 = .ok (.istore 4, 2) := by decide +kernel
theorem dX7_flow_160 : decode cX7_flow 160 = .ok (.iload 4, 2) := by decide +kernel
theorem dX7_flow_162 : decode cX7_flow 162 = .ok (.bipush 26, 2) := by decide +kernel
theorem dX7_flow_164 : decode cX7_flow 164 = .ok (.if_icmp .eq 38, 3) := by decide +kernel
theorem dX7_flow_167 : decode cX7_flow 167 = .ok (.iload_n 3, 1) := by decide +kernel
theorem dX7_flow_168 : decode cX7_flow 168 = .ok (.aload_n 0, 1) := by decide +kernel
theorem dX7_flow_169 : decode cX7_flow 169 = .ok (.getfield 98, 3) := by decide +kernel
theorem dX7_flow_172 : decode cX7_flow 172 = .ok (.bipush 28, 2) := by decide +kernel
theorem dX7_flow_174 : decode cX7_flow 174 = .ok (.aload_n 0, 1) := by decide +kernel
theorem dX7_flow_175 : decode cX7_flow 175 = .ok (.getfield 101, 3) := by decide +kernel
theorem dX7_flow_178 : decode cX7_flow 178 = .ok (.iload 4, 2) := by decide +kernel
theorem dX7_flow_180 : decode cX7_flow 180 = .ok (.iaload, 1) := by decide +kernel
theorem dX7_flow_181 : decode cX7_flow 181 = .ok (.imul, 1) := by decide +kernel
theorem dX7_flow_182 : decode cX7_flow 182 = .ok (.iload 4, 2) := by decide +kernel
theorem dX7_flow_184 : decode cX7_flow 184 = .ok (.iadd, 1) := by decide +kernel
theorem dX7_flow_185 : decode cX7_flow 185 = .ok (.iaload, 1) := by decide +kernel
theorem dX7_flow_186 : decode cX7_flow 186 = .ok (.invokestatic 207, 3) := by decide +kernel
theorem dX7_flow_189 : decode cX7_flow 189 = .ok (.istore_n 3, 1) := by decide +kernel
theorem dX7_flow_190 : decode cX7_flow 190 = .ok (.aload_n 0, 1) := by decide +kernel
theorem dX7_flow_191 : decode cX7_flow 191 = .ok (.getfield 101, 3) := by decide +kernel
theorem dX7_flow_194 : decode cX7_flow 194 = .ok (.iload 4, 2) := by decide +kernel
theorem dX7_flow_196 : decode cX7_flow 196 = .ok (.iaload, 1) := by decide +kernel
theorem dX7_flow_197 : decode cX7_flow 197 = .ok (.istore 4, 2) := by decide +kernel
theorem dX7_flow_199 : decode cX7_flow 199 = .ok (.goto (-39), 3) := by decide +kernel
theorem dX7_flow_202 : decode cX7_flow 202 = .ok (.bipush 27, 2) := by decide +kernel
theorem dX7_flow_204 : decode cX7_flow 204 = .ok (.istore 4, 2) := by decide +kernel
theorem dX7_flow_206 : decode cX7_flow 206 = .ok (.iload 4, 2) := by decide +kernel
theorem dX7_flow_208 : decode cX7_flow 208 = .ok (.bipush 26, 2) := by decide +kernel
theorem dX7_flow_210 : decode cX7_flow 210 = .ok (.if_icmp .eq 59, 3) := by decide +kernel
theorem dX7_flow_213 : decode cX7_flow 213 = .ok (.aload_n 0, 1) := by decide +kernel
theorem dX7_flow_214 : decode cX7_flow 214 = .ok (.getfield 98, 3) := by decide +kernel
theorem dX7_flow_217 : decode cX7_flow 217 = .ok (.bipush 28, 2) := by decide +kernel
theorem dX7_flow_219 : decode cX7_flow 219 = .ok (.aload_n 0, 1) := by decide +kernel
theorem dX7_flow_220 : decode cX7_flow 220 = .ok (.getfield 101, 3) := by decide +kernel
theorem dX7_flow_223 : decode cX7_flow 223 = .ok (.iload 4, 2) := by decide +kernel
theorem dX7_flow_225 : decode cX7_flow 225 = .ok (.iaload, 1) := by decide +kernel
theorem dX7_flow_226 : decode cX7_flow 226 = .ok (.imul, 1) := by decide +kernel
theorem dX7_flow_227 : decode cX7_flow 227 = .ok (.iload 4, 2) := by decide +kernel
theorem dX7_flow_229 : decode cX7_flow 229 = .ok (.iadd, 1) := by decide +kernel
theorem dX7_flow_230 : decode cX7_flow 230 = .ok (.dup2, 1) := by decide +kernel
theorem dX7_flow_231 : decode cX7_flow 231 = .ok (.iaload, 1) := by decide +kernel
theorem dX7_flow_232 : decode cX7_flow 232 = .ok (.iload_n 3, 1) := by decide +kernel
theorem dX7_flow_233 : decode cX7_flow 233 = .ok (.isub, 1) := by decide +kernel
theorem dX7_flow_234 : decode cX7_flow 234 = .ok (.iastore, 1) := by decide +kernel
theorem dX7_flow_235 : decode cX7_flow 235 = .ok (.aload_n 0, 1) := by decide +kernel
theorem dX7_flow_236 : decode cX7_flow 236 = .ok (.getfield 98, 3) := by decide +kernel
theorem dX7_flow_239 : decode cX7_flow 239 = .ok (.bipush 28, 2) := by decide +kernel
theorem dX7_flow_241 : decode cX7_flow 241 = .ok (.iload 4, 2) := by decide +kernel
theorem dX7_flow_243 : decode cX7_flow 243 = .ok (.imul, 1) := by decide +kernel
theorem dX7_flow_244 : decode cX7_flow 244 = .ok (.aload_n 0, 1) := by decide +kernel
theorem dX7_flow_245 : decode cX7_flow 245 = .ok (.getfield 101, 3) := by decide +kernel
theorem dX7_flow_248 : decode cX7_flow 248 = .ok (.iload 4, 2) := by decide +kernel
theorem dX7_flow_250 : decode cX7_flow 250 = .ok (.iaload, 1) := by decide +kernel
theorem dX7_flow_251 : decode cX7_flow 251 = .ok (.iadd, 1) := by decide +kernel
theorem dX7_flow_252 : decode cX7_flow 252 = .ok (.dup2, 1) := by decide +kernel
theorem dX7_flow_253 : decode cX7_flow 253 = .ok (.iaload, 1) := by decide +kernel
theorem dX7_flow_254 : decode cX7_flow 254 = .ok (.iload_n 3, 1) := by decide +kernel
theorem dX7_flow_255 : decode cX7_flow 255 = .ok (.iadd, 1) := by decide +kernel
theorem dX7_flow_256 : decode cX7_flow 256 = .ok (.iastore, 1) := by decide +kernel
theorem dX7_flow_257 : decode cX7_flow 257 = .ok (.aload_n 0, 1) := by decide +kernel
theorem dX7_flow_258 : decode cX7_flow 258 = .ok (.getfield 101, 3) := by decide +kernel
theorem dX7_flow_261 : decode cX7_flow 261 = .ok (.iload 4, 2) := by decide +kernel
theorem dX7_flow_263 : decode cX7_flow 263 = .ok (.iaload, 1) := by decide +kernel
theorem dX7_flow_264 : decode cX7_flow 264 = .ok (.istore 4, 2) := by decide +kernel
theorem dX7_flow_266 : decode cX7_flow 266 = .ok (.goto (-60), 3) := by decide +kernel
theorem dX7_flow_269 : decode cX7_flow 269 = .ok (.iload_n 1, 1) := by decide +kernel
theorem dX7_flow_270 : decode cX7_flow 270 = .ok (.iload_n 3, 1) := by decide +kernel
theorem dX7_flow_271 : decode cX7_flow 271 = .ok (.iadd, 1) := by decide +kernel
theorem dX7_flow_272 : decode cX7_flow 272 = .ok (.istore_n 1, 1) := by decide +kernel
theorem dX7_flow_273 : decode cX7_flow 273 = .ok (.goto (-271), 3) := by decide +kernel
theorem dX7_flow_151 : decode cX7_flow 151 = .ok (.iload_n 1, 1) := by decide +kernel
theorem dX7_flow_152 : decode cX7_flow 152 = .ok (.ireturn, 1) := by decide +kernel
theorem dX7_flow_49 : decode cX7_flow 49 = .ok (.aload_n 0, 1) := by decide +kernel
theorem dX7_flow_50 : decode cX7_flow 50 = .ok (.getfield 101, 3) := by decide +kernel
theorem dX7_flow_53 : decode cX7_flow 53 = .ok (.bipush 27, 2) := by decide +kernel
theorem dX7_flow_55 : decode cX7_flow 55 = .ok (.iaload, 1) := by decide +kernel
theorem dX7_flow_56 : decode cX7_flow 56 = .ok (.iconst (-1), 1) := by decide +kernel
theorem dX7_flow_57 : decode cX7_flow 57 = .ok (.if_icmp .ne 83, 3) := by decide +kernel
theorem dX7_flow_60 : decode cX7_flow 60 = .ok (.aload_n 0, 1) := by decide +kernel
theorem dX7_flow_61 : decode cX7_flow 61 = .ok (.getfield 104, 3) := by decide +kernel
theorem dX7_flow_64 : decode cX7_flow 64 = .ok (.iload_n 3, 1) := by decide +kernel
theorem dX7_flow_65 : decode cX7_flow 65 = .ok (.iaload, 1) := by decide +kernel
theorem dX7_flow_66 : decode cX7_flow 66 = .ok (.istore 4, 2) := by decide +kernel
theorem dX7_flow_68 : decode cX7_flow 68 = .ok (.iconst 0, 1) := by decide +kernel
theorem dX7_flow_69 : decode cX7_flow 69 = .ok (.istore 5, 2) := by decide +kernel
theorem dX7_flow_71 : decode cX7_flow 71 = .ok (.iload 5, 2) := by decide +kernel
theorem dX7_flow_73 : decode cX7_flow 73 = .ok (.bipush 28, 2) := by decide +kernel
theorem dX7_flow_75 : decode cX7_flow 75 = .ok (.if_icmp .ge 59, 3) := by decide +kernel
theorem dX7_flow_78 : decode cX7_flow 78 = .ok (.aload_n 0, 1) := by decide +kernel
theorem dX7_flow_79 : decode cX7_flow 79 = .ok (.getfield 101, 3) := by decide +kernel
theorem dX7_flow_82 : decode cX7_flow 82 = .ok (.iload 5, 2) := by decide +kernel
theorem dX7_flow_84 : decode cX7_flow 84 = .ok (.iaload, 1) := by decide +kernel
theorem dX7_flow_85 : decode cX7_flow 85 = .ok (.iconst (-1), 1) := by decide +kernel
theorem dX7_flow_86 : decode cX7_flow 86 = .ok (.if_icmp .ne 42, 3) := by decide +kernel
theorem dX7_flow_128 : decode cX7_flow 128 = .ok (.iinc 5 1, 3) := by decide +kernel
theorem dX7_flow_131 : decode cX7_flow 131 = .ok (.goto (-60), 3) := by decide +kernel
theorem dX7_flow_89 : decode cX7_flow 89 = .ok (.aload_n 0, 1) := by decide +kernel
theorem dX7_flow_90 : decode cX7_flow 90 = .ok (.getfield 98, 3) := by decide +kernel
theorem dX7_flow_93 : decode cX7_flow 93 = .ok (.bipush 28, 2) := by decide +kernel
theorem dX7_flow_95 : decode cX7_flow 95 = .ok (.iload 4, 2) := by decide +kernel
theorem dX7_flow_97 : decode cX7_flow 97 = .ok (.imul, 1) := by decide +kernel
theorem dX7_flow_98 : decode cX7_flow 98 = .ok (.iload 5, 2) := by decide +kernel
theorem dX7_flow_100 : decode cX7_flow 100 = .ok (.iadd, 1) := by decide +kernel
theorem dX7_flow_101 : decode cX7_flow 101 = .ok (.iaload, 1) := by decide +kernel
theorem dX7_flow_102 : decode cX7_flow 102 = .ok (.ifCond .ne 6, 3) := by decide +kernel
theorem dX7_flow_108 : decode cX7_flow 108 = .ok (.aload_n 0, 1) := by decide +kernel
theorem dX7_flow_109 : decode cX7_flow 109 = .ok (.getfield 101, 3) := by decide +kernel
theorem dX7_flow_112 : decode cX7_flow 112 = .ok (.iload 5, 2) := by decide +kernel
theorem dX7_flow_114 : decode cX7_flow 114 = .ok (.iload 4, 2) := by decide +kernel
theorem dX7_flow_116 : decode cX7_flow 116 = .ok (.iastore, 1) := by decide +kernel
theorem dX7_flow_117 : decode cX7_flow 117 = .ok (.aload_n 0, 1) := by decide +kernel
theorem dX7_flow_118 : decode cX7_flow 118 = .ok (.getfield 104, 3) := by decide +kernel
theorem dX7_flow_121 : decode cX7_flow 121 = .ok (.iload_n 2, 1) := by decide +kernel
theorem dX7_flow_122 : decode cX7_flow 122 = .ok (.iload 5, 2) := by decide +kernel
theorem dX7_flow_124 : decode cX7_flow 124 = .ok (.iastore, 1) := by decide +kernel
theorem dX7_flow_125 : decode cX7_flow 125 = .ok (.iinc 2 1, 3) := by decide +kernel
theorem dX7_flow_105 : decode cX7_flow 105 = .ok (.goto 23, 3) := by decide +kernel
theorem dX7_flow_134 : decode cX7_flow 134 = .ok (.iinc 3 1, 3) := by decide +kernel
theorem dX7_flow_137 : decode cX7_flow 137 = .ok (.goto (-93), 3) := by decide +kernel
theorem dX7_bound_0 : decode cX7_bound 0 = .ok (.aload_n 0, 1) := by decide +kernel
theorem dX7_bound_1 : decode cX7_bound 1 = .ok (.getfield 98, 3) := by decide +kernel
theorem dX7_bound_4 : decode cX7_bound 4 = .ok (.bipush 28, 2) := by decide +kernel
theorem dX7_bound_6 : decode cX7_bound 6 = .ok (.iload_n 1, 1) := by decide +kernel
theorem dX7_bound_7 : decode cX7_bound 7 = .ok (.imul, 1) := by decide +kernel
theorem dX7_bound_8 : decode cX7_bound 8 = .ok (.iload_n 2, 1) := by decide +kernel
theorem dX7_bound_9 : decode cX7_bound 9 = .ok (.iadd, 1) := by decide +kernel
theorem dX7_bound_10 : decode cX7_bound 10 = .ok (.dup2, 1) := by decide +kernel
theorem dX7_bound_11 : decode cX7_bound 11 = .ok (.iaload, 1) := by decide +kernel
theorem dX7_bound_12 : decode cX7_bound 12 = .ok (.iload 4, 2) := by decide +kernel
theorem dX7_bound_14 : decode cX7_bound 14 = .ok (.iload_n 3, 1) := by decide +kernel
theorem dX7_bound_15 : decode cX7_bound 15 = .ok (.isub, 1) := by decide +kernel
theorem dX7_bound_16 : decode cX7_bound 16 = .ok (.iadd, 1) := by decide +kernel
theorem dX7_bound_17 : decode cX7_bound 17 = .ok (.iastore, 1) := by decide +kernel
theorem dX7_bound_18 : decode cX7_bound 18 = .ok (.aload_n 0, 1) := by decide +kernel
theorem dX7_bound_19 : decode cX7_bound 19 = .ok (.getfield 98, 3) := by decide +kernel
theorem dX7_bound_22 : decode cX7_bound 22 = .ok (.sipush 728, 3) := by decide +kernel
theorem dX7_bound_25 : decode cX7_bound 25 = .ok (.iload_n 2, 1) := by decide +kernel
theorem dX7_bound_26 : decode cX7_bound 26 = .ok (.iadd, 1) := by decide +kernel
theorem dX7_bound_27 : decode cX7_bound 27 = .ok (.dup2, 1) := by decide +kernel
theorem dX7_bound_28 : decode cX7_bound 28 = .ok (.iaload, 1) := by decide +kernel
theorem dX7_bound_29 : decode cX7_bound 29 = .ok (.iload_n 3, 1) := by decide +kernel
theorem dX7_bound_30 : decode cX7_bound 30 = .ok (.iadd, 1) := by decide +kernel
theorem dX7_bound_31 : decode cX7_bound 31 = .ok (.iastore, 1) := by decide +kernel
theorem dX7_bound_32 : decode cX7_bound 32 = .ok (.aload_n 0, 1) := by decide +kernel
theorem dX7_bound_33 : decode cX7_bound 33 = .ok (.getfield 98, 3) := by decide +kernel
theorem dX7_bound_36 : decode cX7_bound 36 = .ok (.bipush 28, 2) := by decide +kernel
theorem dX7_bound_38 : decode cX7_bound 38 = .ok (.iload_n 1, 1) := by decide +kernel
theorem dX7_bound_39 : decode cX7_bound 39 = .ok (.imul, 1) := by decide +kernel
theorem dX7_bound_40 : decode cX7_bound 40 = .ok (.bipush 27, 2) := by decide +kernel
theorem dX7_bound_42 : decode cX7_bound 42 = .ok (.iadd, 1) := by decide +kernel
theorem dX7_bound_43 : decode cX7_bound 43 = .ok (.dup2, 1) := by decide +kernel
theorem dX7_bound_44 : decode cX7_bound 44 = .ok (.iaload, 1) := by decide +kernel
theorem dX7_bound_45 : decode cX7_bound 45 = .ok (.iload_n 3, 1) := by decide +kernel
theorem dX7_bound_46 : decode cX7_bound 46 = .ok (.iadd, 1) := by decide +kernel
theorem dX7_bound_47 : decode cX7_bound 47 = .ok (.iastore, 1) := by decide +kernel
theorem dX7_bound_48 : decode cX7_bound 48 = .ok (.return_, 1) := by decide +kernel
theorem dX7_canBe_0 : decode cX7_canBe 0 = .ok (.iconst 0, 1) := by decide +kernel
theorem dX7_canBe_1 : decode cX7_canBe 1 = .ok (.istore 4, 2) := by decide +kernel
theorem dX7_canBe_3 : decode cX7_canBe 3 = .ok (.iload 4, 2) := by decide +kernel
theorem dX7_canBe_5 : decode cX7_canBe 5 = .ok (.aload_n 0, 1) := by decide +kernel
theorem dX7_canBe_6 : decode cX7_canBe 6 = .ok (.getfield 98, 3) := by decide +kernel
theorem dX7_canBe_9 : decode cX7_canBe 9 = .ok (.arraylength, 1) := by decide +kernel
theorem dX7_canBe_10 : decode cX7_canBe 10 = .ok (.if_icmp .ge 17, 3) := by decide +kernel
theorem dX7_canBe_13 : decode cX7_canBe 13 = .ok (.aload_n 0, 1) := by decide +kernel
theorem dX7_canBe_14 : decode cX7_canBe 14 = .ok (.getfield 98, 3) := by decide +kernel
theorem dX7_canBe_17 : decode cX7_canBe 17 = .ok (.iload 4, 2) := by decide +kernel
theorem dX7_canBe_19 : decode cX7_canBe 19 = .ok (.iconst 0, 1) := by decide +kernel
theorem dX7_canBe_20 : decode cX7_canBe 20 = .ok (.iastore, 1) := by decide +kernel
theorem dX7_canBe_21 : decode cX7_canBe 21 = .ok (.iinc 4 1, 3) := by decide +kernel
theorem dX7_canBe_24 : decode cX7_canBe 24 = .ok (.goto (-21), 3) := by decide +kernel
theorem dX7_canBe_27 : decode cX7_canBe 27 = .ok (.iconst 0, 1) := by decide +kernel
theorem dX7_canBe_28 : decode cX7_canBe 28 = .ok (.istore 4, 2) := by decide +kernel
theorem dX7_canBe_30 : decode cX7_canBe 30 = .ok (.iconst 0, 1) := by decide +kernel
theorem dX7_canBe_31 : decode cX7_canBe 31 = .ok (.istore 5, 2) := by decide +kernel
theorem dX7_canBe_33 : decode cX7_canBe 33 = .ok (.iload 5, 2) := by decide +kernel
theorem dX7_canBe_35 : decode cX7_canBe 35 = .ok (.aload_n 0, 1) := by decide +kernel
theorem dX7_canBe_36 : decode cX7_canBe 36 = .ok (.getfield 13, 3) := by decide +kernel
theorem dX7_canBe_39 : decode cX7_canBe 39 = .ok (.iload_n 1, 1) := by decide +kernel
theorem dX7_canBe_40 : decode cX7_canBe 40 = .ok (.iaload, 1) := by decide +kernel
theorem dX7_canBe_41 : decode cX7_canBe 41 = .ok (.if_icmp .ge 180, 3) := by decide +kernel
theorem dX7_canBe_221 : decode cX7_canBe 221 = .ok (.iconst 0, 1) := by decide +kernel
theorem dX7_canBe_222 : decode cX7_canBe 222 = .ok (.istore 5, 2) := by decide +kernel
theorem dX7_canBe_224 : decode cX7_canBe 224 = .ok (.iload 5, 2) := by decide +kernel
theorem dX7_canBe_226 : decode cX7_canBe 226 = .ok (.aload_n 0, 1) := by decide +kernel
theorem dX7_canBe_227 : decode cX7_canBe 227 = .ok (.getfield 17, 3) := by decide +kernel
theorem dX7_canBe_230 : decode cX7_canBe 230 = .ok (.iload_n 1, 1) := by decide +kernel
theorem dX7_canBe_231 : decode cX7_canBe 231 = .ok (.iaload, 1) := by decide +kernel
theorem dX7_canBe_232 : decode cX7_canBe 232 = .ok (.if_icmp .ge 151, 3) := by decide +kernel
theorem dX7_canBe_383 : decode cX7_canBe 383 = .ok (.aload_n 0, 1) := by decide +kernel
theorem dX7_canBe_384 : decode cX7_canBe 384 = .ok (.getfield 98, 3) := by decide +kernel
theorem dX7_canBe_387 : decode cX7_canBe 387 = .ok (.sipush 724, 3) := by decide +kernel
theorem dX7_canBe_390 : decode cX7_canBe 390 = .ok (.ldc 195, 2) := by decide +kernel
theorem dX7_canBe_392 : decode cX7_canBe 392 = .ok (.iastore, 1) := by decide +kernel
theorem dX7_canBe_393 : decode cX7_canBe 393 = .ok (.aload_n 0, 1) := by decide +kernel
theorem dX7_canBe_394 : decode cX7_canBe 394 = .ok (.invokevirtual 261, 3) := by decide +kernel
theorem dX7_canBe_397 : decode cX7_canBe 397 = .ok (.iload 4, 2) := by decide +kernel
theorem dX7_canBe_399 : decode cX7_canBe 399 = .ok (.if_icmp .ne 7, 3) := by decide +kernel
theorem dX7_canBe_406 : decode cX7_canBe 406 = .ok (.iconst 0, 1) := by decide +kernel
theorem dX7_canBe_407 : decode cX7_canBe 407 = .ok (.ireturn, 1) := by decide +kernel
theorem dX7_canBe_402 : decode cX7_canBe 402 = .ok (.iconst 1, 1) := by decide +kernel
theorem dX7_canBe_403 : decode cX7_canBe 403 = .ok (.goto 4, 3) := by decide +kernel
theorem dX7_canBe_235 : decode cX7_canBe 235 = .ok (.iconst 0, 1) := by decide +kernel
theorem dX7_canBe_236 : decode cX7_canBe 236 = .ok (.istore 6, 2) := by decide +kernel
theorem dX7_canBe_238 : decode cX7_canBe 238 = .ok (.iconst 0, 1) := by decide +kernel
theorem dX7_canBe_239 : decode cX7_canBe 239 = .ok (.istore 7, 2) := by decide +kernel
theorem dX7_canBe_241 : decode cX7_canBe 241 = .ok (.iconst 0, 1) := by decide +kernel
theorem dX7_canBe_242 : decode cX7_canBe 242 = .ok (.istore 8, 2) := by decide +kernel
theorem dX7_canBe_244 : decode cX7_canBe 244 = .ok (.iload 8, 2) := by decide +kernel
theorem dX7_canBe_246 : decode cX7_canBe 246 = .ok (.aload_n 0, 1) := by decide +kernel
theorem dX7_canBe_247 : decode cX7_canBe 247 = .ok (.getfield 13, 3) := by decide +kernel
theorem dX7_canBe_250 : decode cX7_canBe 250 = .ok (.iload_n 1, 1) := by decide +kernel
theorem dX7_canBe_251 : decode cX7_canBe 251 = .ok (.iaload, 1) := by decide +kernel
theorem dX7_canBe_252 : decode cX7_canBe 252 = .ok (.if_icmp .ge 70, 3) := by decide +kernel
theorem dX7_canBe_255 : decode cX7_canBe 255 = .ok (.aload_n 0, 1) := by decide +kernel
theorem dX7_canBe_256 : decode cX7_canBe 256 = .ok (.getfield 95, 3) := by decide +kernel
theorem dX7_canBe_259 : decode cX7_canBe 259 = .ok (.iload 8, 2) := by decide +kernel
theorem dX7_canBe_261 : decode cX7_canBe 261 = .ok (.iaload, 1) := by decide +kernel
theorem dX7_canBe_262 : decode cX7_canBe 262 = .ok (.iload_n 3, 1) := by decide +kernel
theorem dX7_canBe_263 : decode cX7_canBe 263 = .ok (.if_icmp .eq 6, 3) := by decide +kernel
theorem dX7_canBe_269 : decode cX7_canBe 269 = .ok (.iload 6, 2) := by decide +kernel
theorem dX7_canBe_271 : decode cX7_canBe 271 = .ok (.aload_n 0, 1) := by decide +kernel
theorem dX7_canBe_272 : decode cX7_canBe 272 = .ok (.getfield 26, 3) := by decide +kernel
theorem dX7_canBe_275 : decode cX7_canBe 275 = .ok (.iload_n 1, 1) := by decide +kernel
theorem dX7_canBe_276 : decode cX7_canBe 276 = .ok (.iload 8, 2) := by decide +kernel
theorem dX7_canBe_278 : decode cX7_canBe 278 = .ok (.iload 5, 2) := by decide +kernel
theorem dX7_canBe_280 : decode cX7_canBe 280 = .ok (.invokestatic 147, 3) := by decide +kernel
theorem dX7_canBe_283 : decode cX7_canBe 283 = .ok (.iaload, 1) := by decide +kernel
theorem dX7_canBe_284 : decode cX7_canBe 284 = .ok (.iload_n 2, 1) := by decide +kernel
theorem dX7_canBe_285 : decode cX7_canBe 285 = .ok (.irem, 1) := by decide +kernel
theorem dX7_canBe_286 : decode cX7_canBe 286 = .ok (.iadd, 1) := by decide +kernel
theorem dX7_canBe_287 : decode cX7_canBe 287 = .ok (.istore 6, 2) := by decide +kernel
theorem dX7_canBe_289 : decode cX7_canBe 289 = .ok (.iload 7, 2) := by decide +kernel
theorem dX7_canBe_291 : decode cX7_canBe 291 = .ok (.aload_n 0, 1) := by decide +kernel
theorem dX7_canBe_292 : decode cX7_canBe 292 = .ok (.getfield 89, 3) := by decide +kernel
theorem dX7_canBe_295 : decode cX7_canBe 295 = .ok (.bipush 12, 2) := by decide +kernel
theorem dX7_canBe_297 : decode cX7_canBe 297 = .ok (.iload 8, 2) := by decide +kernel
theorem dX7_canBe_299 : decode cX7_canBe 299 = .ok (.imul, 1) := by decide +kernel
theorem dX7_canBe_300 : decode cX7_canBe 300 = .ok (.iload 5, 2) := by decide +kernel
theorem dX7_canBe_302 : decode cX7_canBe 302 = .ok (.iadd, 1) := by decide +kernel
theorem dX7_canBe_303 : decode cX7_canBe 303 = .ok (.iaload, 1) := by decide +kernel
theorem dX7_canBe_304 : decode cX7_canBe 304 = .ok (.iconst 1, 1) := by decide +kernel
theorem dX7_canBe_305 : decode cX7_canBe 305 = .ok (.if_icmp .ne 7, 3) := by decide +kernel
theorem dX7_canBe_312 : decode cX7_canBe 312 = .ok (.iconst 0, 1) := by decide +kernel
theorem dX7_canBe_308 : decode cX7_canBe 308 = .ok (.iconst 1, 1) := by decide +kernel
theorem dX7_canBe_309 : decode cX7_canBe 309 = .ok (.goto 4, 3) := by decide +kernel
theorem dX7_canBe_313 : decode cX7_canBe 313 = .ok (.iadd, 1) := by decide +kernel
theorem dX7_canBe_314 : decode cX7_canBe 314 = .ok (.istore 7, 2) := by decide +kernel
theorem dX7_canBe_316 : decode cX7_canBe 316 = .ok (.iinc 8 1, 3) := by decide +kernel
theorem dX7_canBe_319 : decode cX7_canBe 319 = .ok (.goto (-75), 3) := by decide +kernel
theorem dX7_canBe_266 : decode cX7_canBe 266 = .ok (.goto 50, 3) := by decide +kernel
theorem dX7_canBe_322 : decode cX7_canBe 322 = .ok (.iconst 0, 1) := by decide +kernel
theorem dX7_canBe_323 : decode cX7_canBe 323 = .ok (.iload 6, 2) := by decide +kernel
theorem dX7_canBe_325 : decode cX7_canBe 325 = .ok (.iload_n 2, 1) := by decide +kernel
theorem dX7_canBe_326 : decode cX7_canBe 326 = .ok (.idiv, 1) := by decide +kernel
theorem dX7_canBe_327 : decode cX7_canBe 327 = .ok (.iload 7, 2) := by decide +kernel
theorem dX7_canBe_329 : decode cX7_canBe 329 = .ok (.isub, 1) := by decide +kernel
theorem dX7_canBe_330 : decode cX7_canBe 330 = .ok (.invokestatic 254, 3) := by decide +kernel
theorem dX7_canBe_333 : decode cX7_canBe 333 = .ok (.istore 8, 2) := by decide +kernel
theorem dX7_canBe_335 : decode cX7_canBe 335 = .ok (.iload 6, 2) := by decide +kernel
theorem dX7_canBe_337 : decode cX7_canBe 337 = .ok (.iload_n 2, 1) := by decide +kernel
theorem dX7_canBe_338 : decode cX7_canBe 338 = .ok (.iadd, 1) := by decide +kernel
theorem dX7_canBe_339 : decode cX7_canBe 339 = .ok (.iconst 1, 1) := by decide +kernel
theorem dX7_canBe_340 : decode cX7_canBe 340 = .ok (.isub, 1) := by decide +kernel
theorem dX7_canBe_341 : decode cX7_canBe 341 = .ok (.iload_n 2, 1) := by decide +kernel
theorem dX7_canBe_342 : decode cX7_canBe 342 = .ok (.idiv, 1) := by decide +kernel
theorem dX7_canBe_343 : decode cX7_canBe 343 = .ok (.iload 7, 2) := by decide +kernel
theorem dX7_canBe_345 : decode cX7_canBe 345 = .ok (.isub, 1) := by decide +kernel
theorem dX7_canBe_346 : decode cX7_canBe 346 = .ok (.istore 9, 2) := by decide +kernel
theorem dX7_canBe_348 : decode cX7_canBe 348 = .ok (.iload 9, 2) := by decide +kernel
theorem dX7_canBe_350 : decode cX7_canBe 350 = .ok (.ifCond .ge 5, 3) := by decide +kernel
theorem dX7_canBe_355 : decode cX7_canBe 355 = .ok (.aload_n 0, 1) := by decide +kernel
theorem dX7_canBe_356 : decode cX7_canBe 356 = .ok (.bipush 12, 2) := by decide +kernel
theorem dX7_canBe_358 : decode cX7_canBe 358 = .ok (.iload 5, 2) := by decide +kernel
theorem dX7_canBe_360 : decode cX7_canBe 360 = .ok (.iadd, 1) := by decide +kernel
theorem dX7_canBe_361 : decode cX7_canBe 361 = .ok (.bipush 25, 2) := by decide +kernel
theorem dX7_canBe_363 : decode cX7_canBe 363 = .ok (.iload 8, 2) := by decide +kernel
theorem dX7_canBe_365 : decode cX7_canBe 365 = .ok (.iload 9, 2) := by decide +kernel
theorem dX7_canBe_367 : decode cX7_canBe 367 = .ok (.invokevirtual 257, 3) := by decide +kernel
theorem dX7_canBe_370 : decode cX7_canBe 370 = .ok (.iload 4, 2) := by decide +kernel
theorem dX7_canBe_372 : decode cX7_canBe 372 = .ok (.iload 8, 2) := by decide +kernel
theorem dX7_canBe_374 : decode cX7_canBe 374 = .ok (.iadd, 1) := by decide +kernel
theorem dX7_canBe_375 : decode cX7_canBe 375 = .ok (.istore 4, 2) := by decide +kernel
theorem dX7_canBe_377 : decode cX7_canBe 377 = .ok (.iinc 5 1, 3) := by decide +kernel
theorem dX7_canBe_380 : decode cX7_canBe 380 = .ok (.goto (-156), 3) := by decide +kernel
theorem dX7_canBe_353 : decode cX7_canBe 353 = .ok (.iconst 0, 1) := by decide +kernel
theorem dX7_canBe_354 : decode cX7_canBe 354 = .ok (.ireturn, 1) := by decide +kernel
theorem dX7_canBe_44 : decode cX7_canBe 44 = .ok (.aload_n 0, 1) := by decide +kernel
theorem dX7_canBe_45 : decode cX7_canBe 45 = .ok (.getfield 95, 3) := by decide +kernel
theorem dX7_canBe_48 : decode cX7_canBe 48 = .ok (.iload 5, 2) := by decide +kernel
theorem dX7_canBe_50 : decode cX7_canBe 50 = .ok (.iaload, 1) := by decide +kernel
theorem dX7_canBe_51 : decode cX7_canBe 51 = .ok (.iload_n 3, 1) := by decide +kernel
theorem dX7_canBe_52 : decode cX7_canBe 52 = .ok (.if_icmp .eq 6, 3) := by decide +kernel
theorem dX7_canBe_58 : decode cX7_canBe 58 = .ok (.iconst 0, 1) := by decide +kernel
theorem dX7_canBe_59 : decode cX7_canBe 59 = .ok (.istore 6, 2) := by decide +kernel
theorem dX7_canBe_61 : decode cX7_canBe 61 = .ok (.iconst 0, 1) := by decide +kernel
theorem dX7_canBe_62 : decode cX7_canBe 62 = .ok (.istore 7, 2) := by decide +kernel
theorem dX7_canBe_64 : decode cX7_canBe 64 = .ok (.iconst 0, 1) := by decide +kernel
theorem dX7_canBe_65 : decode cX7_canBe 65 = .ok (.istore 8, 2) := by decide +kernel
theorem dX7_canBe_67 : decode cX7_canBe 67 = .ok (.iload 8, 2) := by decide +kernel
theorem dX7_canBe_69 : decode cX7_canBe 69 = .ok (.aload_n 0, 1) := by decide +kernel
theorem dX7_canBe_70 : decode cX7_canBe 70 = .ok (.getfield 17, 3) := by decide +kernel
theorem dX7_canBe_73 : decode cX7_canBe 73 = .ok (.iload_n 1, 1) := by decide +kernel
theorem dX7_canBe_74 : decode cX7_canBe 74 = .ok (.iaload, 1) := by decide +kernel
theorem dX7_canBe_75 : decode cX7_canBe 75 = .ok (.if_icmp .ge 88, 3) := by decide +kernel
theorem dX7_canBe_78 : decode cX7_canBe 78 = .ok (.bipush 12, 2) := by decide +kernel
theorem dX7_canBe_80 : decode cX7_canBe 80 = .ok (.iload 5, 2) := by decide +kernel
theorem dX7_canBe_82 : decode cX7_canBe 82 = .ok (.imul, 1) := by decide +kernel
theorem dX7_canBe_83 : decode cX7_canBe 83 = .ok (.iload 8, 2) := by decide +kernel
theorem dX7_canBe_85 : decode cX7_canBe 85 = .ok (.iadd, 1) := by decide +kernel
theorem dX7_canBe_86 : decode cX7_canBe 86 = .ok (.istore 9, 2) := by decide +kernel
theorem dX7_canBe_88 : decode cX7_canBe 88 = .ok (.iload 6, 2) := by decide +kernel
theorem dX7_canBe_90 : decode cX7_canBe 90 = .ok (.aload_n 0, 1) := by decide +kernel
theorem dX7_canBe_91 : decode cX7_canBe 91 = .ok (.getfield 26, 3) := by decide +kernel
theorem dX7_canBe_94 : decode cX7_canBe 94 = .ok (.iload_n 1, 1) := by decide +kernel
theorem dX7_canBe_95 : decode cX7_canBe 95 = .ok (.iload 5, 2) := by decide +kernel
theorem dX7_canBe_97 : decode cX7_canBe 97 = .ok (.iload 8, 2) := by decide +kernel
theorem dX7_canBe_99 : decode cX7_canBe 99 = .ok (.invokestatic 147, 3) := by decide +kernel
theorem dX7_canBe_102 : decode cX7_canBe 102 = .ok (.iaload, 1) := by decide +kernel
theorem dX7_canBe_103 : decode cX7_canBe 103 = .ok (.iload_n 2, 1) := by decide +kernel
theorem dX7_canBe_104 : decode cX7_canBe 104 = .ok (.irem, 1) := by decide +kernel
theorem dX7_canBe_105 : decode cX7_canBe 105 = .ok (.iadd, 1) := by decide +kernel
theorem dX7_canBe_106 : decode cX7_canBe 106 = .ok (.istore 6, 2) := by decide +kernel
theorem dX7_canBe_108 : decode cX7_canBe 108 = .ok (.iload 7, 2) := by decide +kernel
theorem dX7_canBe_110 : decode cX7_canBe 110 = .ok (.aload_n 0, 1) := by decide +kernel
theorem dX7_canBe_111 : decode cX7_canBe 111 = .ok (.getfield 89, 3) := by decide +kernel
theorem dX7_canBe_114 : decode cX7_canBe 114 = .ok (.iload 9, 2) := by decide +kernel
theorem dX7_canBe_116 : decode cX7_canBe 116 = .ok (.iaload, 1) := by decide +kernel
theorem dX7_canBe_117 : decode cX7_canBe 117 = .ok (.iconst 1, 1) := by decide +kernel
theorem dX7_canBe_118 : decode cX7_canBe 118 = .ok (.if_icmp .ne 7, 3) := by decide +kernel
theorem dX7_canBe_125 : decode cX7_canBe 125 = .ok (.iconst 0, 1) := by decide +kernel
theorem dX7_canBe_121 : decode cX7_canBe 121 = .ok (.iconst 1, 1) := by decide +kernel
theorem dX7_canBe_122 : decode cX7_canBe 122 = .ok (.goto 4, 3) := by decide +kernel
theorem dX7_canBe_126 : decode cX7_canBe 126 = .ok (.iadd, 1) := by decide +kernel
theorem dX7_canBe_127 : decode cX7_canBe 127 = .ok (.istore 7, 2) := by decide +kernel
theorem dX7_canBe_129 : decode cX7_canBe 129 = .ok (.aload_n 0, 1) := by decide +kernel
theorem dX7_canBe_130 : decode cX7_canBe 130 = .ok (.getfield 89, 3) := by decide +kernel
theorem dX7_canBe_133 : decode cX7_canBe 133 = .ok (.iload 9, 2) := by decide +kernel
theorem dX7_canBe_135 : decode cX7_canBe 135 = .ok (.iaload, 1) := by decide +kernel
theorem dX7_canBe_136 : decode cX7_canBe 136 = .ok (.iconst 2, 1) := by decide +kernel
theorem dX7_canBe_137 : decode cX7_canBe 137 = .ok (.if_icmp .ne 20, 3) := by decide +kernel
theorem dX7_canBe_157 : decode cX7_canBe 157 = .ok (.iinc 8 1, 3) := by decide +kernel
theorem dX7_canBe_160 : decode cX7_canBe 160 = .ok (.goto (-93), 3) := by decide +kernel
theorem dX7_canBe_140 : decode cX7_canBe 140 = .ok (.aload_n 0, 1) := by decide +kernel
theorem dX7_canBe_141 : decode cX7_canBe 141 = .ok (.getfield 98, 3) := by decide +kernel
theorem dX7_canBe_144 : decode cX7_canBe 144 = .ok (.bipush 28, 2) := by decide +kernel
theorem dX7_canBe_146 : decode cX7_canBe 146 = .ok (.iload 5, 2) := by decide +kernel
theorem dX7_canBe_148 : decode cX7_canBe 148 = .ok (.imul, 1) := by decide +kernel
theorem dX7_canBe_149 : decode cX7_canBe 149 = .ok (.bipush 12, 2) := by decide +kernel
theorem dX7_canBe_151 : decode cX7_canBe 151 = .ok (.iadd, 1) := by decide +kernel
theorem dX7_canBe_152 : decode cX7_canBe 152 = .ok (.iload 8, 2) := by decide +kernel
theorem dX7_canBe_154 : decode cX7_canBe 154 = .ok (.iadd, 1) := by decide +kernel
theorem dX7_canBe_155 : decode cX7_canBe 155 = .ok (.iconst 1, 1) := by decide +kernel
theorem dX7_canBe_156 : decode cX7_canBe 156 = .ok (.iastore, 1) := by decide +kernel
theorem dX7_canBe_163 : decode cX7_canBe 163 = .ok (.iconst 0, 1) := by decide +kernel
theorem dX7_canBe_164 : decode cX7_canBe 164 = .ok (.iload 6, 2) := by decide +kernel
theorem dX7_canBe_166 : decode cX7_canBe 166 = .ok (.iload_n 2, 1) := by decide +kernel
theorem dX7_canBe_167 : decode cX7_canBe 167 = .ok (.idiv, 1) := by decide +kernel
theorem dX7_canBe_168 : decode cX7_canBe 168 = .ok (.iload 7, 2) := by decide +kernel
theorem dX7_canBe_170 : decode cX7_canBe 170 = .ok (.isub, 1) := by decide +kernel
theorem dX7_canBe_171 : decode cX7_canBe 171 = .ok (.invokestatic 254, 3) := by decide +kernel
theorem dX7_canBe_174 : decode cX7_canBe 174 = .ok (.istore 8, 2) := by decide +kernel
theorem dX7_canBe_176 : decode cX7_canBe 176 = .ok (.iload 6, 2) := by decide +kernel
theorem dX7_canBe_178 : decode cX7_canBe 178 = .ok (.iload_n 2, 1) := by decide +kernel
theorem dX7_canBe_179 : decode cX7_canBe 179 = .ok (.iadd, 1) := by decide +kernel
theorem dX7_canBe_180 : decode cX7_canBe 180 = .ok (.iconst 1, 1) := by decide +kernel
theorem dX7_canBe_181 : decode cX7_canBe 181 = .ok (.isub, 1) := by decide +kernel
theorem dX7_canBe_182 : decode cX7_canBe 182 = .ok (.iload_n 2, 1) := by decide +kernel
theorem dX7_canBe_183 : decode cX7_canBe 183 = .ok (.idiv, 1) := by decide +kernel
theorem dX7_canBe_184 : decode cX7_canBe 184 = .ok (.iload 7, 2) := by decide +kernel
theorem dX7_canBe_186 : decode cX7_canBe 186 = .ok (.isub, 1) := by decide +kernel
theorem dX7_canBe_187 : decode cX7_canBe 187 = .ok (.istore 9, 2) := by decide +kernel
theorem dX7_canBe_189 : decode cX7_canBe 189 = .ok (.iload 9, 2) := by decide +kernel
theorem dX7_canBe_191 : decode cX7_canBe 191 = .ok (.ifCond .ge 5, 3) := by decide +kernel
theorem dX7_canBe_196 : decode cX7_canBe 196 = .ok (.aload_n 0, 1) := by decide +kernel
theorem dX7_canBe_197 : decode cX7_canBe 197 = .ok (.bipush 24, 2) := by decide +kernel
theorem dX7_canBe_199 : decode cX7_canBe 199 = .ok (.iload 5, 2) := by decide +kernel
theorem dX7_canBe_201 : decode cX7_canBe 201 = .ok (.iload 8, 2) := by decide +kernel
theorem dX7_canBe_203 : decode cX7_canBe 203 = .ok (.iload 9, 2) := by decide +kernel
theorem dX7_canBe_205 : decode cX7_canBe 205 = .ok (.invokevirtual 257, 3) := by decide +kernel
theorem dX7_canBe_208 : decode cX7_canBe 208 = .ok (.iload 4, 2) := by decide +kernel
theorem dX7_canBe_210 : decode cX7_canBe 210 = .ok (.iload 8, 2) := by decide +kernel
theorem dX7_canBe_212 : decode cX7_canBe 212 = .ok (.iadd, 1) := by decide +kernel
theorem dX7_canBe_213 : decode cX7_canBe 213 = .ok (.istore 4, 2) := by decide +kernel
theorem dX7_canBe_215 : decode cX7_canBe 215 = .ok (.iinc 5 1, 3) := by decide +kernel
theorem dX7_canBe_218 : decode cX7_canBe 218 = .ok (.goto (-185), 3) := by decide +kernel
theorem dX7_canBe_194 : decode cX7_canBe 194 = .ok (.iconst 0, 1) := by decide +kernel
theorem dX7_canBe_195 : decode cX7_canBe 195 = .ok (.ireturn, 1) := by decide +kernel
theorem dX7_canBe_55 : decode cX7_canBe 55 = .ok (.goto 160, 3) := by decide +kernel
theorem dX7_round_0 : decode cX7_round 0 = .ok (.aload_n 0, 1) := by decide +kernel
theorem dX7_round_1 : decode cX7_round 1 = .ok (.aload_n 0, 1) := by decide +kernel
theorem dX7_round_2 : decode cX7_round 2 = .ok (.iload_n 1, 1) := by decide +kernel
theorem dX7_round_3 : decode cX7_round 3 = .ok (.invokevirtual 120, 3) := by decide +kernel
theorem dX7_round_6 : decode cX7_round 6 = .ok (.ifCond .ne 7, 3) := by decide +kernel
theorem dX7_round_13 : decode cX7_round 13 = .ok (.iload_n 2, 1) := by decide +kernel
theorem dX7_round_14 : decode cX7_round 14 = .ok (.iconst 2, 1) := by decide +kernel
theorem dX7_round_15 : decode cX7_round 15 = .ok (.if_icmp .lt 10, 3) := by decide +kernel
theorem dX7_round_25 : decode cX7_round 25 = .ok (.bipush 7, 2) := by decide +kernel
theorem dX7_round_27 : decode cX7_round 27 = .ok (.goto 4, 3) := by decide +kernel
theorem dX7_round_31 : decode cX7_round 31 = .ok (.putfield 116, 3) := by decide +kernel
theorem dX7_round_34 : decode cX7_round 34 = .ok (.aload_n 0, 1) := by decide +kernel
theorem dX7_round_35 : decode cX7_round 35 = .ok (.getfield 116, 3) := by decide +kernel
theorem dX7_round_38 : decode cX7_round 38 = .ok (.ifCond .le 5, 3) := by decide +kernel
theorem dX7_round_41 : decode cX7_round 41 = .ok (.iconst (-1), 1) := by decide +kernel
theorem dX7_round_42 : decode cX7_round 42 = .ok (.ireturn, 1) := by decide +kernel
theorem dX7_round_18 : decode cX7_round 18 = .ok (.iload_n 2, 1) := by decide +kernel
theorem dX7_round_19 : decode cX7_round 19 = .ok (.sipush 1000, 3) := by decide +kernel
theorem dX7_round_22 : decode cX7_round 22 = .ok (.if_icmp .le 8, 3) := by decide +kernel
theorem dX7_round_30 : decode cX7_round 30 = .ok (.iconst 0, 1) := by decide +kernel
theorem dX7_round_43 : decode cX7_round 43 = .ok (.aload_n 0, 1) := by decide +kernel
theorem dX7_round_44 : decode cX7_round 44 = .ok (.aload_n 0, 1) := by decide +kernel
theorem dX7_round_45 : decode cX7_round 45 = .ok (.getfield 13, 3) := by decide +kernel
theorem dX7_round_48 : decode cX7_round 48 = .ok (.iload_n 1, 1) := by decide +kernel
theorem dX7_round_49 : decode cX7_round 49 = .ok (.iaload, 1) := by decide +kernel
theorem dX7_round_50 : decode cX7_round 50 = .ok (.putfield 265, 3) := by decide +kernel
theorem dX7_round_53 : decode cX7_round 53 = .ok (.aload_n 0, 1) := by decide +kernel
theorem dX7_round_54 : decode cX7_round 54 = .ok (.aload_n 0, 1) := by decide +kernel
theorem dX7_round_55 : decode cX7_round 55 = .ok (.getfield 17, 3) := by decide +kernel
theorem dX7_round_58 : decode cX7_round 58 = .ok (.iload_n 1, 1) := by decide +kernel
theorem dX7_round_59 : decode cX7_round 59 = .ok (.iaload, 1) := by decide +kernel
theorem dX7_round_60 : decode cX7_round 60 = .ok (.putfield 268, 3) := by decide +kernel
theorem dX7_round_63 : decode cX7_round 63 = .ok (.iconst 0, 1) := by decide +kernel
theorem dX7_round_64 : decode cX7_round 64 = .ok (.istore_n 3, 1) := by decide +kernel
theorem dX7_round_65 : decode cX7_round 65 = .ok (.iload_n 3, 1) := by decide +kernel
theorem dX7_round_66 : decode cX7_round 66 = .ok (.aload_n 0, 1) := by decide +kernel
theorem dX7_round_67 : decode cX7_round 67 = .ok (.getfield 265, 3) := by decide +kernel
theorem dX7_round_70 : decode cX7_round 70 = .ok (.if_icmp .ge 98, 3) := by decide +kernel
theorem dX7_round_73 : decode cX7_round 73 = .ok (.aload_n 0, 1) := by decide +kernel
theorem dX7_round_74 : decode cX7_round 74 = .ok (.getfield 95, 3) := by decide +kernel
theorem dX7_round_77 : decode cX7_round 77 = .ok (.iload_n 3, 1) := by decide +kernel
theorem dX7_round_78 : decode cX7_round 78 = .ok (.aload_n 0, 1) := by decide +kernel
theorem dX7_round_79 : decode cX7_round 79 = .ok (.iload_n 1, 1) := by decide +kernel
theorem dX7_round_80 : decode cX7_round 80 = .ok (.iload_n 3, 1) := by decide +kernel
theorem dX7_round_81 : decode cX7_round 81 = .ok (.invokevirtual 161, 3) := by decide +kernel
theorem dX7_round_84 : decode cX7_round 84 = .ok (.ifCond .eq 12, 3) := by decide +kernel
theorem dX7_round_96 : decode cX7_round 96 = .ok (.bipush (-2), 2) := by decide +kernel
theorem dX7_round_87 : decode cX7_round 87 = .ok (.aload_n 0, 1) := by decide +kernel
theorem dX7_round_88 : decode cX7_round 88 = .ok (.iload_n 1, 1) := by decide +kernel
theorem dX7_round_89 : decode cX7_round 89 = .ok (.iload_n 3, 1) := by decide +kernel
theorem dX7_round_90 : decode cX7_round 90 = .ok (.invokevirtual 168, 3) := by decide +kernel
theorem dX7_round_93 : decode cX7_round 93 = .ok (.goto 5, 3) := by decide +kernel
theorem dX7_round_98 : decode cX7_round 98 = .ok (.iastore, 1) := by decide +kernel
theorem dX7_round_99 : decode cX7_round 99 = .ok (.iconst 0, 1) := by decide +kernel
theorem dX7_round_100 : decode cX7_round 100 = .ok (.istore 4, 2) := by decide +kernel
theorem dX7_round_102 : decode cX7_round 102 = .ok (.iload 4, 2) := by decide +kernel
theorem dX7_round_104 : decode cX7_round 104 = .ok (.aload_n 0, 1) := by decide +kernel
theorem dX7_round_105 : decode cX7_round 105 = .ok (.getfield 268, 3) := by decide +kernel
theorem dX7_round_108 : decode cX7_round 108 = .ok (.if_icmp .ge 54, 3) := by decide +kernel
theorem dX7_round_111 : decode cX7_round 111 = .ok (.aload_n 0, 1) := by decide +kernel
theorem dX7_round_112 : decode cX7_round 112 = .ok (.getfield 89, 3) := by decide +kernel
theorem dX7_round_115 : decode cX7_round 115 = .ok (.bipush 12, 2) := by decide +kernel
theorem dX7_round_117 : decode cX7_round 117 = .ok (.iload_n 3, 1) := by decide +kernel
theorem dX7_round_118 : decode cX7_round 118 = .ok (.imul, 1) := by decide +kernel
theorem dX7_round_119 : decode cX7_round 119 = .ok (.iload 4, 2) := by decide +kernel
theorem dX7_round_121 : decode cX7_round 121 = .ok (.iadd, 1) := by decide +kernel
theorem dX7_round_122 : decode cX7_round 122 = .ok (.aload_n 0, 1) := by decide +kernel
theorem dX7_round_123 : decode cX7_round 123 = .ok (.getfield 95, 3) := by decide +kernel
theorem dX7_round_126 : decode cX7_round 126 = .ok (.iload_n 3, 1) := by decide +kernel
theorem dX7_round_127 : decode cX7_round 127 = .ok (.iaload, 1) := by decide +kernel
theorem dX7_round_128 : decode cX7_round 128 = .ok (.bipush (-2), 2) := by decide +kernel
theorem dX7_round_130 : decode cX7_round 130 = .ok (.if_icmp .eq 20, 3) := by decide +kernel
theorem dX7_round_150 : decode cX7_round 150 = .ok (.iconst 0, 1) := by decide +kernel
theorem dX7_round_151 : decode cX7_round 151 = .ok (.goto 4, 3) := by decide +kernel
theorem dX7_round_133 : decode cX7_round 133 = .ok (.aload_n 0, 1) := by decide +kernel
theorem dX7_round_134 : decode cX7_round 134 = .ok (.getfield 26, 3) := by decide +kernel
theorem dX7_round_137 : decode cX7_round 137 = .ok (.iload_n 1, 1) := by decide +kernel
theorem dX7_round_138 : decode cX7_round 138 = .ok (.iload_n 3, 1) := by decide +kernel
theorem dX7_round_139 : decode cX7_round 139 = .ok (.iload 4, 2) := by decide +kernel
theorem dX7_round_141 : decode cX7_round 141 = .ok (.invokestatic 147, 3) := by decide +kernel
theorem dX7_round_144 : decode cX7_round 144 = .ok (.iaload, 1) := by decide +kernel
theorem dX7_round_145 : decode cX7_round 145 = .ok (.iload_n 2, 1) := by decide +kernel
theorem dX7_round_146 : decode cX7_round 146 = .ok (.irem, 1) := by decide +kernel
theorem dX7_round_147 : decode cX7_round 147 = .ok (.ifCond .ne 7, 3) := by decide +kernel
theorem dX7_round_154 : decode cX7_round 154 = .ok (.iconst 2, 1) := by decide +kernel
theorem dX7_round_155 : decode cX7_round 155 = .ok (.iastore, 1) := by decide +kernel
theorem dX7_round_156 : decode cX7_round 156 = .ok (.iinc 4 1, 3) := by decide +kernel
theorem dX7_round_159 : decode cX7_round 159 = .ok (.goto (-57), 3) := by decide +kernel
theorem dX7_round_162 : decode cX7_round 162 = .ok (.iinc 3 1, 3) := by decide +kernel
theorem dX7_round_165 : decode cX7_round 165 = .ok (.goto (-100), 3) := by decide +kernel
theorem dX7_round_168 : decode cX7_round 168 = .ok (.iconst 0, 1) := by decide +kernel
theorem dX7_round_169 : decode cX7_round 169 = .ok (.istore_n 3, 1) := by decide +kernel
theorem dX7_round_170 : decode cX7_round 170 = .ok (.iconst 0, 1) := by decide +kernel
theorem dX7_round_171 : decode cX7_round 171 = .ok (.istore 4, 2) := by decide +kernel
theorem dX7_round_173 : decode cX7_round 173 = .ok (.iload 4, 2) := by decide +kernel
theorem dX7_round_175 : decode cX7_round 175 = .ok (.aload_n 0, 1) := by decide +kernel
theorem dX7_round_176 : decode cX7_round 176 = .ok (.getfield 265, 3) := by decide +kernel
theorem dX7_round_179 : decode cX7_round 179 = .ok (.if_icmp .ge 124, 3) := by decide +kernel
theorem dX7_round_182 : decode cX7_round 182 = .ok (.iconst 0, 1) := by decide +kernel
theorem dX7_round_183 : decode cX7_round 183 = .ok (.istore 5, 2) := by decide +kernel
theorem dX7_round_185 : decode cX7_round 185 = .ok (.iload 5, 2) := by decide +kernel
theorem dX7_round_187 : decode cX7_round 187 = .ok (.aload_n 0, 1) := by decide +kernel
theorem dX7_round_188 : decode cX7_round 188 = .ok (.getfield 268, 3) := by decide +kernel
theorem dX7_round_191 : decode cX7_round 191 = .ok (.if_icmp .ge 106, 3) := by decide +kernel
theorem dX7_round_194 : decode cX7_round 194 = .ok (.bipush 12, 2) := by decide +kernel
theorem dX7_round_196 : decode cX7_round 196 = .ok (.iload 4, 2) := by decide +kernel
theorem dX7_round_198 : decode cX7_round 198 = .ok (.imul, 1) := by decide +kernel
theorem dX7_round_199 : decode cX7_round 199 = .ok (.iload 5, 2) := by decide +kernel
theorem dX7_round_201 : decode cX7_round 201 = .ok (.iadd, 1) := by decide +kernel
theorem dX7_round_202 : decode cX7_round 202 = .ok (.istore 6, 2) := by decide +kernel
theorem dX7_round_204 : decode cX7_round 204 = .ok (.aload_n 0, 1) := by decide +kernel
theorem dX7_round_205 : decode cX7_round 205 = .ok (.getfield 89, 3) := by decide +kernel
theorem dX7_round_208 : decode cX7_round 208 = .ok (.iload 6, 2) := by decide +kernel
theorem dX7_round_210 : decode cX7_round 210 = .ok (.iaload, 1) := by decide +kernel
theorem dX7_round_211 : decode cX7_round 211 = .ok (.iconst 2, 1) := by decide +kernel
theorem dX7_round_212 : decode cX7_round 212 = .ok (.if_icmp .ne 35, 3) := by decide +kernel
theorem dX7_round_215 : decode cX7_round 215 = .ok (.aload_n 0, 1) := by decide +kernel
theorem dX7_round_216 : decode cX7_round 216 = .ok (.getfield 89, 3) := by decide +kernel
theorem dX7_round_219 : decode cX7_round 219 = .ok (.iload 6, 2) := by decide +kernel
theorem dX7_round_221 : decode cX7_round 221 = .ok (.iconst 0, 1) := by decide +kernel
theorem dX7_round_222 : decode cX7_round 222 = .ok (.iastore, 1) := by decide +kernel
theorem dX7_round_223 : decode cX7_round 223 = .ok (.aload_n 0, 1) := by decide +kernel
theorem dX7_round_224 : decode cX7_round 224 = .ok (.iload_n 1, 1) := by decide +kernel
theorem dX7_round_225 : decode cX7_round 225 = .ok (.iload_n 2, 1) := by decide +kernel
theorem dX7_round_226 : decode cX7_round 226 = .ok (.aload_n 0, 1) := by decide +kernel
theorem dX7_round_227 : decode cX7_round 227 = .ok (.getfield 95, 3) := by decide +kernel
theorem dX7_round_230 : decode cX7_round 230 = .ok (.iload 4, 2) := by decide +kernel
theorem dX7_round_232 : decode cX7_round 232 = .ok (.iaload, 1) := by decide +kernel
theorem dX7_round_233 : decode cX7_round 233 = .ok (.invokevirtual 271, 3) := by decide +kernel
theorem dX7_round_236 : decode cX7_round 236 = .ok (.ifCond .ne 11, 3) := by decide +kernel
theorem dX7_round_239 : decode cX7_round 239 = .ok (.aload_n 0, 1) := by decide +kernel
theorem dX7_round_240 : decode cX7_round 240 = .ok (.getfield 89, 3) := by decide +kernel
theorem dX7_round_243 : decode cX7_round 243 = .ok (.iload 6, 2) := by decide +kernel
theorem dX7_round_245 : decode cX7_round 245 = .ok (.iconst 1, 1) := by decide +kernel
theorem dX7_round_246 : decode cX7_round 246 = .ok (.iastore, 1) := by decide +kernel
theorem dX7_round_247 : decode cX7_round 247 = .ok (.iload_n 3, 1) := by decide +kernel
theorem dX7_round_248 : decode cX7_round 248 = .ok (.aload_n 0, 1) := by decide +kernel
theorem dX7_round_249 : decode cX7_round 249 = .ok (.getfield 89, 3) := by decide +kernel
theorem dX7_round_252 : decode cX7_round 252 = .ok (.iload 6, 2) := by decide +kernel
theorem dX7_round_254 : decode cX7_round 254 = .ok (.iaload, 1) := by decide +kernel
theorem dX7_round_255 : decode cX7_round 255 = .ok (.iadd, 1) := by decide +kernel
theorem dX7_round_256 : decode cX7_round 256 = .ok (.istore_n 3, 1) := by decide +kernel
theorem dX7_round_257 : decode cX7_round 257 = .ok (.aload_n 0, 1) := by decide +kernel
theorem dX7_round_258 : decode cX7_round 258 = .ok (.getfield 92, 3) := by decide +kernel
theorem dX7_round_261 : decode cX7_round 261 = .ok (.iload 6, 2) := by decide +kernel
theorem dX7_round_263 : decode cX7_round 263 = .ok (.aload_n 0, 1) := by decide +kernel
theorem dX7_round_264 : decode cX7_round 264 = .ok (.getfield 26, 3) := by decide +kernel
theorem dX7_round_267 : decode cX7_round 267 = .ok (.iload_n 1, 1) := by decide +kernel
theorem dX7_round_268 : decode cX7_round 268 = .ok (.iload 4, 2) := by decide +kernel
theorem dX7_round_270 : decode cX7_round 270 = .ok (.iload 5, 2) := by decide +kernel
theorem dX7_round_272 : decode cX7_round 272 = .ok (.invokestatic 147, 3) := by decide +kernel
theorem dX7_round_275 : decode cX7_round 275 = .ok (.iaload, 1) := by decide +kernel
theorem dX7_round_276 : decode cX7_round 276 = .ok (.iload_n 2, 1) := by decide +kernel
theorem dX7_round_277 : decode cX7_round 277 = .ok (.idiv, 1) := by decide +kernel
theorem dX7_round_278 : decode cX7_round 278 = .ok (.iload_n 2, 1) := by decide +kernel
theorem dX7_round_279 : decode cX7_round 279 = .ok (.imul, 1) := by decide +kernel
theorem dX7_round_280 : decode cX7_round 280 = .ok (.aload_n 0, 1) := by decide +kernel
theorem dX7_round_281 : decode cX7_round 281 = .ok (.getfield 89, 3) := by decide +kernel
theorem dX7_round_284 : decode cX7_round 284 = .ok (.iload 6, 2) := by decide +kernel
theorem dX7_round_286 : decode cX7_round 286 = .ok (.iaload, 1) := by decide +kernel
theorem dX7_round_287 : decode cX7_round 287 = .ok (.iload_n 2, 1) := by decide +kernel
theorem dX7_round_288 : decode cX7_round 288 = .ok (.imul, 1) := by decide +kernel
theorem dX7_round_289 : decode cX7_round 289 = .ok (.iadd, 1) := by decide +kernel
theorem dX7_round_290 : decode cX7_round 290 = .ok (.iastore, 1) := by decide +kernel
theorem dX7_round_291 : decode cX7_round 291 = .ok (.iinc 5 1, 3) := by decide +kernel
theorem dX7_round_294 : decode cX7_round 294 = .ok (.goto (-109), 3) := by decide +kernel
theorem dX7_round_297 : decode cX7_round 297 = .ok (.iinc 4 1, 3) := by decide +kernel
theorem dX7_round_300 : decode cX7_round 300 = .ok (.goto (-127), 3) := by decide +kernel
theorem dX7_round_303 : decode cX7_round 303 = .ok (.iload_n 3, 1) := by decide +kernel
theorem dX7_round_304 : decode cX7_round 304 = .ok (.ireturn, 1) := by decide +kernel
theorem dX7_round_9 : decode cX7_round 9 = .ok (.iconst 1, 1) := by decide +kernel
theorem dX7_round_10 : decode cX7_round 10 = .ok (.goto 21, 3) := by decide +kernel
def capOK (cap : Nat → Int32) : Prop := ∀ u v, u < 28 → v < 28 → ∃ a b, cap (28 * u + v) = nI a ∧ cap (28 * v + u) = nI b ∧ a + b ≤ 2000000000
def adjC (cap : Nat → Int32) (u v : Nat) : Prop := ∃ a, cap (28 * u + v) = nI a ∧ 0 < a ∧ a ≤ 2000000000
def pt (fr : Nat → Int32) : Nat → Nat
  | 0 => 27
  | d + 1 => (fr (pt fr d)).toNatClampNeg
theorem pt_s {fr : Nat → Int32} {d y u : Nat} (hy : y = pt fr d) (e : fr y = nI u) (hu : u < 1000) : u = pt fr (d + 1) := by
  show u = (fr (pt fr d)).toNatClampNeg
  rw [← hy, e, nI_clamp (by omega)]
def qDi (qu : Nat → Int32) (mn : Nat) : Prop := ∀ k k', k < k' → k' < mn → qu k ≠ qu k'
theorem qDi_0 (qu : Nat → Int32) : qDi qu 1 := fun k k' h1 h2 => absurd h1 (by omega)
theorem qDi_s {N a mn y : Nat} {adj : Nat → Nat → Prop} {fr qu : Nat → Int32} (hD : qDi qu mn) (h : wJ N adj a fr qu mn) (hy : y < N) (hf : fr y = -1) (hN : N < 1000) : qDi (upd qu mn (nI y)) (mn + 1) := fun k k' h1 h2 => by
  rw [pk_un (show k ≠ mn by omega)]
  by_cases e : k' = mn
  · subst e
    rw [pk_us]
    obtain ⟨n, q1, q2, q3, _⟩ := h.1 k h1
    intro e2
    have e3 := (nI_eq (by omega) (by omega)).mp (q2.symm.trans e2)
    exact q3 (by rw [e3]; exact hf)
  · rw [pk_un e]; exact hD k k' h1 (by omega)
/-- the way back from 27, as far as it has been gone -/
def onW (fr qu : Nat → Int32) (mn ps d : Nat) : Prop := (∀ e, e ≤ d → ∃ pe, ps ≤ pe ∧ pe < mn ∧ qu pe = nI (pt fr e)) ∧ (∀ e e', e < e' → e' ≤ d → pt fr e ≠ pt fr e') ∧ (∀ e, e ≤ d → pt fr e < 28)
theorem onW_0 {fr qu : Nat → Int32} {mn ps : Nat} (h1 : ps < mn) (h2 : qu ps = nI 27) : onW fr qu mn ps 0 := by
  refine ⟨fun e he => ⟨ps, Nat.le_refl _, h1, ?_⟩, fun e e' h h' => absurd h (by omega), fun e he => ?_⟩
  · obtain rfl : e = 0 := by omega
    exact h2
  · obtain rfl : e = 0 := by omega
    exact (by decide : 27 < 28)
theorem onW_s {fr qu : Nat → Int32} {mn ps ps2 d u : Nat} (h : onW fr qu mn ps d) (hD : qDi qu mn) (hp : ps2 < ps) (hq : qu ps2 = nI u) (hu : u < 28) (e : u = pt fr (d + 1)) : onW fr qu mn ps2 (d + 1) := by
  obtain ⟨h1, h2, h3⟩ := h
  have hps : ps2 < mn := by
    obtain ⟨pe, q1, q2, _⟩ := h1 d (Nat.le_refl _)
    omega
  refine ⟨fun x hx => ?_, fun x x' hx hx' => ?_, fun x hx => ?_⟩
  · by_cases ex : x = d + 1
    · subst ex; exact ⟨ps2, Nat.le_refl _, hps, by rw [← e]; exact hq⟩
    · obtain ⟨pe, q1, q2, q3⟩ := h1 x (by omega)
      exact ⟨pe, by omega, q2, q3⟩
  · by_cases ex : x' = d + 1
    · subst ex
      obtain ⟨pe, q1, q2, q3⟩ := h1 x (by omega)
      intro e2
      exact hD ps2 pe (by omega) q2 (by rw [hq, q3, e2, e])
    · exact h2 x x' hx (by omega)
  · by_cases ex : x = d + 1
    · subst ex; rw [← e]; exact hu
    · exact h3 x (by omega)
def eC (cap fr : Nat → Int32) (n e : Nat) : Prop := ∃ a, cap (28 * pt fr (e + 1) + pt fr e) = nI a ∧ n ≤ a ∧ a ≤ 2000000000
theorem min_nat {v : Int32} {n a : Nat} (h : v = if nI a < nI n then nI a else nI n) (ha : a < 2147483648) (hn : n < 2147483648) : v = nI (min n a) := by
  rw [h]
  split
  · rename_i q; have := (nI_ltI ha hn).mp q; rw [show min n a = a by omega]
  · rename_i q; have := Nat.not_lt.mp (fun z => q ((nI_ltI ha hn).mpr z)); rw [show min n a = n by omega]
theorem eC_s {cap fr : Nat → Int32} {n d u y a : Nat} (h : ∀ e, e < d → eC cap fr n e) (hy : y = pt fr d) (hu : u = pt fr (d + 1)) (e : cap (28 * u + y) = nI a) (ha : a ≤ 2000000000) : ∀ e, e < d + 1 → eC cap fr (min n a) e := fun x hx => by
  by_cases ex : x = d
  · subst ex; exact ⟨a, by rw [← hu, ← hy]; exact e, by omega, ha⟩
  · obtain ⟨b, q1, q2, q3⟩ := h x (by omega)
    exact ⟨b, q1, by omega, q3⟩
def sC (cap : Nat → Int32) : Nat → Nat
  | 0 => 0
  | k + 1 => sC cap k + (cap (728 + k)).toNatClampNeg
theorem sC_same {c1 c2 : Nat → Int32} : ∀ N, (∀ v, v < N → c1 (728 + v) = c2 (728 + v)) → sC c1 N = sC c2 N
  | 0, _ => rfl
  | k + 1, h => by simp only [sC]; rw [sC_same k (fun v q => h v (by omega)), h k (by omega)]
theorem sC_lt {c1 c2 : Nat → Int32} {y a b : Nat} (ha : c2 (728 + y) = nI a) (hb : c1 (728 + y) = nI b) (hab : b < a) (hB : a < 2147483648) : ∀ N, y < N → (∀ v, v < N → v ≠ y → c1 (728 + v) = c2 (728 + v)) → sC c1 N < sC c2 N
  | 0, h, _ => absurd h (Nat.not_lt_zero _)
  | k + 1, h, hs => by
    simp only [sC]
    by_cases e : y = k
    · subst e
      rw [sC_same y (fun v q => hs v (by omega) (by omega)), ha, hb, nI_clamp (by omega), nI_clamp (by omega)]; omega
    · have h2 := sC_lt ha hb hab hB k (by omega) (fun v q => hs v (by omega))
      rw [hs k (by omega) (fun q => e q.symm)]; omega
/-- a step of the way is used -/
def aug (cap : Nat → Int32) (u y ca cb n : Nat) : Nat → Int32 := upd (upd cap (28 * u + y) (nI (ca - n))) (28 * y + u) (nI (cb + n))
theorem aug_ne {cap : Nat → Int32} {u y ca cb n x : Nat} (h1 : x ≠ 28 * u + y) (h2 : x ≠ 28 * y + u) : aug cap u y ca cb n x = cap x := by unfold aug; rw [pk_un h2, pk_un h1]
theorem cap_aug {cap : Nat → Int32} {u y ca cb n : Nat} (h : capOK cap) (hu : u < 28) (hy : y < 28) (hne : u ≠ y) (e1 : cap (28 * u + y) = nI ca) (e2 : cap (28 * y + u) = nI cb) (hca : ca ≤ 2000000000) (hcb : cb ≤ 2000000000) (hn : n ≤ ca) : capOK (aug cap u y ca cb n) := by
  have hs : ca + cb ≤ 2000000000 := by
    obtain ⟨a, b, q1, q2, q3⟩ := h u y hu hy
    have r1 : ca < 2147483648 := by omega
    have r2 : a < 2147483648 := by omega
    have r3 : cb < 2147483648 := by omega
    have r4 : b < 2147483648 := by omega
    have k1 := (nI_eq r1 r2).mp (e1.symm.trans q1)
    have k2 := (nI_eq r3 r4).mp (e2.symm.trans q2)
    omega
  have g1 : aug cap u y ca cb n (28 * u + y) = nI (ca - n) := by unfold aug; rw [pk_un (by omega), pk_us]
  have g2 : aug cap u y ca cb n (28 * y + u) = nI (cb + n) := by unfold aug; rw [pk_us]
  intro p q hp hq
  by_cases c1 : p = u ∧ q = y
  · obtain ⟨rfl, rfl⟩ := c1; exact ⟨_, _, g1, g2, by omega⟩
  · by_cases c2 : p = y ∧ q = u
    · obtain ⟨rfl, rfl⟩ := c2; exact ⟨_, _, g2, g1, by omega⟩
    · obtain ⟨a, b, q1, q2, q3⟩ := h p q hp hq
      exact ⟨a, b, by rw [aug_ne (by omega) (by omega)]; exact q1, by rw [aug_ne (by omega) (by omega)]; exact q2, q3⟩
theorem same_s {cap cap0 fr qu : Nat → Int32} {mn ps d D u y ca cb n : Nat} (hW : onW fr qu mn ps D) (h : ∀ e, d ≤ e → e < D → cap (28 * pt fr (e + 1) + pt fr e) = cap0 (28 * pt fr (e + 1) + pt fr e)) (hd : d < D) (hy : y = pt fr d) (hu : u = pt fr (d + 1)) : ∀ e, d + 1 ≤ e → e < D → aug cap u y ca cb n (28 * pt fr (e + 1) + pt fr e) = cap0 (28 * pt fr (e + 1) + pt fr e) := fun e h1 h2 => by
  have n1 := hW.2.1 d e (by omega) (by omega)
  have n2 := hW.2.1 d (e + 1) (by omega) (by omega)
  have b1 := hW.2.2 e (by omega)
  have b2 := hW.2.2 (e + 1) (by omega)
  have b3 := hW.2.2 d (by omega)
  have b4 := hW.2.2 (d + 1) (by omega)
  rw [aug_ne (by omega) (by omega)]
  exact h e (by omega) h2
def sS (cap cap0 : Nat → Int32) (y : Nat) : Prop := (y ≠ 26 ∧ sC cap 28 = sC cap0 28) ∨ (y = 26 ∧ sC cap 28 < sC cap0 28)
theorem sS_s {cap cap0 : Nat → Int32} {u y ca cb n : Nat} (h : sS cap cap0 y) (hy : y ≠ 26) (hu : u < 28) (hy2 : y < 28) (e1 : cap (28 * u + y) = nI ca) (hca : ca ≤ 2000000000) (hn : n ≤ ca) (hn0 : 0 < n) (hne : u ≠ y) : sS (aug cap u y ca cb n) cap0 u := by
  have h0 : sC cap 28 = sC cap0 28 := h.elim (fun q => q.2) (fun q => absurd q.1 hy)
  by_cases e : u = 26
  · subst e
    refine Or.inr ⟨rfl, ?_⟩
    rw [← h0]
    refine sC_lt (y := y) (a := ca) (b := ca - n) (by have := e1; rw [show 28 * 26 + y = 728 + y by omega] at this; exact this) ?_ (by omega) (by omega) 28 hy2 (fun v hv hne2 => aug_ne (by omega) (by omega))
    unfold aug
    rw [pk_un (by omega), show 28 * 26 + y = 728 + y by omega, pk_us]
  · exact Or.inl ⟨e, by rw [← h0]; exact sC_same 28 (fun v hv => aug_ne (by omega) (by omega))⟩
theorem nOK_mo {n a b : Nat} {x : Nat → Int32} (h : nOK n a x) (hab : a ≤ b) : nOK n b x := fun j hj => by
  obtain ⟨k, h1, h2⟩ := h j hj
  exact ⟨k, by omega, h2⟩
theorem capOK_of {M : Nat} {cap : Nat → Int32} (h : nOK 784 M cap) (hM : M ≤ 10000000) : capOK (upd cap 724 1000000000) := by
  have g : ∀ x, x < 784 → ∃ a, upd cap 724 1000000000 x = nI a ∧ (a ≤ 10000000 ∨ (x = 724 ∧ a = 1000000000)) := fun x hx => by
    by_cases e : x = 724
    · subst e; exact ⟨1000000000, pk_us, Or.inr ⟨rfl, rfl⟩⟩
    · obtain ⟨k, h1, h2⟩ := h x hx
      exact ⟨k, by rw [pk_un e]; exact h2, Or.inl (by omega)⟩
  intro u v hu hv
  obtain ⟨a, h1, h2⟩ := g (28 * u + v) (by omega)
  obtain ⟨b, h3, h4⟩ := g (28 * v + u) (by omega)
  exact ⟨a, b, h1, h3, by omega⟩
theorem bs_n {x : Int32} (h1 : ¬ x < 2) (h2 : x ≤ 1000) : ∃ n, 2 ≤ n ∧ n ≤ 1000 ∧ x = nI n := by
  obtain ⟨n, hn, rfl⟩ := nI_of (x := x) (fun q => h1 (Int32.lt_trans q (by decide)))
  exact ⟨n, Nat.not_lt.mp (fun q => h1 (nI_lt (b := 2) q (by decide))), (nI_leI (b := 1000) hn (by decide)).mp h2, rfl⟩
theorem zz_s {x : Nat → Int32} {i : Nat} (h : ∀ n, n < i → x n = 0) : ∀ n, n < i + 1 → upd x i 0 n = 0 := fun n hn => by
  by_cases e : n = i
  · subst e; exact pk_us
  · rw [pk_un e]; exact h n (by omega)