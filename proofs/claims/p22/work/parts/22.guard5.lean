theorem ml_X0_113 : Cond.methodLink RX0 113 yX0_guards ∈ TB := TB_t3 219 rfl rfl
theorem mcode_yX0_guards : Cond.code yX0_guards cX0_guards 5 (some .boolean) ∈ TB := TB_t3 222 rfl rfl
theorem mi_yX0_guards : MI yX0_guards cX0_guards 5 (some .boolean) 2 := ⟨mz_RX0, mcode_yX0_guards, by decide +kernel, by decide +kernel, by decide +kernel⟩
theorem mim_yX0_guards : Cond.instanceMethod yX0_guards ∈ TB := TB_t3 221 rfl rfl
theorem msel_yX0_guards : Cond.selects yX0_guards.cls yX0_guards yX0_guards ∈ TB := TB_s (n := 9) 26 (by decide +kernel)
theorem mv_yX0_guards : Cond.instanceMethod yX0_guards ∈ TB ∧ Cond.selects yX0_guards.cls yX0_guards yX0_guards ∈ TB := ⟨mim_yX0_guards, msel_yX0_guards⟩
theorem ml_X0_117 : Cond.methodLink RX0 117 yX0_priceSets ∈ TB := TB_t3 231 rfl rfl
theorem mcode_yX0_priceSets : Cond.code yX0_priceSets cX0_priceSets 4 none ∈ TB := TB_t3 234 rfl rfl
theorem mi_yX0_priceSets : MI yX0_priceSets cX0_priceSets 4 none 1 := ⟨mz_RX0, mcode_yX0_priceSets, by decide +kernel, by decide +kernel, by decide +kernel⟩
theorem mim_yX0_priceSets : Cond.instanceMethod yX0_priceSets ∈ TB := TB_t3 233 rfl rfl
theorem msel_yX0_priceSets : Cond.selects yX0_priceSets.cls yX0_priceSets yX0_priceSets ∈ TB := TB_s (n := 9) 28 (by decide +kernel)
theorem mv_yX0_priceSets : Cond.instanceMethod yX0_priceSets ∈ TB ∧ Cond.selects yX0_priceSets.cls yX0_priceSets yX0_priceSets ∈ TB := ⟨mim_yX0_priceSets, msel_yX0_priceSets⟩
theorem ml_X0_120 : Cond.methodLink RX0 120 yX0_nextSet ∈ TB := TB_t3 235 rfl rfl
theorem mcode_yX0_nextSet : Cond.code yX0_nextSet cX0_nextSet 5 (some .int) ∈ TB := TB_t3 238 rfl rfl
theorem mi_yX0_nextSet : MI yX0_nextSet cX0_nextSet 5 (some .int) 2 := ⟨mz_RX0, mcode_yX0_nextSet, by decide +kernel, by decide +kernel, by decide +kernel⟩
theorem mim_yX0_nextSet : Cond.instanceMethod yX0_nextSet ∈ TB := TB_t3 237 rfl rfl
theorem msel_yX0_nextSet : Cond.selects yX0_nextSet.cls yX0_nextSet yX0_nextSet ∈ TB := TB_s (n := 9) 29 (by decide +kernel)
theorem mv_yX0_nextSet : Cond.instanceMethod yX0_nextSet ∈ TB ∧ Cond.selects yX0_nextSet.cls yX0_nextSet yX0_nextSet ∈ TB := ⟨mim_yX0_nextSet, msel_yX0_nextSet⟩
theorem kcX0_cheapest_0 : CHb cX0_cheapest 0 [4, 42, 180, 0, 25, 120, 61, 42, 2, 181, 0, 29, 42, 2, 181, 0, 32, 42, 43, 28, 4, 100, 182, 0, 113, 154, 0, 5, 2, 172, 42, 28, 182, 0, 117, 42, 28, 2, 182, 0, 120, 62, 3, 54, 4, 21, 4, 28, 162, 0, 32, 29, 2, 159, 0, 27, 42, 43, 29, 182, 0, 113, 153, 0] := CHb_of (by decide +kernel)
theorem dX0_cheapest_0 : decode cX0_cheapest 0 = .ok (.iconst 1, 1) := dw_4 (kcX0_cheapest_0 0 4 rfl)
theorem dX0_cheapest_1 : decode cX0_cheapest 1 = .ok (.aload_n 0, 1) := dw_42 (kcX0_cheapest_0 1 42 rfl)
theorem dX0_cheapest_2 : decode cX0_cheapest 2 = .ok (.getfield 25, 3) := dw_180 (kcX0_cheapest_0 2 180 rfl) (kcX0_cheapest_0 3 0 rfl) (kcX0_cheapest_0 4 25 rfl) rfl
theorem dX0_cheapest_5 : decode cX0_cheapest 5 = .ok (.ishl, 1) := dw_120 (kcX0_cheapest_0 5 120 rfl)
theorem dX0_cheapest_6 : decode cX0_cheapest 6 = .ok (.istore_n 2, 1) := dw_61 (kcX0_cheapest_0 6 61 rfl)
theorem dX0_cheapest_7 : decode cX0_cheapest 7 = .ok (.aload_n 0, 1) := dw_42 (kcX0_cheapest_0 7 42 rfl)
theorem dX0_cheapest_8 : decode cX0_cheapest 8 = .ok (.iconst (-1), 1) := dw_2 (kcX0_cheapest_0 8 2 rfl)
theorem dX0_cheapest_9 : decode cX0_cheapest 9 = .ok (.putfield 29, 3) := dw_181 (kcX0_cheapest_0 9 181 rfl) (kcX0_cheapest_0 10 0 rfl) (kcX0_cheapest_0 11 29 rfl) rfl
theorem dX0_cheapest_12 : decode cX0_cheapest 12 = .ok (.aload_n 0, 1) := dw_42 (kcX0_cheapest_0 12 42 rfl)
theorem dX0_cheapest_13 : decode cX0_cheapest 13 = .ok (.iconst (-1), 1) := dw_2 (kcX0_cheapest_0 13 2 rfl)
theorem dX0_cheapest_14 : decode cX0_cheapest 14 = .ok (.putfield 32, 3) := dw_181 (kcX0_cheapest_0 14 181 rfl) (kcX0_cheapest_0 15 0 rfl) (kcX0_cheapest_0 16 32 rfl) rfl
theorem dX0_cheapest_17 : decode cX0_cheapest 17 = .ok (.aload_n 0, 1) := dw_42 (kcX0_cheapest_0 17 42 rfl)
theorem dX0_cheapest_18 : decode cX0_cheapest 18 = .ok (.aload_n 1, 1) := dw_43 (kcX0_cheapest_0 18 43 rfl)
theorem dX0_cheapest_19 : decode cX0_cheapest 19 = .ok (.iload_n 2, 1) := dw_28 (kcX0_cheapest_0 19 28 rfl)
theorem dX0_cheapest_20 : decode cX0_cheapest 20 = .ok (.iconst 1, 1) := dw_4 (kcX0_cheapest_0 20 4 rfl)
theorem dX0_cheapest_21 : decode cX0_cheapest 21 = .ok (.isub, 1) := dw_100 (kcX0_cheapest_0 21 100 rfl)
theorem dX0_cheapest_22 : decode cX0_cheapest 22 = .ok (.invokevirtual 113, 3) := dw_182 (kcX0_cheapest_0 22 182 rfl) (kcX0_cheapest_0 23 0 rfl) (kcX0_cheapest_0 24 113 rfl) rfl
theorem dX0_cheapest_25 : decode cX0_cheapest 25 = .ok (.ifCond .ne 5, 3) := dw_154 (kcX0_cheapest_0 25 154 rfl) (kcX0_cheapest_0 26 0 rfl) (kcX0_cheapest_0 27 5 rfl) rfl
theorem dX0_cheapest_30 : decode cX0_cheapest 30 = .ok (.aload_n 0, 1) := dw_42 (kcX0_cheapest_0 30 42 rfl)
theorem dX0_cheapest_31 : decode cX0_cheapest 31 = .ok (.iload_n 2, 1) := dw_28 (kcX0_cheapest_0 31 28 rfl)
theorem dX0_cheapest_32 : decode cX0_cheapest 32 = .ok (.invokevirtual 117, 3) := dw_182 (kcX0_cheapest_0 32 182 rfl) (kcX0_cheapest_0 33 0 rfl) (kcX0_cheapest_0 34 117 rfl) rfl
theorem dX0_cheapest_35 : decode cX0_cheapest 35 = .ok (.aload_n 0, 1) := dw_42 (kcX0_cheapest_0 35 42 rfl)
theorem dX0_cheapest_36 : decode cX0_cheapest 36 = .ok (.iload_n 2, 1) := dw_28 (kcX0_cheapest_0 36 28 rfl)
theorem dX0_cheapest_37 : decode cX0_cheapest 37 = .ok (.iconst (-1), 1) := dw_2 (kcX0_cheapest_0 37 2 rfl)
theorem dX0_cheapest_38 : decode cX0_cheapest 38 = .ok (.invokevirtual 120, 3) := dw_182 (kcX0_cheapest_0 38 182 rfl) (kcX0_cheapest_0 39 0 rfl) (kcX0_cheapest_0 40 120 rfl) rfl
theorem dX0_cheapest_41 : decode cX0_cheapest 41 = .ok (.istore_n 3, 1) := dw_62 (kcX0_cheapest_0 41 62 rfl)
theorem dX0_cheapest_42 : decode cX0_cheapest 42 = .ok (.iconst 0, 1) := dw_3 (kcX0_cheapest_0 42 3 rfl)
theorem dX0_cheapest_43 : decode cX0_cheapest 43 = .ok (.istore 4, 2) := dw_54 (kcX0_cheapest_0 43 54 rfl) (kcX0_cheapest_0 44 4 rfl)
theorem dX0_cheapest_45 : decode cX0_cheapest 45 = .ok (.iload 4, 2) := dw_21 (kcX0_cheapest_0 45 21 rfl) (kcX0_cheapest_0 46 4 rfl)
theorem dX0_cheapest_47 : decode cX0_cheapest 47 = .ok (.iload_n 2, 1) := dw_28 (kcX0_cheapest_0 47 28 rfl)
theorem dX0_cheapest_48 : decode cX0_cheapest 48 = .ok (.if_icmp .ge 32, 3) := dw_162 (kcX0_cheapest_0 48 162 rfl) (kcX0_cheapest_0 49 0 rfl) (kcX0_cheapest_0 50 32 rfl) rfl
theorem kcX0_cheapest_1 : CHb cX0_cheapest 64 [5, 29, 172, 42, 28, 29, 182, 0, 120, 62, 132, 4, 1, 167, 255, 224, 2, 172] := CHb_of (by decide +kernel)
theorem dX0_cheapest_80 : decode cX0_cheapest 80 = .ok (.iconst (-1), 1) := dw_2 (kcX0_cheapest_1 16 2 rfl)
theorem dX0_cheapest_81 : decode cX0_cheapest 81 = .ok (.ireturn, 1) := dw_172 (kcX0_cheapest_1 17 172 rfl)
theorem dX0_cheapest_51 : decode cX0_cheapest 51 = .ok (.iload_n 3, 1) := dw_29 (kcX0_cheapest_0 51 29 rfl)
theorem dX0_cheapest_52 : decode cX0_cheapest 52 = .ok (.iconst (-1), 1) := dw_2 (kcX0_cheapest_0 52 2 rfl)
theorem dX0_cheapest_53 : decode cX0_cheapest 53 = .ok (.if_icmp .eq 27, 3) := dw_159 (kcX0_cheapest_0 53 159 rfl) (kcX0_cheapest_0 54 0 rfl) (kcX0_cheapest_0 55 27 rfl) rfl
theorem dX0_cheapest_56 : decode cX0_cheapest 56 = .ok (.aload_n 0, 1) := dw_42 (kcX0_cheapest_0 56 42 rfl)
theorem dX0_cheapest_57 : decode cX0_cheapest 57 = .ok (.aload_n 1, 1) := dw_43 (kcX0_cheapest_0 57 43 rfl)
theorem dX0_cheapest_58 : decode cX0_cheapest 58 = .ok (.iload_n 3, 1) := dw_29 (kcX0_cheapest_0 58 29 rfl)
theorem dX0_cheapest_59 : decode cX0_cheapest 59 = .ok (.invokevirtual 113, 3) := dw_182 (kcX0_cheapest_0 59 182 rfl) (kcX0_cheapest_0 60 0 rfl) (kcX0_cheapest_0 61 113 rfl) rfl
theorem dX0_cheapest_62 : decode cX0_cheapest 62 = .ok (.ifCond .eq 5, 3) := dw_153 (kcX0_cheapest_0 62 153 rfl) (kcX0_cheapest_0 63 0 rfl) (kcX0_cheapest_1 0 5 rfl) rfl
theorem dX0_cheapest_67 : decode cX0_cheapest 67 = .ok (.aload_n 0, 1) := dw_42 (kcX0_cheapest_1 3 42 rfl)
theorem dX0_cheapest_68 : decode cX0_cheapest 68 = .ok (.iload_n 2, 1) := dw_28 (kcX0_cheapest_1 4 28 rfl)
theorem dX0_cheapest_69 : decode cX0_cheapest 69 = .ok (.iload_n 3, 1) := dw_29 (kcX0_cheapest_1 5 29 rfl)
theorem dX0_cheapest_70 : decode cX0_cheapest 70 = .ok (.invokevirtual 120, 3) := dw_182 (kcX0_cheapest_1 6 182 rfl) (kcX0_cheapest_1 7 0 rfl) (kcX0_cheapest_1 8 120 rfl) rfl
theorem dX0_cheapest_73 : decode cX0_cheapest 73 = .ok (.istore_n 3, 1) := dw_62 (kcX0_cheapest_1 9 62 rfl)
theorem dX0_cheapest_74 : decode cX0_cheapest 74 = .ok (.iinc 4 1, 3) := dw_132 (kcX0_cheapest_1 10 132 rfl) (kcX0_cheapest_1 11 4 rfl) (kcX0_cheapest_1 12 1 rfl) rfl
theorem dX0_cheapest_77 : decode cX0_cheapest 77 = .ok (.goto (-32), 3) := dw_167 (kcX0_cheapest_1 13 167 rfl) (kcX0_cheapest_1 14 255 rfl) (kcX0_cheapest_1 15 224 rfl) rfl
theorem dX0_cheapest_65 : decode cX0_cheapest 65 = .ok (.iload_n 3, 1) := dw_29 (kcX0_cheapest_1 1 29 rfl)
theorem dX0_cheapest_66 : decode cX0_cheapest 66 = .ok (.ireturn, 1) := dw_172 (kcX0_cheapest_1 2 172 rfl)
theorem dX0_cheapest_28 : decode cX0_cheapest 28 = .ok (.iconst (-1), 1) := dw_2 (kcX0_cheapest_0 28 2 rfl)
theorem dX0_cheapest_29 : decode cX0_cheapest 29 = .ok (.ireturn, 1) := dw_172 (kcX0_cheapest_0 29 172 rfl)
set_option maxHeartbeats 4000000 in
set_option maxRecDepth 100000 in
theorem c_X0_cheapest (l : Launch) (G : GG) (ga : Nat → Nat) (gf : Nat → Int32) (gr : Nat → Nat → Int32) (a b : Nat → Nat) (f : Nat → Int32) (r : Nat → Nat → Int32) (q : Nat → Nat → Int32) (rc : Int32) (rw cl : Nat) (hrw : rw ≤ 12) (hcl : cl ≤ 12) (h0 : f 0 = nI rw) (h1 : f 1 = nI cl) (ch : Nat) (hch : ch ≤ 8) (h4 : gf 4 = nI ch) (hcp : chP (gr 1) ch) (hRB : RB adjR (q 0)) : WrI l yX0_cheapest cX0_cheapest 5 (some .int) ({ frames := 6, cells := 0, slots := 0, locals := 158 }) G ([((ga 9), .inr (0, [.ref (ga 0), .ref (ga 1), .ref (ga 2), .ref (ga 3), .int (gf 4), .int (gf 5), .int (gf 6), .int (gf 7), .int (gf 8)])), ((ga 0), .inl (G.2.2.1, 144, .inl (gr 0))), ((ga 1), .inl (G.2.1, 8, .inl (gr 1))), ((ga 2), .inl (G.2.1, 8, .inl (gr 2))), ((ga 3), .inl (G.2.1, 256, .inl (gr 3))), ((a 15), .inr (2, [.int (f 0), .int (f 1), .int (f 2), .int (f 3), .int (f 4), .ref (b 3), .ref (a 6), .ref (a 7), .ref (a 8), .ref (a 9), .ref (a 10), .ref (a 11), .ref (a 12), .ref (a 13), .ref (a 14)])), ((a 6), .inl (G.2.2.1, 12, .inl (r 6))), ((a 7), .inl (G.2.1, 12, .inl (r 7))), ((a 8), .inl (G.2.1, 144, .inl (r 8))), ((a 9), .inl (G.2.1, 144, .inl (r 9))), ((a 10), .inl (G.2.1, 144, .inl (r 10))), ((a 11), .inl (G.2.2.1, 144, .inl (r 11))), ((a 12), .inl (G.2.1, 144, .inl (r 12))), ((a 13), .inl (G.2.1, 144, .inl (r 13))), ((a 14), .inl (G.2.1, 144, .inl (r 14))), ((b 3), .inr (5, [.ref (b 0), .ref (b 1), .ref (b 2), .int rc])), ((b 0), .inl (G.2.1, 25, .inl (q 0))), ((b 1), .inl (G.2.1, 25, .inl (q 1))), ((b 2), .inl (G.2.1, 25, .inl (q 2)))]) [.ref (ga 9), .ref (a 15)] (fun v_ w => orN 256 v_ ∧ ∃ (g5 g6 : Int32) (p3 : Nat → Int32) (e4 : Int32) (r2 : Nat → Nat → Int32) (s2 bf qu : Nat → Int32) (rc2 : Int32), RB adjR s2 ∧ w = [((ga 9), .inr (0, [.ref (ga 0), .ref (ga 1), .ref (ga 2), .ref (ga 3), .int (gf 4), .int g5, .int g6, .int (gf 7), .int (gf 8)])), ((ga 0), .inl (G.2.2.1, 144, .inl (gr 0))), ((ga 1), .inl (G.2.1, 8, .inl (gr 1))), ((ga 2), .inl (G.2.1, 8, .inl (gr 2))), ((ga 3), .inl (G.2.1, 256, .inl p3)), ((a 15), .inr (2, [.int (f 0), .int (f 1), .int (f 2), .int (f 3), .int e4, .ref (b 3), .ref (a 6), .ref (a 7), .ref (a 8), .ref (a 9), .ref (a 10), .ref (a 11), .ref (a 12), .ref (a 13), .ref (a 14)])), ((a 6), .inl (G.2.2.1, 12, .inl (r2 6))), ((a 7), .inl (G.2.1, 12, .inl (r2 7))), ((a 8), .inl (G.2.1, 144, .inl (r2 8))), ((a 9), .inl (G.2.1, 144, .inl (r2 9))), ((a 10), .inl (G.2.1, 144, .inl (r2 10))), ((a 11), .inl (G.2.2.1, 144, .inl (r2 11))), ((a 12), .inl (G.2.1, 144, .inl (r2 12))), ((a 13), .inl (G.2.1, 144, .inl (r2 13))), ((a 14), .inl (G.2.1, 144, .inl (r2 14))), ((b 3), .inr (5, [.ref (b 0), .ref (b 1), .ref (b 2), .int rc2])), ((b 0), .inl (G.2.1, 25, .inl s2)), ((b 1), .inl (G.2.1, 25, .inl bf)), ((b 2), .inl (G.2.1, 25, .inl qu))]) := by
  refine wr_entryI (by decide +kernel) (Nat.le_of_ble_eq_true rfl) ?_
  intro p e s m below meth c A C0 hP hK hD hA ls hl
  have hS : va_S A s.heap s.heap [] := va_S.rf
  obtain ⟨hx, hb, hml, hown, hts, hr, hlocks, hin⟩ := C0
  have hown : s.vm.findClass RX0 = some m.cls := hown
  have hl : lv_has ls 5 [(0, .ref (ga 9)), (1, .ref (a 15))] := hl
  refine lv_iconst (v := 1) hx hb dX0_cheapest_0 (by decide) ?_
  refine lv_aload_n hx hb dX0_cheapest_1 rfl (lv_at hl 0 rfl) ?_
  refine va_get (D := G.1) (ci := 0) (v := .int (gf 4)) (C := RX0) (T := TX0) (N := 9) hx hb hts inX0 hown hK.1 hP 0 rfl rfl 4 (by decide) (hts _ mf_X0_25) (fun _ h9 => h9) rfl dX0_cheapest_2 ?_
  refine lv_ishl hx hb dX0_cheapest_5 ?_
  refine lv_topi (fun v1 ev1 => ?_)
  obtain ⟨ns, hns, es⟩ : ∃ ns, ns ≤ 256 ∧ v1 = nI ns := by
    rw [ev1, h4]
    refine ⟨2 ^ ch, ?_, ?_⟩ <;> (obtain h | h | h | h | h | h | h | h | h : ch = 0 ∨ ch = 1 ∨ ch = 2 ∨ ch = 3 ∨ ch = 4 ∨ ch = 5 ∨ ch = 6 ∨ ch = 7 ∨ ch = 8 := by omega) <;> rw [h] <;> decide
  subst es
  refine lv_istore_n (lv' := [(2, .int (nI ns)), (0, .ref (ga 9)), (1, .ref (a 15))]) hx hb dX0_cheapest_6 rfl hl (by decide) rfl (fun ls hl => ?_)
  refine lv_aload_n hx hb dX0_cheapest_7 rfl (lv_at hl 1 rfl) ?_
  refine lv_iconst (v := -1) hx hb dX0_cheapest_8 (by decide) ?_
  refine va_put (D := G.1) (ci := 0) (v := .int (-1)) (C := RX0) (T := TX0) (N := 9) hx hb hts inX0 tyX0 tyX0_ok nmX0 hown hK.1 hP hD hS 0 rfl rfl 5 (by decide) (hts _ mf_X0_29) (fun _ h9 => h9) rfl (tyX0_ok 5 (by decide)) (rfl) (rfl) (Nat.le_of_ble_eq_true rfl) dX0_cheapest_9 (fun H locs hP hD hS => ?_)
  have hP : PP G [((ga 9), .inr (0, [.ref (ga 0), .ref (ga 1), .ref (ga 2), .ref (ga 3), .int (gf 4), .int (-1), .int (gf 6), .int (gf 7), .int (gf 8)])), ((ga 0), .inl (G.2.2.1, 144, .inl (gr 0))), ((ga 1), .inl (G.2.1, 8, .inl (gr 1))), ((ga 2), .inl (G.2.1, 8, .inl (gr 2))), ((ga 3), .inl (G.2.1, 256, .inl (gr 3))), ((a 15), .inr (2, [.int (f 0), .int (f 1), .int (f 2), .int (f 3), .int (f 4), .ref (b 3), .ref (a 6), .ref (a 7), .ref (a 8), .ref (a 9), .ref (a 10), .ref (a 11), .ref (a 12), .ref (a 13), .ref (a 14)])), ((a 6), .inl (G.2.2.1, 12, .inl (r 6))), ((a 7), .inl (G.2.1, 12, .inl (r 7))), ((a 8), .inl (G.2.1, 144, .inl (r 8))), ((a 9), .inl (G.2.1, 144, .inl (r 9))), ((a 10), .inl (G.2.1, 144, .inl (r 10))), ((a 11), .inl (G.2.2.1, 144, .inl (r 11))), ((a 12), .inl (G.2.1, 144, .inl (r 12))), ((a 13), .inl (G.2.1, 144, .inl (r 13))), ((a 14), .inl (G.2.1, 144, .inl (r 14))), ((b 3), .inr (5, [.ref (b 0), .ref (b 1), .ref (b 2), .int rc])), ((b 0), .inl (G.2.1, 25, .inl (q 0))), ((b 1), .inl (G.2.1, 25, .inl (q 1))), ((b 2), .inl (G.2.1, 25, .inl (q 2)))] H := hP
  have hD := D_as hP hD rfl
  refine lv_aload_n hx hb dX0_cheapest_12 rfl (lv_at hl 1 rfl) ?_
  refine lv_iconst (v := -1) hx hb dX0_cheapest_13 (by decide) ?_
  refine va_put (D := G.1) (ci := 0) (v := .int (-1)) (C := RX0) (T := TX0) (N := 9) hx hb hts inX0 tyX0 tyX0_ok nmX0 hown hK.1 hP hD hS 0 rfl rfl 6 (by decide) (hts _ mf_X0_32) (fun _ h9 => h9) rfl (tyX0_ok 6 (by decide)) (rfl) (rfl) (Nat.le_of_ble_eq_true rfl) dX0_cheapest_14 (fun H locs hP hD hS => ?_)
  have hP : PP G [((ga 9), .inr (0, [.ref (ga 0), .ref (ga 1), .ref (ga 2), .ref (ga 3), .int (gf 4), .int (-1), .int (-1), .int (gf 7), .int (gf 8)])), ((ga 0), .inl (G.2.2.1, 144, .inl (gr 0))), ((ga 1), .inl (G.2.1, 8, .inl (gr 1))), ((ga 2), .inl (G.2.1, 8, .inl (gr 2))), ((ga 3), .inl (G.2.1, 256, .inl (gr 3))), ((a 15), .inr (2, [.int (f 0), .int (f 1), .int (f 2), .int (f 3), .int (f 4), .ref (b 3), .ref (a 6), .ref (a 7), .ref (a 8), .ref (a 9), .ref (a 10), .ref (a 11), .ref (a 12), .ref (a 13), .ref (a 14)])), ((a 6), .inl (G.2.2.1, 12, .inl (r 6))), ((a 7), .inl (G.2.1, 12, .inl (r 7))), ((a 8), .inl (G.2.1, 144, .inl (r 8))), ((a 9), .inl (G.2.1, 144, .inl (r 9))), ((a 10), .inl (G.2.1, 144, .inl (r 10))), ((a 11), .inl (G.2.2.1, 144, .inl (r 11))), ((a 12), .inl (G.2.1, 144, .inl (r 12))), ((a 13), .inl (G.2.1, 144, .inl (r 13))), ((a 14), .inl (G.2.1, 144, .inl (r 14))), ((b 3), .inr (5, [.ref (b 0), .ref (b 1), .ref (b 2), .int rc])), ((b 0), .inl (G.2.1, 25, .inl (q 0))), ((b 1), .inl (G.2.1, 25, .inl (q 1))), ((b 2), .inl (G.2.1, 25, .inl (q 2)))] H := hP
  have hD := D_as hP hD rfl
  refine lv_aload_n hx hb dX0_cheapest_17 rfl (lv_at hl 1 rfl) ?_
  refine lv_aload_n hx hb dX0_cheapest_18 rfl (lv_at hl 2 rfl) ?_
  refine lv_iload_n hx hb dX0_cheapest_19 rfl (lv_at hl 0 rfl) ?_
  refine lv_iconst (v := 1) hx hb dX0_cheapest_20 (by decide) ?_
  refine lv_isub hx hb dX0_cheapest_21 ?_
  refine lv_topi (fun v2 ev2 => ?_)
  refine wrVI (rest := []) (q0 := 0) ⟨hx, hb, hml, hown, hts⟩ (c_X0_guards l G ga (fun k => match k with | 4 => (gf 4) | 5 => (-1) | 6 => (-1) | 7 => (gf 7) | _ => (gf 8)) (fun k => match k with | 0 => (gr 0) | 1 => (gr 1) | 2 => (gr 2) | _ => (gr 3)) a b (fun k => match k with | 0 => (f 0) | 1 => (f 1) | 2 => (f 2) | 3 => (f 3) | _ => (f 4)) (fun k => match k with | 6 => (r 6) | 7 => (r 7) | 8 => (r 8) | 9 => (r 9) | 10 => (r 10) | 11 => (r 11) | 12 => (r 12) | 13 => (r 13) | 14 => (r 14) | _ => (fun _ => 0)) (fun k => match k with | 0 => (q 0) | 1 => (q 1) | 2 => (q 2) | _ => (fun _ => 0)) (rc) rw cl hrw hcl h0 h1 ch hch h4 hcp (Or.inl rfl) hRB v2) mi_yX0_guards mv_yX0_guards ml_X0_113 ⟨rfl, rfl, Nat.le_of_ble_eq_true rfl, Nat.le_of_ble_eq_true rfl⟩ hK hP hD [0, 1, 2, 3, 4, 5, 6, 7, 8, 9, 10, 11, 12, 13, 14, 15, 16, 17, 18] rfl (by decide) rfl rfl rfl hl.1 rfl (Nat.le_of_ble_eq_true rfl) dX0_cheapest_22 ⟨Nat.zero_le _, Nat.zero_le _⟩ hS hA (fun r3 w4 H locs hw4 hP hS => ?_)
  obtain ⟨gx5, gy6, en7, rr8, ss9, bb10, qq11, cc12, hbp, hRB, rfl⟩ := hw4
  have h9_ := P_rg (s := 0) (hP rfl) rfl (Nat.le_of_ble_eq_true rfl)
  have hP : PP G [((ga 9), .inr (0, [.ref (ga 0), .ref (ga 1), .ref (ga 2), .ref (ga 3), .int (gf 4), .int gx5, .int gy6, .int (gf 7), .int (gf 8)])), ((ga 0), .inl (G.2.2.1, 144, .inl (gr 0))), ((ga 1), .inl (G.2.1, 8, .inl (gr 1))), ((ga 2), .inl (G.2.1, 8, .inl (gr 2))), ((ga 3), .inl (G.2.1, 256, .inl (gr 3))), ((a 15), .inr (2, [.int (f 0), .int (f 1), .int (f 2), .int (f 3), .int en7, .ref (b 3), .ref (a 6), .ref (a 7), .ref (a 8), .ref (a 9), .ref (a 10), .ref (a 11), .ref (a 12), .ref (a 13), .ref (a 14)])), ((a 6), .inl (G.2.2.1, 12, .inl (rr8 6))), ((a 7), .inl (G.2.1, 12, .inl (rr8 7))), ((a 8), .inl (G.2.1, 144, .inl (rr8 8))), ((a 9), .inl (G.2.1, 144, .inl (rr8 9))), ((a 10), .inl (G.2.1, 144, .inl (rr8 10))), ((a 11), .inl (G.2.2.1, 144, .inl (rr8 11))), ((a 12), .inl (G.2.1, 144, .inl (rr8 12))), ((a 13), .inl (G.2.1, 144, .inl (rr8 13))), ((a 14), .inl (G.2.1, 144, .inl (rr8 14))), ((b 3), .inr (5, [.ref (b 0), .ref (b 1), .ref (b 2), .int cc12])), ((b 0), .inl (G.2.1, 25, .inl ss9)), ((b 1), .inl (G.2.1, 25, .inl bb10)), ((b 2), .inl (G.2.1, 25, .inl qq11))] H := h9_
  have hD := D_as2 hP hD rfl
  refine lv_if_ne (tgt := 30) hx hb dX0_cheapest_25 (by decide) (fun c13 => ?_) (fun c13 => ?_)
  · refine lv_aload_n hx hb dX0_cheapest_30 rfl (lv_at hl 1 rfl) ?_
    refine lv_iload_n hx hb dX0_cheapest_31 rfl (lv_at hl 0 rfl) ?_
    refine wrVV (rest := []) (q0 := 0) ⟨hx, hb, hml, hown, hts⟩ (c_X0_priceSets l G ga (fun k => match k with | 4 => (gf 4) | 5 => gx5 | 6 => gy6 | 7 => (gf 7) | _ => (gf 8)) (fun k => match k with | 0 => (gr 0) | 1 => (gr 1) | 2 => (gr 2) | _ => (gr 3)) ch hch h4 ns hns) mi_yX0_priceSets mv_yX0_priceSets ml_X0_117 ⟨rfl, rfl, Nat.le_of_ble_eq_true rfl, Nat.le_of_ble_eq_true rfl⟩ hK hP hD [0, 1, 2, 3, 4] rfl (by decide) rfl rfl rfl hl.1 rfl (Nat.le_of_ble_eq_true rfl) dX0_cheapest_32 ⟨Nat.zero_le _, Nat.zero_le _⟩ hS hA (fun w15 H locs hw15 hP hS => ?_)
    obtain ⟨ps16, rfl⟩ := hw15
    have hP : PP G [((ga 9), .inr (0, [.ref (ga 0), .ref (ga 1), .ref (ga 2), .ref (ga 3), .int (gf 4), .int gx5, .int gy6, .int (gf 7), .int (gf 8)])), ((ga 0), .inl (G.2.2.1, 144, .inl (gr 0))), ((ga 1), .inl (G.2.1, 8, .inl (gr 1))), ((ga 2), .inl (G.2.1, 8, .inl (gr 2))), ((ga 3), .inl (G.2.1, 256, .inl ps16)), ((a 15), .inr (2, [.int (f 0), .int (f 1), .int (f 2), .int (f 3), .int en7, .ref (b 3), .ref (a 6), .ref (a 7), .ref (a 8), .ref (a 9), .ref (a 10), .ref (a 11), .ref (a 12), .ref (a 13), .ref (a 14)])), ((a 6), .inl (G.2.2.1, 12, .inl (rr8 6))), ((a 7), .inl (G.2.1, 12, .inl (rr8 7))), ((a 8), .inl (G.2.1, 144, .inl (rr8 8))), ((a 9), .inl (G.2.1, 144, .inl (rr8 9))), ((a 10), .inl (G.2.1, 144, .inl (rr8 10))), ((a 11), .inl (G.2.2.1, 144, .inl (rr8 11))), ((a 12), .inl (G.2.1, 144, .inl (rr8 12))), ((a 13), .inl (G.2.1, 144, .inl (rr8 13))), ((a 14), .inl (G.2.1, 144, .inl (rr8 14))), ((b 3), .inr (5, [.ref (b 0), .ref (b 1), .ref (b 2), .int cc12])), ((b 0), .inl (G.2.1, 25, .inl ss9)), ((b 1), .inl (G.2.1, 25, .inl bb10)), ((b 2), .inl (G.2.1, 25, .inl qq11))] H := hP rfl
    have hD := D_as2 hP hD rfl
    refine lv_aload_n hx hb dX0_cheapest_35 rfl (lv_at hl 1 rfl) ?_
    refine lv_iload_n hx hb dX0_cheapest_36 rfl (lv_at hl 0 rfl) ?_
    refine lv_iconst (v := -1) hx hb dX0_cheapest_37 (by decide) ?_
    refine rdV (rest := []) (q0 := 0) ⟨hx, hb, hml, hown, hts⟩ (c_X0_nextSet l G ga (fun k => match k with | 4 => (gf 4) | 5 => gx5 | 6 => gy6 | 7 => (gf 7) | _ => (gf 8)) (fun k => match k with | 0 => (gr 0) | 1 => (gr 1) | 2 => (gr 2) | _ => ps16) ns (-1) hns (Or.inl rfl)) mi_yX0_nextSet mv_yX0_nextSet ml_X0_120 ⟨rfl, rfl, Nat.le_of_ble_eq_true rfl, Nat.le_of_ble_eq_true rfl⟩ hK (hP.sub (ws' := [((ga 9), .inr (0, [.ref (ga 0), .ref (ga 1), .ref (ga 2), .ref (ga 3), .int (gf 4), .int gx5, .int gy6, .int (gf 7), .int (gf 8)])), ((ga 0), .inl (G.2.2.1, 144, .inl (gr 0))), ((ga 1), .inl (G.2.1, 8, .inl (gr 1))), ((ga 2), .inl (G.2.1, 8, .inl (gr 2))), ((ga 3), .inl (G.2.1, 256, .inl ps16))]) [0, 1, 2, 3, 4] rfl) rfl rfl rfl hl.1 rfl (Nat.le_of_ble_eq_true rfl) dX0_cheapest_38 ⟨Nat.zero_le _, Nat.zero_le _⟩ hS hA hP (fun r17 H locs hr17 hP hS => ?_)
    refine lv_istore_n (lv' := [(3, .int r17), (2, .int (nI ns)), (0, .ref (ga 9)), (1, .ref (a 15))]) hx hb dX0_cheapest_41 rfl hl (by decide) rfl (fun ls hl => ?_)
    refine lv_iconst (v := 0) hx hb dX0_cheapest_42 (by decide) ?_
    refine lv_istore (lv' := [(4, .int 0), (3, .int r17), (2, .int (nI ns)), (0, .ref (ga 9)), (1, .ref (a 15))]) hx hb dX0_cheapest_43 hl (by decide) rfl (fun ls hl => ?_)
    have loop : ∀ (k t : Nat) (se g5 g6 : Int32) (p3 : Nat → Int32) (e4 : Int32) (r2 : Nat → Nat → Int32) (s2 bf qu : Nat → Int32) (rc2 : Int32), t ≤ ns → ns < t + k → orN 256 se → bpP g5 g6 → RB adjR s2 → ∀ (H : Heap) (locs : List Loc) (ls : Array Slot), PP G ([((ga 9), .inr (0, [.ref (ga 0), .ref (ga 1), .ref (ga 2), .ref (ga 3), .int (gf 4), .int g5, .int g6, .int (gf 7), .int (gf 8)])), ((ga 0), .inl (G.2.2.1, 144, .inl (gr 0))), ((ga 1), .inl (G.2.1, 8, .inl (gr 1))), ((ga 2), .inl (G.2.1, 8, .inl (gr 2))), ((ga 3), .inl (G.2.1, 256, .inl p3)), ((a 15), .inr (2, [.int (f 0), .int (f 1), .int (f 2), .int (f 3), .int e4, .ref (b 3), .ref (a 6), .ref (a 7), .ref (a 8), .ref (a 9), .ref (a 10), .ref (a 11), .ref (a 12), .ref (a 13), .ref (a 14)])), ((a 6), .inl (G.2.2.1, 12, .inl (r2 6))), ((a 7), .inl (G.2.1, 12, .inl (r2 7))), ((a 8), .inl (G.2.1, 144, .inl (r2 8))), ((a 9), .inl (G.2.1, 144, .inl (r2 9))), ((a 10), .inl (G.2.1, 144, .inl (r2 10))), ((a 11), .inl (G.2.2.1, 144, .inl (r2 11))), ((a 12), .inl (G.2.1, 144, .inl (r2 12))), ((a 13), .inl (G.2.1, 144, .inl (r2 13))), ((a 14), .inl (G.2.1, 144, .inl (r2 14))), ((b 3), .inr (5, [.ref (b 0), .ref (b 1), .ref (b 2), .int rc2])), ((b 0), .inl (G.2.1, 25, .inl s2)), ((b 1), .inl (G.2.1, 25, .inl bf)), ((b 2), .inl (G.2.1, 25, .inl qu))]) H → va_S A s.heap H locs → lv_has ls 5 [(0, .ref (ga 9)), (1, .ref (a 15)), (2, .int (nI ns)), (3, .int se), (4, .int (nI t))] → W p l e ({ frames := 6, cells := 0, slots := 0, locals := 158 }) s m ([.ref (ga 9), .ref (a 15)] : List Value).toArray below meth c H locs 0 0 (MQ below (QwI G (fun v_ w => orN 256 v_ ∧ ∃ (g5 g6 : Int32) (p3 : Nat → Int32) (e4 : Int32) (r2 : Nat → Nat → Int32) (s2 bf qu : Nat → Int32) (rc2 : Int32), RB adjR s2 ∧ w = [((ga 9), .inr (0, [.ref (ga 0), .ref (ga 1), .ref (ga 2), .ref (ga 3), .int (gf 4), .int g5, .int g6, .int (gf 7), .int (gf 8)])), ((ga 0), .inl (G.2.2.1, 144, .inl (gr 0))), ((ga 1), .inl (G.2.1, 8, .inl (gr 1))), ((ga 2), .inl (G.2.1, 8, .inl (gr 2))), ((ga 3), .inl (G.2.1, 256, .inl p3)), ((a 15), .inr (2, [.int (f 0), .int (f 1), .int (f 2), .int (f 3), .int e4, .ref (b 3), .ref (a 6), .ref (a 7), .ref (a 8), .ref (a 9), .ref (a 10), .ref (a 11), .ref (a 12), .ref (a 13), .ref (a 14)])), ((a 6), .inl (G.2.2.1, 12, .inl (r2 6))), ((a 7), .inl (G.2.1, 12, .inl (r2 7))), ((a 8), .inl (G.2.1, 144, .inl (r2 8))), ((a 9), .inl (G.2.1, 144, .inl (r2 9))), ((a 10), .inl (G.2.1, 144, .inl (r2 10))), ((a 11), .inl (G.2.2.1, 144, .inl (r2 11))), ((a 12), .inl (G.2.1, 144, .inl (r2 12))), ((a 13), .inl (G.2.1, 144, .inl (r2 13))), ((a 14), .inl (G.2.1, 144, .inl (r2 14))), ((b 3), .inr (5, [.ref (b 0), .ref (b 1), .ref (b 2), .int rc2])), ((b 0), .inl (G.2.1, 25, .inl s2)), ((b 1), .inl (G.2.1, 25, .inl bf)), ((b 2), .inl (G.2.1, 25, .inl qu))]) A) ([.ref (ga 9), .ref (a 15)] : List Value).toArray s 0 0 A) (F0 m 45 ls []) := by
      intro k
      induction k with
      | zero => intro t se g5 g6 p3 e4 r2 s2 bf qu rc2 h1 h2; omega
      | succ k ih =>
        intro t se g5 g6 p3 e4 r2 s2 bf qu rc2 hi_t hk_t hse hbp hRB H locs ls hP hS hl
        have hD := D_as2 hP hD rfl
        refine lv_iload hx hb dX0_cheapest_45 (lv_at hl 4 rfl) ?_
        refine lv_iload_n hx hb dX0_cheapest_47 rfl (lv_at hl 2 rfl) ?_
        refine lv_icmp_ge (tgt := 80) hx hb dX0_cheapest_48 (by decide) (fun c18 => ?_) (fun c18 => ?_)
        · refine lv_iconst (v := -1) hx hb dX0_cheapest_80 (by decide) ?_
          exact wr_iret hx hb hr hlocks hS hP ⟨Or.inl rfl, g5, g6, p3, e4, (fun k => match k with | 6 => (r2 6) | 7 => (r2 7) | 8 => (r2 8) | 9 => (r2 9) | 10 => (r2 10) | 11 => (r2 11) | 12 => (r2 12) | 13 => (r2 13) | 14 => (r2 14) | _ => (fun _ => 0)), s2, bf, qu, rc2, hRB, rfl⟩ dX0_cheapest_81
        · have hlt := ge_f (by omega) (by omega) c18
          refine lv_iload_n hx hb dX0_cheapest_51 rfl (lv_at hl 3 rfl) ?_
          refine lv_iconst (v := -1) hx hb dX0_cheapest_52 (by decide) ?_
          refine lv_icmp_eq (tgt := 80) hx hb dX0_cheapest_53 (by decide) (fun c19 => ?_) (fun c19 => ?_)
          · refine lv_iconst (v := -1) hx hb dX0_cheapest_80 (by decide) ?_
            exact wr_iret hx hb hr hlocks hS hP ⟨Or.inl rfl, g5, g6, p3, e4, (fun k => match k with | 6 => (r2 6) | 7 => (r2 7) | 8 => (r2 8) | 9 => (r2 9) | 10 => (r2 10) | 11 => (r2 11) | 12 => (r2 12) | 13 => (r2 13) | 14 => (r2 14) | _ => (fun _ => 0)), s2, bf, qu, rc2, hRB, rfl⟩ dX0_cheapest_81
          · refine lv_aload_n hx hb dX0_cheapest_56 rfl (lv_at hl 0 rfl) ?_
            refine lv_aload_n hx hb dX0_cheapest_57 rfl (lv_at hl 1 rfl) ?_
            refine lv_iload_n hx hb dX0_cheapest_58 rfl (lv_at hl 3 rfl) ?_
            refine wrVI (rest := []) (q0 := 0) ⟨hx, hb, hml, hown, hts⟩ (c_X0_guards l G ga (fun k => match k with | 4 => (gf 4) | 5 => g5 | 6 => g6 | 7 => (gf 7) | _ => (gf 8)) (fun k => match k with | 0 => (gr 0) | 1 => (gr 1) | 2 => (gr 2) | _ => p3) a b (fun k => match k with | 0 => (f 0) | 1 => (f 1) | 2 => (f 2) | 3 => (f 3) | _ => e4) (fun k => match k with | 6 => (r2 6) | 7 => (r2 7) | 8 => (r2 8) | 9 => (r2 9) | 10 => (r2 10) | 11 => (r2 11) | 12 => (r2 12) | 13 => (r2 13) | 14 => (r2 14) | _ => (fun _ => 0)) (fun k => match k with | 0 => s2 | 1 => bf | 2 => qu | _ => (fun _ => 0)) (rc2) rw cl hrw hcl h0 h1 ch hch h4 hcp hbp hRB se) mi_yX0_guards mv_yX0_guards ml_X0_113 ⟨rfl, rfl, Nat.le_of_ble_eq_true rfl, Nat.le_of_ble_eq_true rfl⟩ hK hP hD [0, 1, 2, 3, 4, 5, 6, 7, 8, 9, 10, 11, 12, 13, 14, 15, 16, 17, 18] rfl (by decide) rfl rfl rfl hl.1 rfl (Nat.le_of_ble_eq_true rfl) dX0_cheapest_59 ⟨Nat.zero_le _, Nat.zero_le _⟩ hS hA (fun r20 w21 H locs hw21 hP hS => ?_)
            obtain ⟨gx22, gy23, en24, rr25, ss26, bb27, qq28, cc29, hbp, hRB, rfl⟩ := hw21
            have h9_ := P_rg (s := 0) (hP rfl) rfl (Nat.le_of_ble_eq_true rfl)
            have hP : PP G [((ga 9), .inr (0, [.ref (ga 0), .ref (ga 1), .ref (ga 2), .ref (ga 3), .int (gf 4), .int gx22, .int gy23, .int (gf 7), .int (gf 8)])), ((ga 0), .inl (G.2.2.1, 144, .inl (gr 0))), ((ga 1), .inl (G.2.1, 8, .inl (gr 1))), ((ga 2), .inl (G.2.1, 8, .inl (gr 2))), ((ga 3), .inl (G.2.1, 256, .inl p3)), ((a 15), .inr (2, [.int (f 0), .int (f 1), .int (f 2), .int (f 3), .int en24, .ref (b 3), .ref (a 6), .ref (a 7), .ref (a 8), .ref (a 9), .ref (a 10), .ref (a 11), .ref (a 12), .ref (a 13), .ref (a 14)])), ((a 6), .inl (G.2.2.1, 12, .inl (rr25 6))), ((a 7), .inl (G.2.1, 12, .inl (rr25 7))), ((a 8), .inl (G.2.1, 144, .inl (rr25 8))), ((a 9), .inl (G.2.1, 144, .inl (rr25 9))), ((a 10), .inl (G.2.1, 144, .inl (rr25 10))), ((a 11), .inl (G.2.2.1, 144, .inl (rr25 11))), ((a 12), .inl (G.2.1, 144, .inl (rr25 12))), ((a 13), .inl (G.2.1, 144, .inl (rr25 13))), ((a 14), .inl (G.2.1, 144, .inl (rr25 14))), ((b 3), .inr (5, [.ref (b 0), .ref (b 1), .ref (b 2), .int cc29])), ((b 0), .inl (G.2.1, 25, .inl ss26)), ((b 1), .inl (G.2.1, 25, .inl bb27)), ((b 2), .inl (G.2.1, 25, .inl qq28))] H := h9_
            have hD := D_as2 hP hD rfl
            refine lv_if_eq (tgt := 67) hx hb dX0_cheapest_62 (by decide) (fun c30 => ?_) (fun c30 => ?_)
            · refine lv_aload_n hx hb dX0_cheapest_67 rfl (lv_at hl 0 rfl) ?_
              refine lv_iload_n hx hb dX0_cheapest_68 rfl (lv_at hl 2 rfl) ?_
              refine lv_iload_n hx hb dX0_cheapest_69 rfl (lv_at hl 3 rfl) ?_
              refine rdV (rest := []) (q0 := 0) ⟨hx, hb, hml, hown, hts⟩ (c_X0_nextSet l G ga (fun k => match k with | 4 => (gf 4) | 5 => gx22 | 6 => gy23 | 7 => (gf 7) | _ => (gf 8)) (fun k => match k with | 0 => (gr 0) | 1 => (gr 1) | 2 => (gr 2) | _ => p3) ns se hns hse) mi_yX0_nextSet mv_yX0_nextSet ml_X0_120 ⟨rfl, rfl, Nat.le_of_ble_eq_true rfl, Nat.le_of_ble_eq_true rfl⟩ hK (hP.sub (ws' := [((ga 9), .inr (0, [.ref (ga 0), .ref (ga 1), .ref (ga 2), .ref (ga 3), .int (gf 4), .int gx22, .int gy23, .int (gf 7), .int (gf 8)])), ((ga 0), .inl (G.2.2.1, 144, .inl (gr 0))), ((ga 1), .inl (G.2.1, 8, .inl (gr 1))), ((ga 2), .inl (G.2.1, 8, .inl (gr 2))), ((ga 3), .inl (G.2.1, 256, .inl p3))]) [0, 1, 2, 3, 4] rfl) rfl rfl rfl hl.1 rfl (Nat.le_of_ble_eq_true rfl) dX0_cheapest_70 ⟨Nat.zero_le _, Nat.zero_le _⟩ hS hA hP (fun r31 H locs hr31 hP hS => ?_)
              refine lv_istore_n (lv' := [(3, .int r31), (0, .ref (ga 9)), (1, .ref (a 15)), (2, .int (nI ns)), (4, .int (nI t))]) hx hb dX0_cheapest_73 rfl hl (by decide) rfl (fun ls hl => ?_)
              obtain ⟨v32, ev32⟩ : ∃ y : Int32, y = (nI t) + Int32.ofInt (1) := ⟨_, rfl⟩
              refine lv_iinc (v := v32) (lv' := [(4, .int v32), (3, .int r31), (0, .ref (ga 9)), (1, .ref (a 15)), (2, .int (nI ns))]) hx hb dX0_cheapest_74 hl (k := 4) rfl ev32.symm (by decide) rfl (fun ls hl => ?_)
              refine lv_goto (tgt := 45) hx hb dX0_cheapest_77 (by decide) ?_
              exact ih (t + 1) r31 gx22 gy23 p3 (en24) (fun k => match k with | 6 => (rr25 6) | 7 => (rr25 7) | 8 => (rr25 8) | 9 => (rr25 9) | 10 => (rr25 10) | 11 => (rr25 11) | 12 => (rr25 12) | 13 => (rr25 13) | 14 => (rr25 14) | _ => (fun _ => 0)) ss26 bb27 qq28 (cc29) (by omega) (by omega) hr31 hbp hRB _ _ _ hP hS (by have e := nI_inc ev32; rw [e] at hl; exact lv_sub hl [2, 3, 4, 1, 0] rfl)
            · refine lv_iload_n hx hb dX0_cheapest_65 rfl (lv_at hl 3 rfl) ?_
              exact wr_iret hx hb hr hlocks hS hP ⟨hse, gx22, gy23, p3, en24, (fun k => match k with | 6 => (rr25 6) | 7 => (rr25 7) | 8 => (rr25 8) | 9 => (rr25 9) | 10 => (rr25 10) | 11 => (rr25 11) | 12 => (rr25 12) | 13 => (rr25 13) | 14 => (rr25 14) | _ => (fun _ => 0)), ss26, bb27, qq28, cc29, hRB, rfl⟩ dX0_cheapest_66
    exact loop (ns + 1) 0 r17 gx5 gy6 ps16 (en7) (fun k => match k with | 6 => (rr8 6) | 7 => (rr8 7) | 8 => (rr8 8) | 9 => (rr8 9) | 10 => (rr8 10) | 11 => (rr8 11) | 12 => (rr8 12) | 13 => (rr8 13) | 14 => (rr8 14) | _ => (fun _ => 0)) ss9 bb10 qq11 (cc12) (Nat.zero_le _) (by omega) hr17 hbp hRB _ _ _ hP hS (lv_sub hl [3, 4, 2, 1, 0] rfl)
  · refine lv_iconst (v := -1) hx hb dX0_cheapest_28 (by decide) ?_
    exact wr_iret hx hb hr hlocks hS hP ⟨Or.inl rfl, gx5, gy6, (gr 3), en7, (fun k => match k with | 6 => (rr8 6) | 7 => (rr8 7) | 8 => (rr8 8) | 9 => (rr8 9) | 10 => (rr8 10) | 11 => (rr8 11) | 12 => (rr8 12) | 13 => (rr8 13) | 14 => (rr8 14) | _ => (fun _ => 0)), ss9, bb10, qq11, cc12, hRB, rfl⟩ dX0_cheapest_29
