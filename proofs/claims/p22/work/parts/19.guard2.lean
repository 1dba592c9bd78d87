theorem ml_X0_123 : Cond.methodLink RX0 123 yX0_isBefore ∈ TB := TB_t3 239 rfl rfl
theorem mcode_yX0_isBefore : Cond.code yX0_isBefore cX0_isBefore 3 (some .boolean) ∈ TB := TB_t4 2 rfl rfl
theorem mi_yX0_isBefore : MI yX0_isBefore cX0_isBefore 3 (some .boolean) 2 := ⟨mz_RX0, mcode_yX0_isBefore, by decide +kernel, by decide +kernel, by decide +kernel⟩
theorem mim_yX0_isBefore : Cond.instanceMethod yX0_isBefore ∈ TB := TB_t4 1 rfl rfl
theorem msel_yX0_isBefore : Cond.selects yX0_isBefore.cls yX0_isBefore yX0_isBefore ∈ TB := TB_s (n := 9) 30 (by decide +kernel)
theorem mv_yX0_isBefore : Cond.instanceMethod yX0_isBefore ∈ TB ∧ Cond.selects yX0_isBefore.cls yX0_isBefore yX0_isBefore ∈ TB := ⟨mim_yX0_isBefore, msel_yX0_isBefore⟩
theorem kcX0_isBefore_0 : CHb cX0_isBefore 0 [27, 2, 159, 0, 18, 42, 180, 0, 22, 27, 46, 42, 180, 0, 22, 28, 46, 159, 0, 29, 27, 2, 159, 0, 18, 42, 180, 0, 22, 27, 46, 42, 180, 0, 22, 28, 46, 162, 0, 7, 4, 167, 0, 4, 3, 172, 27, 28, 164, 0, 7, 4, 167, 0, 4, 3, 172] := CHb_of (by decide +kernel)
theorem dX0_isBefore_0 : decode cX0_isBefore 0 = .ok (.iload_n 1, 1) := dw_27 (kcX0_isBefore_0 0 27 rfl)
theorem dX0_isBefore_1 : decode cX0_isBefore 1 = .ok (.iconst (-1), 1) := dw_2 (kcX0_isBefore_0 1 2 rfl)
theorem dX0_isBefore_2 : decode cX0_isBefore 2 = .ok (.if_icmp .eq 18, 3) := dw_159 (kcX0_isBefore_0 2 159 rfl) (kcX0_isBefore_0 3 0 rfl) (kcX0_isBefore_0 4 18 rfl) rfl
theorem dX0_isBefore_20 : decode cX0_isBefore 20 = .ok (.iload_n 1, 1) := dw_27 (kcX0_isBefore_0 20 27 rfl)
theorem dX0_isBefore_21 : decode cX0_isBefore 21 = .ok (.iconst (-1), 1) := dw_2 (kcX0_isBefore_0 21 2 rfl)
theorem dX0_isBefore_22 : decode cX0_isBefore 22 = .ok (.if_icmp .eq 18, 3) := dw_159 (kcX0_isBefore_0 22 159 rfl) (kcX0_isBefore_0 23 0 rfl) (kcX0_isBefore_0 24 18 rfl) rfl
theorem dX0_isBefore_40 : decode cX0_isBefore 40 = .ok (.iconst 1, 1) := dw_4 (kcX0_isBefore_0 40 4 rfl)
theorem dX0_isBefore_41 : decode cX0_isBefore 41 = .ok (.goto 4, 3) := dw_167 (kcX0_isBefore_0 41 167 rfl) (kcX0_isBefore_0 42 0 rfl) (kcX0_isBefore_0 43 4 rfl) rfl
theorem dX0_isBefore_45 : decode cX0_isBefore 45 = .ok (.ireturn, 1) := dw_172 (kcX0_isBefore_0 45 172 rfl)
theorem dX0_isBefore_5 : decode cX0_isBefore 5 = .ok (.aload_n 0, 1) := dw_42 (kcX0_isBefore_0 5 42 rfl)
theorem dX0_isBefore_6 : decode cX0_isBefore 6 = .ok (.getfield 22, 3) := dw_180 (kcX0_isBefore_0 6 180 rfl) (kcX0_isBefore_0 7 0 rfl) (kcX0_isBefore_0 8 22 rfl) rfl
theorem dX0_isBefore_9 : decode cX0_isBefore 9 = .ok (.iload_n 1, 1) := dw_27 (kcX0_isBefore_0 9 27 rfl)
theorem dX0_isBefore_10 : decode cX0_isBefore 10 = .ok (.iaload, 1) := dw_46 (kcX0_isBefore_0 10 46 rfl)
theorem dX0_isBefore_11 : decode cX0_isBefore 11 = .ok (.aload_n 0, 1) := dw_42 (kcX0_isBefore_0 11 42 rfl)
theorem dX0_isBefore_12 : decode cX0_isBefore 12 = .ok (.getfield 22, 3) := dw_180 (kcX0_isBefore_0 12 180 rfl) (kcX0_isBefore_0 13 0 rfl) (kcX0_isBefore_0 14 22 rfl) rfl
theorem dX0_isBefore_15 : decode cX0_isBefore 15 = .ok (.iload_n 2, 1) := dw_28 (kcX0_isBefore_0 15 28 rfl)
theorem dX0_isBefore_16 : decode cX0_isBefore 16 = .ok (.iaload, 1) := dw_46 (kcX0_isBefore_0 16 46 rfl)
theorem dX0_isBefore_17 : decode cX0_isBefore 17 = .ok (.if_icmp .eq 29, 3) := dw_159 (kcX0_isBefore_0 17 159 rfl) (kcX0_isBefore_0 18 0 rfl) (kcX0_isBefore_0 19 29 rfl) rfl
theorem dX0_isBefore_46 : decode cX0_isBefore 46 = .ok (.iload_n 1, 1) := dw_27 (kcX0_isBefore_0 46 27 rfl)
theorem dX0_isBefore_47 : decode cX0_isBefore 47 = .ok (.iload_n 2, 1) := dw_28 (kcX0_isBefore_0 47 28 rfl)
theorem dX0_isBefore_48 : decode cX0_isBefore 48 = .ok (.if_icmp .le 7, 3) := dw_164 (kcX0_isBefore_0 48 164 rfl) (kcX0_isBefore_0 49 0 rfl) (kcX0_isBefore_0 50 7 rfl) rfl
theorem dX0_isBefore_55 : decode cX0_isBefore 55 = .ok (.iconst 0, 1) := dw_3 (kcX0_isBefore_0 55 3 rfl)
theorem dX0_isBefore_56 : decode cX0_isBefore 56 = .ok (.ireturn, 1) := dw_172 (kcX0_isBefore_0 56 172 rfl)
theorem dX0_isBefore_51 : decode cX0_isBefore 51 = .ok (.iconst 1, 1) := dw_4 (kcX0_isBefore_0 51 4 rfl)
theorem dX0_isBefore_52 : decode cX0_isBefore 52 = .ok (.goto 4, 3) := dw_167 (kcX0_isBefore_0 52 167 rfl) (kcX0_isBefore_0 53 0 rfl) (kcX0_isBefore_0 54 4 rfl) rfl
theorem dX0_isBefore_25 : decode cX0_isBefore 25 = .ok (.aload_n 0, 1) := dw_42 (kcX0_isBefore_0 25 42 rfl)
theorem dX0_isBefore_26 : decode cX0_isBefore 26 = .ok (.getfield 22, 3) := dw_180 (kcX0_isBefore_0 26 180 rfl) (kcX0_isBefore_0 27 0 rfl) (kcX0_isBefore_0 28 22 rfl) rfl
theorem dX0_isBefore_29 : decode cX0_isBefore 29 = .ok (.iload_n 1, 1) := dw_27 (kcX0_isBefore_0 29 27 rfl)
theorem dX0_isBefore_30 : decode cX0_isBefore 30 = .ok (.iaload, 1) := dw_46 (kcX0_isBefore_0 30 46 rfl)
theorem dX0_isBefore_31 : decode cX0_isBefore 31 = .ok (.aload_n 0, 1) := dw_42 (kcX0_isBefore_0 31 42 rfl)
theorem dX0_isBefore_32 : decode cX0_isBefore 32 = .ok (.getfield 22, 3) := dw_180 (kcX0_isBefore_0 32 180 rfl) (kcX0_isBefore_0 33 0 rfl) (kcX0_isBefore_0 34 22 rfl) rfl
theorem dX0_isBefore_35 : decode cX0_isBefore 35 = .ok (.iload_n 2, 1) := dw_28 (kcX0_isBefore_0 35 28 rfl)
theorem dX0_isBefore_36 : decode cX0_isBefore 36 = .ok (.iaload, 1) := dw_46 (kcX0_isBefore_0 36 46 rfl)
theorem dX0_isBefore_37 : decode cX0_isBefore 37 = .ok (.if_icmp .ge 7, 3) := dw_162 (kcX0_isBefore_0 37 162 rfl) (kcX0_isBefore_0 38 0 rfl) (kcX0_isBefore_0 39 7 rfl) rfl
theorem dX0_isBefore_44 : decode cX0_isBefore 44 = .ok (.iconst 0, 1) := dw_3 (kcX0_isBefore_0 44 3 rfl)
theorem kcX0_nextSet_0 : CHb cX0_nextSet 0 [2, 62, 27, 4, 100, 54, 4, 21, 4, 155, 0, 43, 42, 28, 21, 4, 182, 0, 123, 153, 0, 27, 29, 2, 159, 0, 19, 42, 180, 0, 22, 21, 4, 46, 42, 180, 0, 22, 29, 46, 162, 0, 6, 21, 4, 62, 132, 4, 255, 167, 255, 214, 29, 172] := CHb_of (by decide +kernel)
theorem dX0_nextSet_0 : decode cX0_nextSet 0 = .ok (.iconst (-1), 1) := dw_2 (kcX0_nextSet_0 0 2 rfl)
theorem dX0_nextSet_1 : decode cX0_nextSet 1 = .ok (.istore_n 3, 1) := dw_62 (kcX0_nextSet_0 1 62 rfl)
theorem dX0_nextSet_2 : decode cX0_nextSet 2 = .ok (.iload_n 1, 1) := dw_27 (kcX0_nextSet_0 2 27 rfl)
theorem dX0_nextSet_3 : decode cX0_nextSet 3 = .ok (.iconst 1, 1) := dw_4 (kcX0_nextSet_0 3 4 rfl)
theorem dX0_nextSet_4 : decode cX0_nextSet 4 = .ok (.isub, 1) := dw_100 (kcX0_nextSet_0 4 100 rfl)
theorem dX0_nextSet_5 : decode cX0_nextSet 5 = .ok (.istore 4, 2) := dw_54 (kcX0_nextSet_0 5 54 rfl) (kcX0_nextSet_0 6 4 rfl)
theorem dX0_nextSet_7 : decode cX0_nextSet 7 = .ok (.iload 4, 2) := dw_21 (kcX0_nextSet_0 7 21 rfl) (kcX0_nextSet_0 8 4 rfl)
theorem dX0_nextSet_9 : decode cX0_nextSet 9 = .ok (.ifCond .lt 43, 3) := dw_155 (kcX0_nextSet_0 9 155 rfl) (kcX0_nextSet_0 10 0 rfl) (kcX0_nextSet_0 11 43 rfl) rfl
theorem dX0_nextSet_12 : decode cX0_nextSet 12 = .ok (.aload_n 0, 1) := dw_42 (kcX0_nextSet_0 12 42 rfl)
theorem dX0_nextSet_13 : decode cX0_nextSet 13 = .ok (.iload_n 2, 1) := dw_28 (kcX0_nextSet_0 13 28 rfl)
theorem dX0_nextSet_14 : decode cX0_nextSet 14 = .ok (.iload 4, 2) := dw_21 (kcX0_nextSet_0 14 21 rfl) (kcX0_nextSet_0 15 4 rfl)
theorem dX0_nextSet_16 : decode cX0_nextSet 16 = .ok (.invokevirtual 123, 3) := dw_182 (kcX0_nextSet_0 16 182 rfl) (kcX0_nextSet_0 17 0 rfl) (kcX0_nextSet_0 18 123 rfl) rfl
theorem dX0_nextSet_19 : decode cX0_nextSet 19 = .ok (.ifCond .eq 27, 3) := dw_153 (kcX0_nextSet_0 19 153 rfl) (kcX0_nextSet_0 20 0 rfl) (kcX0_nextSet_0 21 27 rfl) rfl
theorem dX0_nextSet_46 : decode cX0_nextSet 46 = .ok (.iinc 4 (-1), 3) := dw_132 (kcX0_nextSet_0 46 132 rfl) (kcX0_nextSet_0 47 4 rfl) (kcX0_nextSet_0 48 255 rfl) rfl
theorem dX0_nextSet_49 : decode cX0_nextSet 49 = .ok (.goto (-42), 3) := dw_167 (kcX0_nextSet_0 49 167 rfl) (kcX0_nextSet_0 50 255 rfl) (kcX0_nextSet_0 51 214 rfl) rfl
theorem dX0_nextSet_22 : decode cX0_nextSet 22 = .ok (.iload_n 3, 1) := dw_29 (kcX0_nextSet_0 22 29 rfl)
theorem dX0_nextSet_23 : decode cX0_nextSet 23 = .ok (.iconst (-1), 1) := dw_2 (kcX0_nextSet_0 23 2 rfl)
theorem dX0_nextSet_24 : decode cX0_nextSet 24 = .ok (.if_icmp .eq 19, 3) := dw_159 (kcX0_nextSet_0 24 159 rfl) (kcX0_nextSet_0 25 0 rfl) (kcX0_nextSet_0 26 19 rfl) rfl
theorem dX0_nextSet_43 : decode cX0_nextSet 43 = .ok (.iload 4, 2) := dw_21 (kcX0_nextSet_0 43 21 rfl) (kcX0_nextSet_0 44 4 rfl)
theorem dX0_nextSet_45 : decode cX0_nextSet 45 = .ok (.istore_n 3, 1) := dw_62 (kcX0_nextSet_0 45 62 rfl)
theorem dX0_nextSet_27 : decode cX0_nextSet 27 = .ok (.aload_n 0, 1) := dw_42 (kcX0_nextSet_0 27 42 rfl)
theorem dX0_nextSet_28 : decode cX0_nextSet 28 = .ok (.getfield 22, 3) := dw_180 (kcX0_nextSet_0 28 180 rfl) (kcX0_nextSet_0 29 0 rfl) (kcX0_nextSet_0 30 22 rfl) rfl
theorem dX0_nextSet_31 : decode cX0_nextSet 31 = .ok (.iload 4, 2) := dw_21 (kcX0_nextSet_0 31 21 rfl) (kcX0_nextSet_0 32 4 rfl)
theorem dX0_nextSet_33 : decode cX0_nextSet 33 = .ok (.iaload, 1) := dw_46 (kcX0_nextSet_0 33 46 rfl)
theorem dX0_nextSet_34 : decode cX0_nextSet 34 = .ok (.aload_n 0, 1) := dw_42 (kcX0_nextSet_0 34 42 rfl)
theorem dX0_nextSet_35 : decode cX0_nextSet 35 = .ok (.getfield 22, 3) := dw_180 (kcX0_nextSet_0 35 180 rfl) (kcX0_nextSet_0 36 0 rfl) (kcX0_nextSet_0 37 22 rfl) rfl
theorem dX0_nextSet_38 : decode cX0_nextSet 38 = .ok (.iload_n 3, 1) := dw_29 (kcX0_nextSet_0 38 29 rfl)
theorem dX0_nextSet_39 : decode cX0_nextSet 39 = .ok (.iaload, 1) := dw_46 (kcX0_nextSet_0 39 46 rfl)
theorem dX0_nextSet_40 : decode cX0_nextSet 40 = .ok (.if_icmp .ge 6, 3) := dw_162 (kcX0_nextSet_0 40 162 rfl) (kcX0_nextSet_0 41 0 rfl) (kcX0_nextSet_0 42 6 rfl) rfl
theorem dX0_nextSet_52 : decode cX0_nextSet 52 = .ok (.iload_n 3, 1) := dw_29 (kcX0_nextSet_0 52 29 rfl)
theorem dX0_nextSet_53 : decode cX0_nextSet 53 = .ok (.ireturn, 1) := dw_172 (kcX0_nextSet_0 53 172 rfl)
/-- NONE, or a number below n -/
def orN (n : Nat) (x : Int32) : Prop := x = -1 ∨ ∃ u, u < n ∧ x = nI u
/-- the best pair: none, or a place -/
def bpP (x y : Int32) : Prop := x = -1 ∨ ∃ br bc, br < 12 ∧ bc < 12 ∧ x = nI br ∧ y = nI bc
def dn (m : Nat) : Int32 := nI m - 1
theorem dn_s (m : Nat) : dn (m + 1) = nI m := nI_pred m
theorem dn_0 : dn 0 < 0 := by decide
theorem dn_i {v : Int32} {m : Nat} (h : v = nI m + Int32.ofInt (-1)) : v = dn m := by rw [h]; unfold dn; rw [Int32.sub_eq_add_neg]; rfl
set_option maxHeartbeats 4000000 in
set_option maxRecDepth 100000 in
theorem c_X0_isBefore (l : Launch) (G : GG) (ga : Nat → Nat) (gf : Nat → Int32) (gr : Nat → Nat → Int32) (p1 : Int32) (v_ : Nat) (hv : v_ < 256) (h1 : orN 256 p1) : RdI l yX0_isBefore cX0_isBefore 3 (some .boolean) ({ frames := 0, cells := 0, slots := 0, locals := 0 }) G ([((ga 9), .inr (0, [.ref (ga 0), .ref (ga 1), .ref (ga 2), .ref (ga 3), .int (gf 4), .int (gf 5), .int (gf 6), .int (gf 7), .int (gf 8)])), ((ga 0), .inl (G.2.2.1, 144, .inl (gr 0))), ((ga 1), .inl (G.2.1, 8, .inl (gr 1))), ((ga 2), .inl (G.2.1, 8, .inl (gr 2))), ((ga 3), .inl (G.2.1, 256, .inl (gr 3)))]) [.ref (ga 9), .int p1, .int (nI v_)] (fun _ => True) := by
  refine rd_entry (by decide +kernel) (Nat.le_of_ble_eq_true rfl) ?_
  intro p e s m below meth c C0 hP hK ls hl
  have hS : va_S (fun q => s.heap.size ≤ q) s.heap s.heap [] := va_S.rf
  have hA : ∀ q, s.heap.size ≤ q → (fun q => s.heap.size ≤ q) q := fun _ h => h
  obtain ⟨hx, hb, hml, hown, hts, hr, hlocks, hin⟩ := C0
  have hown : s.vm.findClass RX0 = some m.cls := hown
  have hl : lv_has ls 3 [(0, .ref (ga 9)), (1, .int p1), (2, .int (nI v_))] := hl
  refine lv_iload_n hx hb dX0_isBefore_0 rfl (lv_at hl 1 rfl) ?_
  refine lv_iconst (v := -1) hx hb dX0_isBefore_1 (by decide) ?_
  refine lv_icmp_eq (tgt := 20) hx hb dX0_isBefore_2 (by decide) (fun c1 => ?_) (fun c1 => ?_)
  · refine lv_iload_n hx hb dX0_isBefore_20 rfl (lv_at hl 1 rfl) ?_
    refine lv_iconst (v := -1) hx hb dX0_isBefore_21 (by decide) ?_
    refine lv_icmp_eq (tgt := 40) hx hb dX0_isBefore_22 (by decide) (fun _ => ?_) (fun c2 => absurd (c1) c2)
    refine lv_iconst (v := 1) hx hb dX0_isBefore_40 (by decide) ?_
    refine lv_goto (tgt := 45) hx hb dX0_isBefore_41 (by decide) ?_
    exact rd_zret hx hb hr hlocks (Or.inr rfl) hS trivial dX0_isBefore_45
  · obtain ⟨u, hu, eu⟩ := h1.resolve_left c1
    refine lv_aload_n hx hb dX0_isBefore_5 rfl (lv_at hl 0 rfl) ?_
    refine va_get (D := G.1) (ci := 0) (v := .ref (ga 3)) (C := RX0) (T := TX0) (N := 9) hx hb hts inX0 hown hK.1 hP 0 rfl rfl 3 (by decide) (hts _ mf_X0_22) (fun _ h9 => h9) rfl dX0_isBefore_6 ?_
    refine lv_iload_n hx hb dX0_isBefore_9 rfl (lv_at hl 1 rfl) ?_
    refine xiald hx hb hK hP 4 (u) (eu) (hu) (by omega) rfl dX0_isBefore_10 ?_
    refine lv_topi (fun v3 ev3 => ?_)
    refine lv_aload_n hx hb dX0_isBefore_11 rfl (lv_at hl 0 rfl) ?_
    refine va_get (D := G.1) (ci := 0) (v := .ref (ga 3)) (C := RX0) (T := TX0) (N := 9) hx hb hts inX0 hown hK.1 hP 0 rfl rfl 3 (by decide) (hts _ mf_X0_22) (fun _ h9 => h9) rfl dX0_isBefore_12 ?_
    refine lv_iload_n hx hb dX0_isBefore_15 rfl (lv_at hl 2 rfl) ?_
    refine xiald hx hb hK hP 4 (v_) (rfl) (hv) (by omega) rfl dX0_isBefore_16 ?_
    refine lv_topi (fun v4 ev4 => ?_)
    refine lv_icmp_eq (tgt := 46) hx hb dX0_isBefore_17 (by decide) (fun c5 => ?_) (fun c5 => ?_)
    · refine lv_iload_n hx hb dX0_isBefore_46 rfl (lv_at hl 1 rfl) ?_
      refine lv_iload_n hx hb dX0_isBefore_47 rfl (lv_at hl 2 rfl) ?_
      refine lv_icmp_le (tgt := 55) hx hb dX0_isBefore_48 (by decide) (fun c6 => ?_) (fun c6 => ?_)
      · refine lv_iconst (v := 0) hx hb dX0_isBefore_55 (by decide) ?_
        exact rd_zret hx hb hr hlocks (Or.inl rfl) hS trivial dX0_isBefore_56
      · refine lv_iconst (v := 1) hx hb dX0_isBefore_51 (by decide) ?_
        refine lv_goto (tgt := 56) hx hb dX0_isBefore_52 (by decide) ?_
        exact rd_zret hx hb hr hlocks (Or.inr rfl) hS trivial dX0_isBefore_56
    · refine lv_iload_n hx hb dX0_isBefore_20 rfl (lv_at hl 1 rfl) ?_
      refine lv_iconst (v := -1) hx hb dX0_isBefore_21 (by decide) ?_
      refine lv_icmp_eq (tgt := 40) hx hb dX0_isBefore_22 (by decide) (fun c7 => absurd c7 (c1)) (fun _ => ?_)
      refine lv_aload_n hx hb dX0_isBefore_25 rfl (lv_at hl 0 rfl) ?_
      refine va_get (D := G.1) (ci := 0) (v := .ref (ga 3)) (C := RX0) (T := TX0) (N := 9) hx hb hts inX0 hown hK.1 hP 0 rfl rfl 3 (by decide) (hts _ mf_X0_22) (fun _ h9 => h9) rfl dX0_isBefore_26 ?_
      refine lv_iload_n hx hb dX0_isBefore_29 rfl (lv_at hl 1 rfl) ?_
      refine xiald hx hb hK hP 4 (u) (eu) (hu) (by omega) rfl dX0_isBefore_30 ?_
      refine lv_topi (fun v8 ev8 => ?_)
      refine lv_aload_n hx hb dX0_isBefore_31 rfl (lv_at hl 0 rfl) ?_
      refine va_get (D := G.1) (ci := 0) (v := .ref (ga 3)) (C := RX0) (T := TX0) (N := 9) hx hb hts inX0 hown hK.1 hP 0 rfl rfl 3 (by decide) (hts _ mf_X0_22) (fun _ h9 => h9) rfl dX0_isBefore_32 ?_
      refine lv_iload_n hx hb dX0_isBefore_35 rfl (lv_at hl 2 rfl) ?_
      refine xiald hx hb hK hP 4 (v_) (rfl) (hv) (by omega) rfl dX0_isBefore_36 ?_
      refine lv_topi (fun v9 ev9 => ?_)
      refine lv_icmp_ge (tgt := 44) hx hb dX0_isBefore_37 (by decide) (fun c10 => ?_) (fun c10 => ?_)
      · refine lv_iconst (v := 0) hx hb dX0_isBefore_44 (by decide) ?_
        exact rd_zret hx hb hr hlocks (Or.inl rfl) hS trivial dX0_isBefore_45
      · refine lv_iconst (v := 1) hx hb dX0_isBefore_40 (by decide) ?_
        refine lv_goto (tgt := 45) hx hb dX0_isBefore_41 (by decide) ?_
        exact rd_zret hx hb hr hlocks (Or.inr rfl) hS trivial dX0_isBefore_45
set_option maxHeartbeats 4000000 in
set_option maxRecDepth 100000 in
theorem c_X0_nextSet (l : Launch) (G : GG) (ga : Nat → Nat) (gf : Nat → Int32) (gr : Nat → Nat → Int32) (ns : Nat) (p2 : Int32) (hns : ns ≤ 256) (h2 : orN 256 p2) : RdI l yX0_nextSet cX0_nextSet 5 (some .int) ({ frames := 1, cells := 0, slots := 0, locals := 22 }) G ([((ga 9), .inr (0, [.ref (ga 0), .ref (ga 1), .ref (ga 2), .ref (ga 3), .int (gf 4), .int (gf 5), .int (gf 6), .int (gf 7), .int (gf 8)])), ((ga 0), .inl (G.2.2.1, 144, .inl (gr 0))), ((ga 1), .inl (G.2.1, 8, .inl (gr 1))), ((ga 2), .inl (G.2.1, 8, .inl (gr 2))), ((ga 3), .inl (G.2.1, 256, .inl (gr 3)))]) [.ref (ga 9), .int (nI ns), .int p2] (fun q => orN 256 q) := by
  refine rd_entry (by decide +kernel) (Nat.le_of_ble_eq_true rfl) ?_
  intro p e s m below meth c C0 hP hK ls hl
  have hS : va_S (fun q => s.heap.size ≤ q) s.heap s.heap [] := va_S.rf
  have hA : ∀ q, s.heap.size ≤ q → (fun q => s.heap.size ≤ q) q := fun _ h => h
  obtain ⟨hx, hb, hml, hown, hts, hr, hlocks, hin⟩ := C0
  have hown : s.vm.findClass RX0 = some m.cls := hown
  have hl : lv_has ls 5 [(0, .ref (ga 9)), (1, .int (nI ns)), (2, .int p2)] := hl
  refine lv_iconst (v := -1) hx hb dX0_nextSet_0 (by decide) ?_
  refine lv_istore_n (lv' := [(3, .int (-1)), (0, .ref (ga 9)), (1, .int (nI ns)), (2, .int p2)]) hx hb dX0_nextSet_1 rfl hl (by decide) rfl (fun ls hl => ?_)
  refine lv_iload_n hx hb dX0_nextSet_2 rfl (lv_at hl 2 rfl) ?_
  refine lv_iconst (v := 1) hx hb dX0_nextSet_3 (by decide) ?_
  refine lv_isub hx hb dX0_nextSet_4 ?_
  refine lv_topi (fun v1 ev1 => ?_)
  refine lv_istore (lv' := [(4, .int v1), (3, .int (-1)), (0, .ref (ga 9)), (1, .int (nI ns)), (2, .int p2)]) hx hb dX0_nextSet_5 hl (by decide) rfl (fun ls hl => ?_)
  obtain rfl : v1 = dn ns := ev1
  have loop : ∀ (k t : Nat) (fo : Int32), t ≤ ns → ns < t + k → orN 256 fo → ∀ (H : Heap) (locs : List Loc) (ls : Array Slot), PP G ([((ga 9), .inr (0, [.ref (ga 0), .ref (ga 1), .ref (ga 2), .ref (ga 3), .int (gf 4), .int (gf 5), .int (gf 6), .int (gf 7), .int (gf 8)])), ((ga 0), .inl (G.2.2.1, 144, .inl (gr 0))), ((ga 1), .inl (G.2.1, 8, .inl (gr 1))), ((ga 2), .inl (G.2.1, 8, .inl (gr 2))), ((ga 3), .inl (G.2.1, 256, .inl (gr 3)))]) H → va_S (fun q => s.heap.size ≤ q) s.heap H locs → lv_has ls 5 [(0, .ref (ga 9)), (2, .int p2), (3, .int fo), (4, .int (dn (ns - t)))] → W p l e ({ frames := 1, cells := 0, slots := 0, locals := 22 }) s m ([.ref (ga 9), .int (nI ns), .int p2] : List Value).toArray below meth c H locs 0 0 (MQ below (QrI (fun q => orN 256 q) (fun q => s.heap.size ≤ q)) ([.ref (ga 9), .int (nI ns), .int p2] : List Value).toArray s 0 0 (fun q => s.heap.size ≤ q)) (F0 m 7 ls []) := by
    intro k
    induction k with
    | zero => intro t fo h1 h2; omega
    | succ k ih =>
      intro t fo hi_t hk_t hfo H locs ls hP hS hl
      refine lv_iload hx hb dX0_nextSet_7 (lv_at hl 3 rfl) ?_
      rcases Nat.lt_or_ge t ns with htn | htn
      · obtain ⟨m_, hm⟩ : ∃ m_, ns - t = m_ + 1 := ⟨ns - t - 1, by omega⟩
        rw [hm, dn_s] at hl ⊢
        refine lv_if_lt (tgt := 52) hx hb dX0_nextSet_9 (by decide) (fun c2 => absurd c2 (nI_pos (by omega))) (fun _ => ?_)
        refine lv_aload_n hx hb dX0_nextSet_12 rfl (lv_at hl 0 rfl) ?_
        refine lv_iload_n hx hb dX0_nextSet_13 rfl (lv_at hl 1 rfl) ?_
        refine lv_iload hx hb dX0_nextSet_14 (lv_at hl 3 rfl) ?_
        refine rdV (rest := []) (q0 := 0) ⟨hx, hb, hml, hown, hts⟩ (c_X0_isBefore l G ga gf gr p2 m_ (by omega) h2) mi_yX0_isBefore mv_yX0_isBefore ml_X0_123 ⟨rfl, rfl, Nat.le_of_ble_eq_true rfl, Nat.le_of_ble_eq_true rfl⟩ hK (hP) rfl rfl rfl hl.1 rfl (Nat.le_of_ble_eq_true rfl) dX0_nextSet_16 ⟨Nat.zero_le _, Nat.zero_le _⟩ hS hA hP (fun r3 H locs hr3 hP hS => ?_)
        refine lv_if_eq (tgt := 46) hx hb dX0_nextSet_19 (by decide) (fun c4 => ?_) (fun c4 => ?_)
        · obtain ⟨v5, ev5⟩ : ∃ y : Int32, y = (nI m_) + Int32.ofInt (-1) := ⟨_, rfl⟩
          refine lv_iinc (v := v5) (lv' := [(4, .int v5), (0, .ref (ga 9)), (2, .int p2), (3, .int fo)]) hx hb dX0_nextSet_46 hl (k := 3) rfl ev5.symm (by decide) rfl (fun ls hl => ?_)
          refine lv_goto (tgt := 7) hx hb dX0_nextSet_49 (by decide) ?_
          exact ih (t + 1) fo (by omega) (by omega) (hfo) _ _ _ hP hS (by have e := dn_i ev5; rw [e] at hl; rw [show ns - (t + 1) = m_ by omega]; exact lv_sub hl [1, 2, 3, 0] rfl)
        · refine lv_iload_n hx hb dX0_nextSet_22 rfl (lv_at hl 2 rfl) ?_
          refine lv_iconst (v := -1) hx hb dX0_nextSet_23 (by decide) ?_
          refine lv_icmp_eq (tgt := 43) hx hb dX0_nextSet_24 (by decide) (fun c6 => ?_) (fun c6 => ?_)
          · refine lv_iload hx hb dX0_nextSet_43 (lv_at hl 3 rfl) ?_
            refine lv_istore_n (lv' := [(3, .int (nI m_)), (0, .ref (ga 9)), (2, .int p2), (4, .int (nI m_))]) hx hb dX0_nextSet_45 rfl hl (by decide) rfl (fun ls hl => ?_)
            obtain ⟨v7, ev7⟩ : ∃ y : Int32, y = (nI m_) + Int32.ofInt (-1) := ⟨_, rfl⟩
            refine lv_iinc (v := v7) (lv' := [(4, .int v7), (3, .int (nI m_)), (0, .ref (ga 9)), (2, .int p2)]) hx hb dX0_nextSet_46 hl (k := 3) rfl ev7.symm (by decide) rfl (fun ls hl => ?_)
            refine lv_goto (tgt := 7) hx hb dX0_nextSet_49 (by decide) ?_
            exact ih (t + 1) (nI m_) (by omega) (by omega) (Or.inr ⟨m_, by omega, rfl⟩) _ _ _ hP hS (by have e := dn_i ev7; rw [e] at hl; rw [show ns - (t + 1) = m_ by omega]; exact lv_sub hl [2, 3, 1, 0] rfl)
          · obtain ⟨u, hu, eu⟩ := hfo.resolve_left c6
            refine lv_aload_n hx hb dX0_nextSet_27 rfl (lv_at hl 0 rfl) ?_
            refine va_get (D := G.1) (ci := 0) (v := .ref (ga 3)) (C := RX0) (T := TX0) (N := 9) hx hb hts inX0 hown hK.1 hP 0 rfl rfl 3 (by decide) (hts _ mf_X0_22) (fun _ h9 => h9) rfl dX0_nextSet_28 ?_
            refine lv_iload hx hb dX0_nextSet_31 (lv_at hl 3 rfl) ?_
            refine xiald hx hb hK hP 4 (m_) (rfl) (by omega) (by omega) rfl dX0_nextSet_33 ?_
            refine lv_topi (fun v8 ev8 => ?_)
            refine lv_aload_n hx hb dX0_nextSet_34 rfl (lv_at hl 0 rfl) ?_
            refine va_get (D := G.1) (ci := 0) (v := .ref (ga 3)) (C := RX0) (T := TX0) (N := 9) hx hb hts inX0 hown hK.1 hP 0 rfl rfl 3 (by decide) (hts _ mf_X0_22) (fun _ h9 => h9) rfl dX0_nextSet_35 ?_
            refine lv_iload_n hx hb dX0_nextSet_38 rfl (lv_at hl 2 rfl) ?_
            refine xiald hx hb hK hP 4 (u) (eu) (hu) (by omega) rfl dX0_nextSet_39 ?_
            refine lv_topi (fun v9 ev9 => ?_)
            refine lv_icmp_ge (tgt := 46) hx hb dX0_nextSet_40 (by decide) (fun c10 => ?_) (fun c10 => ?_)
            · obtain ⟨v11, ev11⟩ : ∃ y : Int32, y = (nI m_) + Int32.ofInt (-1) := ⟨_, rfl⟩
              refine lv_iinc (v := v11) (lv' := [(4, .int v11), (0, .ref (ga 9)), (2, .int p2), (3, .int fo)]) hx hb dX0_nextSet_46 hl (k := 3) rfl ev11.symm (by decide) rfl (fun ls hl => ?_)
              refine lv_goto (tgt := 7) hx hb dX0_nextSet_49 (by decide) ?_
              exact ih (t + 1) fo (by omega) (by omega) (hfo) _ _ _ hP hS (by have e := dn_i ev11; rw [e] at hl; rw [show ns - (t + 1) = m_ by omega]; exact lv_sub hl [1, 2, 3, 0] rfl)
            · refine lv_iload hx hb dX0_nextSet_43 (lv_at hl 3 rfl) ?_
              refine lv_istore_n (lv' := [(3, .int (nI m_)), (0, .ref (ga 9)), (2, .int p2), (4, .int (nI m_))]) hx hb dX0_nextSet_45 rfl hl (by decide) rfl (fun ls hl => ?_)
              obtain ⟨v12, ev12⟩ : ∃ y : Int32, y = (nI m_) + Int32.ofInt (-1) := ⟨_, rfl⟩
              refine lv_iinc (v := v12) (lv' := [(4, .int v12), (3, .int (nI m_)), (0, .ref (ga 9)), (2, .int p2)]) hx hb dX0_nextSet_46 hl (k := 3) rfl ev12.symm (by decide) rfl (fun ls hl => ?_)
              refine lv_goto (tgt := 7) hx hb dX0_nextSet_49 (by decide) ?_
              exact ih (t + 1) (nI m_) (by omega) (by omega) (Or.inr ⟨m_, by omega, rfl⟩) _ _ _ hP hS (by have e := dn_i ev12; rw [e] at hl; rw [show ns - (t + 1) = m_ by omega]; exact lv_sub hl [2, 3, 1, 0] rfl)
      · have hm : ns - t = 0 := by omega
        rw [hm] at hl ⊢
        refine lv_if_lt (tgt := 52) hx hb dX0_nextSet_9 (by decide) (fun _ => ?_) (fun c13 => absurd (dn_0) c13)
        refine lv_iload_n hx hb dX0_nextSet_52 rfl (lv_at hl 2 rfl) ?_
        exact rd_iret hx hb hr hlocks hS hfo dX0_nextSet_53
  exact loop (ns + 1) 0 (-1) (Nat.zero_le _) (by omega) (Or.inl rfl) _ _ _ hP hS (lv_sub hl [2, 4, 1, 0] rfl)
