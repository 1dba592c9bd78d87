set_option maxRecDepth 20000 in
theorem inX1 : ∀ w ∈ u_ws RX1 TX1 3, w ∈ TB := by
  intro w hw
  obtain ⟨k, hk, rfl⟩ := List.mem_map.mp hw
  have hk := List.mem_range.mp hk
  match k, hk with
  | 0, _ => exact TB_t1 196 (by decide +kernel) (by decide +kernel)
  | 1, _ => exact TB_t1 198 (by decide +kernel) (by decide +kernel)
  | 2, _ => exact TB_t1 200 (by decide +kernel) (by decide +kernel)
  | k + 3, hk => exact absurd hk (by omega)
theorem mf_X1_9 : Cond.fieldLink RX1 9 "CellKeeper$Leaf" "rows" "I" ∈ TB := TB_t1 185 (by decide +kernel) rfl
theorem mf_X6_43 : Cond.fieldLink RX6 43 "CellKeeper" "witnessLeaf" "LCellKeeper$Leaf;" ∈ TB := TB_t2 27 (by decide +kernel) rfl
theorem ml_X6_206 : Cond.methodLink RX6 206 yX1_at ∈ TB := TB_t3 150 (by decide +kernel) rfl
theorem mz_RX1 : Cond.initialized RX1 ∈ TB := TB_t1 6 (by decide +kernel) rfl
theorem mcode_yX1_at : Cond.code yX1_at cX1_at 4 (some .int) ∈ TB := TB_t3 153 (by decide +kernel) rfl
theorem mi_yX1_at : MI yX1_at cX1_at 4 (some .int) 2 := ⟨mz_RX1, mcode_yX1_at, by decide +kernel, by decide +kernel, by decide +kernel⟩
theorem mim_yX1_at : Cond.instanceMethod yX1_at ∈ TB := TB_t3 151 (by decide +kernel) rfl
theorem msel_yX1_at : Cond.selects yX1_at.cls yX1_at yX1_at ∈ TB := TB_t3 152 (by decide +kernel) rfl
theorem mv_yX1_at : Cond.instanceMethod yX1_at ∈ TB ∧ Cond.selects yX1_at.cls yX1_at yX1_at ∈ TB := ⟨mim_yX1_at, msel_yX1_at⟩
theorem mf_X6_47 : Cond.fieldLink RX6 47 "CellKeeper" "roundedLeaf" "LCellKeeper$Leaf;" ∈ TB := TB_t2 28 (by decide +kernel) rfl
theorem mf_X6_210 : Cond.fieldLink RX6 210 "CellKeeper$Leaf" "columns" "I" ∈ TB := TB_t1 192 (by decide +kernel) rfl
theorem mf_X6_209 : Cond.fieldLink RX6 209 "CellKeeper$Leaf" "rows" "I" ∈ TB := TB_t1 188 (by decide +kernel) rfl
theorem mf_X6_57 : Cond.fieldLink RX6 57 "CellKeeper" "given" "I" ∈ TB := TB_t2 31 (by decide +kernel) rfl
theorem ml_X6_242 : Cond.methodLink RX6 242 yX6_isGift ∈ TB := TB_t4 81 (by decide +kernel) rfl
theorem mcode_yX6_isGift : Cond.code yX6_isGift cX6_isGift 2 (some .boolean) ∈ TB := TB_t4 84 (by decide +kernel) rfl
theorem mi_yX6_isGift : MI yX6_isGift cX6_isGift 2 (some .boolean) 1 := ⟨mz_RX6, mcode_yX6_isGift, by decide +kernel, by decide +kernel, by decide +kernel⟩
theorem mim_yX6_isGift : Cond.instanceMethod yX6_isGift ∈ TB := TB_t4 83 (by decide +kernel) rfl
theorem msel_yX6_isGift : Cond.selects yX6_isGift.cls yX6_isGift yX6_isGift ∈ TB := TB_s (n := 10) 40 (by decide +kernel)
theorem mv_yX6_isGift : Cond.instanceMethod yX6_isGift ∈ TB ∧ Cond.selects yX6_isGift.cls yX6_isGift yX6_isGift ∈ TB := ⟨mim_yX6_isGift, msel_yX6_isGift⟩
theorem dX6_status_0 : decode cX6_status 0 = .ok (.aload_n 0, 1) := by decide +kernel
theorem dX6_status_1 : decode cX6_status 1 = .ok (.getfield 9, 3) := by decide +kernel
theorem dX6_status_4 : decode cX6_status 4 = .ok (.ireturn, 1) := by decide +kernel
theorem dX1_at_0 : decode cX1_at 0 = .ok (.iload_n 1, 1) := by decide +kernel
theorem dX1_at_1 : decode cX1_at 1 = .ok (.ifCond .lt 27, 3) := by decide +kernel
theorem dX1_at_28 : decode cX1_at 28 = .ok (.iconst 0, 1) := by decide +kernel
theorem dX1_at_29 : decode cX1_at 29 = .ok (.istore_n 3, 1) := by decide +kernel
theorem dX1_at_30 : decode cX1_at 30 = .ok (.iload_n 3, 1) := by decide +kernel
theorem dX1_at_31 : decode cX1_at 31 = .ok (.ifCond .eq 16, 3) := by decide +kernel
theorem dX1_at_47 : decode cX1_at 47 = .ok (.iconst (-1), 1) := by decide +kernel
theorem dX1_at_48 : decode cX1_at 48 = .ok (.ireturn, 1) := by decide +kernel
theorem dX1_at_4 : decode cX1_at 4 = .ok (.iload_n 1, 1) := by decide +kernel
theorem dX1_at_5 : decode cX1_at 5 = .ok (.aload_n 0, 1) := by decide +kernel
theorem dX1_at_6 : decode cX1_at 6 = .ok (.getfield 9, 3) := by decide +kernel
theorem dX1_at_9 : decode cX1_at 9 = .ok (.if_icmp .ge 19, 3) := by decide +kernel
theorem dX6_seen_0 : decode cX6_seen 0 = .ok (.aload_n 0, 1) := by decide +kernel
theorem dX6_seen_1 : decode cX6_seen 1 = .ok (.getfield 43, 3) := by decide +kernel
theorem dX6_seen_4 : decode cX6_seen 4 = .ok (.iload_n 1, 1) := by decide +kernel
theorem dX6_seen_5 : decode cX6_seen 5 = .ok (.iload_n 2, 1) := by decide +kernel
theorem dX6_seen_6 : decode cX6_seen 6 = .ok (.invokevirtual 206, 3) := by decide +kernel
theorem dX6_seen_9 : decode cX6_seen 9 = .ok (.ireturn, 1) := by decide +kernel
theorem dX6_rounded_0 : decode cX6_rounded 0 = .ok (.aload_n 0, 1) := by decide +kernel
theorem dX6_rounded_1 : decode cX6_rounded 1 = .ok (.getfield 47, 3) := by decide +kernel
theorem dX6_rounded_4 : decode cX6_rounded 4 = .ok (.iload_n 1, 1) := by decide +kernel
theorem dX6_rounded_5 : decode cX6_rounded 5 = .ok (.iload_n 2, 1) := by decide +kernel
theorem dX6_rounded_6 : decode cX6_rounded 6 = .ok (.invokevirtual 206, 3) := by decide +kernel
theorem dX6_rounded_9 : decode cX6_rounded 9 = .ok (.ireturn, 1) := by decide +kernel
theorem dX6_cut_0 : decode cX6_cut 0 = .ok (.iload_n 1, 1) := by decide +kernel
theorem dX6_cut_1 : decode cX6_cut 1 = .ok (.ifCond .eq 13, 3) := by decide +kernel
theorem dX6_cut_14 : decode cX6_cut 14 = .ok (.aload_n 0, 1) := by decide +kernel
theorem dX6_cut_15 : decode cX6_cut 15 = .ok (.getfield 43, 3) := by decide +kernel
theorem dX6_cut_18 : decode cX6_cut 18 = .ok (.getfield 210, 3) := by decide +kernel
theorem dX6_cut_21 : decode cX6_cut 21 = .ok (.istore_n 3, 1) := by decide +kernel
theorem dX6_cut_22 : decode cX6_cut 22 = .ok (.iload_n 2, 1) := by decide +kernel
theorem dX6_cut_23 : decode cX6_cut 23 = .ok (.ifCond .lt 8, 3) := by decide +kernel
theorem dX6_cut_31 : decode cX6_cut 31 = .ok (.iconst (-1), 1) := by decide +kernel
theorem dX6_cut_32 : decode cX6_cut 32 = .ok (.ireturn, 1) := by decide +kernel
theorem dX6_cut_26 : decode cX6_cut 26 = .ok (.iload_n 2, 1) := by decide +kernel
theorem dX6_cut_27 : decode cX6_cut 27 = .ok (.iload_n 3, 1) := by decide +kernel
theorem dX6_cut_28 : decode cX6_cut 28 = .ok (.if_icmp .lt 5, 3) := by decide +kernel
theorem dX6_cut_4 : decode cX6_cut 4 = .ok (.aload_n 0, 1) := by decide +kernel
theorem dX6_cut_5 : decode cX6_cut 5 = .ok (.getfield 43, 3) := by decide +kernel
theorem dX6_cut_8 : decode cX6_cut 8 = .ok (.getfield 209, 3) := by decide +kernel
theorem dX6_cut_11 : decode cX6_cut 11 = .ok (.goto 10, 3) := by decide +kernel
theorem dX6_isGift_0 : decode cX6_isGift 0 = .ok (.iload_n 1, 1) := by decide +kernel
theorem dX6_isGift_1 : decode cX6_isGift 1 = .ok (.ifCond .lt 15, 3) := by decide +kernel
theorem dX6_isGift_16 : decode cX6_isGift 16 = .ok (.iconst 0, 1) := by decide +kernel
theorem dX6_isGift_17 : decode cX6_isGift 17 = .ok (.ireturn, 1) := by decide +kernel
theorem dX6_isGift_4 : decode cX6_isGift 4 = .ok (.iload_n 1, 1) := by decide +kernel
theorem dX6_isGift_5 : decode cX6_isGift 5 = .ok (.aload_n 0, 1) := by decide +kernel
theorem dX6_isGift_6 : decode cX6_isGift 6 = .ok (.getfield 57, 3) := by decide +kernel
theorem dX6_isGift_9 : decode cX6_isGift 9 = .ok (.if_icmp .ge 7, 3) := by decide +kernel
theorem dX6_gift_0 : decode cX6_gift 0 = .ok (.aload_n 0, 1) := by decide +kernel
theorem dX6_gift_1 : decode cX6_gift 1 = .ok (.iload_n 1, 1) := by decide +kernel
theorem dX6_gift_2 : decode cX6_gift 2 = .ok (.invokevirtual 242, 3) := by decide +kernel
theorem dX6_gift_5 : decode cX6_gift 5 = .ok (.ifCond .eq 17, 3) := by decide +kernel
theorem dX6_gift_22 : decode cX6_gift 22 = .ok (.iconst (-1), 1) := by decide +kernel
theorem dX6_gift_23 : decode cX6_gift 23 = .ok (.ireturn, 1) := by decide +kernel
theorem dX6_agree_0 : decode cX6_agree 0 = .ok (.aload_n 0, 1) := by decide +kernel
theorem dX6_agree_1 : decode cX6_agree 1 = .ok (.iload_n 1, 1) := by decide +kernel
theorem dX6_agree_2 : decode cX6_agree 2 = .ok (.invokevirtual 242, 3) := by decide +kernel
theorem dX6_agree_5 : decode cX6_agree 5 = .ok (.ifCond .eq 29, 3) := by decide +kernel
theorem dX6_agree_34 : decode cX6_agree 34 = .ok (.iconst (-1), 1) := by decide +kernel
theorem dX6_agree_35 : decode cX6_agree 35 = .ok (.ireturn, 1) := by decide +kernel
theorem ge_0 {x : Int32} (h : ¬ x < 0) : 0 ≤ x := by
  obtain ⟨j, hj, rfl⟩ := nI_of h
  exact nI_pos' hj
theorem nl_0 {x : Int32} (h : ¬ x < 0) : ¬ x < 0 := h
set_option maxHeartbeats 4000000 in
set_option maxRecDepth 100000 in
theorem k_X6_status (l : Launch) (G : GG) (x : Nat) (a : Nat → Nat) (st cn gv : Int32) : RdI l yX6_status cX6_status 1 (some .int) ({ frames := 0, cells := 0, slots := 0, locals := 0 }) G ([(x, .inr (6, [.int st, .ref (a 1), .ref (a 2), .ref (a 3), .ref (a 4), .ref (a 5), .ref (a 6), .int cn, .ref (a 8), .int gv]))]) [.ref x] (fun r => r = st) := by
  refine rd_entry (by decide +kernel) (Nat.le_of_ble_eq_true rfl) ?_
  intro p e s m below meth c C0 hP hK ls hl
  have hS : va_S (fun q => s.heap.size ≤ q) s.heap s.heap [] := va_S.rf
  have hA : ∀ q, s.heap.size ≤ q → (fun q => s.heap.size ≤ q) q := fun _ h => h
  obtain ⟨hx, hb, hml, hown, hts, hr, hlocks, hin⟩ := C0
  have hown : s.vm.findClass RX6 = some m.cls := hown
  have hl : lv_has ls 1 [(0, .ref x)] := hl
  refine lv_aload_n hx hb dX6_status_0 rfl (lv_at hl 0 rfl) ?_
  refine va_get (D := G.1) (ci := 6) (v := .int st) (C := RX6) (T := TX6) (N := 10) hx hb hts inX6 hown hK.1 hP 0 rfl rfl 0 (by decide) (hts _ mf_X6_9) (fun _ h9 => h9) rfl dX6_status_1 ?_
  exact rd_iret hx hb hr hlocks hS rfl dX6_status_4
set_option maxHeartbeats 4000000 in
set_option maxRecDepth 100000 in
theorem k_X1_at (l : Launch) (G : GG) (b q : Nat) (p1 p2 : Int32) : RdI l yX1_at cX1_at 4 (some .int) ({ frames := 0, cells := 0, slots := 0, locals := 0 }) G ([(b, .inr (1, [.int 0, .int 0, .ref q]))]) [.ref b, .int p1, .int p2] (fun r => r = -1) := by
  refine rd_entry (by decide +kernel) (Nat.le_of_ble_eq_true rfl) ?_
  intro p e s m below meth c C0 hP hK ls hl
  have hS : va_S (fun q => s.heap.size ≤ q) s.heap s.heap [] := va_S.rf
  have hA : ∀ q, s.heap.size ≤ q → (fun q => s.heap.size ≤ q) q := fun _ h => h
  obtain ⟨hx, hb, hml, hown, hts, hr, hlocks, hin⟩ := C0
  have hown : s.vm.findClass RX1 = some m.cls := hown
  have hl : lv_has ls 4 [(0, .ref b), (1, .int p1), (2, .int p2)] := hl
  refine lv_iload_n hx hb dX1_at_0 rfl (lv_at hl 1 rfl) ?_
  refine lv_if_lt (tgt := 28) hx hb dX1_at_1 (by decide) (fun c1 => ?_) (fun c1 => ?_)
  · refine lv_iconst (v := 0) hx hb dX1_at_28 (by decide) ?_
    refine lv_istore_n (lv' := [(3, .int 0), (0, .ref b), (1, .int p1), (2, .int p2)]) hx hb dX1_at_29 rfl hl (by decide) rfl (fun ls hl => ?_)
    refine lv_iload_n hx hb dX1_at_30 rfl (lv_at hl 0 rfl) ?_
    refine lv_if_eq (tgt := 47) hx hb dX1_at_31 (by decide) (fun _ => ?_) (fun c2 => absurd (by decide) c2)
    refine lv_iconst (v := -1) hx hb dX1_at_47 (by decide) ?_
    exact rd_iret hx hb hr hlocks hS rfl dX1_at_48
  · refine lv_iload_n hx hb dX1_at_4 rfl (lv_at hl 1 rfl) ?_
    refine lv_aload_n hx hb dX1_at_5 rfl (lv_at hl 0 rfl) ?_
    refine va_get (D := G.1) (ci := 1) (v := .int 0) (C := RX1) (T := TX1) (N := 3) hx hb hts inX1 hown hK.1 hP 0 rfl rfl 0 (by decide) (hts _ mf_X1_9) (fun _ h9 => h9) rfl dX1_at_6 ?_
    refine lv_icmp_ge (tgt := 28) hx hb dX1_at_9 (by decide) (fun _ => ?_) (fun c3 => absurd (ge_0 c1) c3)
    refine lv_iconst (v := 0) hx hb dX1_at_28 (by decide) ?_
    refine lv_istore_n (lv' := [(3, .int 0), (0, .ref b), (1, .int p1), (2, .int p2)]) hx hb dX1_at_29 rfl hl (by decide) rfl (fun ls hl => ?_)
    refine lv_iload_n hx hb dX1_at_30 rfl (lv_at hl 0 rfl) ?_
    refine lv_if_eq (tgt := 47) hx hb dX1_at_31 (by decide) (fun _ => ?_) (fun c4 => absurd (by decide) c4)
    refine lv_iconst (v := -1) hx hb dX1_at_47 (by decide) ?_
    exact rd_iret hx hb hr hlocks hS rfl dX1_at_48
set_option maxHeartbeats 4000000 in
set_option maxRecDepth 100000 in
theorem k_X6_seen (l : Launch) (G : GG) (x : Nat) (a : Nat → Nat) (st cn gv : Int32) (q : Nat) (p1 p2 : Int32) : RdI l yX6_seen cX6_seen 3 (some .int) ({ frames := 1, cells := 0, slots := 0, locals := 23 }) G ([(x, .inr (6, [.int st, .ref (a 1), .ref (a 2), .ref (a 3), .ref (a 4), .ref (a 5), .ref (a 6), .int cn, .ref (a 8), .int gv])), ((a 5), .inr (1, [.int 0, .int 0, .ref q]))]) [.ref x, .int p1, .int p2] (fun r => r = -1) := by
  refine rd_entry (by decide +kernel) (Nat.le_of_ble_eq_true rfl) ?_
  intro p e s m below meth c C0 hP hK ls hl
  have hS : va_S (fun q => s.heap.size ≤ q) s.heap s.heap [] := va_S.rf
  have hA : ∀ q, s.heap.size ≤ q → (fun q => s.heap.size ≤ q) q := fun _ h => h
  obtain ⟨hx, hb, hml, hown, hts, hr, hlocks, hin⟩ := C0
  have hown : s.vm.findClass RX6 = some m.cls := hown
  have hl : lv_has ls 3 [(0, .ref x), (1, .int p1), (2, .int p2)] := hl
  refine lv_aload_n hx hb dX6_seen_0 rfl (lv_at hl 0 rfl) ?_
  refine va_get (D := G.1) (ci := 6) (v := .ref (a 5)) (C := RX6) (T := TX6) (N := 10) hx hb hts inX6 hown hK.1 hP 0 rfl rfl 5 (by decide) (hts _ mf_X6_43) (fun _ h9 => h9) rfl dX6_seen_1 ?_
  refine lv_iload_n hx hb dX6_seen_4 rfl (lv_at hl 1 rfl) ?_
  refine lv_iload_n hx hb dX6_seen_5 rfl (lv_at hl 2 rfl) ?_
  refine rdV (rest := []) (q0 := 0) ⟨hx, hb, hml, hown, hts⟩ (k_X1_at l G (a 5) q p1 p2) mi_yX1_at mv_yX1_at ml_X6_206 ⟨rfl, rfl, Nat.le_of_ble_eq_true rfl, Nat.le_of_ble_eq_true rfl⟩ hK (hP.sub (ws' := [((a 5), .inr (1, [.int 0, .int 0, .ref q]))]) [1] rfl) rfl rfl rfl hl.1 rfl (Nat.le_of_ble_eq_true rfl) dX6_seen_6 ⟨Nat.zero_le _, Nat.zero_le _⟩ hS hA hP (fun r1 H locs hr1 hP hS => ?_)
  obtain rfl : r1 = -1 := hr1
  exact rd_iret hx hb hr hlocks hS rfl dX6_seen_9
set_option maxHeartbeats 4000000 in
set_option maxRecDepth 100000 in
theorem k_X6_rounded (l : Launch) (G : GG) (x : Nat) (a : Nat → Nat) (st cn gv : Int32) (q : Nat) (p1 p2 : Int32) : RdI l yX6_rounded cX6_rounded 3 (some .int) ({ frames := 1, cells := 0, slots := 0, locals := 23 }) G ([(x, .inr (6, [.int st, .ref (a 1), .ref (a 2), .ref (a 3), .ref (a 4), .ref (a 5), .ref (a 6), .int cn, .ref (a 8), .int gv])), ((a 6), .inr (1, [.int 0, .int 0, .ref q]))]) [.ref x, .int p1, .int p2] (fun r => r = -1) := by
  refine rd_entry (by decide +kernel) (Nat.le_of_ble_eq_true rfl) ?_
  intro p e s m below meth c C0 hP hK ls hl
  have hS : va_S (fun q => s.heap.size ≤ q) s.heap s.heap [] := va_S.rf
  have hA : ∀ q, s.heap.size ≤ q → (fun q => s.heap.size ≤ q) q := fun _ h => h
  obtain ⟨hx, hb, hml, hown, hts, hr, hlocks, hin⟩ := C0
  have hown : s.vm.findClass RX6 = some m.cls := hown
  have hl : lv_has ls 3 [(0, .ref x), (1, .int p1), (2, .int p2)] := hl
  refine lv_aload_n hx hb dX6_rounded_0 rfl (lv_at hl 0 rfl) ?_
  refine va_get (D := G.1) (ci := 6) (v := .ref (a 6)) (C := RX6) (T := TX6) (N := 10) hx hb hts inX6 hown hK.1 hP 0 rfl rfl 6 (by decide) (hts _ mf_X6_47) (fun _ h9 => h9) rfl dX6_rounded_1 ?_
  refine lv_iload_n hx hb dX6_rounded_4 rfl (lv_at hl 1 rfl) ?_
  refine lv_iload_n hx hb dX6_rounded_5 rfl (lv_at hl 2 rfl) ?_
  refine rdV (rest := []) (q0 := 0) ⟨hx, hb, hml, hown, hts⟩ (k_X1_at l G (a 6) q p1 p2) mi_yX1_at mv_yX1_at ml_X6_206 ⟨rfl, rfl, Nat.le_of_ble_eq_true rfl, Nat.le_of_ble_eq_true rfl⟩ hK (hP.sub (ws' := [((a 6), .inr (1, [.int 0, .int 0, .ref q]))]) [1] rfl) rfl rfl rfl hl.1 rfl (Nat.le_of_ble_eq_true rfl) dX6_rounded_6 ⟨Nat.zero_le _, Nat.zero_le _⟩ hS hA hP (fun r1 H locs hr1 hP hS => ?_)
  obtain rfl : r1 = -1 := hr1
  exact rd_iret hx hb hr hlocks hS rfl dX6_rounded_9
set_option maxHeartbeats 4000000 in
set_option maxRecDepth 100000 in
theorem k_X6_cut (l : Launch) (G : GG) (x : Nat) (a : Nat → Nat) (st cn gv : Int32) (q : Nat) (p1 p2 : Int32) : RdI l yX6_cut cX6_cut 4 (some .int) ({ frames := 0, cells := 0, slots := 0, locals := 0 }) G ([(x, .inr (6, [.int st, .ref (a 1), .ref (a 2), .ref (a 3), .ref (a 4), .ref (a 5), .ref (a 6), .int cn, .ref (a 8), .int gv])), ((a 5), .inr (1, [.int 0, .int 0, .ref q]))]) [.ref x, .int p1, .int p2] (fun r => r = -1) := by
  refine rd_entry (by decide +kernel) (Nat.le_of_ble_eq_true rfl) ?_
  intro p e s m below meth c C0 hP hK ls hl
  have hS : va_S (fun q => s.heap.size ≤ q) s.heap s.heap [] := va_S.rf
  have hA : ∀ q, s.heap.size ≤ q → (fun q => s.heap.size ≤ q) q := fun _ h => h
  obtain ⟨hx, hb, hml, hown, hts, hr, hlocks, hin⟩ := C0
  have hown : s.vm.findClass RX6 = some m.cls := hown
  have hl : lv_has ls 4 [(0, .ref x), (1, .int p1), (2, .int p2)] := hl
  refine lv_iload_n hx hb dX6_cut_0 rfl (lv_at hl 1 rfl) ?_
  refine lv_if_eq (tgt := 14) hx hb dX6_cut_1 (by decide) (fun c1 => ?_) (fun c1 => ?_)
  · refine lv_aload_n hx hb dX6_cut_14 rfl (lv_at hl 0 rfl) ?_
    refine va_get (D := G.1) (ci := 6) (v := .ref (a 5)) (C := RX6) (T := TX6) (N := 10) hx hb hts inX6 hown hK.1 hP 0 rfl rfl 5 (by decide) (hts _ mf_X6_43) (fun _ h9 => h9) rfl dX6_cut_15 ?_
    refine va_get (D := G.1) (ci := 1) (v := .int 0) (C := RX1) (T := TX1) (N := 3) hx hb hts inX1 hown hK.1 hP 1 rfl rfl 1 (by decide) (hts _ mf_X6_210) (fun _ h9 => h9) rfl dX6_cut_18 ?_
    refine lv_istore_n (lv' := [(3, .int 0), (0, .ref x), (1, .int p1), (2, .int p2)]) hx hb dX6_cut_21 rfl hl (by decide) rfl (fun ls hl => ?_)
    refine lv_iload_n hx hb dX6_cut_22 rfl (lv_at hl 3 rfl) ?_
    refine lv_if_lt (tgt := 31) hx hb dX6_cut_23 (by decide) (fun c2 => ?_) (fun c2 => ?_)
    · refine lv_iconst (v := -1) hx hb dX6_cut_31 (by decide) ?_
      exact rd_iret hx hb hr hlocks hS rfl dX6_cut_32
    · refine lv_iload_n hx hb dX6_cut_26 rfl (lv_at hl 3 rfl) ?_
      refine lv_iload_n hx hb dX6_cut_27 rfl (lv_at hl 0 rfl) ?_
      refine lv_icmp_lt (tgt := 33) hx hb dX6_cut_28 (by decide) (fun c3 => absurd c3 (show ¬ p2 < 0 from c2)) (fun _ => ?_)
      refine lv_iconst (v := -1) hx hb dX6_cut_31 (by decide) ?_
      exact rd_iret hx hb hr hlocks hS rfl dX6_cut_32
  · refine lv_aload_n hx hb dX6_cut_4 rfl (lv_at hl 0 rfl) ?_
    refine va_get (D := G.1) (ci := 6) (v := .ref (a 5)) (C := RX6) (T := TX6) (N := 10) hx hb hts inX6 hown hK.1 hP 0 rfl rfl 5 (by decide) (hts _ mf_X6_43) (fun _ h9 => h9) rfl dX6_cut_5 ?_
    refine va_get (D := G.1) (ci := 1) (v := .int 0) (C := RX1) (T := TX1) (N := 3) hx hb hts inX1 hown hK.1 hP 1 rfl rfl 0 (by decide) (hts _ mf_X6_209) (fun _ h9 => h9) rfl dX6_cut_8 ?_
    refine lv_goto (tgt := 21) hx hb dX6_cut_11 (by decide) ?_
    refine lv_istore_n (lv' := [(3, .int 0), (0, .ref x), (1, .int p1), (2, .int p2)]) hx hb dX6_cut_21 rfl hl (by decide) rfl (fun ls hl => ?_)
    refine lv_iload_n hx hb dX6_cut_22 rfl (lv_at hl 3 rfl) ?_
    refine lv_if_lt (tgt := 31) hx hb dX6_cut_23 (by decide) (fun c4 => ?_) (fun c4 => ?_)
    · refine lv_iconst (v := -1) hx hb dX6_cut_31 (by decide) ?_
      exact rd_iret hx hb hr hlocks hS rfl dX6_cut_32
    · refine lv_iload_n hx hb dX6_cut_26 rfl (lv_at hl 3 rfl) ?_
      refine lv_iload_n hx hb dX6_cut_27 rfl (lv_at hl 0 rfl) ?_
      refine lv_icmp_lt (tgt := 33) hx hb dX6_cut_28 (by decide) (fun c5 => absurd c5 (show ¬ p2 < 0 from c4)) (fun _ => ?_)
      refine lv_iconst (v := -1) hx hb dX6_cut_31 (by decide) ?_
      exact rd_iret hx hb hr hlocks hS rfl dX6_cut_32
set_option maxHeartbeats 4000000 in
set_option maxRecDepth 100000 in
theorem k_X6_isGift (l : Launch) (G : GG) (x : Nat) (a : Nat → Nat) (st cn p1 : Int32) : RdI l yX6_isGift cX6_isGift 2 (some .boolean) ({ frames := 0, cells := 0, slots := 0, locals := 0 }) G ([(x, .inr (6, [.int st, .ref (a 1), .ref (a 2), .ref (a 3), .ref (a 4), .ref (a 5), .ref (a 6), .int cn, .ref (a 8), .int 0]))]) [.ref x, .int p1] (fun r => r = 0) := by
  refine rd_entry (by decide +kernel) (Nat.le_of_ble_eq_true rfl) ?_
  intro p e s m below meth c C0 hP hK ls hl
  have hS : va_S (fun q => s.heap.size ≤ q) s.heap s.heap [] := va_S.rf
  have hA : ∀ q, s.heap.size ≤ q → (fun q => s.heap.size ≤ q) q := fun _ h => h
  obtain ⟨hx, hb, hml, hown, hts, hr, hlocks, hin⟩ := C0
  have hown : s.vm.findClass RX6 = some m.cls := hown
  have hl : lv_has ls 2 [(0, .ref x), (1, .int p1)] := hl
  refine lv_iload_n hx hb dX6_isGift_0 rfl (lv_at hl 1 rfl) ?_
  refine lv_if_lt (tgt := 16) hx hb dX6_isGift_1 (by decide) (fun c1 => ?_) (fun c1 => ?_)
  · refine lv_iconst (v := 0) hx hb dX6_isGift_16 (by decide) ?_
    exact rd_zret hx hb hr hlocks (Or.inl rfl) hS rfl dX6_isGift_17
  · refine lv_iload_n hx hb dX6_isGift_4 rfl (lv_at hl 1 rfl) ?_
    refine lv_aload_n hx hb dX6_isGift_5 rfl (lv_at hl 0 rfl) ?_
    refine va_get (D := G.1) (ci := 6) (v := .int 0) (C := RX6) (T := TX6) (N := 10) hx hb hts inX6 hown hK.1 hP 0 rfl rfl 9 (by decide) (hts _ mf_X6_57) (fun _ h9 => h9) rfl dX6_isGift_6 ?_
    refine lv_icmp_ge (tgt := 16) hx hb dX6_isGift_9 (by decide) (fun _ => ?_) (fun c2 => absurd (ge_0 c1) c2)
    refine lv_iconst (v := 0) hx hb dX6_isGift_16 (by decide) ?_
    exact rd_zret hx hb hr hlocks (Or.inl rfl) hS rfl dX6_isGift_17
set_option maxHeartbeats 4000000 in
set_option maxRecDepth 100000 in
theorem k_X6_gift (l : Launch) (G : GG) (x : Nat) (a : Nat → Nat) (st cn p1 p2 p3 : Int32) : RdI l yX6_gift cX6_gift 4 (some .int) ({ frames := 1, cells := 0, slots := 0, locals := 21 }) G ([(x, .inr (6, [.int st, .ref (a 1), .ref (a 2), .ref (a 3), .ref (a 4), .ref (a 5), .ref (a 6), .int cn, .ref (a 8), .int 0]))]) [.ref x, .int p1, .int p2, .int p3] (fun r => r = -1) := by
  refine rd_entry (by decide +kernel) (Nat.le_of_ble_eq_true rfl) ?_
  intro p e s m below meth c C0 hP hK ls hl
  have hS : va_S (fun q => s.heap.size ≤ q) s.heap s.heap [] := va_S.rf
  have hA : ∀ q, s.heap.size ≤ q → (fun q => s.heap.size ≤ q) q := fun _ h => h
  obtain ⟨hx, hb, hml, hown, hts, hr, hlocks, hin⟩ := C0
  have hown : s.vm.findClass RX6 = some m.cls := hown
  have hl : lv_has ls 4 [(0, .ref x), (1, .int p1), (2, .int p2), (3, .int p3)] := hl
  refine lv_aload_n hx hb dX6_gift_0 rfl (lv_at hl 0 rfl) ?_
  refine lv_iload_n hx hb dX6_gift_1 rfl (lv_at hl 1 rfl) ?_
  refine rdV (rest := []) (q0 := 0) ⟨hx, hb, hml, hown, hts⟩ (k_X6_isGift l G x a st cn p1) mi_yX6_isGift mv_yX6_isGift ml_X6_242 ⟨rfl, rfl, Nat.le_of_ble_eq_true rfl, Nat.le_of_ble_eq_true rfl⟩ hK (hP) rfl rfl rfl hl.1 rfl (Nat.le_of_ble_eq_true rfl) dX6_gift_2 ⟨Nat.zero_le _, Nat.zero_le _⟩ hS hA hP (fun r1 H locs hr1 hP hS => ?_)
  obtain rfl : r1 = 0 := hr1
  refine lv_if_eq (tgt := 22) hx hb dX6_gift_5 (by decide) (fun _ => ?_) (fun c2 => absurd (by decide) c2)
  refine lv_iconst (v := -1) hx hb dX6_gift_22 (by decide) ?_
  exact rd_iret hx hb hr hlocks hS rfl dX6_gift_23
set_option maxHeartbeats 4000000 in
set_option maxRecDepth 100000 in
theorem k_X6_agree (l : Launch) (G : GG) (x : Nat) (a : Nat → Nat) (st cn p1 p2 : Int32) : RdI l yX6_agree cX6_agree 3 (some .int) ({ frames := 1, cells := 0, slots := 0, locals := 21 }) G ([(x, .inr (6, [.int st, .ref (a 1), .ref (a 2), .ref (a 3), .ref (a 4), .ref (a 5), .ref (a 6), .int cn, .ref (a 8), .int 0]))]) [.ref x, .int p1, .int p2] (fun r => r = -1) := by
  refine rd_entry (by decide +kernel) (Nat.le_of_ble_eq_true rfl) ?_
  intro p e s m below meth c C0 hP hK ls hl
  have hS : va_S (fun q => s.heap.size ≤ q) s.heap s.heap [] := va_S.rf
  have hA : ∀ q, s.heap.size ≤ q → (fun q => s.heap.size ≤ q) q := fun _ h => h
  obtain ⟨hx, hb, hml, hown, hts, hr, hlocks, hin⟩ := C0
  have hown : s.vm.findClass RX6 = some m.cls := hown
  have hl : lv_has ls 3 [(0, .ref x), (1, .int p1), (2, .int p2)] := hl
  refine lv_aload_n hx hb dX6_agree_0 rfl (lv_at hl 0 rfl) ?_
  refine lv_iload_n hx hb dX6_agree_1 rfl (lv_at hl 1 rfl) ?_
  refine rdV (rest := []) (q0 := 0) ⟨hx, hb, hml, hown, hts⟩ (k_X6_isGift l G x a st cn p1) mi_yX6_isGift mv_yX6_isGift ml_X6_242 ⟨rfl, rfl, Nat.le_of_ble_eq_true rfl, Nat.le_of_ble_eq_true rfl⟩ hK (hP) rfl rfl rfl hl.1 rfl (Nat.le_of_ble_eq_true rfl) dX6_agree_2 ⟨Nat.zero_le _, Nat.zero_le _⟩ hS hA hP (fun r1 H locs hr1 hP hS => ?_)
  obtain rfl : r1 = 0 := hr1
  refine lv_if_eq (tgt := 34) hx hb dX6_agree_5 (by decide) (fun _ => ?_) (fun c2 => absurd (by decide) c2)
  refine lv_iconst (v := -1) hx hb dX6_agree_34 (by decide) ?_
  exact rd_iret hx hb hr hlocks hS rfl dX6_agree_35
