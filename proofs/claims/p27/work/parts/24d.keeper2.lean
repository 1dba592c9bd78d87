
set_option maxHeartbeats 4000000 in
set_option maxRecDepth 100000 in
theorem x_cut (l : Launch) (G : GG) (x : Nat) (xa ta a b ga ua la lb lc : Nat → Nat) (tg gg : Nat → Option Nat) (xf tf f qf gf uf lf mf nf : Nat → Int32) (tr r q gr ur lr mr nr : Nat → Nat → Int32) (rs : Int32) (kx : Int32) : RdI l yX6_cut cX6_cut 4 (some .int) ({ frames := 0, cells := 0, slots := 0, locals := 0 }) G (xM G x xa ta a b ga ua la lb lc tg gg xf tf f qf gf uf lf mf nf tr r q gr ur lr mr nr) [.ref x, .int rs, .int kx] (fun qz => True) := by
  refine rd_entry (by decide +kernel) (Nat.le_of_ble_eq_true rfl) ?_
  intro p e s m below meth c C0 hP hK ls hl
  have hS : va_S (fun q => s.heap.size ≤ q) s.heap s.heap [] := va_S.rf
  have hA : ∀ q, s.heap.size ≤ q → (fun q => s.heap.size ≤ q) q := fun _ h => h
  obtain ⟨hx, hb, hml, hown, hts, hr, hlocks, hin⟩ := C0
  have hown : s.vm.findClass RX6 = some m.cls := hown
  have hl : lv_has ls 4 [(0, .ref x), (1, .int rs), (2, .int kx)] := hl
  refine lv_iload_n hx hb dX6_cut_0 rfl (lv_at hl 1 rfl) ?_
  have j21_1 : ∀ (z1 : Int32) (H : Heap) (locs : List Loc) (ls : Array Slot), PP G (xM G x xa ta a b ga ua la lb lc tg gg xf tf f qf gf uf lf mf nf tr r q gr ur lr mr nr) H → va_S (fun q => s.heap.size ≤ q) s.heap H locs → lv_has ls 4 [(0, .ref x), (1, .int rs), (2, .int kx)] → W p l e ({ frames := 0, cells := 0, slots := 0, locals := 0 }) s m ([.ref x, .int rs, .int kx] : List Value).toArray below meth c H locs 0 0 (MQ below (QrI (fun qz => True) (fun q => s.heap.size ≤ q)) ([.ref x, .int rs, .int kx] : List Value).toArray s 0 0 (fun q => s.heap.size ≤ q)) (F0 m 21 ls [.int z1]) := by
    intro z1  H locs ls hP hS hl
    refine lv_istore_n (lv' := [(3, .int z1), (0, .ref x), (1, .int rs), (2, .int kx)]) hx hb dX6_cut_21 rfl hl (by decide) rfl (fun ls hl => ?_)
    refine lv_iload_n hx hb dX6_cut_22 rfl (lv_at hl 3 rfl) ?_
    refine lv_if_lt (tgt := 31) hx hb dX6_cut_23 (by decide) (fun c2 => ?_) (fun c2 => ?_)
    · refine lv_iconst (v := -1) hx hb dX6_cut_31 (by decide) ?_
      exact rd_iret hx hb hr hlocks hS (trivial) dX6_cut_32
    · refine lv_iload_n hx hb dX6_cut_26 rfl (lv_at hl 3 rfl) ?_
      refine lv_iload_n hx hb dX6_cut_27 rfl (lv_at hl 0 rfl) ?_
      refine lv_icmp_lt (tgt := 33) hx hb dX6_cut_28 (by decide) (fun c3 => ?_) (fun c3 => ?_)
      · refine lv_aload_n hx hb dX6_cut_33 rfl (lv_at hl 1 rfl) ?_
        refine va_get (D := G.1) (ci := 6) (v := .int (xf 7)) (C := RX6) (T := TX6) (N := 10) hx hb hts inX6 hown hK.1 hP 0 rfl rfl 7 (by decide) (hts _ mf_X6_50) (fun _ h9 => h9) rfl dX6_cut_34 ?_
        refine lv_iload_n hx hb dX6_cut_37 rfl (lv_at hl 2 rfl) ?_
        have j49_4 : ∀ (z4 : Int32) (H : Heap) (locs : List Loc) (ls : Array Slot), PP G (xM G x xa ta a b ga ua la lb lc tg gg xf tf f qf gf uf lf mf nf tr r q gr ur lr mr nr) H → va_S (fun q => s.heap.size ≤ q) s.heap H locs → lv_has ls 4 [] → W p l e ({ frames := 0, cells := 0, slots := 0, locals := 0 }) s m ([.ref x, .int rs, .int kx] : List Value).toArray below meth c H locs 0 0 (MQ below (QrI (fun qz => True) (fun q => s.heap.size ≤ q)) ([.ref x, .int rs, .int kx] : List Value).toArray s 0 0 (fun q => s.heap.size ≤ q)) (F0 m 49 ls [.int z4, .int (xf 7)]) := by
          intro z4  H locs ls hP hS hl
          refine lv_ishr hx hb dX6_cut_49 ?_
          refine lv_topi (fun v5 ev5 => ?_)
          refine lv_iconst (v := 1) hx hb dX6_cut_50 (by decide) ?_
          refine lv_iand hx hb dX6_cut_51 ?_
          refine lv_topi (fun v6 ev6 => ?_)
          exact rd_iret hx hb hr hlocks hS (trivial) dX6_cut_52
        refine lv_if_eq (tgt := 45) hx hb dX6_cut_38 (by decide) (fun c7 => ?_) (fun c7 => ?_)
        · refine lv_bipush (v := 12) hx hb dX6_cut_45 (by decide) ?_
          refine lv_iload_n hx hb dX6_cut_47 rfl (lv_at hl 3 rfl) ?_
          refine lv_iadd hx hb dX6_cut_48 ?_
          refine lv_topi (fun v8 ev8 => ?_)
          exact j49_4 v8 _ _ _ hP hS (lv_sub hl [] rfl)
        · refine lv_iload_n hx hb dX6_cut_41 rfl (lv_at hl 3 rfl) ?_
          refine lv_goto (tgt := 49) hx hb dX6_cut_42 (by decide) ?_
          exact j49_4 kx _ _ _ hP hS (lv_sub hl [] rfl)
      · refine lv_iconst (v := -1) hx hb dX6_cut_31 (by decide) ?_
        exact rd_iret hx hb hr hlocks hS (trivial) dX6_cut_32
  refine lv_if_eq (tgt := 14) hx hb dX6_cut_1 (by decide) (fun c9 => ?_) (fun c9 => ?_)
  · refine lv_aload_n hx hb dX6_cut_14 rfl (lv_at hl 0 rfl) ?_
    refine va_get (D := G.1) (ci := 6) (v := .ref (la 0)) (C := RX6) (T := TX6) (N := 10) hx hb hts inX6 hown hK.1 hP 0 rfl rfl 5 (by decide) (hts _ mf_X6_43) (fun _ h9 => h9) rfl dX6_cut_15 ?_
    refine va_get (D := G.1) (ci := 1) (v := .int (lf 1)) (C := RX1) (T := TX1) (N := 3) hx hb hts inX1 hown hK.1 hP 42 rfl rfl 1 (by decide) (hts _ mf_X6_210) (fun _ h9 => h9) rfl dX6_cut_18 ?_
    exact j21_1 (lf 1) _ _ _ hP hS (lv_sub hl [0, 1, 2] rfl)
  · refine lv_aload_n hx hb dX6_cut_4 rfl (lv_at hl 0 rfl) ?_
    refine va_get (D := G.1) (ci := 6) (v := .ref (la 0)) (C := RX6) (T := TX6) (N := 10) hx hb hts inX6 hown hK.1 hP 0 rfl rfl 5 (by decide) (hts _ mf_X6_43) (fun _ h9 => h9) rfl dX6_cut_5 ?_
    refine va_get (D := G.1) (ci := 1) (v := .int (lf 0)) (C := RX1) (T := TX1) (N := 3) hx hb hts inX1 hown hK.1 hP 42 rfl rfl 0 (by decide) (hts _ mf_X6_209) (fun _ h9 => h9) rfl dX6_cut_8 ?_
    refine lv_goto (tgt := 21) hx hb dX6_cut_11 (by decide) ?_
    exact j21_1 (lf 0) _ _ _ hP hS (lv_sub hl [0, 1, 2] rfl)
set_option maxHeartbeats 4000000 in
set_option maxRecDepth 100000 in
theorem x_round (l : Launch) (G : GG) (x : Nat) (xa ta a b ga ua la lb lc : Nat → Nat) (tg gg : Nat → Option Nat) (xf tf f qf gf uf lf mf nf : Nat → Int32) (tr r q gr ur lr mr nr : Nat → Nat → Int32) (tb : Int32) (ba : Int32) (j : Nat) (hj : j < 6) (hjt : tbJ tb j) (htg : tg j = some (ta 0)) (hT1 : nL 12 (tf 1)) (hT2 : nL 12 (tf 2)) (hT3 : nL 12 (tf 3)) (hT4 : nOK 12 12 (tr 4)) (hM0 : nL 12 (mf 0)) (hM1 : nL 12 (mf 1)) : WrI l yX6_round cX6_round 3 (some .int) ({ frames := 7, cells := 0, slots := 0, locals := 171 }) G (xM G x xa ta a b ga ua la lb lc tg gg xf tf f qf gf uf lf mf nf tr r q gr ur lr mr nr) [.ref x, .int tb, .int ba] (fun qz w => ∃ (n_f_0 : Int32) (n_f_1 : Int32) (n_f_2 : Int32) (n_f_3 : Int32) (n_f_4 : Int32) (n_mf_0 : Int32) (n_mf_1 : Int32) (n_mr_2 : Nat → Int32) (n_r_6 : Nat → Int32) (n_r_7 : Nat → Int32) (n_r_8 : Nat → Int32) (n_r_9 : Nat → Int32) (n_r_10 : Nat → Int32) (n_r_11 : Nat → Int32) (n_r_12 : Nat → Int32) (n_r_13 : Nat → Int32) (n_r_14 : Nat → Int32) (n_uf_3 : Int32) (n_ur_1 : Nat → Int32) (n_ur_2 : Nat → Int32) (n_ur_3 : Nat → Int32) (n_ur_4 : Nat → Int32) (n_ur_5 : Nat → Int32) (n_ur_6 : Nat → Int32) (n_ur_7 : Nat → Int32) (n_ur_20 : Nat → Int32) (n_ur_21 : Nat → Int32) (n_ur_22 : Nat → Int32) (n_xf_0 : Int32), w = xM G x xa ta a b ga ua la lb lc tg gg (upd xf 0 n_xf_0) tf (upd (upd (upd (upd (upd f 0 n_f_0) 1 n_f_1) 2 n_f_2) 3 n_f_3) 4 n_f_4) qf gf (upd uf 3 n_uf_3) lf (upd (upd mf 0 n_mf_0) 1 n_mf_1) nf tr (up2 (up2 (up2 (up2 (up2 (up2 (up2 (up2 (up2 r 6 n_r_6) 7 n_r_7) 8 n_r_8) 9 n_r_9) 10 n_r_10) 11 n_r_11) 12 n_r_12) 13 n_r_13) 14 n_r_14) q gr (up2 (up2 (up2 (up2 (up2 (up2 (up2 (up2 (up2 (up2 ur 1 n_ur_1) 2 n_ur_2) 3 n_ur_3) 4 n_ur_4) 5 n_ur_5) 6 n_ur_6) 7 n_ur_7) 20 n_ur_20) 21 n_ur_21) 22 n_ur_22) lr (up2 mr 2 n_mr_2) nr ∧ (nL 12 n_mf_0) ∧ (nL 12 n_mf_1)) := by
  refine wr_entryI (by decide +kernel) (Nat.le_of_ble_eq_true rfl) ?_
  intro p e s m below meth c A C0 hP hK hD hA ls hl
  have hS : va_S A s.heap s.heap [] := va_S.rf
  obtain ⟨hx, hb, hml, hown, hts, hr, hlocks, hin⟩ := C0
  have hown : s.vm.findClass RX6 = some m.cls := hown
  have hDD : ∀ xf' tf' f' qf' gf' uf' lf' mf' nf' tr' r' q' gr' ur' lr' mr' nr', va_D A (xM G x xa ta a b ga ua la lb lc tg gg xf' tf' f' qf' gf' uf' lf' mf' nf' tr' r' q' gr' ur' lr' mr' nr') := fun xf' tf' f' qf' gf' uf' lf' mf' nf' tr' r' q' gr' ur' lr' mr' nr' => D_same hD rfl
  have hl : lv_has ls 3 [(0, .ref x), (1, .int tb), (2, .int ba)] := hl
  refine lv_aload_n hx hb dX6_round_0 rfl (lv_at hl 0 rfl) ?_
  refine lv_aload_n hx hb dX6_round_1 rfl (lv_at hl 0 rfl) ?_
  refine lv_iload_n hx hb dX6_round_2 rfl (lv_at hl 1 rfl) ?_
  refine rdV (rest := [.ref x]) (q0 := 0) ⟨hx, hb, hml, hown, hts⟩ (x_tableStatus l G x xa ta a b ga ua la lb lc tg gg xf tf f qf gf uf lf mf nf tr r q gr ur lr mr nr tb j (by omega) hjt htg) mi_yX6_tableStatus mv_yX6_tableStatus ml_X6_73 ⟨rfl, rfl, Nat.le_of_ble_eq_true rfl, Nat.le_of_ble_eq_true rfl⟩ hK (hP) rfl rfl rfl hl.1 rfl (Nat.le_of_ble_eq_true rfl) dX6_round_3 ⟨Nat.zero_le _, Nat.zero_le _⟩ hS hA hP (fun r1 H locs hr1 hP hS => ?_)
  have hr1 : ((r1 = 0 ∧ tbO tb j (tf 0)) ∨ (r1 = 1 ∧ ¬ tbO tb j (tf 0))) := hr1
  refine wrVIa (rest := []) (q0 := 0) ⟨hx, hb, hml, hown, hts⟩ (x_settled l G x xa ta a b ga ua la lb lc tg gg xf tf f qf gf uf lf mf nf tr r q gr ur lr mr nr r1  ) mi_yX6_settled mv_yX6_settled ml_X6_65 ⟨rfl, rfl, Nat.le_of_ble_eq_true rfl, Nat.le_of_ble_eq_true rfl⟩ hK hP (hDD _ _ _ _ _ _ _ _ _ _ _ _ _ _ _ _ _) rfl rfl rfl hl.1 rfl (Nat.le_of_ble_eq_true rfl) dX6_round_6 ⟨Nat.zero_le _, Nat.zero_le _⟩ hS hA (fun r2 w3 H locs hw3 hP hS => ?_)
  obtain ⟨x4, rfl, hw3r⟩ := hw3
  have hP : PP G (xM G x xa ta a b ga ua la lb lc tg gg (upd xf 0 x4) tf f qf gf uf lf mf nf tr r q gr ur lr mr nr) H := hP
  have hw3r : ((r2 = 1 ∧ ((r1 : Int32) = 0)) ∨ (r2 = 0 ∧ ¬ ((r1 : Int32) = 0))) := hw3r
  refine lv_if_ne (tgt := 14) hx hb dX6_round_9 (by decide) (fun c5 => ?_) (fun c5 => ?_)
  · have b9 := bT hw3r c5
    obtain ⟨ej, ho⟩ := st0 hr1 b9
    subst ej
    obtain ⟨rw, hrw, t1⟩ := hT1
    obtain ⟨cl, hcl, t2⟩ := hT2
    obtain ⟨bk, hbk, t3⟩ := hT3
    have hT1 : nL 12 (tf 1) := ⟨rw, hrw, t1⟩
    have hT2 : nL 12 (tf 2) := ⟨cl, hcl, t2⟩
    have hT3 : nL 12 (tf 3) := ⟨bk, hbk, t3⟩
    refine lv_iload_n hx hb dX6_round_14 rfl (lv_at hl 2 rfl) ?_
    refine lv_iconst (v := 2) hx hb dX6_round_15 (by decide) ?_
    refine lv_icmp_lt (tgt := 26) hx hb dX6_round_16 (by decide) (fun c6 => ?_) (fun c6 => ?_)
    · refine lv_aload_n hx hb dX6_round_26 rfl (lv_at hl 0 rfl) ?_
      refine lv_bipush (v := 7) hx hb dX6_round_27 (by decide) ?_
      refine wrVIa (rest := []) (q0 := 0) ⟨hx, hb, hml, hown, hts⟩ (x_refused l G x xa ta a b ga ua la lb lc tg gg (upd xf 0 x4) tf f qf gf uf lf mf nf tr r q gr ur lr mr nr 7  ) mi_yX6_refused mv_yX6_refused ml_X6_122 ⟨rfl, rfl, Nat.le_of_ble_eq_true rfl, Nat.le_of_ble_eq_true rfl⟩ hK hP (hDD _ _ _ _ _ _ _ _ _ _ _ _ _ _ _ _ _) rfl rfl rfl hl.1 rfl (Nat.le_of_ble_eq_true rfl) dX6_round_29 ⟨Nat.zero_le _, Nat.zero_le _⟩ hS hA (fun r7 w8 H locs hw8 hP hS => ?_)
      obtain ⟨x9, rfl, hw8r⟩ := hw8
      have hP : PP G (xM G x xa ta a b ga ua la lb lc tg gg (upd xf 0 x9) tf f qf gf uf lf mf nf tr r q gr ur lr mr nr) H := hP
      obtain rfl := hw8r
      exact wr_iret hx hb hr hlocks hS hP ⟨(f 0), (f 1), (f 2), (f 3), (f 4), (mf 0), (mf 1), (mr 2), (r 6), (r 7), (r 8), (r 9), (r 10), (r 11), (r 12), (r 13), (r 14), (uf 3), (ur 1), (ur 2), (ur 3), (ur 4), (ur 5), (ur 6), (ur 7), (ur 20), (ur 21), (ur 22), x9, rfl, hM0, hM1⟩ dX6_round_32
    · refine lv_iload_n hx hb dX6_round_19 rfl (lv_at hl 2 rfl) ?_
      refine lv_sipush (v := 1000) hx hb dX6_round_20 (by decide) ?_
      refine lv_icmp_le (tgt := 33) hx hb dX6_round_23 (by decide) (fun c10 => ?_) (fun c10 => ?_)
      · refine lv_aload_n hx hb dX6_round_33 rfl (lv_at hl 0 rfl) ?_
        refine va_get (D := G.1) (ci := 6) (v := .ref (a 15)) (C := RX6) (T := TX6) (N := 10) hx hb hts inX6 hown hK.1 hP 0 rfl rfl 2 (by decide) (hts _ mf_X6_22) (fun _ h9 => h9) rfl dX6_round_34 ?_
        refine lv_aload_n hx hb dX6_round_37 rfl (lv_at hl 0 rfl) ?_
        refine va_get (D := G.1) (ci := 6) (v := .ref (xa 1)) (C := RX6) (T := TX6) (N := 10) hx hb hts inX6 hown hK.1 hP 0 rfl rfl 1 (by decide) (hts _ mf_X6_15) (fun _ h9 => h9) rfl dX6_round_38 ?_
        refine lv_iload_n hx hb dX6_round_41 rfl (lv_at hl 1 rfl) ?_
        refine xaldT hx hb hK hP 1 (j) (b := (ta 0)) rfl (by omega) (by decide) rfl (htg) dX6_round_42 ?_
        refine lawV (rest := []) (q0 := 0) ⟨hx, hb, hml, hown, hts⟩ (c_X2_load l G a b f r ta tf tr rw cl bk hrw hcl hbk t1 t2 t3) mi_yX2_load mv_yX2_load ml_X6_184 ⟨rfl, rfl, Nat.le_of_ble_eq_true rfl, Nat.le_of_ble_eq_true rfl⟩ hK hP (hDD _ _ _ _ _ _ _ _ _ _ _ _ _ _ _ _ _) (pl_perm (xBlk G x xa ta a b ga ua la lb lc tg gg (upd xf 0 x4) tf f qf gf uf lf mf nf tr r q gr ur lr mr nr) (sel := [2, 1]) (oth := [0, 3, 4, 5, 6, 7, 8, 9]) (by decide)) rfl rfl rfl hl.1 rfl (Nat.le_of_ble_eq_true rfl) dX6_round_43 ⟨Nat.zero_le _, Nat.zero_le _⟩ hS hA (fun w14 H locs hw14 hP hS => ?_)
        obtain ⟨x11, x12, h0, h1, rfl⟩ := hw14
        have hP : PP G (xM G x xa ta a b ga ua la lb lc tg gg (upd xf 0 x4) tf (upd (upd (upd (upd (upd f 0 (x11 0)) 1 (x11 1)) 2 (x11 2)) 3 (x11 3)) 4 (x11 4)) qf gf uf lf mf nf tr (up2 (up2 (up2 (up2 (up2 (up2 (up2 (up2 (up2 r 6 (x12 6)) 7 (x12 7)) 8 (x12 8)) 9 (x12 9)) 10 (x12 10)) 11 (x12 11)) 12 (x12 12)) 13 (x12 13)) 14 (x12 14)) q gr ur lr mr nr) H := (hP rfl (xM G x xa ta a b ga ua la lb lc tg gg (upd xf 0 x4) tf (upd (upd (upd (upd (upd f 0 (x11 0)) 1 (x11 1)) 2 (x11 2)) 3 (x11 3)) 4 (x11 4)) qf gf uf lf mf nf tr (up2 (up2 (up2 (up2 (up2 (up2 (up2 (up2 (up2 r 6 (x12 6)) 7 (x12 7)) 8 (x12 8)) 9 (x12 9)) 10 (x12 10)) 11 (x12 11)) 12 (x12 12)) 13 (x12 13)) 14 (x12 14)) q gr ur lr mr nr) (pl_perm (xBlk G x xa ta a b ga ua la lb lc tg gg (upd xf 0 x4) tf (upd (upd (upd (upd (upd f 0 (x11 0)) 1 (x11 1)) 2 (x11 2)) 3 (x11 3)) 4 (x11 4)) qf gf uf lf mf nf tr (up2 (up2 (up2 (up2 (up2 (up2 (up2 (up2 (up2 r 6 (x12 6)) 7 (x12 7)) 8 (x12 8)) 9 (x12 9)) 10 (x12 10)) 11 (x12 11)) 12 (x12 12)) 13 (x12 13)) 14 (x12 14)) q gr ur lr mr nr) (sel := [2, 1]) (oth := [0, 3, 4, 5, 6, 7, 8, 9]) (by decide))).1
        refine lv_aload_n hx hb dX6_round_46 rfl (lv_at hl 0 rfl) ?_
        refine va_get (D := G.1) (ci := 6) (v := .ref (ua 0)) (C := RX6) (T := TX6) (N := 10) hx hb hts inX6 hown hK.1 hP 0 rfl rfl 4 (by decide) (hts _ mf_X6_36) (fun _ h9 => h9) rfl dX6_round_47 ?_
        refine lv_aload_n hx hb dX6_round_50 rfl (lv_at hl 0 rfl) ?_
        refine va_get (D := G.1) (ci := 6) (v := .ref (a 15)) (C := RX6) (T := TX6) (N := 10) hx hb hts inX6 hown hK.1 hP 0 rfl rfl 2 (by decide) (hts _ mf_X6_22) (fun _ h9 => h9) rfl dX6_round_51 ?_
        refine lv_iload_n hx hb dX6_round_54 rfl (lv_at hl 2 rfl) ?_
        refine lv_aload_n hx hb dX6_round_55 rfl (lv_at hl 0 rfl) ?_
        refine va_get (D := G.1) (ci := 6) (v := .ref (lb 0)) (C := RX6) (T := TX6) (N := 10) hx hb hts inX6 hown hK.1 hP 0 rfl rfl 6 (by decide) (hts _ mf_X6_47) (fun _ h9 => h9) rfl dX6_round_56 ?_
        refine lawI (rest := []) (q0 := 0) ⟨hx, hb, hml, hown, hts⟩ (c_X3_fill l G ua a b lb uf (upd (upd (upd (upd (upd f 0 (x11 0)) 1 (x11 1)) 2 (x11 2)) 3 (x11 3)) 4 (x11 4)) mf ur (up2 (up2 (up2 (up2 (up2 (up2 (up2 (up2 (up2 r 6 (x12 6)) 7 (x12 7)) 8 (x12 8)) 9 (x12 9)) 10 (x12 10)) 11 (x12 11)) 12 (x12 12)) 13 (x12 13)) 14 (x12 14)) mr ba rw cl hrw hcl h0 h1) mi_yX3_fill mv_yX3_fill ml_X6_235 ⟨rfl, rfl, Nat.le_of_ble_eq_true rfl, Nat.le_of_ble_eq_true rfl⟩ hK hP (hDD _ _ _ _ _ _ _ _ _ _ _ _ _ _ _ _ _) (pl_perm (xBlk G x xa ta a b ga ua la lb lc tg gg (upd xf 0 x4) tf (upd (upd (upd (upd (upd f 0 (x11 0)) 1 (x11 1)) 2 (x11 2)) 3 (x11 3)) 4 (x11 4)) qf gf uf lf mf nf tr (up2 (up2 (up2 (up2 (up2 (up2 (up2 (up2 (up2 r 6 (x12 6)) 7 (x12 7)) 8 (x12 8)) 9 (x12 9)) 10 (x12 10)) 11 (x12 11)) 12 (x12 12)) 13 (x12 13)) 14 (x12 14)) q gr ur lr mr nr) (sel := [5, 2, 7]) (oth := [0, 1, 3, 4, 6, 8, 9]) (by decide)) rfl rfl rfl hl.1 rfl (Nat.le_of_ble_eq_true rfl) dX6_round_59 ⟨Nat.zero_le _, Nat.zero_le _⟩ hS hA (fun r29 w30 H locs hw30 hP hS => ?_)
        obtain ⟨x15, x16, x17, x18, x19, x20, x21, x22, x23, x24, x25, x26, x27, x28, rfl, hl0, hl1⟩ := hw30
        have hP : PP G (xM G x xa ta a b ga ua la lb lc tg gg (upd xf 0 x4) tf (upd (upd (upd (upd (upd f 0 (x11 0)) 1 (x11 1)) 2 (x11 2)) 3 (x11 3)) 4 (x11 4)) qf gf (upd uf 3 x18) lf (upd (upd mf 0 x15) 1 x16) nf tr (up2 (up2 (up2 (up2 (up2 (up2 (up2 (up2 (up2 r 6 (x12 6)) 7 (x12 7)) 8 (x12 8)) 9 (x12 9)) 10 (x12 10)) 11 (x12 11)) 12 (x12 12)) 13 (x12 13)) 14 (x12 14)) q gr (up2 (up2 (up2 (up2 (up2 (up2 (up2 (up2 (up2 (up2 ur 1 x19) 2 x20) 3 x21) 4 x22) 5 x23) 6 x24) 7 x25) 20 x26) 21 x27) 22 x28) lr (up2 mr 2 x17) nr) H := (hP rfl (xM G x xa ta a b ga ua la lb lc tg gg (upd xf 0 x4) tf (upd (upd (upd (upd (upd f 0 (x11 0)) 1 (x11 1)) 2 (x11 2)) 3 (x11 3)) 4 (x11 4)) qf gf (upd uf 3 x18) lf (upd (upd mf 0 x15) 1 x16) nf tr (up2 (up2 (up2 (up2 (up2 (up2 (up2 (up2 (up2 r 6 (x12 6)) 7 (x12 7)) 8 (x12 8)) 9 (x12 9)) 10 (x12 10)) 11 (x12 11)) 12 (x12 12)) 13 (x12 13)) 14 (x12 14)) q gr (up2 (up2 (up2 (up2 (up2 (up2 (up2 (up2 (up2 (up2 ur 1 x19) 2 x20) 3 x21) 4 x22) 5 x23) 6 x24) 7 x25) 20 x26) 21 x27) 22 x28) lr (up2 mr 2 x17) nr) (pl_perm (xBlk G x xa ta a b ga ua la lb lc tg gg (upd xf 0 x4) tf (upd (upd (upd (upd (upd f 0 (x11 0)) 1 (x11 1)) 2 (x11 2)) 3 (x11 3)) 4 (x11 4)) qf gf (upd uf 3 x18) lf (upd (upd mf 0 x15) 1 x16) nf tr (up2 (up2 (up2 (up2 (up2 (up2 (up2 (up2 (up2 r 6 (x12 6)) 7 (x12 7)) 8 (x12 8)) 9 (x12 9)) 10 (x12 10)) 11 (x12 11)) 12 (x12 12)) 13 (x12 13)) 14 (x12 14)) q gr (up2 (up2 (up2 (up2 (up2 (up2 (up2 (up2 (up2 (up2 ur 1 x19) 2 x20) 3 x21) 4 x22) 5 x23) 6 x24) 7 x25) 20 x26) 21 x27) 22 x28) lr (up2 mr 2 x17) nr) (sel := [5, 2, 7]) (oth := [0, 1, 3, 4, 6, 8, 9]) (by decide))).1
        have hM0 : nL 12 x15 := ⟨rw, hrw, hl0⟩
        have hM1 : nL 12 x16 := ⟨cl, hcl, hl1⟩
        exact wr_iret hx hb hr hlocks hS hP ⟨(x11 0), (x11 1), (x11 2), (x11 3), (x11 4), x15, x16, x17, (x12 6), (x12 7), (x12 8), (x12 9), (x12 10), (x12 11), (x12 12), (x12 13), (x12 14), x18, x19, x20, x21, x22, x23, x24, x25, x26, x27, x28, x4, rfl, hM0, hM1⟩ dX6_round_62
      · refine lv_aload_n hx hb dX6_round_26 rfl (lv_at hl 0 rfl) ?_
        refine lv_bipush (v := 7) hx hb dX6_round_27 (by decide) ?_
        refine wrVIa (rest := []) (q0 := 0) ⟨hx, hb, hml, hown, hts⟩ (x_refused l G x xa ta a b ga ua la lb lc tg gg (upd xf 0 x4) tf f qf gf uf lf mf nf tr r q gr ur lr mr nr 7  ) mi_yX6_refused mv_yX6_refused ml_X6_122 ⟨rfl, rfl, Nat.le_of_ble_eq_true rfl, Nat.le_of_ble_eq_true rfl⟩ hK hP (hDD _ _ _ _ _ _ _ _ _ _ _ _ _ _ _ _ _) rfl rfl rfl hl.1 rfl (Nat.le_of_ble_eq_true rfl) dX6_round_29 ⟨Nat.zero_le _, Nat.zero_le _⟩ hS hA (fun r31 w32 H locs hw32 hP hS => ?_)
        obtain ⟨x33, rfl, hw32r⟩ := hw32
        have hP : PP G (xM G x xa ta a b ga ua la lb lc tg gg (upd xf 0 x33) tf f qf gf uf lf mf nf tr r q gr ur lr mr nr) H := hP
        obtain rfl := hw32r
        exact wr_iret hx hb hr hlocks hS hP ⟨(f 0), (f 1), (f 2), (f 3), (f 4), (mf 0), (mf 1), (mr 2), (r 6), (r 7), (r 8), (r 9), (r 10), (r 11), (r 12), (r 13), (r 14), (uf 3), (ur 1), (ur 2), (ur 3), (ur 4), (ur 5), (ur 6), (ur 7), (ur 20), (ur 21), (ur 22), x33, rfl, hM0, hM1⟩ dX6_round_32
  · have b9 := bF hw3r c5
    refine lv_iconst (v := -1) hx hb dX6_round_12 (by decide) ?_
    exact wr_iret hx hb hr hlocks hS hP ⟨(f 0), (f 1), (f 2), (f 3), (f 4), (mf 0), (mf 1), (mr 2), (r 6), (r 7), (r 8), (r 9), (r 10), (r 11), (r 12), (r 13), (r 14), (uf 3), (ur 1), (ur 2), (ur 3), (ur 4), (ur 5), (ur 6), (ur 7), (ur 20), (ur 21), (ur 22), x4, rfl, hM0, hM1⟩ dX6_round_13
set_option maxHeartbeats 4000000 in
set_option maxRecDepth 100000 in
theorem x_isGift (l : Launch) (G : GG) (x : Nat) (xa ta a b ga ua la lb lc : Nat → Nat) (tg gg : Nat → Option Nat) (xf tf f qf gf uf lf mf nf : Nat → Int32) (tr r q gr ur lr mr nr : Nat → Nat → Int32) (kx : Int32) : RdI l yX6_isGift cX6_isGift 2 (some .boolean) ({ frames := 0, cells := 0, slots := 0, locals := 0 }) G (xM G x xa ta a b ga ua la lb lc tg gg xf tf f qf gf uf lf mf nf tr r q gr ur lr mr nr) [.ref x, .int kx] (fun qz => ((qz = 1 ∧ (inR (xf 9) kx)) ∨ (qz = 0 ∧ ¬ (inR (xf 9) kx)))) := by
  refine rd_entry (by decide +kernel) (Nat.le_of_ble_eq_true rfl) ?_
  intro p e s m below meth c C0 hP hK ls hl
  have hS : va_S (fun q => s.heap.size ≤ q) s.heap s.heap [] := va_S.rf
  have hA : ∀ q, s.heap.size ≤ q → (fun q => s.heap.size ≤ q) q := fun _ h => h
  obtain ⟨hx, hb, hml, hown, hts, hr, hlocks, hin⟩ := C0
  have hown : s.vm.findClass RX6 = some m.cls := hown
  have hl : lv_has ls 2 [(0, .ref x), (1, .int kx)] := hl
  refine lv_iload_n hx hb dX6_isGift_0 rfl (lv_at hl 1 rfl) ?_
  refine lv_if_lt (tgt := 16) hx hb dX6_isGift_1 (by decide) (fun c1 => ?_) (fun c1 => ?_)
  · refine lv_iconst (v := 0) hx hb dX6_isGift_16 (by decide) ?_
    exact rd_zret hx hb hr hlocks (Or.inl rfl) hS (Or.inr ⟨rfl, fun h => h.1 c1⟩) dX6_isGift_17
  · refine lv_iload_n hx hb dX6_isGift_4 rfl (lv_at hl 1 rfl) ?_
    refine lv_aload_n hx hb dX6_isGift_5 rfl (lv_at hl 0 rfl) ?_
    refine va_get (D := G.1) (ci := 6) (v := .int (xf 9)) (C := RX6) (T := TX6) (N := 10) hx hb hts inX6 hown hK.1 hP 0 rfl rfl 9 (by decide) (hts _ mf_X6_57) (fun _ h9 => h9) rfl dX6_isGift_6 ?_
    refine lv_icmp_ge (tgt := 16) hx hb dX6_isGift_9 (by decide) (fun c2 => ?_) (fun c2 => ?_)
    · refine lv_iconst (v := 0) hx hb dX6_isGift_16 (by decide) ?_
      exact rd_zret hx hb hr hlocks (Or.inl rfl) hS (Or.inr ⟨rfl, fun h => h.2 c2⟩) dX6_isGift_17
    · refine lv_iconst (v := 1) hx hb dX6_isGift_12 (by decide) ?_
      refine lv_goto (tgt := 17) hx hb dX6_isGift_13 (by decide) ?_
      exact rd_zret hx hb hr hlocks (Or.inr rfl) hS (Or.inl ⟨rfl, c1, c2⟩) dX6_isGift_17
def gfJ (x : Int32) (k : Nat) : Prop := ∀ n, n < 16 → x = nI n → n = k
theorem gf_j {g x : Int32} {k : Nat} (h9 : nL 16 g) (hJ : gfJ x k) (h : inR g x) : k < 16 ∧ x = nI k := by
  obtain ⟨n, hn, rfl⟩ := h9
  obtain ⟨i, hi, e⟩ := inR_n (by omega) h
  have := hJ i (by omega) e
  subst this
  exact ⟨by omega, e⟩
abbrev aM (G : GG) (x : Nat) (xa a ga ua la lb lc ld : Nat → Nat) (gg : Nat → Option Nat) (xf nf wf : Nat → Int32) (nr wr : Nat → Nat → Int32) : va_W := [(x, .inr (6, [.int (xf 0), .ref (xa 1), .ref (a 15), .ref (ga 9), .ref (ua 0), .ref (la 0), .ref (lb 0), .int (xf 7), .ref (xa 8), .int (xf 9)])), ((xa 8), .inl (G.2.2.2.2, 16, .inr (.inr (.inr (.inr gg))))), ((lc 0), .inr (1, [.int (nf 0), .int (nf 1), .ref (lc 1)])), ((lc 1), .inl (G.2.1, 144, .inl (nr 2))), ((ld 0), .inr (1, [.int (wf 0), .int (wf 1), .ref (ld 1)])), ((ld 1), .inl (G.2.1, 144, .inl (wr 2)))]
set_option maxHeartbeats 4000000 in
set_option maxRecDepth 100000 in
theorem x_isGiftA (l : Launch) (G : GG) (x : Nat) (xa a ga ua la lb lc ld : Nat → Nat) (gg : Nat → Option Nat) (xf nf wf : Nat → Int32) (nr wr : Nat → Nat → Int32) (kx : Int32) : RdI l yX6_isGift cX6_isGift 2 (some .boolean) ({ frames := 0, cells := 0, slots := 0, locals := 0 }) G (aM G x xa a ga ua la lb lc ld gg xf nf wf nr wr) [.ref x, .int kx] (fun q => ((q = 1 ∧ (inR (xf 9) kx)) ∨ (q = 0 ∧ ¬ (inR (xf 9) kx)))) := by
  refine rd_entry (by decide +kernel) (Nat.le_of_ble_eq_true rfl) ?_
  intro p e s m below meth c C0 hP hK ls hl
  have hS : va_S (fun q => s.heap.size ≤ q) s.heap s.heap [] := va_S.rf
  have hA : ∀ q, s.heap.size ≤ q → (fun q => s.heap.size ≤ q) q := fun _ h => h
  obtain ⟨hx, hb, hml, hown, hts, hr, hlocks, hin⟩ := C0
  have hown : s.vm.findClass RX6 = some m.cls := hown
  have hl : lv_has ls 2 [(0, .ref x), (1, .int kx)] := hl
  refine lv_iload_n hx hb dX6_isGift_0 rfl (lv_at hl 1 rfl) ?_
  refine lv_if_lt (tgt := 16) hx hb dX6_isGift_1 (by decide) (fun c1 => ?_) (fun c1 => ?_)
  · refine lv_iconst (v := 0) hx hb dX6_isGift_16 (by decide) ?_
    exact rd_zret hx hb hr hlocks (Or.inl rfl) hS (Or.inr ⟨rfl, fun h => h.1 c1⟩) dX6_isGift_17
  · refine lv_iload_n hx hb dX6_isGift_4 rfl (lv_at hl 1 rfl) ?_
    refine lv_aload_n hx hb dX6_isGift_5 rfl (lv_at hl 0 rfl) ?_
    refine va_get (D := G.1) (ci := 6) (v := .int (xf 9)) (C := RX6) (T := TX6) (N := 10) hx hb hts inX6 hown hK.1 hP 0 rfl rfl 9 (by decide) (hts _ mf_X6_57) (fun _ h9 => h9) rfl dX6_isGift_6 ?_
    refine lv_icmp_ge (tgt := 16) hx hb dX6_isGift_9 (by decide) (fun c2 => ?_) (fun c2 => ?_)
    · refine lv_iconst (v := 0) hx hb dX6_isGift_16 (by decide) ?_
      exact rd_zret hx hb hr hlocks (Or.inl rfl) hS (Or.inr ⟨rfl, fun h => h.2 c2⟩) dX6_isGift_17
    · refine lv_iconst (v := 1) hx hb dX6_isGift_12 (by decide) ?_
      refine lv_goto (tgt := 17) hx hb dX6_isGift_13 (by decide) ?_
      exact rd_zret hx hb hr hlocks (Or.inr rfl) hS (Or.inl ⟨rfl, c1, c2⟩) dX6_isGift_17