
set_option maxHeartbeats 4000000 in
set_option maxRecDepth 100000 in
theorem x_spanEnd (l : Launch) (G : GG) (x : Nat) (xa ta a b ga ua la lb lc : Nat → Nat) (tg gg : Nat → Option Nat) (xf tf f qf gf uf lf mf nf : Nat → Int32) (tr r q gr ur lr mr nr : Nat → Nat → Int32) (tb : Int32) (row : Int32) (col : Int32) (gr_ : Int32) (j : Nat) (hj : j < 6) (hjt : tbJ tb j) (htg : tg j = some (ta 0)) (hT1 : nL 12 (tf 1)) (hT2 : nL 12 (tf 2)) (hT3 : nL 12 (tf 3)) (hT4 : nOK 12 12 (tr 4)) (hRB : RB adjR (q 0)) : WrI l yX6_spanEnd cX6_spanEnd 5 (some .int) ({ frames := 6, cells := 0, slots := 0, locals := 141 }) G (xM G x xa ta a b ga ua la lb lc tg gg xf tf f qf gf uf lf mf nf tr r q gr ur lr mr nr) [.ref x, .int tb, .int row, .int col, .int gr_] (fun qz w => ∃ (n_f_0 : Int32) (n_f_1 : Int32) (n_f_2 : Int32) (n_f_3 : Int32) (n_f_4 : Int32) (n_q_0 : Nat → Int32) (n_q_1 : Nat → Int32) (n_q_2 : Nat → Int32) (n_qf_3 : Int32) (n_r_6 : Nat → Int32) (n_r_7 : Nat → Int32) (n_r_8 : Nat → Int32) (n_r_9 : Nat → Int32) (n_r_10 : Nat → Int32) (n_r_11 : Nat → Int32) (n_r_12 : Nat → Int32) (n_r_13 : Nat → Int32) (n_r_14 : Nat → Int32) (n_xf_0 : Int32), w = xM G x xa ta a b ga ua la lb lc tg gg (upd xf 0 n_xf_0) tf (upd (upd (upd (upd (upd f 0 n_f_0) 1 n_f_1) 2 n_f_2) 3 n_f_3) 4 n_f_4) (upd qf 3 n_qf_3) gf uf lf mf nf tr (up2 (up2 (up2 (up2 (up2 (up2 (up2 (up2 (up2 r 6 n_r_6) 7 n_r_7) 8 n_r_8) 9 n_r_9) 10 n_r_10) 11 n_r_11) 12 n_r_12) 13 n_r_13) 14 n_r_14) (up2 (up2 (up2 q 0 n_q_0) 1 n_q_1) 2 n_q_2) gr ur lr mr nr ∧ (RB adjR n_q_0)) := by
  refine wr_entryI (by decide +kernel) (Nat.le_of_ble_eq_true rfl) ?_
  intro p e s m below meth c A C0 hP hK hD hA ls hl
  have hS : va_S A s.heap s.heap [] := va_S.rf
  obtain ⟨hx, hb, hml, hown, hts, hr, hlocks, hin⟩ := C0
  have hown : s.vm.findClass RX6 = some m.cls := hown
  have hDD : ∀ xf' tf' f' qf' gf' uf' lf' mf' nf' tr' r' q' gr' ur' lr' mr' nr', va_D A (xM G x xa ta a b ga ua la lb lc tg gg xf' tf' f' qf' gf' uf' lf' mf' nf' tr' r' q' gr' ur' lr' mr' nr') := fun xf' tf' f' qf' gf' uf' lf' mf' nf' tr' r' q' gr' ur' lr' mr' nr' => D_same hD rfl
  have hl : lv_has ls 5 [(0, .ref x), (1, .int tb), (2, .int row), (3, .int col), (4, .int gr_)] := hl
  refine lv_aload_n hx hb dX6_spanEnd_0 rfl (lv_at hl 0 rfl) ?_
  refine lv_aload_n hx hb dX6_spanEnd_1 rfl (lv_at hl 0 rfl) ?_
  refine lv_iload_n hx hb dX6_spanEnd_2 rfl (lv_at hl 1 rfl) ?_
  refine lv_iload_n hx hb dX6_spanEnd_3 rfl (lv_at hl 2 rfl) ?_
  refine lv_iload_n hx hb dX6_spanEnd_4 rfl (lv_at hl 3 rfl) ?_
  refine rdV (rest := [.ref x]) (q0 := 0) ⟨hx, hb, hml, hown, hts⟩ (x_soundCellStatus l G x xa ta a b ga ua la lb lc tg gg xf tf f qf gf uf lf mf nf tr r q gr ur lr mr nr tb row col j (by omega) hjt htg hT1 hT2 hT3) mi_yX6_soundCellStatus mv_yX6_soundCellStatus ml_X6_165 ⟨rfl, rfl, Nat.le_of_ble_eq_true rfl, Nat.le_of_ble_eq_true rfl⟩ hK (hP) rfl rfl rfl hl.1 rfl (Nat.le_of_ble_eq_true rfl) dX6_spanEnd_5 ⟨Nat.zero_le _, Nat.zero_le _⟩ hS hA hP (fun r1 H locs hr1 hP hS => ?_)
  have hr1 : stK (stX (tbO tb j (tf 0)) (tf 1) (tf 2) (tr 4) row col) row col (fun i k => kfS ((tr 5) (i * 12 + k)) (sndP ((tf 2)).toNatClampNeg (tr 4) (tr 5) i)) r1 := hr1
  refine wrVIa (rest := []) (q0 := 0) ⟨hx, hb, hml, hown, hts⟩ (x_settled l G x xa ta a b ga ua la lb lc tg gg xf tf f qf gf uf lf mf nf tr r q gr ur lr mr nr r1  ) mi_yX6_settled mv_yX6_settled ml_X6_65 ⟨rfl, rfl, Nat.le_of_ble_eq_true rfl, Nat.le_of_ble_eq_true rfl⟩ hK hP (hDD _ _ _ _ _ _ _ _ _ _ _ _ _ _ _ _ _) rfl rfl rfl hl.1 rfl (Nat.le_of_ble_eq_true rfl) dX6_spanEnd_8 ⟨Nat.zero_le _, Nat.zero_le _⟩ hS hA (fun r2 w3 H locs hw3 hP hS => ?_)
  obtain ⟨x4, rfl, hw3r⟩ := hw3
  have hP : PP G (xM G x xa ta a b ga ua la lb lc tg gg (upd xf 0 x4) tf f qf gf uf lf mf nf tr r q gr ur lr mr nr) H := hP
  have hw3r : ((r2 = 1 ∧ ((r1 : Int32) = 0)) ∨ (r2 = 0 ∧ ¬ ((r1 : Int32) = 0))) := hw3r
  refine lv_if_ne (tgt := 16) hx hb dX6_spanEnd_11 (by decide) (fun c5 => ?_) (fun c5 => ?_)
  · have b11 := bT hw3r c5
    have hs0 := stK_0 hr1 b11
    obtain ⟨⟨ej, ho⟩, q1, q2⟩ := stX_0 hs0 rfl
    subst ej
    have q1c := q1
    have q2c := q2
    obtain ⟨rw, hrw, t1⟩ := hT1
    obtain ⟨cl, hcl, t2⟩ := hT2
    obtain ⟨bk, hbk, t3⟩ := hT3
    have hT1 : nL 12 (tf 1) := ⟨rw, hrw, t1⟩
    have hT2 : nL 12 (tf 2) := ⟨cl, hcl, t2⟩
    have hT3 : nL 12 (tf 3) := ⟨bk, hbk, t3⟩
    rw [t1] at q1c
    rw [t2] at q2c
    obtain ⟨i, hi, ei⟩ := inR_n (by omega) q1c
    subst ei
    obtain ⟨k, hk, ek⟩ := inR_n (by omega) q2c
    subst ek
    have hkk := stK_k hr1 b11 (show i < 12 by omega) (show k < 12 by omega) rfl rfl
    refine lv_aload_n hx hb dX6_spanEnd_16 rfl (lv_at hl 0 rfl) ?_
    refine va_get (D := G.1) (ci := 6) (v := .ref (a 15)) (C := RX6) (T := TX6) (N := 10) hx hb hts inX6 hown hK.1 hP 0 rfl rfl 2 (by decide) (hts _ mf_X6_22) (fun _ h9 => h9) rfl dX6_spanEnd_17 ?_
    refine lv_aload_n hx hb dX6_spanEnd_20 rfl (lv_at hl 0 rfl) ?_
    refine va_get (D := G.1) (ci := 6) (v := .ref (xa 1)) (C := RX6) (T := TX6) (N := 10) hx hb hts inX6 hown hK.1 hP 0 rfl rfl 1 (by decide) (hts _ mf_X6_15) (fun _ h9 => h9) rfl dX6_spanEnd_21 ?_
    refine lv_iload_n hx hb dX6_spanEnd_24 rfl (lv_at hl 1 rfl) ?_
    refine xaldT hx hb hK hP 1 (j) (b := (ta 0)) rfl (by omega) (by decide) rfl (htg) dX6_spanEnd_25 ?_
    refine lawV (rest := []) (q0 := 0) ⟨hx, hb, hml, hown, hts⟩ (c_X2_load l G a b f r ta tf tr rw cl bk hrw hcl hbk t1 t2 t3) mi_yX2_load mv_yX2_load ml_X6_184 ⟨rfl, rfl, Nat.le_of_ble_eq_true rfl, Nat.le_of_ble_eq_true rfl⟩ hK hP (hDD _ _ _ _ _ _ _ _ _ _ _ _ _ _ _ _ _) (pl_perm (xBlk G x xa ta a b ga ua la lb lc tg gg (upd xf 0 x4) tf f qf gf uf lf mf nf tr r q gr ur lr mr nr) (sel := [2, 1]) (oth := [0, 3, 4, 5, 6, 7, 8, 9]) (by decide)) rfl rfl rfl hl.1 rfl (Nat.le_of_ble_eq_true rfl) dX6_spanEnd_26 ⟨Nat.zero_le _, Nat.zero_le _⟩ hS hA (fun w9 H locs hw9 hP hS => ?_)
    obtain ⟨x6, x7, h0, h1, rfl⟩ := hw9
    have hP : PP G (xM G x xa ta a b ga ua la lb lc tg gg (upd xf 0 x4) tf (upd (upd (upd (upd (upd f 0 (x6 0)) 1 (x6 1)) 2 (x6 2)) 3 (x6 3)) 4 (x6 4)) qf gf uf lf mf nf tr (up2 (up2 (up2 (up2 (up2 (up2 (up2 (up2 (up2 r 6 (x7 6)) 7 (x7 7)) 8 (x7 8)) 9 (x7 9)) 10 (x7 10)) 11 (x7 11)) 12 (x7 12)) 13 (x7 13)) 14 (x7 14)) q gr ur lr mr nr) H := (hP rfl (xM G x xa ta a b ga ua la lb lc tg gg (upd xf 0 x4) tf (upd (upd (upd (upd (upd f 0 (x6 0)) 1 (x6 1)) 2 (x6 2)) 3 (x6 3)) 4 (x6 4)) qf gf uf lf mf nf tr (up2 (up2 (up2 (up2 (up2 (up2 (up2 (up2 (up2 r 6 (x7 6)) 7 (x7 7)) 8 (x7 8)) 9 (x7 9)) 10 (x7 10)) 11 (x7 11)) 12 (x7 12)) 13 (x7 13)) 14 (x7 14)) q gr ur lr mr nr) (pl_perm (xBlk G x xa ta a b ga ua la lb lc tg gg (upd xf 0 x4) tf (upd (upd (upd (upd (upd f 0 (x6 0)) 1 (x6 1)) 2 (x6 2)) 3 (x6 3)) 4 (x6 4)) qf gf uf lf mf nf tr (up2 (up2 (up2 (up2 (up2 (up2 (up2 (up2 (up2 r 6 (x7 6)) 7 (x7 7)) 8 (x7 8)) 9 (x7 9)) 10 (x7 10)) 11 (x7 11)) 12 (x7 12)) 13 (x7 13)) 14 (x7 14)) q gr ur lr mr nr) (sel := [2, 1]) (oth := [0, 3, 4, 5, 6, 7, 8, 9]) (by decide))).1
    refine lv_aload_n hx hb dX6_spanEnd_29 rfl (lv_at hl 0 rfl) ?_
    refine va_get (D := G.1) (ci := 6) (v := .ref (a 15)) (C := RX6) (T := TX6) (N := 10) hx hb hts inX6 hown hK.1 hP 0 rfl rfl 2 (by decide) (hts _ mf_X6_22) (fun _ h9 => h9) rfl dX6_spanEnd_30 ?_
    refine lv_iload_n hx hb dX6_spanEnd_33 rfl (lv_at hl 2 rfl) ?_
    refine lv_iload_n hx hb dX6_spanEnd_34 rfl (lv_at hl 3 rfl) ?_
    refine lv_iload hx hb dX6_spanEnd_35 (lv_at hl 4 rfl) ?_
    refine lawV (rest := []) (q0 := 0) ⟨hx, hb, hml, hown, hts⟩ (c_X2_moveToEnd l G a b (upd (upd (upd (upd (upd f 0 (x6 0)) 1 (x6 1)) 2 (x6 2)) 3 (x6 3)) 4 (x6 4)) (up2 (up2 (up2 (up2 (up2 (up2 (up2 (up2 (up2 r 6 (x7 6)) 7 (x7 7)) 8 (x7 8)) 9 (x7 9)) 10 (x7 10)) 11 (x7 11)) 12 (x7 12)) 13 (x7 13)) 14 (x7 14)) q (qf 3) rw cl hrw hcl h0 h1 i k (by omega) (by omega) gr_ hRB) mi_yX2_moveToEnd mv_yX2_moveToEnd ml_X6_249 ⟨rfl, rfl, Nat.le_of_ble_eq_true rfl, Nat.le_of_ble_eq_true rfl⟩ hK hP (hDD _ _ _ _ _ _ _ _ _ _ _ _ _ _ _ _ _) (pl_perm (xBlk G x xa ta a b ga ua la lb lc tg gg (upd xf 0 x4) tf (upd (upd (upd (upd (upd f 0 (x6 0)) 1 (x6 1)) 2 (x6 2)) 3 (x6 3)) 4 (x6 4)) qf gf uf lf mf nf tr (up2 (up2 (up2 (up2 (up2 (up2 (up2 (up2 (up2 r 6 (x7 6)) 7 (x7 7)) 8 (x7 8)) 9 (x7 9)) 10 (x7 10)) 11 (x7 11)) 12 (x7 12)) 13 (x7 13)) 14 (x7 14)) q gr ur lr mr nr) (sel := [2, 3]) (oth := [0, 1, 4, 5, 6, 7, 8, 9]) (by decide)) rfl rfl rfl hl.1 rfl (Nat.le_of_ble_eq_true rfl) dX6_spanEnd_37 ⟨Nat.zero_le _, Nat.zero_le _⟩ hS hA (fun w17 H locs hw17 hP hS => ?_)
    obtain ⟨x10, x11, x12, x13, x14, x15, hRB, rfl⟩ := hw17
    have hP : PP G (xM G x xa ta a b ga ua la lb lc tg gg (upd xf 0 x4) tf (upd (upd (upd (upd (upd f 0 (x6 0)) 1 (x6 1)) 2 (x6 2)) 3 (x6 3)) 4 x10) (upd qf 3 x15) gf uf lf mf nf tr (up2 (up2 (up2 (up2 (up2 (up2 (up2 (up2 (up2 r 6 (x11 6)) 7 (x11 7)) 8 (x11 8)) 9 (x11 9)) 10 (x11 10)) 11 (x11 11)) 12 (x11 12)) 13 (x11 13)) 14 (x11 14)) (up2 (up2 (up2 q 0 x12) 1 x13) 2 x14) gr ur lr mr nr) H := (hP rfl (xM G x xa ta a b ga ua la lb lc tg gg (upd xf 0 x4) tf (upd (upd (upd (upd (upd f 0 (x6 0)) 1 (x6 1)) 2 (x6 2)) 3 (x6 3)) 4 x10) (upd qf 3 x15) gf uf lf mf nf tr (up2 (up2 (up2 (up2 (up2 (up2 (up2 (up2 (up2 r 6 (x11 6)) 7 (x11 7)) 8 (x11 8)) 9 (x11 9)) 10 (x11 10)) 11 (x11 11)) 12 (x11 12)) 13 (x11 13)) 14 (x11 14)) (up2 (up2 (up2 q 0 x12) 1 x13) 2 x14) gr ur lr mr nr) (pl_perm (xBlk G x xa ta a b ga ua la lb lc tg gg (upd xf 0 x4) tf (upd (upd (upd (upd (upd f 0 (x6 0)) 1 (x6 1)) 2 (x6 2)) 3 (x6 3)) 4 x10) (upd qf 3 x15) gf uf lf mf nf tr (up2 (up2 (up2 (up2 (up2 (up2 (up2 (up2 (up2 r 6 (x11 6)) 7 (x11 7)) 8 (x11 8)) 9 (x11 9)) 10 (x11 10)) 11 (x11 11)) 12 (x11 12)) 13 (x11 13)) 14 (x11 14)) (up2 (up2 (up2 q 0 x12) 1 x13) 2 x14) gr ur lr mr nr) (sel := [2, 3]) (oth := [0, 1, 4, 5, 6, 7, 8, 9]) (by decide))).1
    refine lv_aload_n hx hb dX6_spanEnd_40 rfl (lv_at hl 0 rfl) ?_
    refine va_get (D := G.1) (ci := 6) (v := .ref (a 15)) (C := RX6) (T := TX6) (N := 10) hx hb hts inX6 hown hK.1 hP 0 rfl rfl 2 (by decide) (hts _ mf_X6_22) (fun _ h9 => h9) rfl dX6_spanEnd_41 ?_
    refine va_get (D := G.1) (ci := 2) (v := .ref (a 12)) (C := RX2) (T := TX2) (N := 15) hx hb hts inX2 hown hK.1 hP 11 rfl rfl 12 (by decide) (hts _ mf_X6_252) (fun _ h9 => h9) rfl dX6_spanEnd_44 ?_
    refine lv_iload_n hx hb dX6_spanEnd_47 rfl (lv_at hl 2 rfl) ?_
    refine lv_iload_n hx hb dX6_spanEnd_48 rfl (lv_at hl 3 rfl) ?_
    refine rdS (rest := [.ref (a 12)]) ⟨hx, hb, hml, hown, hts⟩ (c_X6_spotOf l G ((nI i)) ((nI k))) mi_yX6_spotOf mst_yX6_spotOf ml_X6_92 ⟨rfl, rfl, Nat.le_of_ble_eq_true rfl, Nat.le_of_ble_eq_true rfl⟩ hK (fun k q h => by simp at h) rfl hl.1 rfl (Nat.le_of_ble_eq_true rfl) dX6_spanEnd_49 ⟨Nat.zero_le _, Nat.zero_le _⟩ hS hA hP (fun r18 H locs hr18 hP hS => ?_)
    obtain rfl : r18 = nI (i * 12 + k) := spot_eq hr18
    refine xiald (f := (x11 12)) hx hb hK hP 18 ((i * 12 + k)) (rfl) (by omega) (by decide) rfl dX6_spanEnd_52 ?_
    refine lv_topi (fun v19 ev19 => ?_)
    exact wr_iret hx hb hr hlocks hS hP ⟨(x6 0), (x6 1), (x6 2), (x6 3), x10, x12, x13, x14, x15, (x11 6), (x11 7), (x11 8), (x11 9), (x11 10), (x11 11), (x11 12), (x11 13), (x11 14), x4, rfl, hRB⟩ dX6_spanEnd_53
  · have b11 := bF hw3r c5
    refine lv_iconst (v := -1) hx hb dX6_spanEnd_14 (by decide) ?_
    exact wr_iret hx hb hr hlocks hS hP ⟨(f 0), (f 1), (f 2), (f 3), (f 4), (q 0), (q 1), (q 2), (qf 3), (r 6), (r 7), (r 8), (r 9), (r 10), (r 11), (r 12), (r 13), (r 14), x4, rfl, hRB⟩ dX6_spanEnd_15
set_option maxHeartbeats 4000000 in
set_option maxRecDepth 100000 in
theorem x_least (l : Launch) (G : GG) (x : Nat) (xa ta a b ga ua la lb lc : Nat → Nat) (tg gg : Nat → Option Nat) (xf tf f qf gf uf lf mf nf : Nat → Int32) (tr r q gr ur lr mr nr : Nat → Nat → Int32) (tb : Int32) (row : Int32) (col : Int32) (j : Nat) (hj : j < 6) (hjt : tbJ tb j) (htg : tg j = some (ta 0)) (hT1 : nL 12 (tf 1)) (hT2 : nL 12 (tf 2)) (hT3 : nL 12 (tf 3)) (hT4 : nOK 12 12 (tr 4)) (hRB : RB adjR (q 0)) : WrI l yX6_least cX6_least 4 (some .int) ({ frames := 7, cells := 0, slots := 0, locals := 165 }) G (xM G x xa ta a b ga ua la lb lc tg gg xf tf f qf gf uf lf mf nf tr r q gr ur lr mr nr) [.ref x, .int tb, .int row, .int col] (fun qz w => ∃ (n_f_0 : Int32) (n_f_1 : Int32) (n_f_2 : Int32) (n_f_3 : Int32) (n_f_4 : Int32) (n_q_0 : Nat → Int32) (n_q_1 : Nat → Int32) (n_q_2 : Nat → Int32) (n_qf_3 : Int32) (n_r_6 : Nat → Int32) (n_r_7 : Nat → Int32) (n_r_8 : Nat → Int32) (n_r_9 : Nat → Int32) (n_r_10 : Nat → Int32) (n_r_11 : Nat → Int32) (n_r_12 : Nat → Int32) (n_r_13 : Nat → Int32) (n_r_14 : Nat → Int32) (n_xf_0 : Int32), w = xM G x xa ta a b ga ua la lb lc tg gg (upd xf 0 n_xf_0) tf (upd (upd (upd (upd (upd f 0 n_f_0) 1 n_f_1) 2 n_f_2) 3 n_f_3) 4 n_f_4) (upd qf 3 n_qf_3) gf uf lf mf nf tr (up2 (up2 (up2 (up2 (up2 (up2 (up2 (up2 (up2 r 6 n_r_6) 7 n_r_7) 8 n_r_8) 9 n_r_9) 10 n_r_10) 11 n_r_11) 12 n_r_12) 13 n_r_13) 14 n_r_14) (up2 (up2 (up2 q 0 n_q_0) 1 n_q_1) 2 n_q_2) gr ur lr mr nr ∧ (RB adjR n_q_0)) := by
  refine wr_entryI (by decide +kernel) (Nat.le_of_ble_eq_true rfl) ?_
  intro p e s m below meth c A C0 hP hK hD hA ls hl
  have hS : va_S A s.heap s.heap [] := va_S.rf
  obtain ⟨hx, hb, hml, hown, hts, hr, hlocks, hin⟩ := C0
  have hown : s.vm.findClass RX6 = some m.cls := hown
  have hDD : ∀ xf' tf' f' qf' gf' uf' lf' mf' nf' tr' r' q' gr' ur' lr' mr' nr', va_D A (xM G x xa ta a b ga ua la lb lc tg gg xf' tf' f' qf' gf' uf' lf' mf' nf' tr' r' q' gr' ur' lr' mr' nr') := fun xf' tf' f' qf' gf' uf' lf' mf' nf' tr' r' q' gr' ur' lr' mr' nr' => D_same hD rfl
  have hl : lv_has ls 4 [(0, .ref x), (1, .int tb), (2, .int row), (3, .int col)] := hl
  refine lv_aload_n hx hb dX6_least_0 rfl (lv_at hl 0 rfl) ?_
  refine lv_iload_n hx hb dX6_least_1 rfl (lv_at hl 1 rfl) ?_
  refine lv_iload_n hx hb dX6_least_2 rfl (lv_at hl 2 rfl) ?_
  refine lv_iload_n hx hb dX6_least_3 rfl (lv_at hl 3 rfl) ?_
  refine lv_iconst (v := 0) hx hb dX6_least_4 (by decide) ?_
  refine wrVIa (rest := []) (q0 := 0) ⟨hx, hb, hml, hown, hts⟩ (x_spanEnd l G x xa ta a b ga ua la lb lc tg gg xf tf f qf gf uf lf mf nf tr r q gr ur lr mr nr tb row col 0 j (by omega) hjt htg hT1 hT2 hT3 hT4 hRB) mi_yX6_spanEnd mv_yX6_spanEnd ml_X6_180 ⟨rfl, rfl, Nat.le_of_ble_eq_true rfl, Nat.le_of_ble_eq_true rfl⟩ hK hP (hDD _ _ _ _ _ _ _ _ _ _ _ _ _ _ _ _ _) rfl rfl rfl hl.1 rfl (Nat.le_of_ble_eq_true rfl) dX6_least_5 ⟨Nat.zero_le _, Nat.zero_le _⟩ hS hA (fun r1 w2 H locs hw2 hP hS => ?_)
  obtain ⟨x3, x4, x5, x6, x7, x8, x9, x10, x11, x12, x13, x14, x15, x16, x17, x18, x19, x20, x21, rfl, hRB⟩ := hw2
  have hP : PP G (xM G x xa ta a b ga ua la lb lc tg gg (upd xf 0 x21) tf (upd (upd (upd (upd (upd f 0 x3) 1 x4) 2 x5) 3 x6) 4 x7) (upd qf 3 x11) gf uf lf mf nf tr (up2 (up2 (up2 (up2 (up2 (up2 (up2 (up2 (up2 r 6 x12) 7 x13) 8 x14) 9 x15) 10 x16) 11 x17) 12 x18) 13 x19) 14 x20) (up2 (up2 (up2 q 0 x8) 1 x9) 2 x10) gr ur lr mr nr) H := hP
  have hRB : RB adjR x8 := hRB
  exact wr_iret hx hb hr hlocks hS hP ⟨x3, x4, x5, x6, x7, x8, x9, x10, x11, x12, x13, x14, x15, x16, x17, x18, x19, x20, x21, rfl, hRB⟩ dX6_least_8
set_option maxHeartbeats 4000000 in
set_option maxRecDepth 100000 in
theorem x_greatest (l : Launch) (G : GG) (x : Nat) (xa ta a b ga ua la lb lc : Nat → Nat) (tg gg : Nat → Option Nat) (xf tf f qf gf uf lf mf nf : Nat → Int32) (tr r q gr ur lr mr nr : Nat → Nat → Int32) (tb : Int32) (row : Int32) (col : Int32) (j : Nat) (hj : j < 6) (hjt : tbJ tb j) (htg : tg j = some (ta 0)) (hT1 : nL 12 (tf 1)) (hT2 : nL 12 (tf 2)) (hT3 : nL 12 (tf 3)) (hT4 : nOK 12 12 (tr 4)) (hRB : RB adjR (q 0)) : WrI l yX6_greatest cX6_greatest 4 (some .int) ({ frames := 7, cells := 0, slots := 0, locals := 165 }) G (xM G x xa ta a b ga ua la lb lc tg gg xf tf f qf gf uf lf mf nf tr r q gr ur lr mr nr) [.ref x, .int tb, .int row, .int col] (fun qz w => ∃ (n_f_0 : Int32) (n_f_1 : Int32) (n_f_2 : Int32) (n_f_3 : Int32) (n_f_4 : Int32) (n_q_0 : Nat → Int32) (n_q_1 : Nat → Int32) (n_q_2 : Nat → Int32) (n_qf_3 : Int32) (n_r_6 : Nat → Int32) (n_r_7 : Nat → Int32) (n_r_8 : Nat → Int32) (n_r_9 : Nat → Int32) (n_r_10 : Nat → Int32) (n_r_11 : Nat → Int32) (n_r_12 : Nat → Int32) (n_r_13 : Nat → Int32) (n_r_14 : Nat → Int32) (n_xf_0 : Int32), w = xM G x xa ta a b ga ua la lb lc tg gg (upd xf 0 n_xf_0) tf (upd (upd (upd (upd (upd f 0 n_f_0) 1 n_f_1) 2 n_f_2) 3 n_f_3) 4 n_f_4) (upd qf 3 n_qf_3) gf uf lf mf nf tr (up2 (up2 (up2 (up2 (up2 (up2 (up2 (up2 (up2 r 6 n_r_6) 7 n_r_7) 8 n_r_8) 9 n_r_9) 10 n_r_10) 11 n_r_11) 12 n_r_12) 13 n_r_13) 14 n_r_14) (up2 (up2 (up2 q 0 n_q_0) 1 n_q_1) 2 n_q_2) gr ur lr mr nr ∧ (RB adjR n_q_0)) := by
  refine wr_entryI (by decide +kernel) (Nat.le_of_ble_eq_true rfl) ?_
  intro p e s m below meth c A C0 hP hK hD hA ls hl
  have hS : va_S A s.heap s.heap [] := va_S.rf
  obtain ⟨hx, hb, hml, hown, hts, hr, hlocks, hin⟩ := C0
  have hown : s.vm.findClass RX6 = some m.cls := hown
  have hDD : ∀ xf' tf' f' qf' gf' uf' lf' mf' nf' tr' r' q' gr' ur' lr' mr' nr', va_D A (xM G x xa ta a b ga ua la lb lc tg gg xf' tf' f' qf' gf' uf' lf' mf' nf' tr' r' q' gr' ur' lr' mr' nr') := fun xf' tf' f' qf' gf' uf' lf' mf' nf' tr' r' q' gr' ur' lr' mr' nr' => D_same hD rfl
  have hl : lv_has ls 4 [(0, .ref x), (1, .int tb), (2, .int row), (3, .int col)] := hl
  refine lv_aload_n hx hb dX6_greatest_0 rfl (lv_at hl 0 rfl) ?_
  refine lv_iload_n hx hb dX6_greatest_1 rfl (lv_at hl 1 rfl) ?_
  refine lv_iload_n hx hb dX6_greatest_2 rfl (lv_at hl 2 rfl) ?_
  refine lv_iload_n hx hb dX6_greatest_3 rfl (lv_at hl 3 rfl) ?_
  refine lv_iconst (v := 1) hx hb dX6_greatest_4 (by decide) ?_
  refine wrVIa (rest := []) (q0 := 0) ⟨hx, hb, hml, hown, hts⟩ (x_spanEnd l G x xa ta a b ga ua la lb lc tg gg xf tf f qf gf uf lf mf nf tr r q gr ur lr mr nr tb row col 1 j (by omega) hjt htg hT1 hT2 hT3 hT4 hRB) mi_yX6_spanEnd mv_yX6_spanEnd ml_X6_180 ⟨rfl, rfl, Nat.le_of_ble_eq_true rfl, Nat.le_of_ble_eq_true rfl⟩ hK hP (hDD _ _ _ _ _ _ _ _ _ _ _ _ _ _ _ _ _) rfl rfl rfl hl.1 rfl (Nat.le_of_ble_eq_true rfl) dX6_greatest_5 ⟨Nat.zero_le _, Nat.zero_le _⟩ hS hA (fun r1 w2 H locs hw2 hP hS => ?_)
  obtain ⟨x3, x4, x5, x6, x7, x8, x9, x10, x11, x12, x13, x14, x15, x16, x17, x18, x19, x20, x21, rfl, hRB⟩ := hw2
  have hP : PP G (xM G x xa ta a b ga ua la lb lc tg gg (upd xf 0 x21) tf (upd (upd (upd (upd (upd f 0 x3) 1 x4) 2 x5) 3 x6) 4 x7) (upd qf 3 x11) gf uf lf mf nf tr (up2 (up2 (up2 (up2 (up2 (up2 (up2 (up2 (up2 r 6 x12) 7 x13) 8 x14) 9 x15) 10 x16) 11 x17) 12 x18) 13 x19) 14 x20) (up2 (up2 (up2 q 0 x8) 1 x9) 2 x10) gr ur lr mr nr) H := hP
  have hRB : RB adjR x8 := hRB
  exact wr_iret hx hb hr hlocks hS hP ⟨x3, x4, x5, x6, x7, x8, x9, x10, x11, x12, x13, x14, x15, x16, x17, x18, x19, x20, x21, rfl, hRB⟩ dX6_greatest_8
set_option maxHeartbeats 4000000 in
set_option maxRecDepth 100000 in
theorem x_safe (l : Launch) (G : GG) (x : Nat) (xa ta a b ga ua la lb lc : Nat → Nat) (tg gg : Nat → Option Nat) (xf tf f qf gf uf lf mf nf : Nat → Int32) (tr r q gr ur lr mr nr : Nat → Nat → Int32) (tb : Int32) (row : Int32) (col : Int32) (j : Nat) (hj : j < 6) (hjt : tbJ tb j) (htg : tg j = some (ta 0)) (hT1 : nL 12 (tf 1)) (hT2 : nL 12 (tf 2)) (hT3 : nL 12 (tf 3)) (hT4 : nOK 12 12 (tr 4)) (hRB : RB adjR (q 0)) : WrI l yX6_safe cX6_safe 4 (some .int) ({ frames := 6, cells := 0, slots := 0, locals := 141 }) G (xM G x xa ta a b ga ua la lb lc tg gg xf tf f qf gf uf lf mf nf tr r q gr ur lr mr nr) [.ref x, .int tb, .int row, .int col] (fun qz w => ∃ (n_f_0 : Int32) (n_f_1 : Int32) (n_f_2 : Int32) (n_f_3 : Int32) (n_f_4 : Int32) (n_q_0 : Nat → Int32) (n_q_1 : Nat → Int32) (n_q_2 : Nat → Int32) (n_qf_3 : Int32) (n_r_6 : Nat → Int32) (n_r_7 : Nat → Int32) (n_r_8 : Nat → Int32) (n_r_9 : Nat → Int32) (n_r_10 : Nat → Int32) (n_r_11 : Nat → Int32) (n_r_12 : Nat → Int32) (n_r_13 : Nat → Int32) (n_r_14 : Nat → Int32) (n_xf_0 : Int32), w = xM G x xa ta a b ga ua la lb lc tg gg (upd xf 0 n_xf_0) tf (upd (upd (upd (upd (upd f 0 n_f_0) 1 n_f_1) 2 n_f_2) 3 n_f_3) 4 n_f_4) (upd qf 3 n_qf_3) gf uf lf mf nf tr (up2 (up2 (up2 (up2 (up2 (up2 (up2 (up2 (up2 r 6 n_r_6) 7 n_r_7) 8 n_r_8) 9 n_r_9) 10 n_r_10) 11 n_r_11) 12 n_r_12) 13 n_r_13) 14 n_r_14) (up2 (up2 (up2 q 0 n_q_0) 1 n_q_1) 2 n_q_2) gr ur lr mr nr ∧ (RB adjR n_q_0)) := by
  refine wr_entryI (by decide +kernel) (Nat.le_of_ble_eq_true rfl) ?_
  intro p e s m below meth c A C0 hP hK hD hA ls hl
  have hS : va_S A s.heap s.heap [] := va_S.rf
  obtain ⟨hx, hb, hml, hown, hts, hr, hlocks, hin⟩ := C0
  have hown : s.vm.findClass RX6 = some m.cls := hown
  have hDD : ∀ xf' tf' f' qf' gf' uf' lf' mf' nf' tr' r' q' gr' ur' lr' mr' nr', va_D A (xM G x xa ta a b ga ua la lb lc tg gg xf' tf' f' qf' gf' uf' lf' mf' nf' tr' r' q' gr' ur' lr' mr' nr') := fun xf' tf' f' qf' gf' uf' lf' mf' nf' tr' r' q' gr' ur' lr' mr' nr' => D_same hD rfl
  have hl : lv_has ls 4 [(0, .ref x), (1, .int tb), (2, .int row), (3, .int col)] := hl
  refine lv_aload_n hx hb dX6_safe_0 rfl (lv_at hl 0 rfl) ?_
  refine lv_aload_n hx hb dX6_safe_1 rfl (lv_at hl 0 rfl) ?_
  refine lv_iload_n hx hb dX6_safe_2 rfl (lv_at hl 1 rfl) ?_
  refine lv_iload_n hx hb dX6_safe_3 rfl (lv_at hl 2 rfl) ?_
  refine lv_iload_n hx hb dX6_safe_4 rfl (lv_at hl 3 rfl) ?_
  refine rdV (rest := [.ref x]) (q0 := 0) ⟨hx, hb, hml, hown, hts⟩ (x_soundCellStatus l G x xa ta a b ga ua la lb lc tg gg xf tf f qf gf uf lf mf nf tr r q gr ur lr mr nr tb row col j (by omega) hjt htg hT1 hT2 hT3) mi_yX6_soundCellStatus mv_yX6_soundCellStatus ml_X6_165 ⟨rfl, rfl, Nat.le_of_ble_eq_true rfl, Nat.le_of_ble_eq_true rfl⟩ hK (hP) rfl rfl rfl hl.1 rfl (Nat.le_of_ble_eq_true rfl) dX6_safe_5 ⟨Nat.zero_le _, Nat.zero_le _⟩ hS hA hP (fun r1 H locs hr1 hP hS => ?_)
  have hr1 : stK (stX (tbO tb j (tf 0)) (tf 1) (tf 2) (tr 4) row col) row col (fun i k => kfS ((tr 5) (i * 12 + k)) (sndP ((tf 2)).toNatClampNeg (tr 4) (tr 5) i)) r1 := hr1
  refine wrVIa (rest := []) (q0 := 0) ⟨hx, hb, hml, hown, hts⟩ (x_settled l G x xa ta a b ga ua la lb lc tg gg xf tf f qf gf uf lf mf nf tr r q gr ur lr mr nr r1  ) mi_yX6_settled mv_yX6_settled ml_X6_65 ⟨rfl, rfl, Nat.le_of_ble_eq_true rfl, Nat.le_of_ble_eq_true rfl⟩ hK hP (hDD _ _ _ _ _ _ _ _ _ _ _ _ _ _ _ _ _) rfl rfl rfl hl.1 rfl (Nat.le_of_ble_eq_true rfl) dX6_safe_8 ⟨Nat.zero_le _, Nat.zero_le _⟩ hS hA (fun r2 w3 H locs hw3 hP hS => ?_)
  obtain ⟨x4, rfl, hw3r⟩ := hw3
  have hP : PP G (xM G x xa ta a b ga ua la lb lc tg gg (upd xf 0 x4) tf f qf gf uf lf mf nf tr r q gr ur lr mr nr) H := hP
  have hw3r : ((r2 = 1 ∧ ((r1 : Int32) = 0)) ∨ (r2 = 0 ∧ ¬ ((r1 : Int32) = 0))) := hw3r
  refine lv_if_ne (tgt := 16) hx hb dX6_safe_11 (by decide) (fun c5 => ?_) (fun c5 => ?_)
  · have b11 := bT hw3r c5
    have hs0 := stK_0 hr1 b11
    obtain ⟨⟨ej, ho⟩, q1, q2⟩ := stX_0 hs0 rfl
    subst ej
    have q1c := q1
    have q2c := q2
    obtain ⟨rw, hrw, t1⟩ := hT1
    obtain ⟨cl, hcl, t2⟩ := hT2
    obtain ⟨bk, hbk, t3⟩ := hT3
    have hT1 : nL 12 (tf 1) := ⟨rw, hrw, t1⟩
    have hT2 : nL 12 (tf 2) := ⟨cl, hcl, t2⟩
    have hT3 : nL 12 (tf 3) := ⟨bk, hbk, t3⟩
    rw [t1] at q1c
    rw [t2] at q2c
    obtain ⟨i, hi, ei⟩ := inR_n (by omega) q1c
    subst ei
    obtain ⟨k, hk, ek⟩ := inR_n (by omega) q2c
    subst ek
    have hkk := stK_k hr1 b11 (show i < 12 by omega) (show k < 12 by omega) rfl rfl
    refine lv_aload_n hx hb dX6_safe_16 rfl (lv_at hl 0 rfl) ?_
    refine va_get (D := G.1) (ci := 6) (v := .ref (a 15)) (C := RX6) (T := TX6) (N := 10) hx hb hts inX6 hown hK.1 hP 0 rfl rfl 2 (by decide) (hts _ mf_X6_22) (fun _ h9 => h9) rfl dX6_safe_17 ?_
    refine lv_aload_n hx hb dX6_safe_20 rfl (lv_at hl 0 rfl) ?_
    refine va_get (D := G.1) (ci := 6) (v := .ref (xa 1)) (C := RX6) (T := TX6) (N := 10) hx hb hts inX6 hown hK.1 hP 0 rfl rfl 1 (by decide) (hts _ mf_X6_15) (fun _ h9 => h9) rfl dX6_safe_21 ?_
    refine lv_iload_n hx hb dX6_safe_24 rfl (lv_at hl 1 rfl) ?_
    refine xaldT hx hb hK hP 1 (j) (b := (ta 0)) rfl (by omega) (by decide) rfl (htg) dX6_safe_25 ?_
    refine lawV (rest := []) (q0 := 0) ⟨hx, hb, hml, hown, hts⟩ (c_X2_load l G a b f r ta tf tr rw cl bk hrw hcl hbk t1 t2 t3) mi_yX2_load mv_yX2_load ml_X6_184 ⟨rfl, rfl, Nat.le_of_ble_eq_true rfl, Nat.le_of_ble_eq_true rfl⟩ hK hP (hDD _ _ _ _ _ _ _ _ _ _ _ _ _ _ _ _ _) (pl_perm (xBlk G x xa ta a b ga ua la lb lc tg gg (upd xf 0 x4) tf f qf gf uf lf mf nf tr r q gr ur lr mr nr) (sel := [2, 1]) (oth := [0, 3, 4, 5, 6, 7, 8, 9]) (by decide)) rfl rfl rfl hl.1 rfl (Nat.le_of_ble_eq_true rfl) dX6_safe_26 ⟨Nat.zero_le _, Nat.zero_le _⟩ hS hA (fun w9 H locs hw9 hP hS => ?_)
    obtain ⟨x6, x7, h0, h1, rfl⟩ := hw9
    have hP : PP G (xM G x xa ta a b ga ua la lb lc tg gg (upd xf 0 x4) tf (upd (upd (upd (upd (upd f 0 (x6 0)) 1 (x6 1)) 2 (x6 2)) 3 (x6 3)) 4 (x6 4)) qf gf uf lf mf nf tr (up2 (up2 (up2 (up2 (up2 (up2 (up2 (up2 (up2 r 6 (x7 6)) 7 (x7 7)) 8 (x7 8)) 9 (x7 9)) 10 (x7 10)) 11 (x7 11)) 12 (x7 12)) 13 (x7 13)) 14 (x7 14)) q gr ur lr mr nr) H := (hP rfl (xM G x xa ta a b ga ua la lb lc tg gg (upd xf 0 x4) tf (upd (upd (upd (upd (upd f 0 (x6 0)) 1 (x6 1)) 2 (x6 2)) 3 (x6 3)) 4 (x6 4)) qf gf uf lf mf nf tr (up2 (up2 (up2 (up2 (up2 (up2 (up2 (up2 (up2 r 6 (x7 6)) 7 (x7 7)) 8 (x7 8)) 9 (x7 9)) 10 (x7 10)) 11 (x7 11)) 12 (x7 12)) 13 (x7 13)) 14 (x7 14)) q gr ur lr mr nr) (pl_perm (xBlk G x xa ta a b ga ua la lb lc tg gg (upd xf 0 x4) tf (upd (upd (upd (upd (upd f 0 (x6 0)) 1 (x6 1)) 2 (x6 2)) 3 (x6 3)) 4 (x6 4)) qf gf uf lf mf nf tr (up2 (up2 (up2 (up2 (up2 (up2 (up2 (up2 (up2 r 6 (x7 6)) 7 (x7 7)) 8 (x7 8)) 9 (x7 9)) 10 (x7 10)) 11 (x7 11)) 12 (x7 12)) 13 (x7 13)) 14 (x7 14)) q gr ur lr mr nr) (sel := [2, 1]) (oth := [0, 3, 4, 5, 6, 7, 8, 9]) (by decide))).1
    refine lv_aload_n hx hb dX6_safe_29 rfl (lv_at hl 0 rfl) ?_
    refine va_get (D := G.1) (ci := 6) (v := .ref (a 15)) (C := RX6) (T := TX6) (N := 10) hx hb hts inX6 hown hK.1 hP 0 rfl rfl 2 (by decide) (hts _ mf_X6_22) (fun _ h9 => h9) rfl dX6_safe_30 ?_
    refine lv_iload_n hx hb dX6_safe_33 rfl (lv_at hl 2 rfl) ?_
    refine lv_iload_n hx hb dX6_safe_34 rfl (lv_at hl 3 rfl) ?_
    refine lawI (rest := []) (q0 := 0) ⟨hx, hb, hml, hown, hts⟩ (c_X2_isSafe l G a b (upd (upd (upd (upd (upd f 0 (x6 0)) 1 (x6 1)) 2 (x6 2)) 3 (x6 3)) 4 (x6 4)) (up2 (up2 (up2 (up2 (up2 (up2 (up2 (up2 (up2 r 6 (x7 6)) 7 (x7 7)) 8 (x7 8)) 9 (x7 9)) 10 (x7 10)) 11 (x7 11)) 12 (x7 12)) 13 (x7 13)) 14 (x7 14)) q (qf 3) rw cl hrw hcl h0 h1 i k (by omega) (by omega) hRB) mi_yX2_isSafe mv_yX2_isSafe ml_X6_188 ⟨rfl, rfl, Nat.le_of_ble_eq_true rfl, Nat.le_of_ble_eq_true rfl⟩ hK hP (hDD _ _ _ _ _ _ _ _ _ _ _ _ _ _ _ _ _) (pl_perm (xBlk G x xa ta a b ga ua la lb lc tg gg (upd xf 0 x4) tf (upd (upd (upd (upd (upd f 0 (x6 0)) 1 (x6 1)) 2 (x6 2)) 3 (x6 3)) 4 (x6 4)) qf gf uf lf mf nf tr (up2 (up2 (up2 (up2 (up2 (up2 (up2 (up2 (up2 r 6 (x7 6)) 7 (x7 7)) 8 (x7 8)) 9 (x7 9)) 10 (x7 10)) 11 (x7 11)) 12 (x7 12)) 13 (x7 13)) 14 (x7 14)) q gr ur lr mr nr) (sel := [2, 3]) (oth := [0, 1, 4, 5, 6, 7, 8, 9]) (by decide)) rfl rfl rfl hl.1 rfl (Nat.le_of_ble_eq_true rfl) dX6_safe_35 ⟨Nat.zero_le _, Nat.zero_le _⟩ hS hA (fun r16 w17 H locs hw17 hP hS => ?_)
    obtain ⟨x10, x11, x12, x13, x14, x15, hRB, rfl⟩ := hw17
    have hP : PP G (xM G x xa ta a b ga ua la lb lc tg gg (upd xf 0 x4) tf (upd (upd (upd (upd (upd f 0 (x6 0)) 1 (x6 1)) 2 (x6 2)) 3 (x6 3)) 4 x10) (upd qf 3 x15) gf uf lf mf nf tr (up2 (up2 (up2 (up2 (up2 (up2 (up2 (up2 (up2 r 6 (x11 6)) 7 (x11 7)) 8 (x11 8)) 9 (x11 9)) 10 (x11 10)) 11 (x11 11)) 12 (x11 12)) 13 (x11 13)) 14 (x11 14)) (up2 (up2 (up2 q 0 x12) 1 x13) 2 x14) gr ur lr mr nr) H := (hP rfl (xM G x xa ta a b ga ua la lb lc tg gg (upd xf 0 x4) tf (upd (upd (upd (upd (upd f 0 (x6 0)) 1 (x6 1)) 2 (x6 2)) 3 (x6 3)) 4 x10) (upd qf 3 x15) gf uf lf mf nf tr (up2 (up2 (up2 (up2 (up2 (up2 (up2 (up2 (up2 r 6 (x11 6)) 7 (x11 7)) 8 (x11 8)) 9 (x11 9)) 10 (x11 10)) 11 (x11 11)) 12 (x11 12)) 13 (x11 13)) 14 (x11 14)) (up2 (up2 (up2 q 0 x12) 1 x13) 2 x14) gr ur lr mr nr) (pl_perm (xBlk G x xa ta a b ga ua la lb lc tg gg (upd xf 0 x4) tf (upd (upd (upd (upd (upd f 0 (x6 0)) 1 (x6 1)) 2 (x6 2)) 3 (x6 3)) 4 x10) (upd qf 3 x15) gf uf lf mf nf tr (up2 (up2 (up2 (up2 (up2 (up2 (up2 (up2 (up2 r 6 (x11 6)) 7 (x11 7)) 8 (x11 8)) 9 (x11 9)) 10 (x11 10)) 11 (x11 11)) 12 (x11 12)) 13 (x11 13)) 14 (x11 14)) (up2 (up2 (up2 q 0 x12) 1 x13) 2 x14) gr ur lr mr nr) (sel := [2, 3]) (oth := [0, 1, 4, 5, 6, 7, 8, 9]) (by decide))).1
    refine lv_if_eq (tgt := 45) hx hb dX6_safe_38 (by decide) (fun c18 => ?_) (fun c18 => ?_)
    · refine lv_iconst (v := 0) hx hb dX6_safe_45 (by decide) ?_
      exact wr_iret hx hb hr hlocks hS hP ⟨(x6 0), (x6 1), (x6 2), (x6 3), x10, x12, x13, x14, x15, (x11 6), (x11 7), (x11 8), (x11 9), (x11 10), (x11 11), (x11 12), (x11 13), (x11 14), x4, rfl, hRB⟩ dX6_safe_46
    · refine lv_iconst (v := 1) hx hb dX6_safe_41 (by decide) ?_
      refine lv_goto (tgt := 46) hx hb dX6_safe_42 (by decide) ?_
      exact wr_iret hx hb hr hlocks hS hP ⟨(x6 0), (x6 1), (x6 2), (x6 3), x10, x12, x13, x14, x15, (x11 6), (x11 7), (x11 8), (x11 9), (x11 10), (x11 11), (x11 12), (x11 13), (x11 14), x4, rfl, hRB⟩ dX6_safe_46
  · have b11 := bF hw3r c5
    refine lv_iconst (v := -1) hx hb dX6_safe_14 (by decide) ?_
    exact wr_iret hx hb hr hlocks hS hP ⟨(f 0), (f 1), (f 2), (f 3), (f 4), (q 0), (q 1), (q 2), (qf 3), (r 6), (r 7), (r 8), (r 9), (r 10), (r 11), (r 12), (r 13), (r 14), x4, rfl, hRB⟩ dX6_safe_15
set_option maxHeartbeats 4000000 in
set_option maxRecDepth 100000 in
theorem x_unsafe (l : Launch) (G : GG) (x : Nat) (xa ta a b ga ua la lb lc : Nat → Nat) (tg gg : Nat → Option Nat) (xf tf f qf gf uf lf mf nf : Nat → Int32) (tr r q gr ur lr mr nr : Nat → Nat → Int32) (tb : Int32) (j : Nat) (hj : j < 6) (hjt : tbJ tb j) (htg : tg j = some (ta 0)) (hT1 : nL 12 (tf 1)) (hT2 : nL 12 (tf 2)) (hT3 : nL 12 (tf 3)) (hT4 : nOK 12 12 (tr 4)) (hRB : RB adjR (q 0)) : WrI l yX6_unsafe cX6_unsafe 2 (some .int) ({ frames := 6, cells := 0, slots := 0, locals := 157 }) G (xM G x xa ta a b ga ua la lb lc tg gg xf tf f qf gf uf lf mf nf tr r q gr ur lr mr nr) [.ref x, .int tb] (fun qz w => ∃ (n_f_0 : Int32) (n_f_1 : Int32) (n_f_2 : Int32) (n_f_3 : Int32) (n_f_4 : Int32) (n_q_0 : Nat → Int32) (n_q_1 : Nat → Int32) (n_q_2 : Nat → Int32) (n_qf_3 : Int32) (n_r_6 : Nat → Int32) (n_r_7 : Nat → Int32) (n_r_8 : Nat → Int32) (n_r_9 : Nat → Int32) (n_r_10 : Nat → Int32) (n_r_11 : Nat → Int32) (n_r_12 : Nat → Int32) (n_r_13 : Nat → Int32) (n_r_14 : Nat → Int32) (n_xf_0 : Int32), w = xM G x xa ta a b ga ua la lb lc tg gg (upd xf 0 n_xf_0) tf (upd (upd (upd (upd (upd f 0 n_f_0) 1 n_f_1) 2 n_f_2) 3 n_f_3) 4 n_f_4) (upd qf 3 n_qf_3) gf uf lf mf nf tr (up2 (up2 (up2 (up2 (up2 (up2 (up2 (up2 (up2 r 6 n_r_6) 7 n_r_7) 8 n_r_8) 9 n_r_9) 10 n_r_10) 11 n_r_11) 12 n_r_12) 13 n_r_13) 14 n_r_14) (up2 (up2 (up2 q 0 n_q_0) 1 n_q_1) 2 n_q_2) gr ur lr mr nr ∧ (RB adjR n_q_0)) := by
  refine wr_entryI (by decide +kernel) (Nat.le_of_ble_eq_true rfl) ?_
  intro p e s m below meth c A C0 hP hK hD hA ls hl
  have hS : va_S A s.heap s.heap [] := va_S.rf
  obtain ⟨hx, hb, hml, hown, hts, hr, hlocks, hin⟩ := C0
  have hown : s.vm.findClass RX6 = some m.cls := hown
  have hDD : ∀ xf' tf' f' qf' gf' uf' lf' mf' nf' tr' r' q' gr' ur' lr' mr' nr', va_D A (xM G x xa ta a b ga ua la lb lc tg gg xf' tf' f' qf' gf' uf' lf' mf' nf' tr' r' q' gr' ur' lr' mr' nr') := fun xf' tf' f' qf' gf' uf' lf' mf' nf' tr' r' q' gr' ur' lr' mr' nr' => D_same hD rfl
  have hl : lv_has ls 2 [(0, .ref x), (1, .int tb)] := hl
  refine lv_aload_n hx hb dX6_unsafe_0 rfl (lv_at hl 0 rfl) ?_
  refine lv_aload_n hx hb dX6_unsafe_1 rfl (lv_at hl 0 rfl) ?_
  refine lv_iload_n hx hb dX6_unsafe_2 rfl (lv_at hl 1 rfl) ?_
  refine rdV (rest := [.ref x]) (q0 := 0) ⟨hx, hb, hml, hown, hts⟩ (x_tableStatus l G x xa ta a b ga ua la lb lc tg gg xf tf f qf gf uf lf mf nf tr r q gr ur lr mr nr tb j (by omega) hjt htg) mi_yX6_tableStatus mv_yX6_tableStatus ml_X6_73 ⟨rfl, rfl, Nat.le_of_ble_eq_true rfl, Nat.le_of_ble_eq_true rfl⟩ hK (hP) rfl rfl rfl hl.1 rfl (Nat.le_of_ble_eq_true rfl) dX6_unsafe_3 ⟨Nat.zero_le _, Nat.zero_le _⟩ hS hA hP (fun r1 H locs hr1 hP hS => ?_)
  have hr1 : ((r1 = 0 ∧ tbO tb j (tf 0)) ∨ (r1 = 1 ∧ ¬ tbO tb j (tf 0))) := hr1
  refine wrVIa (rest := []) (q0 := 0) ⟨hx, hb, hml, hown, hts⟩ (x_settled l G x xa ta a b ga ua la lb lc tg gg xf tf f qf gf uf lf mf nf tr r q gr ur lr mr nr r1  ) mi_yX6_settled mv_yX6_settled ml_X6_65 ⟨rfl, rfl, Nat.le_of_ble_eq_true rfl, Nat.le_of_ble_eq_true rfl⟩ hK hP (hDD _ _ _ _ _ _ _ _ _ _ _ _ _ _ _ _ _) rfl rfl rfl hl.1 rfl (Nat.le_of_ble_eq_true rfl) dX6_unsafe_6 ⟨Nat.zero_le _, Nat.zero_le _⟩ hS hA (fun r2 w3 H locs hw3 hP hS => ?_)
  obtain ⟨x4, rfl, hw3r⟩ := hw3
  have hP : PP G (xM G x xa ta a b ga ua la lb lc tg gg (upd xf 0 x4) tf f qf gf uf lf mf nf tr r q gr ur lr mr nr) H := hP
  have hw3r : ((r2 = 1 ∧ ((r1 : Int32) = 0)) ∨ (r2 = 0 ∧ ¬ ((r1 : Int32) = 0))) := hw3r
  refine lv_if_ne (tgt := 14) hx hb dX6_unsafe_9 (by decide) (fun c5 => ?_) (fun c5 => ?_)
  · have b9 := bT hw3r c5
    obtain ⟨ej, ho⟩ := st0 hr1 b9
    subst ej
    obtain ⟨rw, hrw, t1⟩ := hT1
    obtain ⟨cl, hcl, t2⟩ := hT2
    obtain ⟨bk, hbk, t3⟩ := hT3
    have hT1 : nL 12 (tf 1) := ⟨rw, hrw, t1⟩
    have hT2 : nL 12 (tf 2) := ⟨cl, hcl, t2⟩
    have hT3 : nL 12 (tf 3) := ⟨bk, hbk, t3⟩
    refine lv_aload_n hx hb dX6_unsafe_14 rfl (lv_at hl 0 rfl) ?_
    refine va_get (D := G.1) (ci := 6) (v := .ref (a 15)) (C := RX6) (T := TX6) (N := 10) hx hb hts inX6 hown hK.1 hP 0 rfl rfl 2 (by decide) (hts _ mf_X6_22) (fun _ h9 => h9) rfl dX6_unsafe_15 ?_
    refine lv_aload_n hx hb dX6_unsafe_18 rfl (lv_at hl 0 rfl) ?_
    refine va_get (D := G.1) (ci := 6) (v := .ref (xa 1)) (C := RX6) (T := TX6) (N := 10) hx hb hts inX6 hown hK.1 hP 0 rfl rfl 1 (by decide) (hts _ mf_X6_15) (fun _ h9 => h9) rfl dX6_unsafe_19 ?_
    refine lv_iload_n hx hb dX6_unsafe_22 rfl (lv_at hl 1 rfl) ?_
    refine xaldT hx hb hK hP 1 (j) (b := (ta 0)) rfl (by omega) (by decide) rfl (htg) dX6_unsafe_23 ?_
    refine lawV (rest := []) (q0 := 0) ⟨hx, hb, hml, hown, hts⟩ (c_X2_load l G a b f r ta tf tr rw cl bk hrw hcl hbk t1 t2 t3) mi_yX2_load mv_yX2_load ml_X6_184 ⟨rfl, rfl, Nat.le_of_ble_eq_true rfl, Nat.le_of_ble_eq_true rfl⟩ hK hP (hDD _ _ _ _ _ _ _ _ _ _ _ _ _ _ _ _ _) (pl_perm (xBlk G x xa ta a b ga ua la lb lc tg gg (upd xf 0 x4) tf f qf gf uf lf mf nf tr r q gr ur lr mr nr) (sel := [2, 1]) (oth := [0, 3, 4, 5, 6, 7, 8, 9]) (by decide)) rfl rfl rfl hl.1 rfl (Nat.le_of_ble_eq_true rfl) dX6_unsafe_24 ⟨Nat.zero_le _, Nat.zero_le _⟩ hS hA (fun w9 H locs hw9 hP hS => ?_)
    obtain ⟨x6, x7, h0, h1, rfl⟩ := hw9
    have hP : PP G (xM G x xa ta a b ga ua la lb lc tg gg (upd xf 0 x4) tf (upd (upd (upd (upd (upd f 0 (x6 0)) 1 (x6 1)) 2 (x6 2)) 3 (x6 3)) 4 (x6 4)) qf gf uf lf mf nf tr (up2 (up2 (up2 (up2 (up2 (up2 (up2 (up2 (up2 r 6 (x7 6)) 7 (x7 7)) 8 (x7 8)) 9 (x7 9)) 10 (x7 10)) 11 (x7 11)) 12 (x7 12)) 13 (x7 13)) 14 (x7 14)) q gr ur lr mr nr) H := (hP rfl (xM G x xa ta a b ga ua la lb lc tg gg (upd xf 0 x4) tf (upd (upd (upd (upd (upd f 0 (x6 0)) 1 (x6 1)) 2 (x6 2)) 3 (x6 3)) 4 (x6 4)) qf gf uf lf mf nf tr (up2 (up2 (up2 (up2 (up2 (up2 (up2 (up2 (up2 r 6 (x7 6)) 7 (x7 7)) 8 (x7 8)) 9 (x7 9)) 10 (x7 10)) 11 (x7 11)) 12 (x7 12)) 13 (x7 13)) 14 (x7 14)) q gr ur lr mr nr) (pl_perm (xBlk G x xa ta a b ga ua la lb lc tg gg (upd xf 0 x4) tf (upd (upd (upd (upd (upd f 0 (x6 0)) 1 (x6 1)) 2 (x6 2)) 3 (x6 3)) 4 (x6 4)) qf gf uf lf mf nf tr (up2 (up2 (up2 (up2 (up2 (up2 (up2 (up2 (up2 r 6 (x7 6)) 7 (x7 7)) 8 (x7 8)) 9 (x7 9)) 10 (x7 10)) 11 (x7 11)) 12 (x7 12)) 13 (x7 13)) 14 (x7 14)) q gr ur lr mr nr) (sel := [2, 1]) (oth := [0, 3, 4, 5, 6, 7, 8, 9]) (by decide))).1
    refine lv_aload_n hx hb dX6_unsafe_27 rfl (lv_at hl 0 rfl) ?_
    refine va_get (D := G.1) (ci := 6) (v := .ref (a 15)) (C := RX6) (T := TX6) (N := 10) hx hb hts inX6 hown hK.1 hP 0 rfl rfl 2 (by decide) (hts _ mf_X6_22) (fun _ h9 => h9) rfl dX6_unsafe_28 ?_
    refine lawI (rest := []) (q0 := 0) ⟨hx, hb, hml, hown, hts⟩ (c_X2_countUnsafe l G a b (upd (upd (upd (upd (upd f 0 (x6 0)) 1 (x6 1)) 2 (x6 2)) 3 (x6 3)) 4 (x6 4)) (up2 (up2 (up2 (up2 (up2 (up2 (up2 (up2 (up2 r 6 (x7 6)) 7 (x7 7)) 8 (x7 8)) 9 (x7 9)) 10 (x7 10)) 11 (x7 11)) 12 (x7 12)) 13 (x7 13)) 14 (x7 14)) q (qf 3) rw cl hrw hcl h0 h1  hRB) mi_yX2_countUnsafe mv_yX2_countUnsafe ml_X6_191 ⟨rfl, rfl, Nat.le_of_ble_eq_true rfl, Nat.le_of_ble_eq_true rfl⟩ hK hP (hDD _ _ _ _ _ _ _ _ _ _ _ _ _ _ _ _ _) (pl_perm (xBlk G x xa ta a b ga ua la lb lc tg gg (upd xf 0 x4) tf (upd (upd (upd (upd (upd f 0 (x6 0)) 1 (x6 1)) 2 (x6 2)) 3 (x6 3)) 4 (x6 4)) qf gf uf lf mf nf tr (up2 (up2 (up2 (up2 (up2 (up2 (up2 (up2 (up2 r 6 (x7 6)) 7 (x7 7)) 8 (x7 8)) 9 (x7 9)) 10 (x7 10)) 11 (x7 11)) 12 (x7 12)) 13 (x7 13)) 14 (x7 14)) q gr ur lr mr nr) (sel := [2, 3]) (oth := [0, 1, 4, 5, 6, 7, 8, 9]) (by decide)) rfl rfl rfl hl.1 rfl (Nat.le_of_ble_eq_true rfl) dX6_unsafe_31 ⟨Nat.zero_le _, Nat.zero_le _⟩ hS hA (fun r16 w17 H locs hw17 hP hS => ?_)
    obtain ⟨x10, x11, x12, x13, x14, x15, hRB, rfl⟩ := hw17
    have hP : PP G (xM G x xa ta a b ga ua la lb lc tg gg (upd xf 0 x4) tf (upd (upd (upd (upd (upd f 0 (x6 0)) 1 (x6 1)) 2 (x6 2)) 3 (x6 3)) 4 x10) (upd qf 3 x15) gf uf lf mf nf tr (up2 (up2 (up2 (up2 (up2 (up2 (up2 (up2 (up2 r 6 (x11 6)) 7 (x11 7)) 8 (x11 8)) 9 (x11 9)) 10 (x11 10)) 11 (x11 11)) 12 (x11 12)) 13 (x11 13)) 14 (x11 14)) (up2 (up2 (up2 q 0 x12) 1 x13) 2 x14) gr ur lr mr nr) H := (hP rfl (xM G x xa ta a b ga ua la lb lc tg gg (upd xf 0 x4) tf (upd (upd (upd (upd (upd f 0 (x6 0)) 1 (x6 1)) 2 (x6 2)) 3 (x6 3)) 4 x10) (upd qf 3 x15) gf uf lf mf nf tr (up2 (up2 (up2 (up2 (up2 (up2 (up2 (up2 (up2 r 6 (x11 6)) 7 (x11 7)) 8 (x11 8)) 9 (x11 9)) 10 (x11 10)) 11 (x11 11)) 12 (x11 12)) 13 (x11 13)) 14 (x11 14)) (up2 (up2 (up2 q 0 x12) 1 x13) 2 x14) gr ur lr mr nr) (pl_perm (xBlk G x xa ta a b ga ua la lb lc tg gg (upd xf 0 x4) tf (upd (upd (upd (upd (upd f 0 (x6 0)) 1 (x6 1)) 2 (x6 2)) 3 (x6 3)) 4 x10) (upd qf 3 x15) gf uf lf mf nf tr (up2 (up2 (up2 (up2 (up2 (up2 (up2 (up2 (up2 r 6 (x11 6)) 7 (x11 7)) 8 (x11 8)) 9 (x11 9)) 10 (x11 10)) 11 (x11 11)) 12 (x11 12)) 13 (x11 13)) 14 (x11 14)) (up2 (up2 (up2 q 0 x12) 1 x13) 2 x14) gr ur lr mr nr) (sel := [2, 3]) (oth := [0, 1, 4, 5, 6, 7, 8, 9]) (by decide))).1
    exact wr_iret hx hb hr hlocks hS hP ⟨(x6 0), (x6 1), (x6 2), (x6 3), x10, x12, x13, x14, x15, (x11 6), (x11 7), (x11 8), (x11 9), (x11 10), (x11 11), (x11 12), (x11 13), (x11 14), x4, rfl, hRB⟩ dX6_unsafe_34
  · have b9 := bF hw3r c5
    refine lv_iconst (v := -1) hx hb dX6_unsafe_12 (by decide) ?_
    exact wr_iret hx hb hr hlocks hS hP ⟨(f 0), (f 1), (f 2), (f 3), (f 4), (q 0), (q 1), (q 2), (qf 3), (r 6), (r 7), (r 8), (r 9), (r 10), (r 11), (r 12), (r 13), (r 14), x4, rfl, hRB⟩ dX6_unsafe_13

