
set_option maxHeartbeats 4000000 in
set_option maxRecDepth 100000 in
theorem x_witness (l : Launch) (G : GG) (x : Nat) (xa ta a b ga ua la lb lc : Nat → Nat) (tg gg : Nat → Option Nat) (xf tf f qf gf uf lf mf nf : Nat → Int32) (tr r q gr ur lr mr nr : Nat → Nat → Int32) (tb : Int32) (row : Int32) (col : Int32) (gr_ : Int32) (j : Nat) (hj : j < 6) (hjt : tbJ tb j) (htg : tg j = some (ta 0)) (hT1 : nL 12 (tf 1)) (hT2 : nL 12 (tf 2)) (hT3 : nL 12 (tf 3)) (hT4 : nOK 12 12 (tr 4)) (hRB : RB adjR (q 0)) (hL0 : nL 12 (lf 0)) (hL1 : nL 12 (lf 1)) : WrI l yX6_witness cX6_witness 5 (some .int) ({ frames := 6, cells := 0, slots := 0, locals := 157 }) G (xM G x xa ta a b ga ua la lb lc tg gg xf tf f qf gf uf lf mf nf tr r q gr ur lr mr nr) [.ref x, .int tb, .int row, .int col, .int gr_] (fun qz w => ∃ (n_f_0 : Int32) (n_f_1 : Int32) (n_f_2 : Int32) (n_f_3 : Int32) (n_f_4 : Int32) (n_lf_0 : Int32) (n_lf_1 : Int32) (n_lr_2 : Nat → Int32) (n_q_0 : Nat → Int32) (n_q_1 : Nat → Int32) (n_q_2 : Nat → Int32) (n_qf_3 : Int32) (n_r_6 : Nat → Int32) (n_r_7 : Nat → Int32) (n_r_8 : Nat → Int32) (n_r_9 : Nat → Int32) (n_r_10 : Nat → Int32) (n_r_11 : Nat → Int32) (n_r_12 : Nat → Int32) (n_r_13 : Nat → Int32) (n_r_14 : Nat → Int32) (n_xf_0 : Int32) (n_xf_7 : Int32), w = xM G x xa ta a b ga ua la lb lc tg gg (upd (upd xf 0 n_xf_0) 7 n_xf_7) tf (upd (upd (upd (upd (upd f 0 n_f_0) 1 n_f_1) 2 n_f_2) 3 n_f_3) 4 n_f_4) (upd qf 3 n_qf_3) gf uf (upd (upd lf 0 n_lf_0) 1 n_lf_1) mf nf tr (up2 (up2 (up2 (up2 (up2 (up2 (up2 (up2 (up2 r 6 n_r_6) 7 n_r_7) 8 n_r_8) 9 n_r_9) 10 n_r_10) 11 n_r_11) 12 n_r_12) 13 n_r_13) 14 n_r_14) (up2 (up2 (up2 q 0 n_q_0) 1 n_q_1) 2 n_q_2) gr ur (up2 lr 2 n_lr_2) mr nr ∧ (RB adjR n_q_0) ∧ (nL 12 n_lf_0) ∧ (nL 12 n_lf_1)) := by
  refine wr_entryI (by decide +kernel) (Nat.le_of_ble_eq_true rfl) ?_
  intro p e s m below meth c A C0 hP hK hD hA ls hl
  have hS : va_S A s.heap s.heap [] := va_S.rf
  obtain ⟨hx, hb, hml, hown, hts, hr, hlocks, hin⟩ := C0
  have hown : s.vm.findClass RX6 = some m.cls := hown
  have hDD : ∀ xf' tf' f' qf' gf' uf' lf' mf' nf' tr' r' q' gr' ur' lr' mr' nr', va_D A (xM G x xa ta a b ga ua la lb lc tg gg xf' tf' f' qf' gf' uf' lf' mf' nf' tr' r' q' gr' ur' lr' mr' nr') := fun xf' tf' f' qf' gf' uf' lf' mf' nf' tr' r' q' gr' ur' lr' mr' nr' => D_same hD rfl
  have hl : lv_has ls 5 [(0, .ref x), (1, .int tb), (2, .int row), (3, .int col), (4, .int gr_)] := hl
  refine lv_aload_n hx hb dX6_witness_0 rfl (lv_at hl 0 rfl) ?_
  refine lv_aload_n hx hb dX6_witness_1 rfl (lv_at hl 0 rfl) ?_
  refine lv_iload_n hx hb dX6_witness_2 rfl (lv_at hl 1 rfl) ?_
  refine lv_iload_n hx hb dX6_witness_3 rfl (lv_at hl 2 rfl) ?_
  refine lv_iload_n hx hb dX6_witness_4 rfl (lv_at hl 3 rfl) ?_
  refine rdV (rest := [.ref x]) (q0 := 0) ⟨hx, hb, hml, hown, hts⟩ (x_soundCellStatus l G x xa ta a b ga ua la lb lc tg gg xf tf f qf gf uf lf mf nf tr r q gr ur lr mr nr tb row col j (by omega) hjt htg hT1 hT2 hT3) mi_yX6_soundCellStatus mv_yX6_soundCellStatus ml_X6_165 ⟨rfl, rfl, Nat.le_of_ble_eq_true rfl, Nat.le_of_ble_eq_true rfl⟩ hK (hP) rfl rfl rfl hl.1 rfl (Nat.le_of_ble_eq_true rfl) dX6_witness_5 ⟨Nat.zero_le _, Nat.zero_le _⟩ hS hA hP (fun r1 H locs hr1 hP hS => ?_)
  have hr1 : stK (stX (tbO tb j (tf 0)) (tf 1) (tf 2) (tr 4) row col) row col (fun i k => kfS ((tr 5) (i * 12 + k)) (sndP ((tf 2)).toNatClampNeg (tr 4) (tr 5) i)) r1 := hr1
  refine wrVIa (rest := []) (q0 := 0) ⟨hx, hb, hml, hown, hts⟩ (x_settled l G x xa ta a b ga ua la lb lc tg gg xf tf f qf gf uf lf mf nf tr r q gr ur lr mr nr r1  ) mi_yX6_settled mv_yX6_settled ml_X6_65 ⟨rfl, rfl, Nat.le_of_ble_eq_true rfl, Nat.le_of_ble_eq_true rfl⟩ hK hP (hDD _ _ _ _ _ _ _ _ _ _ _ _ _ _ _ _ _) rfl rfl rfl hl.1 rfl (Nat.le_of_ble_eq_true rfl) dX6_witness_8 ⟨Nat.zero_le _, Nat.zero_le _⟩ hS hA (fun r2 w3 H locs hw3 hP hS => ?_)
  obtain ⟨x4, rfl, hw3r⟩ := hw3
  have hP : PP G (xM G x xa ta a b ga ua la lb lc tg gg (upd xf 0 x4) tf f qf gf uf lf mf nf tr r q gr ur lr mr nr) H := hP
  have hw3r : ((r2 = 1 ∧ ((r1 : Int32) = 0)) ∨ (r2 = 0 ∧ ¬ ((r1 : Int32) = 0))) := hw3r
  refine lv_if_ne (tgt := 16) hx hb dX6_witness_11 (by decide) (fun c5 => ?_) (fun c5 => ?_)
  · have b11 := bT hw3r c5
    have hs0 := stK_0 hr1 b11
    obtain ⟨⟨ej, ho⟩, q1, q2⟩ := stX_0 hs0 rfl
    subst ej
    have q1c := q1
    have q2c := q2
    obtain ⟨rw, hrw, t1⟩ := hT1
    obtain ⟨cl, hcl, t2⟩ := hT2
    obtain ⟨bk, hbk, t3⟩ := hT3
    have hT1 : nL 12 (tf 1) := ⟨rw, hrw, t1⟩
    have hT2 : nL 12 (tf 2) := ⟨cl, hcl, t2⟩
    have hT3 : nL 12 (tf 3) := ⟨bk, hbk, t3⟩
    rw [t1] at q1c
    rw [t2] at q2c
    obtain ⟨i, hi, ei⟩ := inR_n (by omega) q1c
    subst ei
    obtain ⟨k, hk, ek⟩ := inR_n (by omega) q2c
    subst ek
    have hkk := stK_k hr1 b11 (show i < 12 by omega) (show k < 12 by omega) rfl rfl
    refine lv_aload_n hx hb dX6_witness_16 rfl (lv_at hl 0 rfl) ?_
    refine va_get (D := G.1) (ci := 6) (v := .ref (a 15)) (C := RX6) (T := TX6) (N := 10) hx hb hts inX6 hown hK.1 hP 0 rfl rfl 2 (by decide) (hts _ mf_X6_22) (fun _ h9 => h9) rfl dX6_witness_17 ?_
    refine lv_aload_n hx hb dX6_witness_20 rfl (lv_at hl 0 rfl) ?_
    refine va_get (D := G.1) (ci := 6) (v := .ref (xa 1)) (C := RX6) (T := TX6) (N := 10) hx hb hts inX6 hown hK.1 hP 0 rfl rfl 1 (by decide) (hts _ mf_X6_15) (fun _ h9 => h9) rfl dX6_witness_21 ?_
    refine lv_iload_n hx hb dX6_witness_24 rfl (lv_at hl 1 rfl) ?_
    refine xaldT hx hb hK hP 1 (j) (b := (ta 0)) rfl (by omega) (by decide) rfl (htg) dX6_witness_25 ?_
    refine lawV (rest := []) (q0 := 0) ⟨hx, hb, hml, hown, hts⟩ (c_X2_load l G a b f r ta tf tr rw cl bk hrw hcl hbk t1 t2 t3) mi_yX2_load mv_yX2_load ml_X6_184 ⟨rfl, rfl, Nat.le_of_ble_eq_true rfl, Nat.le_of_ble_eq_true rfl⟩ hK hP (hDD _ _ _ _ _ _ _ _ _ _ _ _ _ _ _ _ _) (pl_perm (xBlk G x xa ta a b ga ua la lb lc tg gg (upd xf 0 x4) tf f qf gf uf lf mf nf tr r q gr ur lr mr nr) (sel := [2, 1]) (oth := [0, 3, 4, 5, 6, 7, 8, 9]) (by decide)) rfl rfl rfl hl.1 rfl (Nat.le_of_ble_eq_true rfl) dX6_witness_26 ⟨Nat.zero_le _, Nat.zero_le _⟩ hS hA (fun w9 H locs hw9 hP hS => ?_)
    obtain ⟨x6, x7, h0, h1, rfl⟩ := hw9
    have hP : PP G (xM G x xa ta a b ga ua la lb lc tg gg (upd xf 0 x4) tf (upd (upd (upd (upd (upd f 0 (x6 0)) 1 (x6 1)) 2 (x6 2)) 3 (x6 3)) 4 (x6 4)) qf gf uf lf mf nf tr (up2 (up2 (up2 (up2 (up2 (up2 (up2 (up2 (up2 r 6 (x7 6)) 7 (x7 7)) 8 (x7 8)) 9 (x7 9)) 10 (x7 10)) 11 (x7 11)) 12 (x7 12)) 13 (x7 13)) 14 (x7 14)) q gr ur lr mr nr) H := (hP rfl (xM G x xa ta a b ga ua la lb lc tg gg (upd xf 0 x4) tf (upd (upd (upd (upd (upd f 0 (x6 0)) 1 (x6 1)) 2 (x6 2)) 3 (x6 3)) 4 (x6 4)) qf gf uf lf mf nf tr (up2 (up2 (up2 (up2 (up2 (up2 (up2 (up2 (up2 r 6 (x7 6)) 7 (x7 7)) 8 (x7 8)) 9 (x7 9)) 10 (x7 10)) 11 (x7 11)) 12 (x7 12)) 13 (x7 13)) 14 (x7 14)) q gr ur lr mr nr) (pl_perm (xBlk G x xa ta a b ga ua la lb lc tg gg (upd xf 0 x4) tf (upd (upd (upd (upd (upd f 0 (x6 0)) 1 (x6 1)) 2 (x6 2)) 3 (x6 3)) 4 (x6 4)) qf gf uf lf mf nf tr (up2 (up2 (up2 (up2 (up2 (up2 (up2 (up2 (up2 r 6 (x7 6)) 7 (x7 7)) 8 (x7 8)) 9 (x7 9)) 10 (x7 10)) 11 (x7 11)) 12 (x7 12)) 13 (x7 13)) 14 (x7 14)) q gr ur lr mr nr) (sel := [2, 1]) (oth := [0, 3, 4, 5, 6, 7, 8, 9]) (by decide))).1
    refine lv_aload_n hx hb dX6_witness_29 rfl (lv_at hl 0 rfl) ?_
    refine va_get (D := G.1) (ci := 6) (v := .ref (a 15)) (C := RX6) (T := TX6) (N := 10) hx hb hts inX6 hown hK.1 hP 0 rfl rfl 2 (by decide) (hts _ mf_X6_22) (fun _ h9 => h9) rfl dX6_witness_30 ?_
    refine lv_iload_n hx hb dX6_witness_33 rfl (lv_at hl 2 rfl) ?_
    refine lv_iload_n hx hb dX6_witness_34 rfl (lv_at hl 3 rfl) ?_
    refine lv_iload hx hb dX6_witness_35 (lv_at hl 4 rfl) ?_
    refine lawV (rest := []) (q0 := 0) ⟨hx, hb, hml, hown, hts⟩ (c_X2_findFirst l G a b (upd (upd (upd (upd (upd f 0 (x6 0)) 1 (x6 1)) 2 (x6 2)) 3 (x6 3)) 4 (x6 4)) (up2 (up2 (up2 (up2 (up2 (up2 (up2 (up2 (up2 r 6 (x7 6)) 7 (x7 7)) 8 (x7 8)) 9 (x7 9)) 10 (x7 10)) 11 (x7 11)) 12 (x7 12)) 13 (x7 13)) 14 (x7 14)) q (qf 3) rw cl hrw hcl h0 h1 i k (by omega) (by omega) gr_ hRB) mi_yX2_findFirst mv_yX2_findFirst ml_X6_195 ⟨rfl, rfl, Nat.le_of_ble_eq_true rfl, Nat.le_of_ble_eq_true rfl⟩ hK hP (hDD _ _ _ _ _ _ _ _ _ _ _ _ _ _ _ _ _) (pl_perm (xBlk G x xa ta a b ga ua la lb lc tg gg (upd xf 0 x4) tf (upd (upd (upd (upd (upd f 0 (x6 0)) 1 (x6 1)) 2 (x6 2)) 3 (x6 3)) 4 (x6 4)) qf gf uf lf mf nf tr (up2 (up2 (up2 (up2 (up2 (up2 (up2 (up2 (up2 r 6 (x7 6)) 7 (x7 7)) 8 (x7 8)) 9 (x7 9)) 10 (x7 10)) 11 (x7 11)) 12 (x7 12)) 13 (x7 13)) 14 (x7 14)) q gr ur lr mr nr) (sel := [2, 3]) (oth := [0, 1, 4, 5, 6, 7, 8, 9]) (by decide)) rfl rfl rfl hl.1 rfl (Nat.le_of_ble_eq_true rfl) dX6_witness_37 ⟨Nat.zero_le _, Nat.zero_le _⟩ hS hA (fun w17 H locs hw17 hP hS => ?_)
    obtain ⟨x10, x11, x12, x13, x14, x15, hRB, rfl⟩ := hw17
    have hP : PP G (xM G x xa ta a b ga ua la lb lc tg gg (upd xf 0 x4) tf (upd (upd (upd (upd (upd f 0 (x6 0)) 1 (x6 1)) 2 (x6 2)) 3 (x6 3)) 4 x10) (upd qf 3 x15) gf uf lf mf nf tr (up2 (up2 (up2 (up2 (up2 (up2 (up2 (up2 (up2 r 6 (x11 6)) 7 (x11 7)) 8 (x11 8)) 9 (x11 9)) 10 (x11 10)) 11 (x11 11)) 12 (x11 12)) 13 (x11 13)) 14 (x11 14)) (up2 (up2 (up2 q 0 x12) 1 x13) 2 x14) gr ur lr mr nr) H := (hP rfl (xM G x xa ta a b ga ua la lb lc tg gg (upd xf 0 x4) tf (upd (upd (upd (upd (upd f 0 (x6 0)) 1 (x6 1)) 2 (x6 2)) 3 (x6 3)) 4 x10) (upd qf 3 x15) gf uf lf mf nf tr (up2 (up2 (up2 (up2 (up2 (up2 (up2 (up2 (up2 r 6 (x11 6)) 7 (x11 7)) 8 (x11 8)) 9 (x11 9)) 10 (x11 10)) 11 (x11 11)) 12 (x11 12)) 13 (x11 13)) 14 (x11 14)) (up2 (up2 (up2 q 0 x12) 1 x13) 2 x14) gr ur lr mr nr) (pl_perm (xBlk G x xa ta a b ga ua la lb lc tg gg (upd xf 0 x4) tf (upd (upd (upd (upd (upd f 0 (x6 0)) 1 (x6 1)) 2 (x6 2)) 3 (x6 3)) 4 x10) (upd qf 3 x15) gf uf lf mf nf tr (up2 (up2 (up2 (up2 (up2 (up2 (up2 (up2 (up2 r 6 (x11 6)) 7 (x11 7)) 8 (x11 8)) 9 (x11 9)) 10 (x11 10)) 11 (x11 11)) 12 (x11 12)) 13 (x11 13)) 14 (x11 14)) (up2 (up2 (up2 q 0 x12) 1 x13) 2 x14) gr ur lr mr nr) (sel := [2, 3]) (oth := [0, 1, 4, 5, 6, 7, 8, 9]) (by decide))).1
    refine lv_aload_n hx hb dX6_witness_40 rfl (lv_at hl 0 rfl) ?_
    refine va_get (D := G.1) (ci := 6) (v := .ref (a 15)) (C := RX6) (T := TX6) (N := 10) hx hb hts inX6 hown hK.1 hP 0 rfl rfl 2 (by decide) (hts _ mf_X6_22) (fun _ h9 => h9) rfl dX6_witness_41 ?_
    refine lv_aload_n hx hb dX6_witness_44 rfl (lv_at hl 0 rfl) ?_
    refine va_get (D := G.1) (ci := 6) (v := .ref (la 0)) (C := RX6) (T := TX6) (N := 10) hx hb hts inX6 hown hK.1 hP 0 rfl rfl 5 (by decide) (hts _ mf_X6_43) (fun _ h9 => h9) rfl dX6_witness_45 ?_
    refine lawV (rest := []) (q0 := 0) ⟨hx, hb, hml, hown, hts⟩ (c_X2_showValues l G a b (upd (upd (upd (upd (upd f 0 (x6 0)) 1 (x6 1)) 2 (x6 2)) 3 (x6 3)) 4 x10) (up2 (up2 (up2 (up2 (up2 (up2 (up2 (up2 (up2 r 6 (x11 6)) 7 (x11 7)) 8 (x11 8)) 9 (x11 9)) 10 (x11 10)) 11 (x11 11)) 12 (x11 12)) 13 (x11 13)) 14 (x11 14)) la (lf 0) (lf 1) (lr 2) rw cl hrw hcl h0 h1) mi_yX2_showValues mv_yX2_showValues ml_X6_198 ⟨rfl, rfl, Nat.le_of_ble_eq_true rfl, Nat.le_of_ble_eq_true rfl⟩ hK hP (hDD _ _ _ _ _ _ _ _ _ _ _ _ _ _ _ _ _) (pl_perm (xBlk G x xa ta a b ga ua la lb lc tg gg (upd xf 0 x4) tf (upd (upd (upd (upd (upd f 0 (x6 0)) 1 (x6 1)) 2 (x6 2)) 3 (x6 3)) 4 x10) (upd qf 3 x15) gf uf lf mf nf tr (up2 (up2 (up2 (up2 (up2 (up2 (up2 (up2 (up2 r 6 (x11 6)) 7 (x11 7)) 8 (x11 8)) 9 (x11 9)) 10 (x11 10)) 11 (x11 11)) 12 (x11 12)) 13 (x11 13)) 14 (x11 14)) (up2 (up2 (up2 q 0 x12) 1 x13) 2 x14) gr ur lr mr nr) (sel := [2, 6]) (oth := [0, 1, 3, 4, 5, 7, 8, 9]) (by decide)) rfl rfl rfl hl.1 rfl (Nat.le_of_ble_eq_true rfl) dX6_witness_48 ⟨Nat.zero_le _, Nat.zero_le _⟩ hS hA (fun w20 H locs hw20 hP hS => ?_)
    obtain ⟨x18, rfl⟩ := hw20
    have hP : PP G (xM G x xa ta a b ga ua la lb lc tg gg (upd xf 0 x4) tf (upd (upd (upd (upd (upd f 0 (x6 0)) 1 (x6 1)) 2 (x6 2)) 3 (x6 3)) 4 x10) (upd qf 3 x15) gf uf (upd (upd lf 0 (x6 0)) 1 (x6 1)) mf nf tr (up2 (up2 (up2 (up2 (up2 (up2 (up2 (up2 (up2 r 6 (x11 6)) 7 (x11 7)) 8 (x11 8)) 9 (x11 9)) 10 (x11 10)) 11 (x11 11)) 12 (x11 12)) 13 (x11 13)) 14 (x11 14)) (up2 (up2 (up2 q 0 x12) 1 x13) 2 x14) gr ur (up2 lr 2 x18) mr nr) H := (hP rfl (xM G x xa ta a b ga ua la lb lc tg gg (upd xf 0 x4) tf (upd (upd (upd (upd (upd f 0 (x6 0)) 1 (x6 1)) 2 (x6 2)) 3 (x6 3)) 4 x10) (upd qf 3 x15) gf uf (upd (upd lf 0 (x6 0)) 1 (x6 1)) mf nf tr (up2 (up2 (up2 (up2 (up2 (up2 (up2 (up2 (up2 r 6 (x11 6)) 7 (x11 7)) 8 (x11 8)) 9 (x11 9)) 10 (x11 10)) 11 (x11 11)) 12 (x11 12)) 13 (x11 13)) 14 (x11 14)) (up2 (up2 (up2 q 0 x12) 1 x13) 2 x14) gr ur (up2 lr 2 x18) mr nr) (pl_perm (xBlk G x xa ta a b ga ua la lb lc tg gg (upd xf 0 x4) tf (upd (upd (upd (upd (upd f 0 (x6 0)) 1 (x6 1)) 2 (x6 2)) 3 (x6 3)) 4 x10) (upd qf 3 x15) gf uf (upd (upd lf 0 (x6 0)) 1 (x6 1)) mf nf tr (up2 (up2 (up2 (up2 (up2 (up2 (up2 (up2 (up2 r 6 (x11 6)) 7 (x11 7)) 8 (x11 8)) 9 (x11 9)) 10 (x11 10)) 11 (x11 11)) 12 (x11 12)) 13 (x11 13)) 14 (x11 14)) (up2 (up2 (up2 q 0 x12) 1 x13) 2 x14) gr ur (up2 lr 2 x18) mr nr) (sel := [2, 6]) (oth := [0, 1, 3, 4, 5, 7, 8, 9]) (by decide))).1
    have hL0 : nL 12 (x6 0) := ⟨rw, hrw, h0⟩
    have hL1 : nL 12 (x6 1) := ⟨cl, hcl, h1⟩
    refine lv_aload_n hx hb dX6_witness_51 rfl (lv_at hl 0 rfl) ?_
    refine lv_aload_n hx hb dX6_witness_52 rfl (lv_at hl 0 rfl) ?_
    refine va_get (D := G.1) (ci := 6) (v := .ref (a 15)) (C := RX6) (T := TX6) (N := 10) hx hb hts inX6 hown hK.1 hP 0 rfl rfl 2 (by decide) (hts _ mf_X6_22) (fun _ h9 => h9) rfl dX6_witness_53 ?_
    refine lv_iload_n hx hb dX6_witness_56 rfl (lv_at hl 2 rfl) ?_
    refine lv_iload_n hx hb dX6_witness_57 rfl (lv_at hl 3 rfl) ?_
    refine lv_iload hx hb dX6_witness_58 (lv_at hl 4 rfl) ?_
    refine lawI (rest := [.ref x]) (q0 := 0) ⟨hx, hb, hml, hown, hts⟩ (c_X2_cutOf l G a b (upd (upd (upd (upd (upd f 0 (x6 0)) 1 (x6 1)) 2 (x6 2)) 3 (x6 3)) 4 x10) (up2 (up2 (up2 (up2 (up2 (up2 (up2 (up2 (up2 r 6 (x11 6)) 7 (x11 7)) 8 (x11 8)) 9 (x11 9)) 10 (x11 10)) 11 (x11 11)) 12 (x11 12)) 13 (x11 13)) 14 (x11 14)) (up2 (up2 (up2 q 0 x12) 1 x13) 2 x14) x15 rw cl hrw hcl h0 h1 i k (by omega) (by omega) gr_ hRB) mi_yX2_cutOf mv_yX2_cutOf ml_X6_202 ⟨rfl, rfl, Nat.le_of_ble_eq_true rfl, Nat.le_of_ble_eq_true rfl⟩ hK hP (hDD _ _ _ _ _ _ _ _ _ _ _ _ _ _ _ _ _) (pl_perm (xBlk G x xa ta a b ga ua la lb lc tg gg (upd xf 0 x4) tf (upd (upd (upd (upd (upd f 0 (x6 0)) 1 (x6 1)) 2 (x6 2)) 3 (x6 3)) 4 x10) (upd qf 3 x15) gf uf (upd (upd lf 0 (x6 0)) 1 (x6 1)) mf nf tr (up2 (up2 (up2 (up2 (up2 (up2 (up2 (up2 (up2 r 6 (x11 6)) 7 (x11 7)) 8 (x11 8)) 9 (x11 9)) 10 (x11 10)) 11 (x11 11)) 12 (x11 12)) 13 (x11 13)) 14 (x11 14)) (up2 (up2 (up2 q 0 x12) 1 x13) 2 x14) gr ur (up2 lr 2 x18) mr nr) (sel := [2, 3]) (oth := [0, 1, 4, 5, 6, 7, 8, 9]) (by decide)) rfl rfl rfl hl.1 rfl (Nat.le_of_ble_eq_true rfl) dX6_witness_60 ⟨Nat.zero_le _, Nat.zero_le _⟩ hS hA (fun r27 w28 H locs hw28 hP hS => ?_)
    obtain ⟨x21, x22, x23, x24, x25, x26, hRB, rfl⟩ := hw28
    have hP : PP G (xM G x xa ta a b ga ua la lb lc tg gg (upd xf 0 x4) tf (upd (upd (upd (upd (upd f 0 (x6 0)) 1 (x6 1)) 2 (x6 2)) 3 (x6 3)) 4 x21) (upd qf 3 x26) gf uf (upd (upd lf 0 (x6 0)) 1 (x6 1)) mf nf tr (up2 (up2 (up2 (up2 (up2 (up2 (up2 (up2 (up2 r 6 (x22 6)) 7 (x22 7)) 8 (x22 8)) 9 (x22 9)) 10 (x22 10)) 11 (x22 11)) 12 (x22 12)) 13 (x22 13)) 14 (x22 14)) (up2 (up2 (up2 q 0 x23) 1 x24) 2 x25) gr ur (up2 lr 2 x18) mr nr) H := (hP rfl (xM G x xa ta a b ga ua la lb lc tg gg (upd xf 0 x4) tf (upd (upd (upd (upd (upd f 0 (x6 0)) 1 (x6 1)) 2 (x6 2)) 3 (x6 3)) 4 x21) (upd qf 3 x26) gf uf (upd (upd lf 0 (x6 0)) 1 (x6 1)) mf nf tr (up2 (up2 (up2 (up2 (up2 (up2 (up2 (up2 (up2 r 6 (x22 6)) 7 (x22 7)) 8 (x22 8)) 9 (x22 9)) 10 (x22 10)) 11 (x22 11)) 12 (x22 12)) 13 (x22 13)) 14 (x22 14)) (up2 (up2 (up2 q 0 x23) 1 x24) 2 x25) gr ur (up2 lr 2 x18) mr nr) (pl_perm (xBlk G x xa ta a b ga ua la lb lc tg gg (upd xf 0 x4) tf (upd (upd (upd (upd (upd f 0 (x6 0)) 1 (x6 1)) 2 (x6 2)) 3 (x6 3)) 4 x21) (upd qf 3 x26) gf uf (upd (upd lf 0 (x6 0)) 1 (x6 1)) mf nf tr (up2 (up2 (up2 (up2 (up2 (up2 (up2 (up2 (up2 r 6 (x22 6)) 7 (x22 7)) 8 (x22 8)) 9 (x22 9)) 10 (x22 10)) 11 (x22 11)) 12 (x22 12)) 13 (x22 13)) 14 (x22 14)) (up2 (up2 (up2 q 0 x23) 1 x24) 2 x25) gr ur (up2 lr 2 x18) mr nr) (sel := [2, 3]) (oth := [0, 1, 4, 5, 6, 7, 8, 9]) (by decide))).1
    refine va_put (D := G.1) (ci := 6) (v := .int r27) (C := RX6) (T := TX6) (N := 10) hx hb hts inX6 tyX6 tyX6_ok nmX6 hown hK.1 hP (hDD _ _ _ _ _ _ _ _ _ _ _ _ _ _ _ _ _) hS 0 rfl rfl 7 (by decide) (hts _ mf_X6_50) (fun _ h9 => h9) rfl (tyX6_ok 7 (by decide)) (rfl) (rfl) (Nat.le_of_ble_eq_true rfl) dX6_witness_63 (fun H locs hP _ hS => ?_)
    have hP : PP G (xM G x xa ta a b ga ua la lb lc tg gg (upd (upd xf 0 x4) 7 r27) tf (upd (upd (upd (upd (upd f 0 (x6 0)) 1 (x6 1)) 2 (x6 2)) 3 (x6 3)) 4 x21) (upd qf 3 x26) gf uf (upd (upd lf 0 (x6 0)) 1 (x6 1)) mf nf tr (up2 (up2 (up2 (up2 (up2 (up2 (up2 (up2 (up2 r 6 (x22 6)) 7 (x22 7)) 8 (x22 8)) 9 (x22 9)) 10 (x22 10)) 11 (x22 11)) 12 (x22 12)) 13 (x22 13)) 14 (x22 14)) (up2 (up2 (up2 q 0 x23) 1 x24) 2 x25) gr ur (up2 lr 2 x18) mr nr) H := hP
    refine lv_aload_n hx hb dX6_witness_66 rfl (lv_at hl 0 rfl) ?_
    refine va_get (D := G.1) (ci := 6) (v := .ref (la 0)) (C := RX6) (T := TX6) (N := 10) hx hb hts inX6 hown hK.1 hP 0 rfl rfl 5 (by decide) (hts _ mf_X6_43) (fun _ h9 => h9) rfl dX6_witness_67 ?_
    refine lv_iload_n hx hb dX6_witness_70 rfl (lv_at hl 2 rfl) ?_
    refine lv_iload_n hx hb dX6_witness_71 rfl (lv_at hl 3 rfl) ?_
    obtain ⟨k0, hk0, ek0⟩ := hL0
    obtain ⟨k1, hk1, ek1⟩ := hL1
    have hL0 : nL 12 (x6 0) := ⟨k0, hk0, ek0⟩
    have hL1 : nL 12 (x6 1) := ⟨k1, hk1, ek1⟩
    refine rdV (rest := []) (q0 := 0) ⟨hx, hb, hml, hown, hts⟩ (c_X1_at l G la x18 k0 k1 hk0 hk1 (nI i) (nI k)) mi_yX1_at mv_yX1_at ml_X6_206 ⟨rfl, rfl, Nat.le_of_ble_eq_true rfl, Nat.le_of_ble_eq_true rfl⟩ hK (leaf_w (blk_sub (ws' := lW G la (x6 0) (x6 1) x18) (xBlk G x xa ta a b ga ua la lb lc tg gg (upd (upd xf 0 x4) 7 r27) tf (upd (upd (upd (upd (upd f 0 (x6 0)) 1 (x6 1)) 2 (x6 2)) 3 (x6 3)) 4 x21) (upd qf 3 x26) gf uf (upd (upd lf 0 (x6 0)) 1 (x6 1)) mf nf tr (up2 (up2 (up2 (up2 (up2 (up2 (up2 (up2 (up2 r 6 (x22 6)) 7 (x22 7)) 8 (x22 8)) 9 (x22 9)) 10 (x22 10)) 11 (x22 11)) 12 (x22 12)) 13 (x22 13)) 14 (x22 14)) (up2 (up2 (up2 q 0 x23) 1 x24) 2 x25) gr ur (up2 lr 2 x18) mr nr) (i := 6) hP rfl (by decide)) ek0 ek1) rfl rfl rfl hl.1 rfl (Nat.le_of_ble_eq_true rfl) dX6_witness_72 ⟨Nat.zero_le _, Nat.zero_le _⟩ hS hA hP (fun r29 H locs hr29 hP hS => ?_)
    exact wr_iret hx hb hr hlocks hS hP ⟨(x6 0), (x6 1), (x6 2), (x6 3), x21, (x6 0), (x6 1), x18, x23, x24, x25, x26, (x22 6), (x22 7), (x22 8), (x22 9), (x22 10), (x22 11), (x22 12), (x22 13), (x22 14), x4, r27, rfl, hRB, hL0, hL1⟩ dX6_witness_75
  · have b11 := bF hw3r c5
    refine lv_iconst (v := -1) hx hb dX6_witness_14 (by decide) ?_
    exact wr_iret hx hb hr hlocks hS hP ⟨(f 0), (f 1), (f 2), (f 3), (f 4), (lf 0), (lf 1), (lr 2), (q 0), (q 1), (q 2), (qf 3), (r 6), (r 7), (r 8), (r 9), (r 10), (r 11), (r 12), (r 13), (r 14), x4, (xf 7), rfl, hRB, hL0, hL1⟩ dX6_witness_15
set_option maxHeartbeats 4000000 in
set_option maxRecDepth 100000 in
theorem x_seen (l : Launch) (G : GG) (x : Nat) (xa ta a b ga ua la lb lc : Nat → Nat) (tg gg : Nat → Option Nat) (xf tf f qf gf uf lf mf nf : Nat → Int32) (tr r q gr ur lr mr nr : Nat → Nat → Int32) (row : Int32) (col : Int32) (hL0 : nL 12 (lf 0)) (hL1 : nL 12 (lf 1)) : RdI l yX6_seen cX6_seen 3 (some .int) ({ frames := 2, cells := 0, slots := 0, locals := 44 }) G (xM G x xa ta a b ga ua la lb lc tg gg xf tf f qf gf uf lf mf nf tr r q gr ur lr mr nr) [.ref x, .int row, .int col] (fun qz => True) := by
  refine rd_entry (by decide +kernel) (Nat.le_of_ble_eq_true rfl) ?_
  intro p e s m below meth c C0 hP hK ls hl
  have hS : va_S (fun q => s.heap.size ≤ q) s.heap s.heap [] := va_S.rf
  have hA : ∀ q, s.heap.size ≤ q → (fun q => s.heap.size ≤ q) q := fun _ h => h
  obtain ⟨hx, hb, hml, hown, hts, hr, hlocks, hin⟩ := C0
  have hown : s.vm.findClass RX6 = some m.cls := hown
  have hl : lv_has ls 3 [(0, .ref x), (1, .int row), (2, .int col)] := hl
  refine lv_aload_n hx hb dX6_seen_0 rfl (lv_at hl 0 rfl) ?_
  refine va_get (D := G.1) (ci := 6) (v := .ref (la 0)) (C := RX6) (T := TX6) (N := 10) hx hb hts inX6 hown hK.1 hP 0 rfl rfl 5 (by decide) (hts _ mf_X6_43) (fun _ h9 => h9) rfl dX6_seen_1 ?_
  refine lv_iload_n hx hb dX6_seen_4 rfl (lv_at hl 1 rfl) ?_
  refine lv_iload_n hx hb dX6_seen_5 rfl (lv_at hl 2 rfl) ?_
  obtain ⟨k0, hk0, ek0⟩ := hL0
  obtain ⟨k1, hk1, ek1⟩ := hL1
  have hL0 : nL 12 (lf 0) := ⟨k0, hk0, ek0⟩
  have hL1 : nL 12 (lf 1) := ⟨k1, hk1, ek1⟩
  refine rdV (rest := []) (q0 := 0) ⟨hx, hb, hml, hown, hts⟩ (c_X1_at l G la (lr 2) k0 k1 hk0 hk1 row col) mi_yX1_at mv_yX1_at ml_X6_206 ⟨rfl, rfl, Nat.le_of_ble_eq_true rfl, Nat.le_of_ble_eq_true rfl⟩ hK (leaf_w (blk_sub (ws' := lW G la (lf 0) (lf 1) (lr 2)) (xBlk G x xa ta a b ga ua la lb lc tg gg xf tf f qf gf uf lf mf nf tr r q gr ur lr mr nr) (i := 6) hP rfl (by decide)) ek0 ek1) rfl rfl rfl hl.1 rfl (Nat.le_of_ble_eq_true rfl) dX6_seen_6 ⟨Nat.zero_le _, Nat.zero_le _⟩ hS hA hP (fun r1 H locs hr1 hP hS => ?_)
  exact rd_iret hx hb hr hlocks hS (trivial) dX6_seen_9
set_option maxHeartbeats 4000000 in
set_option maxRecDepth 100000 in
theorem x_rounded (l : Launch) (G : GG) (x : Nat) (xa ta a b ga ua la lb lc : Nat → Nat) (tg gg : Nat → Option Nat) (xf tf f qf gf uf lf mf nf : Nat → Int32) (tr r q gr ur lr mr nr : Nat → Nat → Int32) (row : Int32) (col : Int32) (hM0 : nL 12 (mf 0)) (hM1 : nL 12 (mf 1)) : RdI l yX6_rounded cX6_rounded 3 (some .int) ({ frames := 2, cells := 0, slots := 0, locals := 44 }) G (xM G x xa ta a b ga ua la lb lc tg gg xf tf f qf gf uf lf mf nf tr r q gr ur lr mr nr) [.ref x, .int row, .int col] (fun qz => True) := by
  refine rd_entry (by decide +kernel) (Nat.le_of_ble_eq_true rfl) ?_
  intro p e s m below meth c C0 hP hK ls hl
  have hS : va_S (fun q => s.heap.size ≤ q) s.heap s.heap [] := va_S.rf
  have hA : ∀ q, s.heap.size ≤ q → (fun q => s.heap.size ≤ q) q := fun _ h => h
  obtain ⟨hx, hb, hml, hown, hts, hr, hlocks, hin⟩ := C0
  have hown : s.vm.findClass RX6 = some m.cls := hown
  have hl : lv_has ls 3 [(0, .ref x), (1, .int row), (2, .int col)] := hl
  refine lv_aload_n hx hb dX6_rounded_0 rfl (lv_at hl 0 rfl) ?_
  refine va_get (D := G.1) (ci := 6) (v := .ref (lb 0)) (C := RX6) (T := TX6) (N := 10) hx hb hts inX6 hown hK.1 hP 0 rfl rfl 6 (by decide) (hts _ mf_X6_47) (fun _ h9 => h9) rfl dX6_rounded_1 ?_
  refine lv_iload_n hx hb dX6_rounded_4 rfl (lv_at hl 1 rfl) ?_
  refine lv_iload_n hx hb dX6_rounded_5 rfl (lv_at hl 2 rfl) ?_
  obtain ⟨k0, hk0, ek0⟩ := hM0
  obtain ⟨k1, hk1, ek1⟩ := hM1
  have hM0 : nL 12 (mf 0) := ⟨k0, hk0, ek0⟩
  have hM1 : nL 12 (mf 1) := ⟨k1, hk1, ek1⟩
  refine rdV (rest := []) (q0 := 0) ⟨hx, hb, hml, hown, hts⟩ (c_X1_at l G lb (mr 2) k0 k1 hk0 hk1 row col) mi_yX1_at mv_yX1_at ml_X6_206 ⟨rfl, rfl, Nat.le_of_ble_eq_true rfl, Nat.le_of_ble_eq_true rfl⟩ hK (leaf_w (blk_sub (ws' := lW G lb (mf 0) (mf 1) (mr 2)) (xBlk G x xa ta a b ga ua la lb lc tg gg xf tf f qf gf uf lf mf nf tr r q gr ur lr mr nr) (i := 7) hP rfl (by decide)) ek0 ek1) rfl rfl rfl hl.1 rfl (Nat.le_of_ble_eq_true rfl) dX6_rounded_6 ⟨Nat.zero_le _, Nat.zero_le _⟩ hS hA hP (fun r1 H locs hr1 hP hS => ?_)
  exact rd_iret hx hb hr hlocks hS (trivial) dX6_rounded_9
set_option maxHeartbeats 4000000 in
set_option maxRecDepth 100000 in
theorem x_cut (l : Launch) (G : GG) (x : Nat) (xa ta a b ga ua la lb lc : Nat → Nat) (tg gg : Nat → Option Nat) (xf tf f qf gf uf lf mf nf : Nat → Int32) (tr r q gr ur lr mr nr : Nat → Nat → Int32) (rs : Int32) (kx : Int32) : RdI l yX6_cut cX6_cut 4 (some .int) ({ frames := 0, cells := 0, slots := 0, locals := 0 }) G (xM G x xa ta a b ga ua la lb lc tg gg xf tf f qf gf uf lf mf nf tr r q gr ur lr mr nr) [.ref x, .int rs, .int kx] (fun qz => True) := by
  refine rd_entry (by decide +kernel) (Nat.le_of_ble_eq_true rfl) ?_
  intro p e s m below meth c C0 hP hK ls hl
  have hS : va_S (fun q => s.heap.size ≤ q) s.heap s.heap [] := va_S.rf
  have hA : ∀ q, s.heap.size ≤ q → (fun q => s.heap.size ≤ q) q := fun _ h => h
  obtain ⟨hx, hb, hml, hown, hts, hr, hlocks, hin⟩ := C0
  have hown : s.vm.findClass RX6 = some m.cls := hown
  have hl : lv_has ls 4 [(0, .ref x), (1, .int rs), (2, .int kx)] := hl
  refine lv_iload_n hx hb dX6_cut_0 rfl (lv_at hl 1 rfl) ?_
  have j21_1 : ∀ (z1 : Int32) (H : Heap) (locs : List Loc) (ls : Array Slot), PP G (xM G x xa ta a b ga ua la lb lc tg gg xf tf f qf gf uf lf mf nf tr r q gr ur lr mr nr) H → va_S (fun q => s.heap.size ≤ q) s.heap H locs → lv_has ls 4 [(0, .ref x), (1, .int rs), (2, .int kx)] → W p l e ({ frames := 0, cells := 0, slots := 0, locals := 0 }) s m ([.ref x, .int rs, .int kx] : List Value).toArray below meth c H locs 0 0 (MQ below (QrI (fun qz => True) (fun q => s.heap.size ≤ q)) ([.ref x, .int rs, .int kx] : List Value).toArray s 0 0 (fun q => s.heap.size ≤ q)) (F0 m 21 ls [.int z1]) := by
    intro z1  H locs ls hP hS hl
    refine lv_istore_n (lv' := [(3, .int z1), (0, .ref x), (1, .int rs), (2, .int kx)]) hx hb dX6_cut_21 rfl hl (by decide) rfl (fun ls hl => ?_)
    refine lv_iload_n hx hb dX6_cut_22 rfl (lv_at hl 3 rfl) ?_
    refine lv_if_lt (tgt := 31) hx hb dX6_cut_23 (by decide) (fun c2 => ?_) (fun c2 => ?_)
    · refine lv_iconst (v := -1) hx hb dX6_cut_31 (by decide) ?_
      exact rd_iret hx hb hr hlocks hS (trivial) dX6_cut_32
    · refine lv_iload_n hx hb dX6_cut_26 rfl (lv_at hl 3 rfl) ?_
      refine lv_iload_n hx hb dX6_cut_27 rfl (lv_at hl 0 rfl) ?_
      refine lv_icmp_lt (tgt := 33) hx hb dX6_cut_28 (by decide) (fun c3 => ?_) (fun c3 => ?_)
      · refine lv_aload_n hx hb dX6_cut_33 rfl (lv_at hl 1 rfl) ?_
        refine va_get (D := G.1) (ci := 6) (v := .int (xf 7)) (C := RX6) (T := TX6) (N := 10) hx hb hts inX6 hown hK.1 hP 0 rfl rfl 7 (by decide) (hts _ mf_X6_50) (fun _ h9 => h9) rfl dX6_cut_34 ?_
        refine lv_iload_n hx hb dX6_cut_37 rfl (lv_at hl 2 rfl) ?_
        have j49_4 : ∀ (z4 : Int32) (H : Heap) (locs : List Loc) (ls : Array Slot), PP G (xM G x xa ta a b ga ua la lb lc tg gg xf tf f qf gf uf lf mf nf tr r q gr ur lr mr nr) H → va_S (fun q => s.heap.size ≤ q) s.heap H locs → lv_has ls 4 [] → W p l e ({ frames := 0, cells := 0, slots := 0, locals := 0 }) s m ([.ref x, .int rs, .int kx] : List Value).toArray below meth c H locs 0 0 (MQ below (QrI (fun qz => True) (fun q => s.heap.size ≤ q)) ([.ref x, .int rs, .int kx] : List Value).toArray s 0 0 (fun q => s.heap.size ≤ q)) (F0 m 49 ls [.int z4, .int (xf 7)]) := by
          intro z4  H locs ls hP hS hl
          refine lv_ishr hx hb dX6_cut_49 ?_
          refine lv_topi (fun v5 ev5 => ?_)
          refine lv_iconst (v := 1) hx hb dX6_cut_50 (by decide) ?_
          refine lv_iand hx hb dX6_cut_51 ?_
          refine lv_topi (fun v6 ev6 => ?_)
          exact rd_iret hx hb hr hlocks hS (trivial) dX6_cut_52
        refine lv_if_eq (tgt := 45) hx hb dX6_cut_38 (by decide) (fun c7 => ?_) (fun c7 => ?_)
        · refine lv_bipush (v := 12) hx hb dX6_cut_45 (by decide) ?_
          refine lv_iload_n hx hb dX6_cut_47 rfl (lv_at hl 3 rfl) ?_
          refine lv_iadd hx hb dX6_cut_48 ?_
          refine lv_topi (fun v8 ev8 => ?_)
          exact j49_4 v8 _ _ _ hP hS (lv_sub hl [] rfl)
        · refine lv_iload_n hx hb dX6_cut_41 rfl (lv_at hl 3 rfl) ?_
          refine lv_goto (tgt := 49) hx hb dX6_cut_42 (by decide) ?_
          exact j49_4 kx _ _ _ hP hS (lv_sub hl [] rfl)
      · refine lv_iconst (v := -1) hx hb dX6_cut_31 (by decide) ?_
        exact rd_iret hx hb hr hlocks hS (trivial) dX6_cut_32
  refine lv_if_eq (tgt := 14) hx hb dX6_cut_1 (by decide) (fun c9 => ?_) (fun c9 => ?_)
  · refine lv_aload_n hx hb dX6_cut_14 rfl (lv_at hl 0 rfl) ?_
    refine va_get (D := G.1) (ci := 6) (v := .ref (la 0)) (C := RX6) (T := TX6) (N := 10) hx hb hts inX6 hown hK.1 hP 0 rfl rfl 5 (by decide) (hts _ mf_X6_43) (fun _ h9 => h9) rfl dX6_cut_15 ?_
    refine va_get (D := G.1) (ci := 1) (v := .int (lf 1)) (C := RX1) (T := TX1) (N := 3) hx hb hts inX1 hown hK.1 hP 42 rfl rfl 1 (by decide) (hts _ mf_X6_210) (fun _ h9 => h9) rfl dX6_cut_18 ?_
    exact j21_1 (lf 1) _ _ _ hP hS (lv_sub hl [0, 1, 2] rfl)
  · refine lv_aload_n hx hb dX6_cut_4 rfl (lv_at hl 0 rfl) ?_
    refine va_get (D := G.1) (ci := 6) (v := .ref (la 0)) (C := RX6) (T := TX6) (N := 10) hx hb hts inX6 hown hK.1 hP 0 rfl rfl 5 (by decide) (hts _ mf_X6_43) (fun _ h9 => h9) rfl dX6_cut_5 ?_
    refine va_get (D := G.1) (ci := 1) (v := .int (lf 0)) (C := RX1) (T := TX1) (N := 3) hx hb hts inX1 hown hK.1 hP 42 rfl rfl 0 (by decide) (hts _ mf_X6_209) (fun _ h9 => h9) rfl dX6_cut_8 ?_
    refine lv_goto (tgt := 21) hx hb dX6_cut_11 (by decide) ?_
    exact j21_1 (lf 0) _ _ _ hP hS (lv_sub hl [0, 1, 2] rfl)
set_option maxHeartbeats 4000000 in
set_option maxRecDepth 100000 in
theorem x_plan (l : Launch) (G : GG) (x : Nat) (xa ta a b ga ua la lb lc : Nat → Nat) (tg gg : Nat → Option Nat) (xf tf f qf gf uf lf mf nf : Nat → Int32) (tr r q gr ur lr mr nr : Nat → Nat → Int32) (tb : Int32) (j : Nat) (hj : j < 6) (hjt : tbJ tb j) (htg : tg j = some (ta 0)) (hT1 : nL 12 (tf 1)) (hT2 : nL 12 (tf 2)) (hT3 : nL 12 (tf 3)) (hT4 : nOK 12 12 (tr 4)) (hRB : RB adjR (q 0)) : WrI l yX6_plan cX6_plan 3 (some .int) ({ frames := 6, cells := 0, slots := 0, locals := 161 }) G (xM G x xa ta a b ga ua la lb lc tg gg xf tf f qf gf uf lf mf nf tr r q gr ur lr mr nr) [.ref x, .int tb] (fun qz w => ∃ (n_f_0 : Int32) (n_f_1 : Int32) (n_f_2 : Int32) (n_f_3 : Int32) (n_f_4 : Int32) (n_gf_7 : Int32) (n_gf_8 : Int32) (n_gr_0 : Nat → Int32) (n_q_0 : Nat → Int32) (n_q_1 : Nat → Int32) (n_q_2 : Nat → Int32) (n_qf_3 : Int32) (n_r_6 : Nat → Int32) (n_r_7 : Nat → Int32) (n_r_8 : Nat → Int32) (n_r_9 : Nat → Int32) (n_r_10 : Nat → Int32) (n_r_11 : Nat → Int32) (n_r_12 : Nat → Int32) (n_r_13 : Nat → Int32) (n_r_14 : Nat → Int32) (n_tr_7 : Nat → Int32) (n_xf_0 : Int32), w = xM G x xa ta a b ga ua la lb lc tg gg (upd xf 0 n_xf_0) tf (upd (upd (upd (upd (upd f 0 n_f_0) 1 n_f_1) 2 n_f_2) 3 n_f_3) 4 n_f_4) (upd qf 3 n_qf_3) (upd (upd gf 7 n_gf_7) 8 n_gf_8) uf lf mf nf (up2 tr 7 n_tr_7) (up2 (up2 (up2 (up2 (up2 (up2 (up2 (up2 (up2 r 6 n_r_6) 7 n_r_7) 8 n_r_8) 9 n_r_9) 10 n_r_10) 11 n_r_11) 12 n_r_12) 13 n_r_13) 14 n_r_14) (up2 (up2 (up2 q 0 n_q_0) 1 n_q_1) 2 n_q_2) (up2 gr 0 n_gr_0) ur lr mr nr ∧ (RB adjR n_q_0) ∧ (hb1 (tr 7) n_tr_7)) := by
  refine wr_entryI (by decide +kernel) (Nat.le_of_ble_eq_true rfl) ?_
  intro p e s m below meth c A C0 hP hK hD hA ls hl
  have hS : va_S A s.heap s.heap [] := va_S.rf
  obtain ⟨hx, hb, hml, hown, hts, hr, hlocks, hin⟩ := C0
  have hown : s.vm.findClass RX6 = some m.cls := hown
  have hDD : ∀ xf' tf' f' qf' gf' uf' lf' mf' nf' tr' r' q' gr' ur' lr' mr' nr', va_D A (xM G x xa ta a b ga ua la lb lc tg gg xf' tf' f' qf' gf' uf' lf' mf' nf' tr' r' q' gr' ur' lr' mr' nr') := fun xf' tf' f' qf' gf' uf' lf' mf' nf' tr' r' q' gr' ur' lr' mr' nr' => D_same hD rfl
  have hl : lv_has ls 3 [(0, .ref x), (1, .int tb)] := hl
  refine lv_aload_n hx hb dX6_plan_0 rfl (lv_at hl 0 rfl) ?_
  refine lv_aload_n hx hb dX6_plan_1 rfl (lv_at hl 0 rfl) ?_
  refine lv_iload_n hx hb dX6_plan_2 rfl (lv_at hl 1 rfl) ?_
  refine rdV (rest := [.ref x]) (q0 := 0) ⟨hx, hb, hml, hown, hts⟩ (x_tableStatus l G x xa ta a b ga ua la lb lc tg gg xf tf f qf gf uf lf mf nf tr r q gr ur lr mr nr tb j (by omega) hjt htg) mi_yX6_tableStatus mv_yX6_tableStatus ml_X6_73 ⟨rfl, rfl, Nat.le_of_ble_eq_true rfl, Nat.le_of_ble_eq_true rfl⟩ hK (hP) rfl rfl rfl hl.1 rfl (Nat.le_of_ble_eq_true rfl) dX6_plan_3 ⟨Nat.zero_le _, Nat.zero_le _⟩ hS hA hP (fun r1 H locs hr1 hP hS => ?_)
  have hr1 : ((r1 = 0 ∧ tbO tb j (tf 0)) ∨ (r1 = 1 ∧ ¬ tbO tb j (tf 0))) := hr1
  refine wrVIa (rest := []) (q0 := 0) ⟨hx, hb, hml, hown, hts⟩ (x_settled l G x xa ta a b ga ua la lb lc tg gg xf tf f qf gf uf lf mf nf tr r q gr ur lr mr nr r1  ) mi_yX6_settled mv_yX6_settled ml_X6_65 ⟨rfl, rfl, Nat.le_of_ble_eq_true rfl, Nat.le_of_ble_eq_true rfl⟩ hK hP (hDD _ _ _ _ _ _ _ _ _ _ _ _ _ _ _ _ _) rfl rfl rfl hl.1 rfl (Nat.le_of_ble_eq_true rfl) dX6_plan_6 ⟨Nat.zero_le _, Nat.zero_le _⟩ hS hA (fun r2 w3 H locs hw3 hP hS => ?_)
  obtain ⟨x4, rfl, hw3r⟩ := hw3
  have hP : PP G (xM G x xa ta a b ga ua la lb lc tg gg (upd xf 0 x4) tf f qf gf uf lf mf nf tr r q gr ur lr mr nr) H := hP
  have hw3r : ((r2 = 1 ∧ ((r1 : Int32) = 0)) ∨ (r2 = 0 ∧ ¬ ((r1 : Int32) = 0))) := hw3r
  refine lv_if_ne (tgt := 14) hx hb dX6_plan_9 (by decide) (fun c5 => ?_) (fun c5 => ?_)
  · have b9 := bT hw3r c5
    obtain ⟨ej, ho⟩ := st0 hr1 b9
    subst ej
    obtain ⟨rw, hrw, t1⟩ := hT1
    obtain ⟨cl, hcl, t2⟩ := hT2
    obtain ⟨bk, hbk, t3⟩ := hT3
    have hT1 : nL 12 (tf 1) := ⟨rw, hrw, t1⟩
    have hT2 : nL 12 (tf 2) := ⟨cl, hcl, t2⟩
    have hT3 : nL 12 (tf 3) := ⟨bk, hbk, t3⟩
    refine lv_aload_n hx hb dX6_plan_14 rfl (lv_at hl 0 rfl) ?_
    refine va_get (D := G.1) (ci := 6) (v := .ref (a 15)) (C := RX6) (T := TX6) (N := 10) hx hb hts inX6 hown hK.1 hP 0 rfl rfl 2 (by decide) (hts _ mf_X6_22) (fun _ h9 => h9) rfl dX6_plan_15 ?_
    refine lv_aload_n hx hb dX6_plan_18 rfl (lv_at hl 0 rfl) ?_
    refine va_get (D := G.1) (ci := 6) (v := .ref (xa 1)) (C := RX6) (T := TX6) (N := 10) hx hb hts inX6 hown hK.1 hP 0 rfl rfl 1 (by decide) (hts _ mf_X6_15) (fun _ h9 => h9) rfl dX6_plan_19 ?_
    refine lv_iload_n hx hb dX6_plan_22 rfl (lv_at hl 1 rfl) ?_
    refine xaldT hx hb hK hP 1 (j) (b := (ta 0)) rfl (by omega) (by decide) rfl (htg) dX6_plan_23 ?_
    refine lawV (rest := []) (q0 := 0) ⟨hx, hb, hml, hown, hts⟩ (c_X2_load l G a b f r ta tf tr rw cl bk hrw hcl hbk t1 t2 t3) mi_yX2_load mv_yX2_load ml_X6_184 ⟨rfl, rfl, Nat.le_of_ble_eq_true rfl, Nat.le_of_ble_eq_true rfl⟩ hK hP (hDD _ _ _ _ _ _ _ _ _ _ _ _ _ _ _ _ _) (pl_perm (xBlk G x xa ta a b ga ua la lb lc tg gg (upd xf 0 x4) tf f qf gf uf lf mf nf tr r q gr ur lr mr nr) (sel := [2, 1]) (oth := [0, 3, 4, 5, 6, 7, 8, 9]) (by decide)) rfl rfl rfl hl.1 rfl (Nat.le_of_ble_eq_true rfl) dX6_plan_24 ⟨Nat.zero_le _, Nat.zero_le _⟩ hS hA (fun w9 H locs hw9 hP hS => ?_)
    obtain ⟨x6, x7, h0, h1, rfl⟩ := hw9
    have hP : PP G (xM G x xa ta a b ga ua la lb lc tg gg (upd xf 0 x4) tf (upd (upd (upd (upd (upd f 0 (x6 0)) 1 (x6 1)) 2 (x6 2)) 3 (x6 3)) 4 (x6 4)) qf gf uf lf mf nf tr (up2 (up2 (up2 (up2 (up2 (up2 (up2 (up2 (up2 r 6 (x7 6)) 7 (x7 7)) 8 (x7 8)) 9 (x7 9)) 10 (x7 10)) 11 (x7 11)) 12 (x7 12)) 13 (x7 13)) 14 (x7 14)) q gr ur lr mr nr) H := (hP rfl (xM G x xa ta a b ga ua la lb lc tg gg (upd xf 0 x4) tf (upd (upd (upd (upd (upd f 0 (x6 0)) 1 (x6 1)) 2 (x6 2)) 3 (x6 3)) 4 (x6 4)) qf gf uf lf mf nf tr (up2 (up2 (up2 (up2 (up2 (up2 (up2 (up2 (up2 r 6 (x7 6)) 7 (x7 7)) 8 (x7 8)) 9 (x7 9)) 10 (x7 10)) 11 (x7 11)) 12 (x7 12)) 13 (x7 13)) 14 (x7 14)) q gr ur lr mr nr) (pl_perm (xBlk G x xa ta a b ga ua la lb lc tg gg (upd xf 0 x4) tf (upd (upd (upd (upd (upd f 0 (x6 0)) 1 (x6 1)) 2 (x6 2)) 3 (x6 3)) 4 (x6 4)) qf gf uf lf mf nf tr (up2 (up2 (up2 (up2 (up2 (up2 (up2 (up2 (up2 r 6 (x7 6)) 7 (x7 7)) 8 (x7 8)) 9 (x7 9)) 10 (x7 10)) 11 (x7 11)) 12 (x7 12)) 13 (x7 13)) 14 (x7 14)) q gr ur lr mr nr) (sel := [2, 1]) (oth := [0, 3, 4, 5, 6, 7, 8, 9]) (by decide))).1
    refine lv_aload_n hx hb dX6_plan_27 rfl (lv_at hl 0 rfl) ?_
    refine va_get (D := G.1) (ci := 6) (v := .ref (ga 9)) (C := RX6) (T := TX6) (N := 10) hx hb hts inX6 hown hK.1 hP 0 rfl rfl 3 (by decide) (hts _ mf_X6_29) (fun _ h9 => h9) rfl dX6_plan_28 ?_
    refine lv_aload_n hx hb dX6_plan_31 rfl (lv_at hl 0 rfl) ?_
    refine va_get (D := G.1) (ci := 6) (v := .ref (xa 1)) (C := RX6) (T := TX6) (N := 10) hx hb hts inX6 hown hK.1 hP 0 rfl rfl 1 (by decide) (hts _ mf_X6_15) (fun _ h9 => h9) rfl dX6_plan_32 ?_
    refine lv_iload_n hx hb dX6_plan_35 rfl (lv_at hl 1 rfl) ?_
    refine xaldT hx hb hK hP 1 (j) (b := (ta 0)) rfl (by omega) (by decide) rfl (htg) dX6_plan_36 ?_
    refine lv_aload_n hx hb dX6_plan_37 rfl (lv_at hl 0 rfl) ?_
    refine va_get (D := G.1) (ci := 6) (v := .ref (a 15)) (C := RX6) (T := TX6) (N := 10) hx hb hts inX6 hown hK.1 hP 0 rfl rfl 2 (by decide) (hts _ mf_X6_22) (fun _ h9 => h9) rfl dX6_plan_38 ?_
    refine wrVIa (rest := []) (q0 := 25) ⟨hx, hb, hml, hown, hts⟩ (x_X0_followPlan l G x xa ta a b ga ua la lb lc tg gg (upd xf 0 x4) tf (upd (upd (upd (upd (upd f 0 (x6 0)) 1 (x6 1)) 2 (x6 2)) 3 (x6 3)) 4 (x6 4)) qf gf uf lf mf nf tr (up2 (up2 (up2 (up2 (up2 (up2 (up2 (up2 (up2 r 6 (x7 6)) 7 (x7 7)) 8 (x7 8)) 9 (x7 9)) 10 (x7 10)) 11 (x7 11)) 12 (x7 12)) 13 (x7 13)) 14 (x7 14)) q gr ur lr mr nr  rw cl (by omega) (by omega) h0 h1 hRB) mi_yX0_followPlan mv_yX0_followPlan ml_X6_211 ⟨rfl, rfl, Nat.le_of_ble_eq_true rfl, Nat.le_of_ble_eq_true rfl⟩ hK hP (hDD _ _ _ _ _ _ _ _ _ _ _ _ _ _ _ _ _) rfl rfl rfl hl.1 rfl (Nat.le_of_ble_eq_true rfl) dX6_plan_41 ⟨Nat.zero_le _, Nat.zero_le _⟩ hS hA (fun r10 w11 H locs hw11 hP hS => ?_)
    obtain ⟨x12, x13, x14, x15, x16, x17, x18, x19, x20, x21, x22, x23, x24, x25, x26, x27, x28, x29, rfl, hRB, hbt⟩ := hw11
    have hP : PP G (xM G x xa ta a b ga ua la lb lc tg gg (upd xf 0 x4) tf (upd (upd (upd (upd (upd f 0 (x6 0)) 1 (x6 1)) 2 (x6 2)) 3 (x6 3)) 4 x12) (upd qf 3 x19) (upd (upd gf 7 x13) 8 x14) uf lf mf nf (up2 tr 7 x29) (up2 (up2 (up2 (up2 (up2 (up2 (up2 (up2 (up2 r 6 x20) 7 x21) 8 x22) 9 x23) 10 x24) 11 x25) 12 x26) 13 x27) 14 x28) (up2 (up2 (up2 q 0 x16) 1 x17) 2 x18) (up2 gr 0 x15) ur lr mr nr) H := hP
    have hRB : RB adjR x16 := hRB
    have hbt : hb1 (tr 7) x29 := hbt
    refine lv_istore_n (lv' := [(2, .int r10), (0, .ref x), (1, .int (nI j))]) hx hb dX6_plan_44 rfl hl (by decide) rfl (fun ls hl => ?_)
    refine lv_iload_n hx hb dX6_plan_45 rfl (lv_at hl 0 rfl) ?_
    refine lv_iconst (v := -1) hx hb dX6_plan_46 (by decide) ?_
    refine lv_icmp_ne (tgt := 59) hx hb dX6_plan_47 (by decide) (fun c30 => ?_) (fun c30 => ?_)
    · refine lv_iload_n hx hb dX6_plan_59 rfl (lv_at hl 0 rfl) ?_
      exact wr_iret hx hb hr hlocks hS hP ⟨(x6 0), (x6 1), (x6 2), (x6 3), x12, x13, x14, x15, x16, x17, x18, x19, x20, x21, x22, x23, x24, x25, x26, x27, x28, x29, x4, rfl, hRB, hbt⟩ dX6_plan_60
    · refine lv_aload_n hx hb dX6_plan_50 rfl (lv_at hl 1 rfl) ?_
      refine lv_bipush (v := 10) hx hb dX6_plan_51 (by decide) ?_
      refine wrVIa (rest := []) (q0 := 0) ⟨hx, hb, hml, hown, hts⟩ (x_refused l G x xa ta a b ga ua la lb lc tg gg (upd xf 0 x4) tf (upd (upd (upd (upd (upd f 0 (x6 0)) 1 (x6 1)) 2 (x6 2)) 3 (x6 3)) 4 x12) (upd qf 3 x19) (upd (upd gf 7 x13) 8 x14) uf lf mf nf (up2 tr 7 x29) (up2 (up2 (up2 (up2 (up2 (up2 (up2 (up2 (up2 r 6 x20) 7 x21) 8 x22) 9 x23) 10 x24) 11 x25) 12 x26) 13 x27) 14 x28) (up2 (up2 (up2 q 0 x16) 1 x17) 2 x18) (up2 gr 0 x15) ur lr mr nr 10  ) mi_yX6_refused mv_yX6_refused ml_X6_122 ⟨rfl, rfl, Nat.le_of_ble_eq_true rfl, Nat.le_of_ble_eq_true rfl⟩ hK hP (hDD _ _ _ _ _ _ _ _ _ _ _ _ _ _ _ _ _) rfl rfl rfl hl.1 rfl (Nat.le_of_ble_eq_true rfl) dX6_plan_53 ⟨Nat.zero_le _, Nat.zero_le _⟩ hS hA (fun r31 w32 H locs hw32 hP hS => ?_)
      obtain ⟨x33, rfl, hw32r⟩ := hw32
      have hP : PP G (xM G x xa ta a b ga ua la lb lc tg gg (upd xf 0 x33) tf (upd (upd (upd (upd (upd f 0 (x6 0)) 1 (x6 1)) 2 (x6 2)) 3 (x6 3)) 4 x12) (upd qf 3 x19) (upd (upd gf 7 x13) 8 x14) uf lf mf nf (up2 tr 7 x29) (up2 (up2 (up2 (up2 (up2 (up2 (up2 (up2 (up2 r 6 x20) 7 x21) 8 x22) 9 x23) 10 x24) 11 x25) 12 x26) 13 x27) 14 x28) (up2 (up2 (up2 q 0 x16) 1 x17) 2 x18) (up2 gr 0 x15) ur lr mr nr) H := hP
      obtain rfl := hw32r
      refine lv_goto (tgt := 60) hx hb dX6_plan_56 (by decide) ?_
      exact wr_iret hx hb hr hlocks hS hP ⟨(x6 0), (x6 1), (x6 2), (x6 3), x12, x13, x14, x15, x16, x17, x18, x19, x20, x21, x22, x23, x24, x25, x26, x27, x28, x29, x33, rfl, hRB, hbt⟩ dX6_plan_60
  · have b9 := bF hw3r c5
    refine lv_iconst (v := -1) hx hb dX6_plan_12 (by decide) ?_
    exact wr_iret hx hb hr hlocks hS hP ⟨(f 0), (f 1), (f 2), (f 3), (f 4), (gf 7), (gf 8), (gr 0), (q 0), (q 1), (q 2), (qf 3), (r 6), (r 7), (r 8), (r 9), (r 10), (r 11), (r 12), (r 13), (r 14), (tr 7), x4, rfl, hRB, hb1_r⟩ dX6_plan_13
set_option maxHeartbeats 4000000 in
set_option maxRecDepth 100000 in
theorem x_fewest (l : Launch) (G : GG) (x : Nat) (xa ta a b ga ua la lb lc : Nat → Nat) (tg gg : Nat → Option Nat) (xf tf f qf gf uf lf mf nf : Nat → Int32) (tr r q gr ur lr mr nr : Nat → Nat → Int32) (tb : Int32) (j : Nat) (hj : j < 6) (hjt : tbJ tb j) (htg : tg j = some (ta 0)) (hT1 : nL 12 (tf 1)) (hT2 : nL 12 (tf 2)) (hT3 : nL 12 (tf 3)) (hT4 : nOK 12 12 (tr 4)) (hRB : RB adjR (q 0)) : WrI l yX6_fewest cX6_fewest 3 (some .int) ({ frames := 7, cells := 0, slots := 0, locals := 182 }) G (xM G x xa ta a b ga ua la lb lc tg gg xf tf f qf gf uf lf mf nf tr r q gr ur lr mr nr) [.ref x, .int tb] (fun qz w => ∃ (n_f_0 : Int32) (n_f_1 : Int32) (n_f_2 : Int32) (n_f_3 : Int32) (n_f_4 : Int32) (n_gf_4 : Int32) (n_gf_5 : Int32) (n_gf_6 : Int32) (n_gr_1 : Nat → Int32) (n_gr_2 : Nat → Int32) (n_gr_3 : Nat → Int32) (n_q_0 : Nat → Int32) (n_q_1 : Nat → Int32) (n_q_2 : Nat → Int32) (n_qf_3 : Int32) (n_r_6 : Nat → Int32) (n_r_7 : Nat → Int32) (n_r_8 : Nat → Int32) (n_r_9 : Nat → Int32) (n_r_10 : Nat → Int32) (n_r_11 : Nat → Int32) (n_r_12 : Nat → Int32) (n_r_13 : Nat → Int32) (n_r_14 : Nat → Int32) (n_tr_7 : Nat → Int32) (n_xf_0 : Int32), w = xM G x xa ta a b ga ua la lb lc tg gg (upd xf 0 n_xf_0) tf (upd (upd (upd (upd (upd f 0 n_f_0) 1 n_f_1) 2 n_f_2) 3 n_f_3) 4 n_f_4) (upd qf 3 n_qf_3) (upd (upd (upd gf 4 n_gf_4) 5 n_gf_5) 6 n_gf_6) uf lf mf nf (up2 tr 7 n_tr_7) (up2 (up2 (up2 (up2 (up2 (up2 (up2 (up2 (up2 r 6 n_r_6) 7 n_r_7) 8 n_r_8) 9 n_r_9) 10 n_r_10) 11 n_r_11) 12 n_r_12) 13 n_r_13) 14 n_r_14) (up2 (up2 (up2 q 0 n_q_0) 1 n_q_1) 2 n_q_2) (up2 (up2 (up2 gr 1 n_gr_1) 2 n_gr_2) 3 n_gr_3) ur lr mr nr ∧ (RB adjR n_q_0) ∧ (hb1 (tr 7) n_tr_7)) := by
  refine wr_entryI (by decide +kernel) (Nat.le_of_ble_eq_true rfl) ?_
  intro p e s m below meth c A C0 hP hK hD hA ls hl
  have hS : va_S A s.heap s.heap [] := va_S.rf
  obtain ⟨hx, hb, hml, hown, hts, hr, hlocks, hin⟩ := C0
  have hown : s.vm.findClass RX6 = some m.cls := hown
  have hDD : ∀ xf' tf' f' qf' gf' uf' lf' mf' nf' tr' r' q' gr' ur' lr' mr' nr', va_D A (xM G x xa ta a b ga ua la lb lc tg gg xf' tf' f' qf' gf' uf' lf' mf' nf' tr' r' q' gr' ur' lr' mr' nr') := fun xf' tf' f' qf' gf' uf' lf' mf' nf' tr' r' q' gr' ur' lr' mr' nr' => D_same hD rfl
  have hl : lv_has ls 3 [(0, .ref x), (1, .int tb)] := hl
  refine lv_aload_n hx hb dX6_fewest_0 rfl (lv_at hl 0 rfl) ?_
  refine lv_aload_n hx hb dX6_fewest_1 rfl (lv_at hl 0 rfl) ?_
  refine lv_iload_n hx hb dX6_fewest_2 rfl (lv_at hl 1 rfl) ?_
  refine rdV (rest := [.ref x]) (q0 := 0) ⟨hx, hb, hml, hown, hts⟩ (x_tableStatus l G x xa ta a b ga ua la lb lc tg gg xf tf f qf gf uf lf mf nf tr r q gr ur lr mr nr tb j (by omega) hjt htg) mi_yX6_tableStatus mv_yX6_tableStatus ml_X6_73 ⟨rfl, rfl, Nat.le_of_ble_eq_true rfl, Nat.le_of_ble_eq_true rfl⟩ hK (hP) rfl rfl rfl hl.1 rfl (Nat.le_of_ble_eq_true rfl) dX6_fewest_3 ⟨Nat.zero_le _, Nat.zero_le _⟩ hS hA hP (fun r1 H locs hr1 hP hS => ?_)
  have hr1 : ((r1 = 0 ∧ tbO tb j (tf 0)) ∨ (r1 = 1 ∧ ¬ tbO tb j (tf 0))) := hr1
  refine wrVIa (rest := []) (q0 := 0) ⟨hx, hb, hml, hown, hts⟩ (x_settled l G x xa ta a b ga ua la lb lc tg gg xf tf f qf gf uf lf mf nf tr r q gr ur lr mr nr r1  ) mi_yX6_settled mv_yX6_settled ml_X6_65 ⟨rfl, rfl, Nat.le_of_ble_eq_true rfl, Nat.le_of_ble_eq_true rfl⟩ hK hP (hDD _ _ _ _ _ _ _ _ _ _ _ _ _ _ _ _ _) rfl rfl rfl hl.1 rfl (Nat.le_of_ble_eq_true rfl) dX6_fewest_6 ⟨Nat.zero_le _, Nat.zero_le _⟩ hS hA (fun r2 w3 H locs hw3 hP hS => ?_)
  obtain ⟨x4, rfl, hw3r⟩ := hw3
  have hP : PP G (xM G x xa ta a b ga ua la lb lc tg gg (upd xf 0 x4) tf f qf gf uf lf mf nf tr r q gr ur lr mr nr) H := hP
  have hw3r : ((r2 = 1 ∧ ((r1 : Int32) = 0)) ∨ (r2 = 0 ∧ ¬ ((r1 : Int32) = 0))) := hw3r
  refine lv_if_ne (tgt := 14) hx hb dX6_fewest_9 (by decide) (fun c5 => ?_) (fun c5 => ?_)
  · have b9 := bT hw3r c5
    obtain ⟨ej, ho⟩ := st0 hr1 b9
    subst ej
    obtain ⟨rw, hrw, t1⟩ := hT1
    obtain ⟨cl, hcl, t2⟩ := hT2
    obtain ⟨bk, hbk, t3⟩ := hT3
    have hT1 : nL 12 (tf 1) := ⟨rw, hrw, t1⟩
    have hT2 : nL 12 (tf 2) := ⟨cl, hcl, t2⟩
    have hT3 : nL 12 (tf 3) := ⟨bk, hbk, t3⟩
    refine lv_aload_n hx hb dX6_fewest_14 rfl (lv_at hl 0 rfl) ?_
    refine va_get (D := G.1) (ci := 6) (v := .ref (a 15)) (C := RX6) (T := TX6) (N := 10) hx hb hts inX6 hown hK.1 hP 0 rfl rfl 2 (by decide) (hts _ mf_X6_22) (fun _ h9 => h9) rfl dX6_fewest_15 ?_
    refine lv_aload_n hx hb dX6_fewest_18 rfl (lv_at hl 0 rfl) ?_
    refine va_get (D := G.1) (ci := 6) (v := .ref (xa 1)) (C := RX6) (T := TX6) (N := 10) hx hb hts inX6 hown hK.1 hP 0 rfl rfl 1 (by decide) (hts _ mf_X6_15) (fun _ h9 => h9) rfl dX6_fewest_19 ?_
    refine lv_iload_n hx hb dX6_fewest_22 rfl (lv_at hl 1 rfl) ?_
    refine xaldT hx hb hK hP 1 (j) (b := (ta 0)) rfl (by omega) (by decide) rfl (htg) dX6_fewest_23 ?_
    refine lawV (rest := []) (q0 := 0) ⟨hx, hb, hml, hown, hts⟩ (c_X2_load l G a b f r ta tf tr rw cl bk hrw hcl hbk t1 t2 t3) mi_yX2_load mv_yX2_load ml_X6_184 ⟨rfl, rfl, Nat.le_of_ble_eq_true rfl, Nat.le_of_ble_eq_true rfl⟩ hK hP (hDD _ _ _ _ _ _ _ _ _ _ _ _ _ _ _ _ _) (pl_perm (xBlk G x xa ta a b ga ua la lb lc tg gg (upd xf 0 x4) tf f qf gf uf lf mf nf tr r q gr ur lr mr nr) (sel := [2, 1]) (oth := [0, 3, 4, 5, 6, 7, 8, 9]) (by decide)) rfl rfl rfl hl.1 rfl (Nat.le_of_ble_eq_true rfl) dX6_fewest_24 ⟨Nat.zero_le _, Nat.zero_le _⟩ hS hA (fun w9 H locs hw9 hP hS => ?_)
    obtain ⟨x6, x7, h0, h1, rfl⟩ := hw9
    have hP : PP G (xM G x xa ta a b ga ua la lb lc tg gg (upd xf 0 x4) tf (upd (upd (upd (upd (upd f 0 (x6 0)) 1 (x6 1)) 2 (x6 2)) 3 (x6 3)) 4 (x6 4)) qf gf uf lf mf nf tr (up2 (up2 (up2 (up2 (up2 (up2 (up2 (up2 (up2 r 6 (x7 6)) 7 (x7 7)) 8 (x7 8)) 9 (x7 9)) 10 (x7 10)) 11 (x7 11)) 12 (x7 12)) 13 (x7 13)) 14 (x7 14)) q gr ur lr mr nr) H := (hP rfl (xM G x xa ta a b ga ua la lb lc tg gg (upd xf 0 x4) tf (upd (upd (upd (upd (upd f 0 (x6 0)) 1 (x6 1)) 2 (x6 2)) 3 (x6 3)) 4 (x6 4)) qf gf uf lf mf nf tr (up2 (up2 (up2 (up2 (up2 (up2 (up2 (up2 (up2 r 6 (x7 6)) 7 (x7 7)) 8 (x7 8)) 9 (x7 9)) 10 (x7 10)) 11 (x7 11)) 12 (x7 12)) 13 (x7 13)) 14 (x7 14)) q gr ur lr mr nr) (pl_perm (xBlk G x xa ta a b ga ua la lb lc tg gg (upd xf 0 x4) tf (upd (upd (upd (upd (upd f 0 (x6 0)) 1 (x6 1)) 2 (x6 2)) 3 (x6 3)) 4 (x6 4)) qf gf uf lf mf nf tr (up2 (up2 (up2 (up2 (up2 (up2 (up2 (up2 (up2 r 6 (x7 6)) 7 (x7 7)) 8 (x7 8)) 9 (x7 9)) 10 (x7 10)) 11 (x7 11)) 12 (x7 12)) 13 (x7 13)) 14 (x7 14)) q gr ur lr mr nr) (sel := [2, 1]) (oth := [0, 3, 4, 5, 6, 7, 8, 9]) (by decide))).1
    refine lv_aload_n hx hb dX6_fewest_27 rfl (lv_at hl 0 rfl) ?_
    refine va_get (D := G.1) (ci := 6) (v := .ref (ga 9)) (C := RX6) (T := TX6) (N := 10) hx hb hts inX6 hown hK.1 hP 0 rfl rfl 3 (by decide) (hts _ mf_X6_29) (fun _ h9 => h9) rfl dX6_fewest_28 ?_
    refine lv_aload_n hx hb dX6_fewest_31 rfl (lv_at hl 0 rfl) ?_
    refine va_get (D := G.1) (ci := 6) (v := .ref (xa 1)) (C := RX6) (T := TX6) (N := 10) hx hb hts inX6 hown hK.1 hP 0 rfl rfl 1 (by decide) (hts _ mf_X6_15) (fun _ h9 => h9) rfl dX6_fewest_32 ?_
    refine lv_iload_n hx hb dX6_fewest_35 rfl (lv_at hl 1 rfl) ?_
    refine xaldT hx hb hK hP 1 (j) (b := (ta 0)) rfl (by omega) (by decide) rfl (htg) dX6_fewest_36 ?_
    refine lv_aload_n hx hb dX6_fewest_37 rfl (lv_at hl 0 rfl) ?_
    refine va_get (D := G.1) (ci := 6) (v := .ref (a 15)) (C := RX6) (T := TX6) (N := 10) hx hb hts inX6 hown hK.1 hP 0 rfl rfl 2 (by decide) (hts _ mf_X6_22) (fun _ h9 => h9) rfl dX6_fewest_38 ?_
    refine lawV (rest := []) (q0 := 0) ⟨hx, hb, hml, hown, hts⟩ (c_X0_gather l G ga gf gr a b (upd (upd (upd (upd (upd f 0 (x6 0)) 1 (x6 1)) 2 (x6 2)) 3 (x6 3)) 4 (x6 4)) (up2 (up2 (up2 (up2 (up2 (up2 (up2 (up2 (up2 r 6 (x7 6)) 7 (x7 7)) 8 (x7 8)) 9 (x7 9)) 10 (x7 10)) 11 (x7 11)) 12 (x7 12)) 13 (x7 13)) 14 (x7 14)) ta tf tr rw cl hrw hcl h0 h1) mi_yX0_gather mv_yX0_gather ml_X6_215 ⟨rfl, rfl, Nat.le_of_ble_eq_true rfl, Nat.le_of_ble_eq_true rfl⟩ hK hP (hDD _ _ _ _ _ _ _ _ _ _ _ _ _ _ _ _ _) (pl_perm (xBlk G x xa ta a b ga ua la lb lc tg gg (upd xf 0 x4) tf (upd (upd (upd (upd (upd f 0 (x6 0)) 1 (x6 1)) 2 (x6 2)) 3 (x6 3)) 4 (x6 4)) qf gf uf lf mf nf tr (up2 (up2 (up2 (up2 (up2 (up2 (up2 (up2 (up2 r 6 (x7 6)) 7 (x7 7)) 8 (x7 8)) 9 (x7 9)) 10 (x7 10)) 11 (x7 11)) 12 (x7 12)) 13 (x7 13)) 14 (x7 14)) q gr ur lr mr nr) (sel := [4, 2, 1]) (oth := [0, 3, 5, 6, 7, 8, 9]) (by decide)) rfl rfl rfl hl.1 rfl (Nat.le_of_ble_eq_true rfl) dX6_fewest_41 ⟨Nat.zero_le _, Nat.zero_le _⟩ hS hA (fun w13 H locs hw13 hP hS => ?_)
    obtain ⟨ch, x10, x11, hch, hcp, rfl⟩ := hw13
    have hP : PP G (xM G x xa ta a b ga ua la lb lc tg gg (upd xf 0 x4) tf (upd (upd (upd (upd (upd f 0 (x6 0)) 1 (x6 1)) 2 (x6 2)) 3 (x6 3)) 4 (x6 4)) qf (upd gf 4 (nI ch)) uf lf mf nf tr (up2 (up2 (up2 (up2 (up2 (up2 (up2 (up2 (up2 r 6 (x7 6)) 7 (x7 7)) 8 (x7 8)) 9 (x7 9)) 10 (x7 10)) 11 (x7 11)) 12 (x7 12)) 13 (x7 13)) 14 (x7 14)) q (up2 (up2 gr 1 x10) 2 x11) ur lr mr nr) H := (hP rfl (xM G x xa ta a b ga ua la lb lc tg gg (upd xf 0 x4) tf (upd (upd (upd (upd (upd f 0 (x6 0)) 1 (x6 1)) 2 (x6 2)) 3 (x6 3)) 4 (x6 4)) qf (upd gf 4 (nI ch)) uf lf mf nf tr (up2 (up2 (up2 (up2 (up2 (up2 (up2 (up2 (up2 r 6 (x7 6)) 7 (x7 7)) 8 (x7 8)) 9 (x7 9)) 10 (x7 10)) 11 (x7 11)) 12 (x7 12)) 13 (x7 13)) 14 (x7 14)) q (up2 (up2 gr 1 x10) 2 x11) ur lr mr nr) (pl_perm (xBlk G x xa ta a b ga ua la lb lc tg gg (upd xf 0 x4) tf (upd (upd (upd (upd (upd f 0 (x6 0)) 1 (x6 1)) 2 (x6 2)) 3 (x6 3)) 4 (x6 4)) qf (upd gf 4 (nI ch)) uf lf mf nf tr (up2 (up2 (up2 (up2 (up2 (up2 (up2 (up2 (up2 r 6 (x7 6)) 7 (x7 7)) 8 (x7 8)) 9 (x7 9)) 10 (x7 10)) 11 (x7 11)) 12 (x7 12)) 13 (x7 13)) 14 (x7 14)) q (up2 (up2 gr 1 x10) 2 x11) ur lr mr nr) (sel := [4, 2, 1]) (oth := [0, 3, 5, 6, 7, 8, 9]) (by decide))).1
    refine lv_aload_n hx hb dX6_fewest_44 rfl (lv_at hl 0 rfl) ?_
    refine va_get (D := G.1) (ci := 6) (v := .ref (ga 9)) (C := RX6) (T := TX6) (N := 10) hx hb hts inX6 hown hK.1 hP 0 rfl rfl 3 (by decide) (hts _ mf_X6_29) (fun _ h9 => h9) rfl dX6_fewest_45 ?_
    refine va_get (D := G.1) (ci := 0) (v := .int (nI ch)) (C := RX0) (T := TX0) (N := 9) hx hb hts inX0 hown hK.1 hP 25 rfl rfl 4 (by decide) (hts _ mf_X6_219) (fun _ h9 => h9) rfl dX6_fewest_48 ?_
    refine lv_bipush (v := 8) hx hb dX6_fewest_51 (by decide) ?_
    refine lv_icmp_le (tgt := 63) hx hb dX6_fewest_53 (by decide) (fun c14 => ?_) (fun c14 => ?_)
    · have b53 := qle_t (a := ch) (b := 8) (by omega) (by omega) c14
      refine lv_aload_n hx hb dX6_fewest_63 rfl (lv_at hl 0 rfl) ?_
      refine va_get (D := G.1) (ci := 6) (v := .ref (ga 9)) (C := RX6) (T := TX6) (N := 10) hx hb hts inX6 hown hK.1 hP 0 rfl rfl 3 (by decide) (hts _ mf_X6_29) (fun _ h9 => h9) rfl dX6_fewest_64 ?_
      refine lv_aload_n hx hb dX6_fewest_67 rfl (lv_at hl 0 rfl) ?_
      refine va_get (D := G.1) (ci := 6) (v := .ref (a 15)) (C := RX6) (T := TX6) (N := 10) hx hb hts inX6 hown hK.1 hP 0 rfl rfl 2 (by decide) (hts _ mf_X6_22) (fun _ h9 => h9) rfl dX6_fewest_68 ?_
      refine lawI (rest := []) (q0 := 0) ⟨hx, hb, hml, hown, hts⟩ (c_X0_cheapest l G ga (upd gf 4 (nI ch)) (up2 (up2 gr 1 x10) 2 x11) a b (upd (upd (upd (upd (upd f 0 (x6 0)) 1 (x6 1)) 2 (x6 2)) 3 (x6 3)) 4 (x6 4)) (up2 (up2 (up2 (up2 (up2 (up2 (up2 (up2 (up2 r 6 (x7 6)) 7 (x7 7)) 8 (x7 8)) 9 (x7 9)) 10 (x7 10)) 11 (x7 11)) 12 (x7 12)) 13 (x7 13)) 14 (x7 14)) q (qf 3) rw cl hrw hcl h0 h1 ch (by omega) rfl (chP_m hcp (by omega)) hRB) mi_yX0_cheapest mv_yX0_cheapest ml_X6_222 ⟨rfl, rfl, Nat.le_of_ble_eq_true rfl, Nat.le_of_ble_eq_true rfl⟩ hK hP (hDD _ _ _ _ _ _ _ _ _ _ _ _ _ _ _ _ _) (pl_perm (xBlk G x xa ta a b ga ua la lb lc tg gg (upd xf 0 x4) tf (upd (upd (upd (upd (upd f 0 (x6 0)) 1 (x6 1)) 2 (x6 2)) 3 (x6 3)) 4 (x6 4)) qf (upd gf 4 (nI ch)) uf lf mf nf tr (up2 (up2 (up2 (up2 (up2 (up2 (up2 (up2 (up2 r 6 (x7 6)) 7 (x7 7)) 8 (x7 8)) 9 (x7 9)) 10 (x7 10)) 11 (x7 11)) 12 (x7 12)) 13 (x7 13)) 14 (x7 14)) q (up2 (up2 gr 1 x10) 2 x11) ur lr mr nr) (sel := [4, 2, 3]) (oth := [0, 1, 5, 6, 7, 8, 9]) (by decide)) rfl rfl rfl hl.1 rfl (Nat.le_of_ble_eq_true rfl) dX6_fewest_71 ⟨Nat.zero_le _, Nat.zero_le _⟩ hS hA (fun r24 w25 H locs hw25 hP hS => ?_)
      obtain ⟨hor, x15, x16, x17, x18, x19, x20, x21, x22, x23, hRB, rfl⟩ := hw25
      have hP : PP G (xM G x xa ta a b ga ua la lb lc tg gg (upd xf 0 x4) tf (upd (upd (upd (upd (upd f 0 (x6 0)) 1 (x6 1)) 2 (x6 2)) 3 (x6 3)) 4 x18) (upd qf 3 x23) (upd (upd (upd gf 4 (nI ch)) 5 x15) 6 x16) uf lf mf nf tr (up2 (up2 (up2 (up2 (up2 (up2 (up2 (up2 (up2 r 6 (x19 6)) 7 (x19 7)) 8 (x19 8)) 9 (x19 9)) 10 (x19 10)) 11 (x19 11)) 12 (x19 12)) 13 (x19 13)) 14 (x19 14)) (up2 (up2 (up2 q 0 x20) 1 x21) 2 x22) (up2 (up2 (up2 gr 1 x10) 2 x11) 3 x17) ur lr mr nr) H := (hP rfl (xM G x xa ta a b ga ua la lb lc tg gg (upd xf 0 x4) tf (upd (upd (upd (upd (upd f 0 (x6 0)) 1 (x6 1)) 2 (x6 2)) 3 (x6 3)) 4 x18) (upd qf 3 x23) (upd (upd (upd gf 4 (nI ch)) 5 x15) 6 x16) uf lf mf nf tr (up2 (up2 (up2 (up2 (up2 (up2 (up2 (up2 (up2 r 6 (x19 6)) 7 (x19 7)) 8 (x19 8)) 9 (x19 9)) 10 (x19 10)) 11 (x19 11)) 12 (x19 12)) 13 (x19 13)) 14 (x19 14)) (up2 (up2 (up2 q 0 x20) 1 x21) 2 x22) (up2 (up2 (up2 gr 1 x10) 2 x11) 3 x17) ur lr mr nr) (pl_perm (xBlk G x xa ta a b ga ua la lb lc tg gg (upd xf 0 x4) tf (upd (upd (upd (upd (upd f 0 (x6 0)) 1 (x6 1)) 2 (x6 2)) 3 (x6 3)) 4 x18) (upd qf 3 x23) (upd (upd (upd gf 4 (nI ch)) 5 x15) 6 x16) uf lf mf nf tr (up2 (up2 (up2 (up2 (up2 (up2 (up2 (up2 (up2 r 6 (x19 6)) 7 (x19 7)) 8 (x19 8)) 9 (x19 9)) 10 (x19 10)) 11 (x19 11)) 12 (x19 12)) 13 (x19 13)) 14 (x19 14)) (up2 (up2 (up2 q 0 x20) 1 x21) 2 x22) (up2 (up2 (up2 gr 1 x10) 2 x11) 3 x17) ur lr mr nr) (sel := [4, 2, 3]) (oth := [0, 1, 5, 6, 7, 8, 9]) (by decide))).1
      refine lv_istore_n (lv' := [(2, .int r24), (0, .ref x), (1, .int (nI j))]) hx hb dX6_fewest_74 rfl hl (by decide) rfl (fun ls hl => ?_)
      refine lv_iload_n hx hb dX6_fewest_75 rfl (lv_at hl 0 rfl) ?_
      refine lv_iconst (v := -1) hx hb dX6_fewest_76 (by decide) ?_
      refine lv_icmp_ne (tgt := 87) hx hb dX6_fewest_77 (by decide) (fun c26 => ?_) (fun c26 => ?_)
      · obtain ⟨zs, hzs, ezs⟩ := hor.resolve_left c26
        subst ezs
        refine lv_aload_n hx hb dX6_fewest_87 rfl (lv_at hl 1 rfl) ?_
        refine va_get (D := G.1) (ci := 6) (v := .ref (ga 9)) (C := RX6) (T := TX6) (N := 10) hx hb hts inX6 hown hK.1 hP 0 rfl rfl 3 (by decide) (hts _ mf_X6_29) (fun _ h9 => h9) rfl dX6_fewest_88 ?_
        refine lv_aload_n hx hb dX6_fewest_91 rfl (lv_at hl 1 rfl) ?_
        refine va_get (D := G.1) (ci := 6) (v := .ref (xa 1)) (C := RX6) (T := TX6) (N := 10) hx hb hts inX6 hown hK.1 hP 0 rfl rfl 1 (by decide) (hts _ mf_X6_15) (fun _ h9 => h9) rfl dX6_fewest_92 ?_
        refine lv_iload_n hx hb dX6_fewest_95 rfl (lv_at hl 2 rfl) ?_
        refine xaldT hx hb hK hP 1 (j) (b := (ta 0)) rfl (by omega) (by decide) rfl (htg) dX6_fewest_96 ?_
        refine lv_iload_n hx hb dX6_fewest_97 rfl (lv_at hl 0 rfl) ?_
        refine lawV (rest := []) (q0 := 0) ⟨hx, hb, hml, hown, hts⟩ (c_X0_tell l G ga (upd (upd (upd gf 4 (nI ch)) 5 x15) 6 x16) (up2 (up2 (up2 gr 1 x10) 2 x11) 3 x17) ta tf tr ch (by omega) rfl (chP_m hcp (by omega)) (nI zs)) mi_yX0_tell mv_yX0_tell ml_X6_226 ⟨rfl, rfl, Nat.le_of_ble_eq_true rfl, Nat.le_of_ble_eq_true rfl⟩ hK hP (hDD _ _ _ _ _ _ _ _ _ _ _ _ _ _ _ _ _) (pl_perm (xBlk G x xa ta a b ga ua la lb lc tg gg (upd xf 0 x4) tf (upd (upd (upd (upd (upd f 0 (x6 0)) 1 (x6 1)) 2 (x6 2)) 3 (x6 3)) 4 x18) (upd qf 3 x23) (upd (upd (upd gf 4 (nI ch)) 5 x15) 6 x16) uf lf mf nf tr (up2 (up2 (up2 (up2 (up2 (up2 (up2 (up2 (up2 r 6 (x19 6)) 7 (x19 7)) 8 (x19 8)) 9 (x19 9)) 10 (x19 10)) 11 (x19 11)) 12 (x19 12)) 13 (x19 13)) 14 (x19 14)) (up2 (up2 (up2 q 0 x20) 1 x21) 2 x22) (up2 (up2 (up2 gr 1 x10) 2 x11) 3 x17) ur lr mr nr) (sel := [4, 1]) (oth := [0, 2, 3, 5, 6, 7, 8, 9]) (by decide)) rfl rfl rfl hl.1 rfl (Nat.le_of_ble_eq_true rfl) dX6_fewest_98 ⟨Nat.zero_le _, Nat.zero_le _⟩ hS hA (fun w29 H locs hw29 hP hS => ?_)
        obtain ⟨x27, hb1_, rfl⟩ := hw29
        have hP : PP G (xM G x xa ta a b ga ua la lb lc tg gg (upd xf 0 x4) tf (upd (upd (upd (upd (upd f 0 (x6 0)) 1 (x6 1)) 2 (x6 2)) 3 (x6 3)) 4 x18) (upd qf 3 x23) (upd (upd (upd gf 4 (nI ch)) 5 x15) 6 x16) uf lf mf nf (up2 tr 7 x27) (up2 (up2 (up2 (up2 (up2 (up2 (up2 (up2 (up2 r 6 (x19 6)) 7 (x19 7)) 8 (x19 8)) 9 (x19 9)) 10 (x19 10)) 11 (x19 11)) 12 (x19 12)) 13 (x19 13)) 14 (x19 14)) (up2 (up2 (up2 q 0 x20) 1 x21) 2 x22) (up2 (up2 (up2 gr 1 x10) 2 x11) 3 x17) ur lr mr nr) H := (hP rfl (xM G x xa ta a b ga ua la lb lc tg gg (upd xf 0 x4) tf (upd (upd (upd (upd (upd f 0 (x6 0)) 1 (x6 1)) 2 (x6 2)) 3 (x6 3)) 4 x18) (upd qf 3 x23) (upd (upd (upd gf 4 (nI ch)) 5 x15) 6 x16) uf lf mf nf (up2 tr 7 x27) (up2 (up2 (up2 (up2 (up2 (up2 (up2 (up2 (up2 r 6 (x19 6)) 7 (x19 7)) 8 (x19 8)) 9 (x19 9)) 10 (x19 10)) 11 (x19 11)) 12 (x19 12)) 13 (x19 13)) 14 (x19 14)) (up2 (up2 (up2 q 0 x20) 1 x21) 2 x22) (up2 (up2 (up2 gr 1 x10) 2 x11) 3 x17) ur lr mr nr) (pl_perm (xBlk G x xa ta a b ga ua la lb lc tg gg (upd xf 0 x4) tf (upd (upd (upd (upd (upd f 0 (x6 0)) 1 (x6 1)) 2 (x6 2)) 3 (x6 3)) 4 x18) (upd qf 3 x23) (upd (upd (upd gf 4 (nI ch)) 5 x15) 6 x16) uf lf mf nf (up2 tr 7 x27) (up2 (up2 (up2 (up2 (up2 (up2 (up2 (up2 (up2 r 6 (x19 6)) 7 (x19 7)) 8 (x19 8)) 9 (x19 9)) 10 (x19 10)) 11 (x19 11)) 12 (x19 12)) 13 (x19 13)) 14 (x19 14)) (up2 (up2 (up2 q 0 x20) 1 x21) 2 x22) (up2 (up2 (up2 gr 1 x10) 2 x11) 3 x17) ur lr mr nr) (sel := [4, 1]) (oth := [0, 2, 3, 5, 6, 7, 8, 9]) (by decide))).1
        refine lv_aload_n hx hb dX6_fewest_101 rfl (lv_at hl 1 rfl) ?_
        refine va_get (D := G.1) (ci := 6) (v := .ref (ga 9)) (C := RX6) (T := TX6) (N := 10) hx hb hts inX6 hown hK.1 hP 0 rfl rfl 3 (by decide) (hts _ mf_X6_29) (fun _ h9 => h9) rfl dX6_fewest_102 ?_
        refine va_get (D := G.1) (ci := 0) (v := .ref (ga 3)) (C := RX0) (T := TX0) (N := 9) hx hb hts inX0 hown hK.1 hP 25 rfl rfl 3 (by decide) (hts _ mf_X6_229) (fun _ h9 => h9) rfl dX6_fewest_105 ?_
        refine lv_iload_n hx hb dX6_fewest_108 rfl (lv_at hl 0 rfl) ?_
        refine xiald (f := x17) hx hb hK hP 29 (zs) (rfl) (by omega) (by decide) rfl dX6_fewest_109 ?_
        refine lv_topi (fun v30 ev30 => ?_)
        exact wr_iret hx hb hr hlocks hS hP ⟨(x6 0), (x6 1), (x6 2), (x6 3), x18, (nI ch), x15, x16, x10, x11, x17, x20, x21, x22, x23, (x19 6), (x19 7), (x19 8), (x19 9), (x19 10), (x19 11), (x19 12), (x19 13), (x19 14), x27, x4, rfl, hRB, hb1_⟩ dX6_fewest_110
      · refine lv_aload_n hx hb dX6_fewest_80 rfl (lv_at hl 1 rfl) ?_
        refine lv_bipush (v := 10) hx hb dX6_fewest_81 (by decide) ?_
        refine wrVIa (rest := []) (q0 := 0) ⟨hx, hb, hml, hown, hts⟩ (x_refused l G x xa ta a b ga ua la lb lc tg gg (upd xf 0 x4) tf (upd (upd (upd (upd (upd f 0 (x6 0)) 1 (x6 1)) 2 (x6 2)) 3 (x6 3)) 4 x18) (upd qf 3 x23) (upd (upd (upd gf 4 (nI ch)) 5 x15) 6 x16) uf lf mf nf tr (up2 (up2 (up2 (up2 (up2 (up2 (up2 (up2 (up2 r 6 (x19 6)) 7 (x19 7)) 8 (x19 8)) 9 (x19 9)) 10 (x19 10)) 11 (x19 11)) 12 (x19 12)) 13 (x19 13)) 14 (x19 14)) (up2 (up2 (up2 q 0 x20) 1 x21) 2 x22) (up2 (up2 (up2 gr 1 x10) 2 x11) 3 x17) ur lr mr nr 10  ) mi_yX6_refused mv_yX6_refused ml_X6_122 ⟨rfl, rfl, Nat.le_of_ble_eq_true rfl, Nat.le_of_ble_eq_true rfl⟩ hK hP (hDD _ _ _ _ _ _ _ _ _ _ _ _ _ _ _ _ _) rfl rfl rfl hl.1 rfl (Nat.le_of_ble_eq_true rfl) dX6_fewest_83 ⟨Nat.zero_le _, Nat.zero_le _⟩ hS hA (fun r31 w32 H locs hw32 hP hS => ?_)
        obtain ⟨x33, rfl, hw32r⟩ := hw32
        have hP : PP G (xM G x xa ta a b ga ua la lb lc tg gg (upd xf 0 x33) tf (upd (upd (upd (upd (upd f 0 (x6 0)) 1 (x6 1)) 2 (x6 2)) 3 (x6 3)) 4 x18) (upd qf 3 x23) (upd (upd (upd gf 4 (nI ch)) 5 x15) 6 x16) uf lf mf nf tr (up2 (up2 (up2 (up2 (up2 (up2 (up2 (up2 (up2 r 6 (x19 6)) 7 (x19 7)) 8 (x19 8)) 9 (x19 9)) 10 (x19 10)) 11 (x19 11)) 12 (x19 12)) 13 (x19 13)) 14 (x19 14)) (up2 (up2 (up2 q 0 x20) 1 x21) 2 x22) (up2 (up2 (up2 gr 1 x10) 2 x11) 3 x17) ur lr mr nr) H := hP
        obtain rfl := hw32r
        exact wr_iret hx hb hr hlocks hS hP ⟨(x6 0), (x6 1), (x6 2), (x6 3), x18, (nI ch), x15, x16, x10, x11, x17, x20, x21, x22, x23, (x19 6), (x19 7), (x19 8), (x19 9), (x19 10), (x19 11), (x19 12), (x19 13), (x19 14), (tr 7), x33, rfl, hRB, hb1_r⟩ dX6_fewest_86
    · have b53 := qle_f (a := ch) (b := 8) (by omega) (by omega) c14
      refine lv_aload_n hx hb dX6_fewest_56 rfl (lv_at hl 0 rfl) ?_
      refine lv_bipush (v := 8) hx hb dX6_fewest_57 (by decide) ?_
      refine wrVIa (rest := []) (q0 := 0) ⟨hx, hb, hml, hown, hts⟩ (x_refused l G x xa ta a b ga ua la lb lc tg gg (upd xf 0 x4) tf (upd (upd (upd (upd (upd f 0 (x6 0)) 1 (x6 1)) 2 (x6 2)) 3 (x6 3)) 4 (x6 4)) qf (upd gf 4 (nI ch)) uf lf mf nf tr (up2 (up2 (up2 (up2 (up2 (up2 (up2 (up2 (up2 r 6 (x7 6)) 7 (x7 7)) 8 (x7 8)) 9 (x7 9)) 10 (x7 10)) 11 (x7 11)) 12 (x7 12)) 13 (x7 13)) 14 (x7 14)) q (up2 (up2 gr 1 x10) 2 x11) ur lr mr nr 8  ) mi_yX6_refused mv_yX6_refused ml_X6_122 ⟨rfl, rfl, Nat.le_of_ble_eq_true rfl, Nat.le_of_ble_eq_true rfl⟩ hK hP (hDD _ _ _ _ _ _ _ _ _ _ _ _ _ _ _ _ _) rfl rfl rfl hl.1 rfl (Nat.le_of_ble_eq_true rfl) dX6_fewest_59 ⟨Nat.zero_le _, Nat.zero_le _⟩ hS hA (fun r34 w35 H locs hw35 hP hS => ?_)
      obtain ⟨x36, rfl, hw35r⟩ := hw35
      have hP : PP G (xM G x xa ta a b ga ua la lb lc tg gg (upd xf 0 x36) tf (upd (upd (upd (upd (upd f 0 (x6 0)) 1 (x6 1)) 2 (x6 2)) 3 (x6 3)) 4 (x6 4)) qf (upd gf 4 (nI ch)) uf lf mf nf tr (up2 (up2 (up2 (up2 (up2 (up2 (up2 (up2 (up2 r 6 (x7 6)) 7 (x7 7)) 8 (x7 8)) 9 (x7 9)) 10 (x7 10)) 11 (x7 11)) 12 (x7 12)) 13 (x7 13)) 14 (x7 14)) q (up2 (up2 gr 1 x10) 2 x11) ur lr mr nr) H := hP
      obtain rfl := hw35r
      exact wr_iret hx hb hr hlocks hS hP ⟨(x6 0), (x6 1), (x6 2), (x6 3), (x6 4), (nI ch), (gf 5), (gf 6), x10, x11, (gr 3), (q 0), (q 1), (q 2), (qf 3), (x7 6), (x7 7), (x7 8), (x7 9), (x7 10), (x7 11), (x7 12), (x7 13), (x7 14), (tr 7), x36, rfl, hRB, hb1_r⟩ dX6_fewest_62
  · have b9 := bF hw3r c5
    refine lv_iconst (v := -1) hx hb dX6_fewest_12 (by decide) ?_
    exact wr_iret hx hb hr hlocks hS hP ⟨(f 0), (f 1), (f 2), (f 3), (f 4), (gf 4), (gf 5), (gf 6), (gr 1), (gr 2), (gr 3), (q 0), (q 1), (q 2), (qf 3), (r 6), (r 7), (r 8), (r 9), (r 10), (r 11), (r 12), (r 13), (r 14), (tr 7), x4, rfl, hRB, hb1_r⟩ dX6_fewest_13
set_option maxHeartbeats 4000000 in
set_option maxRecDepth 100000 in
theorem x_cost (l : Launch) (G : GG) (x : Nat) (xa ta a b ga ua la lb lc : Nat → Nat) (tg gg : Nat → Option Nat) (xf tf f qf gf uf lf mf nf : Nat → Int32) (tr r q gr ur lr mr nr : Nat → Nat → Int32) (tb : Int32) (j : Nat) (hj : j < 6) (hjt : tbJ tb j) (htg : tg j = some (ta 0)) (hT1 : nL 12 (tf 1)) (hT2 : nL 12 (tf 2)) (hT3 : nL 12 (tf 3)) (hT4 : nOK 12 12 (tr 4)) : WrI l yX6_cost cX6_cost 2 (some .int) ({ frames := 3, cells := 0, slots := 0, locals := 73 }) G (xM G x xa ta a b ga ua la lb lc tg gg xf tf f qf gf uf lf mf nf tr r q gr ur lr mr nr) [.ref x, .int tb] (fun qz w => ∃ (n_xf_0 : Int32), w = xM G x xa ta a b ga ua la lb lc tg gg (upd xf 0 n_xf_0) tf f qf gf uf lf mf nf tr r q gr ur lr mr nr) := by
  refine wr_entryI (by decide +kernel) (Nat.le_of_ble_eq_true rfl) ?_
  intro p e s m below meth c A C0 hP hK hD hA ls hl
  have hS : va_S A s.heap s.heap [] := va_S.rf
  obtain ⟨hx, hb, hml, hown, hts, hr, hlocks, hin⟩ := C0
  have hown : s.vm.findClass RX6 = some m.cls := hown
  have hDD : ∀ xf' tf' f' qf' gf' uf' lf' mf' nf' tr' r' q' gr' ur' lr' mr' nr', va_D A (xM G x xa ta a b ga ua la lb lc tg gg xf' tf' f' qf' gf' uf' lf' mf' nf' tr' r' q' gr' ur' lr' mr' nr') := fun xf' tf' f' qf' gf' uf' lf' mf' nf' tr' r' q' gr' ur' lr' mr' nr' => D_same hD rfl
  have hl : lv_has ls 2 [(0, .ref x), (1, .int tb)] := hl
  refine lv_aload_n hx hb dX6_cost_0 rfl (lv_at hl 0 rfl) ?_
  refine lv_aload_n hx hb dX6_cost_1 rfl (lv_at hl 0 rfl) ?_
  refine lv_iload_n hx hb dX6_cost_2 rfl (lv_at hl 1 rfl) ?_
  refine rdV (rest := [.ref x]) (q0 := 0) ⟨hx, hb, hml, hown, hts⟩ (x_tableStatus l G x xa ta a b ga ua la lb lc tg gg xf tf f qf gf uf lf mf nf tr r q gr ur lr mr nr tb j (by omega) hjt htg) mi_yX6_tableStatus mv_yX6_tableStatus ml_X6_73 ⟨rfl, rfl, Nat.le_of_ble_eq_true rfl, Nat.le_of_ble_eq_true rfl⟩ hK (hP) rfl rfl rfl hl.1 rfl (Nat.le_of_ble_eq_true rfl) dX6_cost_3 ⟨Nat.zero_le _, Nat.zero_le _⟩ hS hA hP (fun r1 H locs hr1 hP hS => ?_)
  have hr1 : ((r1 = 0 ∧ tbO tb j (tf 0)) ∨ (r1 = 1 ∧ ¬ tbO tb j (tf 0))) := hr1
  refine wrVIa (rest := []) (q0 := 0) ⟨hx, hb, hml, hown, hts⟩ (x_settled l G x xa ta a b ga ua la lb lc tg gg xf tf f qf gf uf lf mf nf tr r q gr ur lr mr nr r1  ) mi_yX6_settled mv_yX6_settled ml_X6_65 ⟨rfl, rfl, Nat.le_of_ble_eq_true rfl, Nat.le_of_ble_eq_true rfl⟩ hK hP (hDD _ _ _ _ _ _ _ _ _ _ _ _ _ _ _ _ _) rfl rfl rfl hl.1 rfl (Nat.le_of_ble_eq_true rfl) dX6_cost_6 ⟨Nat.zero_le _, Nat.zero_le _⟩ hS hA (fun r2 w3 H locs hw3 hP hS => ?_)
  obtain ⟨x4, rfl, hw3r⟩ := hw3
  have hP : PP G (xM G x xa ta a b ga ua la lb lc tg gg (upd xf 0 x4) tf f qf gf uf lf mf nf tr r q gr ur lr mr nr) H := hP
  have hw3r : ((r2 = 1 ∧ ((r1 : Int32) = 0)) ∨ (r2 = 0 ∧ ¬ ((r1 : Int32) = 0))) := hw3r
  refine lv_if_ne (tgt := 14) hx hb dX6_cost_9 (by decide) (fun c5 => ?_) (fun c5 => ?_)
  · have b9 := bT hw3r c5
    obtain ⟨ej, ho⟩ := st0 hr1 b9
    subst ej
    obtain ⟨rw, hrw, t1⟩ := hT1
    obtain ⟨cl, hcl, t2⟩ := hT2
    obtain ⟨bk, hbk, t3⟩ := hT3
    have hT1 : nL 12 (tf 1) := ⟨rw, hrw, t1⟩
    have hT2 : nL 12 (tf 2) := ⟨cl, hcl, t2⟩
    have hT3 : nL 12 (tf 3) := ⟨bk, hbk, t3⟩
    refine lv_aload_n hx hb dX6_cost_14 rfl (lv_at hl 0 rfl) ?_
    refine va_get (D := G.1) (ci := 6) (v := .ref (xa 1)) (C := RX6) (T := TX6) (N := 10) hx hb hts inX6 hown hK.1 hP 0 rfl rfl 1 (by decide) (hts _ mf_X6_15) (fun _ h9 => h9) rfl dX6_cost_15 ?_
    refine lv_iload_n hx hb dX6_cost_18 rfl (lv_at hl 1 rfl) ?_
    refine xaldT hx hb hK hP 1 (j) (b := (ta 0)) rfl (by omega) (by decide) rfl (htg) dX6_cost_19 ?_
    refine rdV (rest := []) (q0 := 0) ⟨hx, hb, hml, hown, hts⟩ (c_X4_priceOfKept l G ta tf tr rw cl bk hrw hcl hbk t1 t2 t3) mi_yX4_priceOfKept mv_yX4_priceOfKept ml_X6_232 ⟨rfl, rfl, Nat.le_of_ble_eq_true rfl, Nat.le_of_ble_eq_true rfl⟩ hK (blk_sub (ws' := tW G ta tf tr) (xBlk G x xa ta a b ga ua la lb lc tg gg (upd xf 0 x4) tf f qf gf uf lf mf nf tr r q gr ur lr mr nr) (i := 1) hP rfl (by decide)) rfl rfl rfl hl.1 rfl (Nat.le_of_ble_eq_true rfl) dX6_cost_20 ⟨Nat.zero_le _, Nat.zero_le _⟩ hS hA hP (fun r6 H locs hr6 hP hS => ?_)
    exact wr_iret hx hb hr hlocks hS hP ⟨x4, rfl⟩ dX6_cost_23
  · have b9 := bF hw3r c5
    refine lv_iconst (v := -1) hx hb dX6_cost_12 (by decide) ?_
    exact wr_iret hx hb hr hlocks hS hP ⟨x4, rfl⟩ dX6_cost_13
set_option maxHeartbeats 4000000 in
set_option maxRecDepth 100000 in
theorem x_round (l : Launch) (G : GG) (x : Nat) (xa ta a b ga ua la lb lc : Nat → Nat) (tg gg : Nat → Option Nat) (xf tf f qf gf uf lf mf nf : Nat → Int32) (tr r q gr ur lr mr nr : Nat → Nat → Int32) (tb : Int32) (ba : Int32) (j : Nat) (hj : j < 6) (hjt : tbJ tb j) (htg : tg j = some (ta 0)) (hT1 : nL 12 (tf 1)) (hT2 : nL 12 (tf 2)) (hT3 : nL 12 (tf 3)) (hT4 : nOK 12 12 (tr 4)) (hM0 : nL 12 (mf 0)) (hM1 : nL 12 (mf 1)) : WrI l yX6_round cX6_round 3 (some .int) ({ frames := 7, cells := 0, slots := 0, locals := 171 }) G (xM G x xa ta a b ga ua la lb lc tg gg xf tf f qf gf uf lf mf nf tr r q gr ur lr mr nr) [.ref x, .int tb, .int ba] (fun qz w => ∃ (n_f_0 : Int32) (n_f_1 : Int32) (n_f_2 : Int32) (n_f_3 : Int32) (n_f_4 : Int32) (n_mf_0 : Int32) (n_mf_1 : Int32) (n_mr_2 : Nat → Int32) (n_r_6 : Nat → Int32) (n_r_7 : Nat → Int32) (n_r_8 : Nat → Int32) (n_r_9 : Nat → Int32) (n_r_10 : Nat → Int32) (n_r_11 : Nat → Int32) (n_r_12 : Nat → Int32) (n_r_13 : Nat → Int32) (n_r_14 : Nat → Int32) (n_uf_3 : Int32) (n_ur_1 : Nat → Int32) (n_ur_2 : Nat → Int32) (n_ur_3 : Nat → Int32) (n_ur_4 : Nat → Int32) (n_ur_5 : Nat → Int32) (n_ur_6 : Nat → Int32) (n_ur_7 : Nat → Int32) (n_ur_20 : Nat → Int32) (n_ur_21 : Nat → Int32) (n_ur_22 : Nat → Int32) (n_xf_0 : Int32), w = xM G x xa ta a b ga ua la lb lc tg gg (upd xf 0 n_xf_0) tf (upd (upd (upd (upd (upd f 0 n_f_0) 1 n_f_1) 2 n_f_2) 3 n_f_3) 4 n_f_4) qf gf (upd uf 3 n_uf_3) lf (upd (upd mf 0 n_mf_0) 1 n_mf_1) nf tr (up2 (up2 (up2 (up2 (up2 (up2 (up2 (up2 (up2 r 6 n_r_6) 7 n_r_7) 8 n_r_8) 9 n_r_9) 10 n_r_10) 11 n_r_11) 12 n_r_12) 13 n_r_13) 14 n_r_14) q gr (up2 (up2 (up2 (up2 (up2 (up2 (up2 (up2 (up2 (up2 ur 1 n_ur_1) 2 n_ur_2) 3 n_ur_3) 4 n_ur_4) 5 n_ur_5) 6 n_ur_6) 7 n_ur_7) 20 n_ur_20) 21 n_ur_21) 22 n_ur_22) lr (up2 mr 2 n_mr_2) nr ∧ (nL 12 n_mf_0) ∧ (nL 12 n_mf_1)) := by
  refine wr_entryI (by decide +kernel) (Nat.le_of_ble_eq_true rfl) ?_
  intro p e s m below meth c A C0 hP hK hD hA ls hl
  have hS : va_S A s.heap s.heap [] := va_S.rf
  obtain ⟨hx, hb, hml, hown, hts, hr, hlocks, hin⟩ := C0
  have hown : s.vm.findClass RX6 = some m.cls := hown
  have hDD : ∀ xf' tf' f' qf' gf' uf' lf' mf' nf' tr' r' q' gr' ur' lr' mr' nr', va_D A (xM G x xa ta a b ga ua la lb lc tg gg xf' tf' f' qf' gf' uf' lf' mf' nf' tr' r' q' gr' ur' lr' mr' nr') := fun xf' tf' f' qf' gf' uf' lf' mf' nf' tr' r' q' gr' ur' lr' mr' nr' => D_same hD rfl
  have hl : lv_has ls 3 [(0, .ref x), (1, .int tb), (2, .int ba)] := hl
  refine lv_aload_n hx hb dX6_round_0 rfl (lv_at hl 0 rfl) ?_
  refine lv_aload_n hx hb dX6_round_1 rfl (lv_at hl 0 rfl) ?_
  refine lv_iload_n hx hb dX6_round_2 rfl (lv_at hl 1 rfl) ?_
  refine rdV (rest := [.ref x]) (q0 := 0) ⟨hx, hb, hml, hown, hts⟩ (x_tableStatus l G x xa ta a b ga ua la lb lc tg gg xf tf f qf gf uf lf mf nf tr r q gr ur lr mr nr tb j (by omega) hjt htg) mi_yX6_tableStatus mv_yX6_tableStatus ml_X6_73 ⟨rfl, rfl, Nat.le_of_ble_eq_true rfl, Nat.le_of_ble_eq_true rfl⟩ hK (hP) rfl rfl rfl hl.1 rfl (Nat.le_of_ble_eq_true rfl) dX6_round_3 ⟨Nat.zero_le _, Nat.zero_le _⟩ hS hA hP (fun r1 H locs hr1 hP hS => ?_)
  have hr1 : ((r1 = 0 ∧ tbO tb j (tf 0)) ∨ (r1 = 1 ∧ ¬ tbO tb j (tf 0))) := hr1
  refine wrVIa (rest := []) (q0 := 0) ⟨hx, hb, hml, hown, hts⟩ (x_settled l G x xa ta a b ga ua la lb lc tg gg xf tf f qf gf uf lf mf nf tr r q gr ur lr mr nr r1  ) mi_yX6_settled mv_yX6_settled ml_X6_65 ⟨rfl, rfl, Nat.le_of_ble_eq_true rfl, Nat.le_of_ble_eq_true rfl⟩ hK hP (hDD _ _ _ _ _ _ _ _ _ _ _ _ _ _ _ _ _) rfl rfl rfl hl.1 rfl (Nat.le_of_ble_eq_true rfl) dX6_round_6 ⟨Nat.zero_le _, Nat.zero_le _⟩ hS hA (fun r2 w3 H locs hw3 hP hS => ?_)
  obtain ⟨x4, rfl, hw3r⟩ := hw3
  have hP : PP G (xM G x xa ta a b ga ua la lb lc tg gg (upd xf 0 x4) tf f qf gf uf lf mf nf tr r q gr ur lr mr nr) H := hP
  have hw3r : ((r2 = 1 ∧ ((r1 : Int32) = 0)) ∨ (r2 = 0 ∧ ¬ ((r1 : Int32) = 0))) := hw3r
  refine lv_if_ne (tgt := 14) hx hb dX6_round_9 (by decide) (fun c5 => ?_) (fun c5 => ?_)
  · have b9 := bT hw3r c5
    obtain ⟨ej, ho⟩ := st0 hr1 b9
    subst ej
    obtain ⟨rw, hrw, t1⟩ := hT1
    obtain ⟨cl, hcl, t2⟩ := hT2
    obtain ⟨bk, hbk, t3⟩ := hT3
    have hT1 : nL 12 (tf 1) := ⟨rw, hrw, t1⟩
    have hT2 : nL 12 (tf 2) := ⟨cl, hcl, t2⟩
    have hT3 : nL 12 (tf 3) := ⟨bk, hbk, t3⟩
    refine lv_iload_n hx hb dX6_round_14 rfl (lv_at hl 2 rfl) ?_
    refine lv_iconst (v := 2) hx hb dX6_round_15 (by decide) ?_
    refine lv_icmp_lt (tgt := 26) hx hb dX6_round_16 (by decide) (fun c6 => ?_) (fun c6 => ?_)
    · refine lv_aload_n hx hb dX6_round_26 rfl (lv_at hl 0 rfl) ?_
      refine lv_bipush (v := 7) hx hb dX6_round_27 (by decide) ?_
      refine wrVIa (rest := []) (q0 := 0) ⟨hx, hb, hml, hown, hts⟩ (x_refused l G x xa ta a b ga ua la lb lc tg gg (upd xf 0 x4) tf f qf gf uf lf mf nf tr r q gr ur lr mr nr 7  ) mi_yX6_refused mv_yX6_refused ml_X6_122 ⟨rfl, rfl, Nat.le_of_ble_eq_true rfl, Nat.le_of_ble_eq_true rfl⟩ hK hP (hDD _ _ _ _ _ _ _ _ _ _ _ _ _ _ _ _ _) rfl rfl rfl hl.1 rfl (Nat.le_of_ble_eq_true rfl) dX6_round_29 ⟨Nat.zero_le _, Nat.zero_le _⟩ hS hA (fun r7 w8 H locs hw8 hP hS => ?_)
      obtain ⟨x9, rfl, hw8r⟩ := hw8
      have hP : PP G (xM G x xa ta a b ga ua la lb lc tg gg (upd xf 0 x9) tf f qf gf uf lf mf nf tr r q gr ur lr mr nr) H := hP
      obtain rfl := hw8r
      exact wr_iret hx hb hr hlocks hS hP ⟨(f 0), (f 1), (f 2), (f 3), (f 4), (mf 0), (mf 1), (mr 2), (r 6), (r 7), (r 8), (r 9), (r 10), (r 11), (r 12), (r 13), (r 14), (uf 3), (ur 1), (ur 2), (ur 3), (ur 4), (ur 5), (ur 6), (ur 7), (ur 20), (ur 21), (ur 22), x9, rfl, hM0, hM1⟩ dX6_round_32
    · refine lv_iload_n hx hb dX6_round_19 rfl (lv_at hl 2 rfl) ?_
      refine lv_sipush (v := 1000) hx hb dX6_round_20 (by decide) ?_
      refine lv_icmp_le (tgt := 33) hx hb dX6_round_23 (by decide) (fun c10 => ?_) (fun c10 => ?_)
      · refine lv_aload_n hx hb dX6_round_33 rfl (lv_at hl 0 rfl) ?_
        refine va_get (D := G.1) (ci := 6) (v := .ref (a 15)) (C := RX6) (T := TX6) (N := 10) hx hb hts inX6 hown hK.1 hP 0 rfl rfl 2 (by decide) (hts _ mf_X6_22) (fun _ h9 => h9) rfl dX6_round_34 ?_
        refine lv_aload_n hx hb dX6_round_37 rfl (lv_at hl 0 rfl) ?_
        refine va_get (D := G.1) (ci := 6) (v := .ref (xa 1)) (C := RX6) (T := TX6) (N := 10) hx hb hts inX6 hown hK.1 hP 0 rfl rfl 1 (by decide) (hts _ mf_X6_15) (fun _ h9 => h9) rfl dX6_round_38 ?_
        refine lv_iload_n hx hb dX6_round_41 rfl (lv_at hl 1 rfl) ?_
        refine xaldT hx hb hK hP 1 (j) (b := (ta 0)) rfl (by omega) (by decide) rfl (htg) dX6_round_42 ?_
        refine lawV (rest := []) (q0 := 0) ⟨hx, hb, hml, hown, hts⟩ (c_X2_load l G a b f r ta tf tr rw cl bk hrw hcl hbk t1 t2 t3) mi_yX2_load mv_yX2_load ml_X6_184 ⟨rfl, rfl, Nat.le_of_ble_eq_true rfl, Nat.le_of_ble_eq_true rfl⟩ hK hP (hDD _ _ _ _ _ _ _ _ _ _ _ _ _ _ _ _ _) (pl_perm (xBlk G x xa ta a b ga ua la lb lc tg gg (upd xf 0 x4) tf f qf gf uf lf mf nf tr r q gr ur lr mr nr) (sel := [2, 1]) (oth := [0, 3, 4, 5, 6, 7, 8, 9]) (by decide)) rfl rfl rfl hl.1 rfl (Nat.le_of_ble_eq_true rfl) dX6_round_43 ⟨Nat.zero_le _, Nat.zero_le _⟩ hS hA (fun w14 H locs hw14 hP hS => ?_)
        obtain ⟨x11, x12, h0, h1, rfl⟩ := hw14
        have hP : PP G (xM G x xa ta a b ga ua la lb lc tg gg (upd xf 0 x4) tf (upd (upd (upd (upd (upd f 0 (x11 0)) 1 (x11 1)) 2 (x11 2)) 3 (x11 3)) 4 (x11 4)) qf gf uf lf mf nf tr (up2 (up2 (up2 (up2 (up2 (up2 (up2 (up2 (up2 r 6 (x12 6)) 7 (x12 7)) 8 (x12 8)) 9 (x12 9)) 10 (x12 10)) 11 (x12 11)) 12 (x12 12)) 13 (x12 13)) 14 (x12 14)) q gr ur lr mr nr) H := (hP rfl (xM G x xa ta a b ga ua la lb lc tg gg (upd xf 0 x4) tf (upd (upd (upd (upd (upd f 0 (x11 0)) 1 (x11 1)) 2 (x11 2)) 3 (x11 3)) 4 (x11 4)) qf gf uf lf mf nf tr (up2 (up2 (up2 (up2 (up2 (up2 (up2 (up2 (up2 r 6 (x12 6)) 7 (x12 7)) 8 (x12 8)) 9 (x12 9)) 10 (x12 10)) 11 (x12 11)) 12 (x12 12)) 13 (x12 13)) 14 (x12 14)) q gr ur lr mr nr) (pl_perm (xBlk G x xa ta a b ga ua la lb lc tg gg (upd xf 0 x4) tf (upd (upd (upd (upd (upd f 0 (x11 0)) 1 (x11 1)) 2 (x11 2)) 3 (x11 3)) 4 (x11 4)) qf gf uf lf mf nf tr (up2 (up2 (up2 (up2 (up2 (up2 (up2 (up2 (up2 r 6 (x12 6)) 7 (x12 7)) 8 (x12 8)) 9 (x12 9)) 10 (x12 10)) 11 (x12 11)) 12 (x12 12)) 13 (x12 13)) 14 (x12 14)) q gr ur lr mr nr) (sel := [2, 1]) (oth := [0, 3, 4, 5, 6, 7, 8, 9]) (by decide))).1
        refine lv_aload_n hx hb dX6_round_46 rfl (lv_at hl 0 rfl) ?_
        refine va_get (D := G.1) (ci := 6) (v := .ref (ua 0)) (C := RX6) (T := TX6) (N := 10) hx hb hts inX6 hown hK.1 hP 0 rfl rfl 4 (by decide) (hts _ mf_X6_36) (fun _ h9 => h9) rfl dX6_round_47 ?_
        refine lv_aload_n hx hb dX6_round_50 rfl (lv_at hl 0 rfl) ?_
        refine va_get (D := G.1) (ci := 6) (v := .ref (a 15)) (C := RX6) (T := TX6) (N := 10) hx hb hts inX6 hown hK.1 hP 0 rfl rfl 2 (by decide) (hts _ mf_X6_22) (fun _ h9 => h9) rfl dX6_round_51 ?_
        refine lv_iload_n hx hb dX6_round_54 rfl (lv_at hl 2 rfl) ?_
        refine lv_aload_n hx hb dX6_round_55 rfl (lv_at hl 0 rfl) ?_
        refine va_get (D := G.1) (ci := 6) (v := .ref (lb 0)) (C := RX6) (T := TX6) (N := 10) hx hb hts inX6 hown hK.1 hP 0 rfl rfl 6 (by decide) (hts _ mf_X6_47) (fun _ h9 => h9) rfl dX6_round_56 ?_
        refine lawI (rest := []) (q0 := 0) ⟨hx, hb, hml, hown, hts⟩ (c_X3_fill l G ua a b lb uf (upd (upd (upd (upd (upd f 0 (x11 0)) 1 (x11 1)) 2 (x11 2)) 3 (x11 3)) 4 (x11 4)) mf ur (up2 (up2 (up2 (up2 (up2 (up2 (up2 (up2 (up2 r 6 (x12 6)) 7 (x12 7)) 8 (x12 8)) 9 (x12 9)) 10 (x12 10)) 11 (x12 11)) 12 (x12 12)) 13 (x12 13)) 14 (x12 14)) mr ba rw cl hrw hcl h0 h1) mi_yX3_fill mv_yX3_fill ml_X6_235 ⟨rfl, rfl, Nat.le_of_ble_eq_true rfl, Nat.le_of_ble_eq_true rfl⟩ hK hP (hDD _ _ _ _ _ _ _ _ _ _ _ _ _ _ _ _ _) (pl_perm (xBlk G x xa ta a b ga ua la lb lc tg gg (upd xf 0 x4) tf (upd (upd (upd (upd (upd f 0 (x11 0)) 1 (x11 1)) 2 (x11 2)) 3 (x11 3)) 4 (x11 4)) qf gf uf lf mf nf tr (up2 (up2 (up2 (up2 (up2 (up2 (up2 (up2 (up2 r 6 (x12 6)) 7 (x12 7)) 8 (x12 8)) 9 (x12 9)) 10 (x12 10)) 11 (x12 11)) 12 (x12 12)) 13 (x12 13)) 14 (x12 14)) q gr ur lr mr nr) (sel := [5, 2, 7]) (oth := [0, 1, 3, 4, 6, 8, 9]) (by decide)) rfl rfl rfl hl.1 rfl (Nat.le_of_ble_eq_true rfl) dX6_round_59 ⟨Nat.zero_le _, Nat.zero_le _⟩ hS hA (fun r29 w30 H locs hw30 hP hS => ?_)
        obtain ⟨x15, x16, x17, x18, x19, x20, x21, x22, x23, x24, x25, x26, x27, x28, rfl, hl0, hl1⟩ := hw30
        have hP : PP G (xM G x xa ta a b ga ua la lb lc tg gg (upd xf 0 x4) tf (upd (upd (upd (upd (upd f 0 (x11 0)) 1 (x11 1)) 2 (x11 2)) 3 (x11 3)) 4 (x11 4)) qf gf (upd uf 3 x18) lf (upd (upd mf 0 x15) 1 x16) nf tr (up2 (up2 (up2 (up2 (up2 (up2 (up2 (up2 (up2 r 6 (x12 6)) 7 (x12 7)) 8 (x12 8)) 9 (x12 9)) 10 (x12 10)) 11 (x12 11)) 12 (x12 12)) 13 (x12 13)) 14 (x12 14)) q gr (up2 (up2 (up2 (up2 (up2 (up2 (up2 (up2 (up2 (up2 ur 1 x19) 2 x20) 3 x21) 4 x22) 5 x23) 6 x24) 7 x25) 20 x26) 21 x27) 22 x28) lr (up2 mr 2 x17) nr) H := (hP rfl (xM G x xa ta a b ga ua la lb lc tg gg (upd xf 0 x4) tf (upd (upd (upd (upd (upd f 0 (x11 0)) 1 (x11 1)) 2 (x11 2)) 3 (x11 3)) 4 (x11 4)) qf gf (upd uf 3 x18) lf (upd (upd mf 0 x15) 1 x16) nf tr (up2 (up2 (up2 (up2 (up2 (up2 (up2 (up2 (up2 r 6 (x12 6)) 7 (x12 7)) 8 (x12 8)) 9 (x12 9)) 10 (x12 10)) 11 (x12 11)) 12 (x12 12)) 13 (x12 13)) 14 (x12 14)) q gr (up2 (up2 (up2 (up2 (up2 (up2 (up2 (up2 (up2 (up2 ur 1 x19) 2 x20) 3 x21) 4 x22) 5 x23) 6 x24) 7 x25) 20 x26) 21 x27) 22 x28) lr (up2 mr 2 x17) nr) (pl_perm (xBlk G x xa ta a b ga ua la lb lc tg gg (upd xf 0 x4) tf (upd (upd (upd (upd (upd f 0 (x11 0)) 1 (x11 1)) 2 (x11 2)) 3 (x11 3)) 4 (x11 4)) qf gf (upd uf 3 x18) lf (upd (upd mf 0 x15) 1 x16) nf tr (up2 (up2 (up2 (up2 (up2 (up2 (up2 (up2 (up2 r 6 (x12 6)) 7 (x12 7)) 8 (x12 8)) 9 (x12 9)) 10 (x12 10)) 11 (x12 11)) 12 (x12 12)) 13 (x12 13)) 14 (x12 14)) q gr (up2 (up2 (up2 (up2 (up2 (up2 (up2 (up2 (up2 (up2 ur 1 x19) 2 x20) 3 x21) 4 x22) 5 x23) 6 x24) 7 x25) 20 x26) 21 x27) 22 x28) lr (up2 mr 2 x17) nr) (sel := [5, 2, 7]) (oth := [0, 1, 3, 4, 6, 8, 9]) (by decide))).1
        have hM0 : nL 12 x15 := ⟨rw, hrw, hl0⟩
        have hM1 : nL 12 x16 := ⟨cl, hcl, hl1⟩
        exact wr_iret hx hb hr hlocks hS hP ⟨(x11 0), (x11 1), (x11 2), (x11 3), (x11 4), x15, x16, x17, (x12 6), (x12 7), (x12 8), (x12 9), (x12 10), (x12 11), (x12 12), (x12 13), (x12 14), x18, x19, x20, x21, x22, x23, x24, x25, x26, x27, x28, x4, rfl, hM0, hM1⟩ dX6_round_62
      · refine lv_aload_n hx hb dX6_round_26 rfl (lv_at hl 0 rfl) ?_
        refine lv_bipush (v := 7) hx hb dX6_round_27 (by decide) ?_
        refine wrVIa (rest := []) (q0 := 0) ⟨hx, hb, hml, hown, hts⟩ (x_refused l G x xa ta a b ga ua la lb lc tg gg (upd xf 0 x4) tf f qf gf uf lf mf nf tr r q gr ur lr mr nr 7  ) mi_yX6_refused mv_yX6_refused ml_X6_122 ⟨rfl, rfl, Nat.le_of_ble_eq_true rfl, Nat.le_of_ble_eq_true rfl⟩ hK hP (hDD _ _ _ _ _ _ _ _ _ _ _ _ _ _ _ _ _) rfl rfl rfl hl.1 rfl (Nat.le_of_ble_eq_true rfl) dX6_round_29 ⟨Nat.zero_le _, Nat.zero_le _⟩ hS hA (fun r31 w32 H locs hw32 hP hS => ?_)
        obtain ⟨x33, rfl, hw32r⟩ := hw32
        have hP : PP G (xM G x xa ta a b ga ua la lb lc tg gg (upd xf 0 x33) tf f qf gf uf lf mf nf tr r q gr ur lr mr nr) H := hP
        obtain rfl := hw32r
        exact wr_iret hx hb hr hlocks hS hP ⟨(f 0), (f 1), (f 2), (f 3), (f 4), (mf 0), (mf 1), (mr 2), (r 6), (r 7), (r 8), (r 9), (r 10), (r 11), (r 12), (r 13), (r 14), (uf 3), (ur 1), (ur 2), (ur 3), (ur 4), (ur 5), (ur 6), (ur 7), (ur 20), (ur 21), (ur 22), x33, rfl, hM0, hM1⟩ dX6_round_32
  · have b9 := bF hw3r c5
    refine lv_iconst (v := -1) hx hb dX6_round_12 (by decide) ?_
    exact wr_iret hx hb hr hlocks hS hP ⟨(f 0), (f 1), (f 2), (f 3), (f 4), (mf 0), (mf 1), (mr 2), (r 6), (r 7), (r 8), (r 9), (r 10), (r 11), (r 12), (r 13), (r 14), (uf 3), (ur 1), (ur 2), (ur 3), (ur 4), (ur 5), (ur 6), (ur 7), (ur 20), (ur 21), (ur 22), x4, rfl, hM0, hM1⟩ dX6_round_13
set_option maxHeartbeats 4000000 in
set_option maxRecDepth 100000 in
theorem x_give (l : Launch) (G : GG) (x : Nat) (xa ta a b ga ua la lb lc : Nat → Nat) (tg gg : Nat → Option Nat) (xf tf f qf gf uf lf mf nf : Nat → Int32) (tr r q gr ur lr mr nr : Nat → Nat → Int32) (tb : Int32) (j : Nat) (gk : Nat) (hj : j < 6) (hjt : tbJ tb j) (htg : tg j = some (ta 0)) (hT1 : nL 12 (tf 1)) (hT2 : nL 12 (tf 2)) (hT3 : nL 12 (tf 3)) (hT4 : nOK 12 12 (tr 4)) (hRB : RB adjR (q 0)) (hgk16 : gk ≤ 16) (hgk : gk < 16 → gg gk = some (lc 0)) (h9v : (xf 9) = nI gk) (hN0 : nL 12 (nf 0)) (hN1 : nL 12 (nf 1)) : WrI l yX6_give cX6_give 2 (some .int) ({ frames := 6, cells := 0, slots := 0, locals := 157 }) G (xM G x xa ta a b ga ua la lb lc tg gg xf tf f qf gf uf lf mf nf tr r q gr ur lr mr nr) [.ref x, .int tb] (fun qz w => ∃ (n_f_0 : Int32) (n_f_1 : Int32) (n_f_2 : Int32) (n_f_3 : Int32) (n_f_4 : Int32) (n_nf_0 : Int32) (n_nf_1 : Int32) (n_nr_2 : Nat → Int32) (n_q_0 : Nat → Int32) (n_q_1 : Nat → Int32) (n_q_2 : Nat → Int32) (n_qf_3 : Int32) (n_r_6 : Nat → Int32) (n_r_7 : Nat → Int32) (n_r_8 : Nat → Int32) (n_r_9 : Nat → Int32) (n_r_10 : Nat → Int32) (n_r_11 : Nat → Int32) (n_r_12 : Nat → Int32) (n_r_13 : Nat → Int32) (n_r_14 : Nat → Int32) (n_xf_0 : Int32) (n_xf_9 : Int32), w = xM G x xa ta a b ga ua la lb lc tg gg (upd (upd xf 0 n_xf_0) 9 n_xf_9) tf (upd (upd (upd (upd (upd f 0 n_f_0) 1 n_f_1) 2 n_f_2) 3 n_f_3) 4 n_f_4) (upd qf 3 n_qf_3) gf uf lf mf (upd (upd nf 0 n_nf_0) 1 n_nf_1) tr (up2 (up2 (up2 (up2 (up2 (up2 (up2 (up2 (up2 r 6 n_r_6) 7 n_r_7) 8 n_r_8) 9 n_r_9) 10 n_r_10) 11 n_r_11) 12 n_r_12) 13 n_r_13) 14 n_r_14) (up2 (up2 (up2 q 0 n_q_0) 1 n_q_1) 2 n_q_2) gr ur lr mr (up2 nr 2 n_nr_2) ∧ (RB adjR n_q_0) ∧ (nL 12 n_nf_0) ∧ (nL 12 n_nf_1) ∧ (nL 16 n_xf_9)) := by
  refine wr_entryI (by decide +kernel) (Nat.le_of_ble_eq_true rfl) ?_
  intro p e s m below meth c A C0 hP hK hD hA ls hl
  have hS : va_S A s.heap s.heap [] := va_S.rf
  obtain ⟨hx, hb, hml, hown, hts, hr, hlocks, hin⟩ := C0
  have hown : s.vm.findClass RX6 = some m.cls := hown
  have hDD : ∀ xf' tf' f' qf' gf' uf' lf' mf' nf' tr' r' q' gr' ur' lr' mr' nr', va_D A (xM G x xa ta a b ga ua la lb lc tg gg xf' tf' f' qf' gf' uf' lf' mf' nf' tr' r' q' gr' ur' lr' mr' nr') := fun xf' tf' f' qf' gf' uf' lf' mf' nf' tr' r' q' gr' ur' lr' mr' nr' => D_same hD rfl
  have hl : lv_has ls 2 [(0, .ref x), (1, .int tb)] := hl
  have hg9 : nL 16 (xf 9) := ⟨gk, hgk16, h9v⟩
  refine lv_aload_n hx hb dX6_give_0 rfl (lv_at hl 0 rfl) ?_
  refine lv_aload_n hx hb dX6_give_1 rfl (lv_at hl 0 rfl) ?_
  refine lv_iload_n hx hb dX6_give_2 rfl (lv_at hl 1 rfl) ?_
  refine rdV (rest := [.ref x]) (q0 := 0) ⟨hx, hb, hml, hown, hts⟩ (x_tableStatus l G x xa ta a b ga ua la lb lc tg gg xf tf f qf gf uf lf mf nf tr r q gr ur lr mr nr tb j (by omega) hjt htg) mi_yX6_tableStatus mv_yX6_tableStatus ml_X6_73 ⟨rfl, rfl, Nat.le_of_ble_eq_true rfl, Nat.le_of_ble_eq_true rfl⟩ hK (hP) rfl rfl rfl hl.1 rfl (Nat.le_of_ble_eq_true rfl) dX6_give_3 ⟨Nat.zero_le _, Nat.zero_le _⟩ hS hA hP (fun r1 H locs hr1 hP hS => ?_)
  have hr1 : ((r1 = 0 ∧ tbO tb j (tf 0)) ∨ (r1 = 1 ∧ ¬ tbO tb j (tf 0))) := hr1
  refine wrVIa (rest := []) (q0 := 0) ⟨hx, hb, hml, hown, hts⟩ (x_settled l G x xa ta a b ga ua la lb lc tg gg xf tf f qf gf uf lf mf nf tr r q gr ur lr mr nr r1  ) mi_yX6_settled mv_yX6_settled ml_X6_65 ⟨rfl, rfl, Nat.le_of_ble_eq_true rfl, Nat.le_of_ble_eq_true rfl⟩ hK hP (hDD _ _ _ _ _ _ _ _ _ _ _ _ _ _ _ _ _) rfl rfl rfl hl.1 rfl (Nat.le_of_ble_eq_true rfl) dX6_give_6 ⟨Nat.zero_le _, Nat.zero_le _⟩ hS hA (fun r2 w3 H locs hw3 hP hS => ?_)
  obtain ⟨x4, rfl, hw3r⟩ := hw3
  have hP : PP G (xM G x xa ta a b ga ua la lb lc tg gg (upd xf 0 x4) tf f qf gf uf lf mf nf tr r q gr ur lr mr nr) H := hP
  have hw3r : ((r2 = 1 ∧ ((r1 : Int32) = 0)) ∨ (r2 = 0 ∧ ¬ ((r1 : Int32) = 0))) := hw3r
  refine lv_if_ne (tgt := 14) hx hb dX6_give_9 (by decide) (fun c5 => ?_) (fun c5 => ?_)
  · have b9 := bT hw3r c5
    obtain ⟨ej, ho⟩ := st0 hr1 b9
    subst ej
    obtain ⟨rw, hrw, t1⟩ := hT1
    obtain ⟨cl, hcl, t2⟩ := hT2
    obtain ⟨bk, hbk, t3⟩ := hT3
    have hT1 : nL 12 (tf 1) := ⟨rw, hrw, t1⟩
    have hT2 : nL 12 (tf 2) := ⟨cl, hcl, t2⟩
    have hT3 : nL 12 (tf 3) := ⟨bk, hbk, t3⟩
    refine lv_aload_n hx hb dX6_give_14 rfl (lv_at hl 0 rfl) ?_
    refine va_get (D := G.1) (ci := 6) (v := .int (xf 9)) (C := RX6) (T := TX6) (N := 10) hx hb hts inX6 hown hK.1 hP 0 rfl rfl 9 (by decide) (hts _ mf_X6_57) (fun _ h9 => h9) rfl dX6_give_15 ?_
    rw [show (xf 9) = nI (gk) from h9v]
    refine lv_bipush (v := 16) hx hb dX6_give_18 (by decide) ?_
    refine lv_icmp_lt (tgt := 30) hx hb dX6_give_20 (by decide) (fun c6 => ?_) (fun c6 => ?_)
    · have b20 := qlt_t (a := (gk)) (b := 16) (by omega) (by omega) c6
      refine lv_aload_n hx hb dX6_give_30 rfl (lv_at hl 0 rfl) ?_
      refine va_get (D := G.1) (ci := 6) (v := .ref (a 15)) (C := RX6) (T := TX6) (N := 10) hx hb hts inX6 hown hK.1 hP 0 rfl rfl 2 (by decide) (hts _ mf_X6_22) (fun _ h9 => h9) rfl dX6_give_31 ?_
      refine lv_aload_n hx hb dX6_give_34 rfl (lv_at hl 0 rfl) ?_
      refine va_get (D := G.1) (ci := 6) (v := .ref (xa 1)) (C := RX6) (T := TX6) (N := 10) hx hb hts inX6 hown hK.1 hP 0 rfl rfl 1 (by decide) (hts _ mf_X6_15) (fun _ h9 => h9) rfl dX6_give_35 ?_
      refine lv_iload_n hx hb dX6_give_38 rfl (lv_at hl 1 rfl) ?_
      refine xaldT hx hb hK hP 1 (j) (b := (ta 0)) rfl (by omega) (by decide) rfl (htg) dX6_give_39 ?_
      refine lawV (rest := []) (q0 := 0) ⟨hx, hb, hml, hown, hts⟩ (c_X2_load l G a b f r ta tf tr rw cl bk hrw hcl hbk t1 t2 t3) mi_yX2_load mv_yX2_load ml_X6_184 ⟨rfl, rfl, Nat.le_of_ble_eq_true rfl, Nat.le_of_ble_eq_true rfl⟩ hK hP (hDD _ _ _ _ _ _ _ _ _ _ _ _ _ _ _ _ _) (pl_perm (xBlk G x xa ta a b ga ua la lb lc tg gg (upd xf 0 x4) tf f qf gf uf lf mf nf tr r q gr ur lr mr nr) (sel := [2, 1]) (oth := [0, 3, 4, 5, 6, 7, 8, 9]) (by decide)) rfl rfl rfl hl.1 rfl (Nat.le_of_ble_eq_true rfl) dX6_give_40 ⟨Nat.zero_le _, Nat.zero_le _⟩ hS hA (fun w10 H locs hw10 hP hS => ?_)
      obtain ⟨x7, x8, h0, h1, rfl⟩ := hw10
      have hP : PP G (xM G x xa ta a b ga ua la lb lc tg gg (upd xf 0 x4) tf (upd (upd (upd (upd (upd f 0 (x7 0)) 1 (x7 1)) 2 (x7 2)) 3 (x7 3)) 4 (x7 4)) qf gf uf lf mf nf tr (up2 (up2 (up2 (up2 (up2 (up2 (up2 (up2 (up2 r 6 (x8 6)) 7 (x8 7)) 8 (x8 8)) 9 (x8 9)) 10 (x8 10)) 11 (x8 11)) 12 (x8 12)) 13 (x8 13)) 14 (x8 14)) q gr ur lr mr nr) H := (hP rfl (xM G x xa ta a b ga ua la lb lc tg gg (upd xf 0 x4) tf (upd (upd (upd (upd (upd f 0 (x7 0)) 1 (x7 1)) 2 (x7 2)) 3 (x7 3)) 4 (x7 4)) qf gf uf lf mf nf tr (up2 (up2 (up2 (up2 (up2 (up2 (up2 (up2 (up2 r 6 (x8 6)) 7 (x8 7)) 8 (x8 8)) 9 (x8 9)) 10 (x8 10)) 11 (x8 11)) 12 (x8 12)) 13 (x8 13)) 14 (x8 14)) q gr ur lr mr nr) (pl_perm (xBlk G x xa ta a b ga ua la lb lc tg gg (upd xf 0 x4) tf (upd (upd (upd (upd (upd f 0 (x7 0)) 1 (x7 1)) 2 (x7 2)) 3 (x7 3)) 4 (x7 4)) qf gf uf lf mf nf tr (up2 (up2 (up2 (up2 (up2 (up2 (up2 (up2 (up2 r 6 (x8 6)) 7 (x8 7)) 8 (x8 8)) 9 (x8 9)) 10 (x8 10)) 11 (x8 11)) 12 (x8 12)) 13 (x8 13)) 14 (x8 14)) q gr ur lr mr nr) (sel := [2, 1]) (oth := [0, 3, 4, 5, 6, 7, 8, 9]) (by decide))).1
      refine lv_aload_n hx hb dX6_give_43 rfl (lv_at hl 0 rfl) ?_
      refine va_get (D := G.1) (ci := 6) (v := .ref (a 15)) (C := RX6) (T := TX6) (N := 10) hx hb hts inX6 hown hK.1 hP 0 rfl rfl 2 (by decide) (hts _ mf_X6_22) (fun _ h9 => h9) rfl dX6_give_44 ?_
      refine lawI (rest := []) (q0 := 0) ⟨hx, hb, hml, hown, hts⟩ (c_X2_countUnsafe l G a b (upd (upd (upd (upd (upd f 0 (x7 0)) 1 (x7 1)) 2 (x7 2)) 3 (x7 3)) 4 (x7 4)) (up2 (up2 (up2 (up2 (up2 (up2 (up2 (up2 (up2 r 6 (x8 6)) 7 (x8 7)) 8 (x8 8)) 9 (x8 9)) 10 (x8 10)) 11 (x8 11)) 12 (x8 12)) 13 (x8 13)) 14 (x8 14)) q (qf 3) rw cl hrw hcl h0 h1  hRB) mi_yX2_countUnsafe mv_yX2_countUnsafe ml_X6_191 ⟨rfl, rfl, Nat.le_of_ble_eq_true rfl, Nat.le_of_ble_eq_true rfl⟩ hK hP (hDD _ _ _ _ _ _ _ _ _ _ _ _ _ _ _ _ _) (pl_perm (xBlk G x xa ta a b ga ua la lb lc tg gg (upd xf 0 x4) tf (upd (upd (upd (upd (upd f 0 (x7 0)) 1 (x7 1)) 2 (x7 2)) 3 (x7 3)) 4 (x7 4)) qf gf uf lf mf nf tr (up2 (up2 (up2 (up2 (up2 (up2 (up2 (up2 (up2 r 6 (x8 6)) 7 (x8 7)) 8 (x8 8)) 9 (x8 9)) 10 (x8 10)) 11 (x8 11)) 12 (x8 12)) 13 (x8 13)) 14 (x8 14)) q gr ur lr mr nr) (sel := [2, 3]) (oth := [0, 1, 4, 5, 6, 7, 8, 9]) (by decide)) rfl rfl rfl hl.1 rfl (Nat.le_of_ble_eq_true rfl) dX6_give_47 ⟨Nat.zero_le _, Nat.zero_le _⟩ hS hA (fun r17 w18 H locs hw18 hP hS => ?_)
      obtain ⟨x11, x12, x13, x14, x15, x16, hRB, rfl⟩ := hw18
      have hP : PP G (xM G x xa ta a b ga ua la lb lc tg gg (upd xf 0 x4) tf (upd (upd (upd (upd (upd f 0 (x7 0)) 1 (x7 1)) 2 (x7 2)) 3 (x7 3)) 4 x11) (upd qf 3 x16) gf uf lf mf nf tr (up2 (up2 (up2 (up2 (up2 (up2 (up2 (up2 (up2 r 6 (x12 6)) 7 (x12 7)) 8 (x12 8)) 9 (x12 9)) 10 (x12 10)) 11 (x12 11)) 12 (x12 12)) 13 (x12 13)) 14 (x12 14)) (up2 (up2 (up2 q 0 x13) 1 x14) 2 x15) gr ur lr mr nr) H := (hP rfl (xM G x xa ta a b ga ua la lb lc tg gg (upd xf 0 x4) tf (upd (upd (upd (upd (upd f 0 (x7 0)) 1 (x7 1)) 2 (x7 2)) 3 (x7 3)) 4 x11) (upd qf 3 x16) gf uf lf mf nf tr (up2 (up2 (up2 (up2 (up2 (up2 (up2 (up2 (up2 r 6 (x12 6)) 7 (x12 7)) 8 (x12 8)) 9 (x12 9)) 10 (x12 10)) 11 (x12 11)) 12 (x12 12)) 13 (x12 13)) 14 (x12 14)) (up2 (up2 (up2 q 0 x13) 1 x14) 2 x15) gr ur lr mr nr) (pl_perm (xBlk G x xa ta a b ga ua la lb lc tg gg (upd xf 0 x4) tf (upd (upd (upd (upd (upd f 0 (x7 0)) 1 (x7 1)) 2 (x7 2)) 3 (x7 3)) 4 x11) (upd qf 3 x16) gf uf lf mf nf tr (up2 (up2 (up2 (up2 (up2 (up2 (up2 (up2 (up2 r 6 (x12 6)) 7 (x12 7)) 8 (x12 8)) 9 (x12 9)) 10 (x12 10)) 11 (x12 11)) 12 (x12 12)) 13 (x12 13)) 14 (x12 14)) (up2 (up2 (up2 q 0 x13) 1 x14) 2 x15) gr ur lr mr nr) (sel := [2, 3]) (oth := [0, 1, 4, 5, 6, 7, 8, 9]) (by decide))).1
      refine lv_if_le (tgt := 60) hx hb dX6_give_50 (by decide) (fun c19 => ?_) (fun c19 => ?_)
      · refine lv_aload_n hx hb dX6_give_60 rfl (lv_at hl 0 rfl) ?_
        refine va_get (D := G.1) (ci := 6) (v := .ref (a 15)) (C := RX6) (T := TX6) (N := 10) hx hb hts inX6 hown hK.1 hP 0 rfl rfl 2 (by decide) (hts _ mf_X6_22) (fun _ h9 => h9) rfl dX6_give_61 ?_
        refine lv_aload_n hx hb dX6_give_64 rfl (lv_at hl 0 rfl) ?_
        refine va_get (D := G.1) (ci := 6) (v := .ref (xa 8)) (C := RX6) (T := TX6) (N := 10) hx hb hts inX6 hown hK.1 hP 0 rfl rfl 8 (by decide) (hts _ mf_X6_53) (fun _ h9 => h9) rfl dX6_give_65 ?_
        refine lv_aload_n hx hb dX6_give_68 rfl (lv_at hl 0 rfl) ?_
        refine va_get (D := G.1) (ci := 6) (v := .int (xf 9)) (C := RX6) (T := TX6) (N := 10) hx hb hts inX6 hown hK.1 hP 0 rfl rfl 9 (by decide) (hts _ mf_X6_57) (fun _ h9 => h9) rfl dX6_give_69 ?_
        rw [show (xf 9) = nI (gk) from h9v]
        refine xaldL hx hb hK hP 46 ((gk)) (b := (lc 0)) rfl (by omega) (by decide) rfl (hgk (by omega)) dX6_give_72 ?_
        refine lawV (rest := []) (q0 := 0) ⟨hx, hb, hml, hown, hts⟩ (c_X2_showOpenly l G a b (upd (upd (upd (upd (upd f 0 (x7 0)) 1 (x7 1)) 2 (x7 2)) 3 (x7 3)) 4 x11) (up2 (up2 (up2 (up2 (up2 (up2 (up2 (up2 (up2 r 6 (x12 6)) 7 (x12 7)) 8 (x12 8)) 9 (x12 9)) 10 (x12 10)) 11 (x12 11)) 12 (x12 12)) 13 (x12 13)) 14 (x12 14)) lc (nf 0) (nf 1) (nr 2) rw cl hrw hcl h0 h1) mi_yX2_showOpenly mv_yX2_showOpenly ml_X6_239 ⟨rfl, rfl, Nat.le_of_ble_eq_true rfl, Nat.le_of_ble_eq_true rfl⟩ hK hP (hDD _ _ _ _ _ _ _ _ _ _ _ _ _ _ _ _ _) (pl_perm (xBlk G x xa ta a b ga ua la lb lc tg gg (upd xf 0 x4) tf (upd (upd (upd (upd (upd f 0 (x7 0)) 1 (x7 1)) 2 (x7 2)) 3 (x7 3)) 4 x11) (upd qf 3 x16) gf uf lf mf nf tr (up2 (up2 (up2 (up2 (up2 (up2 (up2 (up2 (up2 r 6 (x12 6)) 7 (x12 7)) 8 (x12 8)) 9 (x12 9)) 10 (x12 10)) 11 (x12 11)) 12 (x12 12)) 13 (x12 13)) 14 (x12 14)) (up2 (up2 (up2 q 0 x13) 1 x14) 2 x15) gr ur lr mr nr) (sel := [2, 9]) (oth := [0, 1, 3, 4, 5, 6, 7, 8]) (by decide)) rfl rfl rfl hl.1 rfl (Nat.le_of_ble_eq_true rfl) dX6_give_73 ⟨Nat.zero_le _, Nat.zero_le _⟩ hS hA (fun w22 H locs hw22 hP hS => ?_)
        obtain ⟨x20, rfl⟩ := hw22
        have hP : PP G (xM G x xa ta a b ga ua la lb lc tg gg (upd xf 0 x4) tf (upd (upd (upd (upd (upd f 0 (x7 0)) 1 (x7 1)) 2 (x7 2)) 3 (x7 3)) 4 x11) (upd qf 3 x16) gf uf lf mf (upd (upd nf 0 (x7 0)) 1 (x7 1)) tr (up2 (up2 (up2 (up2 (up2 (up2 (up2 (up2 (up2 r 6 (x12 6)) 7 (x12 7)) 8 (x12 8)) 9 (x12 9)) 10 (x12 10)) 11 (x12 11)) 12 (x12 12)) 13 (x12 13)) 14 (x12 14)) (up2 (up2 (up2 q 0 x13) 1 x14) 2 x15) gr ur lr mr (up2 nr 2 x20)) H := (hP rfl (xM G x xa ta a b ga ua la lb lc tg gg (upd xf 0 x4) tf (upd (upd (upd (upd (upd f 0 (x7 0)) 1 (x7 1)) 2 (x7 2)) 3 (x7 3)) 4 x11) (upd qf 3 x16) gf uf lf mf (upd (upd nf 0 (x7 0)) 1 (x7 1)) tr (up2 (up2 (up2 (up2 (up2 (up2 (up2 (up2 (up2 r 6 (x12 6)) 7 (x12 7)) 8 (x12 8)) 9 (x12 9)) 10 (x12 10)) 11 (x12 11)) 12 (x12 12)) 13 (x12 13)) 14 (x12 14)) (up2 (up2 (up2 q 0 x13) 1 x14) 2 x15) gr ur lr mr (up2 nr 2 x20)) (pl_perm (xBlk G x xa ta a b ga ua la lb lc tg gg (upd xf 0 x4) tf (upd (upd (upd (upd (upd f 0 (x7 0)) 1 (x7 1)) 2 (x7 2)) 3 (x7 3)) 4 x11) (upd qf 3 x16) gf uf lf mf (upd (upd nf 0 (x7 0)) 1 (x7 1)) tr (up2 (up2 (up2 (up2 (up2 (up2 (up2 (up2 (up2 r 6 (x12 6)) 7 (x12 7)) 8 (x12 8)) 9 (x12 9)) 10 (x12 10)) 11 (x12 11)) 12 (x12 12)) 13 (x12 13)) 14 (x12 14)) (up2 (up2 (up2 q 0 x13) 1 x14) 2 x15) gr ur lr mr (up2 nr 2 x20)) (sel := [2, 9]) (oth := [0, 1, 3, 4, 5, 6, 7, 8]) (by decide))).1
        have hN0 : nL 12 (x7 0) := ⟨rw, hrw, h0⟩
        have hN1 : nL 12 (x7 1) := ⟨cl, hcl, h1⟩
        refine lv_aload_n hx hb dX6_give_76 rfl (lv_at hl 0 rfl) ?_
        refine lv_dup hx hb dX6_give_77 rfl ?_
        refine va_get (D := G.1) (ci := 6) (v := .int (xf 9)) (C := RX6) (T := TX6) (N := 10) hx hb hts inX6 hown hK.1 hP 0 rfl rfl 9 (by decide) (hts _ mf_X6_57) (fun _ h9 => h9) rfl dX6_give_78 ?_
        rw [show (xf 9) = nI (gk) from h9v]
        refine lv_iconst (v := 1) hx hb dX6_give_81 (by decide) ?_
        refine lv_iadd hx hb dX6_give_82 ?_
        refine lv_topi (fun v23 ev23 => ?_)
        obtain rfl : v23 = nI ((gk) + 1) := nI_plus ev23 rfl rfl
        refine va_put (D := G.1) (ci := 6) (v := .int (nI ((gk) + 1))) (C := RX6) (T := TX6) (N := 10) hx hb hts inX6 tyX6 tyX6_ok nmX6 hown hK.1 hP (hDD _ _ _ _ _ _ _ _ _ _ _ _ _ _ _ _ _) hS 0 rfl rfl 9 (by decide) (hts _ mf_X6_57) (fun _ h9 => h9) rfl (tyX6_ok 9 (by decide)) (rfl) (rfl) (Nat.le_of_ble_eq_true rfl) dX6_give_83 (fun H locs hP _ hS => ?_)
        have hP : PP G (xM G x xa ta a b ga ua la lb lc tg gg (upd (upd xf 0 x4) 9 (nI ((gk) + 1))) tf (upd (upd (upd (upd (upd f 0 (x7 0)) 1 (x7 1)) 2 (x7 2)) 3 (x7 3)) 4 x11) (upd qf 3 x16) gf uf lf mf (upd (upd nf 0 (x7 0)) 1 (x7 1)) tr (up2 (up2 (up2 (up2 (up2 (up2 (up2 (up2 (up2 r 6 (x12 6)) 7 (x12 7)) 8 (x12 8)) 9 (x12 9)) 10 (x12 10)) 11 (x12 11)) 12 (x12 12)) 13 (x12 13)) 14 (x12 14)) (up2 (up2 (up2 q 0 x13) 1 x14) 2 x15) gr ur lr mr (up2 nr 2 x20)) H := hP
        have hg9 : nL 16 (nI ((gk) + 1)) := ⟨gk + 1, by omega, rfl⟩
        refine lv_aload_n hx hb dX6_give_86 rfl (lv_at hl 0 rfl) ?_
        refine va_get (D := G.1) (ci := 6) (v := .int (nI ((gk) + 1))) (C := RX6) (T := TX6) (N := 10) hx hb hts inX6 hown hK.1 hP 0 rfl rfl 9 (by decide) (hts _ mf_X6_57) (fun _ h9 => h9) rfl dX6_give_87 ?_
        refine lv_iconst (v := 1) hx hb dX6_give_90 (by decide) ?_
        refine lv_isub hx hb dX6_give_91 ?_
        refine lv_topi (fun v24 ev24 => ?_)
        exact wr_iret hx hb hr hlocks hS hP ⟨(x7 0), (x7 1), (x7 2), (x7 3), x11, (x7 0), (x7 1), x20, x13, x14, x15, x16, (x12 6), (x12 7), (x12 8), (x12 9), (x12 10), (x12 11), (x12 12), (x12 13), (x12 14), x4, (nI ((gk) + 1)), rfl, hRB, hN0, hN1, hg9⟩ dX6_give_92
      · refine lv_aload_n hx hb dX6_give_53 rfl (lv_at hl 0 rfl) ?_
        refine lv_bipush (v := 10) hx hb dX6_give_54 (by decide) ?_
        refine wrVIa (rest := []) (q0 := 0) ⟨hx, hb, hml, hown, hts⟩ (x_refused l G x xa ta a b ga ua la lb lc tg gg (upd xf 0 x4) tf (upd (upd (upd (upd (upd f 0 (x7 0)) 1 (x7 1)) 2 (x7 2)) 3 (x7 3)) 4 x11) (upd qf 3 x16) gf uf lf mf nf tr (up2 (up2 (up2 (up2 (up2 (up2 (up2 (up2 (up2 r 6 (x12 6)) 7 (x12 7)) 8 (x12 8)) 9 (x12 9)) 10 (x12 10)) 11 (x12 11)) 12 (x12 12)) 13 (x12 13)) 14 (x12 14)) (up2 (up2 (up2 q 0 x13) 1 x14) 2 x15) gr ur lr mr nr 10  ) mi_yX6_refused mv_yX6_refused ml_X6_122 ⟨rfl, rfl, Nat.le_of_ble_eq_true rfl, Nat.le_of_ble_eq_true rfl⟩ hK hP (hDD _ _ _ _ _ _ _ _ _ _ _ _ _ _ _ _ _) rfl rfl rfl hl.1 rfl (Nat.le_of_ble_eq_true rfl) dX6_give_56 ⟨Nat.zero_le _, Nat.zero_le _⟩ hS hA (fun r25 w26 H locs hw26 hP hS => ?_)
        obtain ⟨x27, rfl, hw26r⟩ := hw26
        have hP : PP G (xM G x xa ta a b ga ua la lb lc tg gg (upd xf 0 x27) tf (upd (upd (upd (upd (upd f 0 (x7 0)) 1 (x7 1)) 2 (x7 2)) 3 (x7 3)) 4 x11) (upd qf 3 x16) gf uf lf mf nf tr (up2 (up2 (up2 (up2 (up2 (up2 (up2 (up2 (up2 r 6 (x12 6)) 7 (x12 7)) 8 (x12 8)) 9 (x12 9)) 10 (x12 10)) 11 (x12 11)) 12 (x12 12)) 13 (x12 13)) 14 (x12 14)) (up2 (up2 (up2 q 0 x13) 1 x14) 2 x15) gr ur lr mr nr) H := hP
        obtain rfl := hw26r
        exact wr_iret hx hb hr hlocks hS hP ⟨(x7 0), (x7 1), (x7 2), (x7 3), x11, (nf 0), (nf 1), (nr 2), x13, x14, x15, x16, (x12 6), (x12 7), (x12 8), (x12 9), (x12 10), (x12 11), (x12 12), (x12 13), (x12 14), x27, (xf 9), rfl, hRB, hN0, hN1, hg9⟩ dX6_give_59
    · have b20 := qlt_f (a := (gk)) (b := 16) (by omega) (by omega) c6
      refine lv_aload_n hx hb dX6_give_23 rfl (lv_at hl 0 rfl) ?_
      refine lv_bipush (v := 8) hx hb dX6_give_24 (by decide) ?_
      refine wrVIa (rest := []) (q0 := 0) ⟨hx, hb, hml, hown, hts⟩ (x_refused l G x xa ta a b ga ua la lb lc tg gg (upd xf 0 x4) tf f qf gf uf lf mf nf tr r q gr ur lr mr nr 8  ) mi_yX6_refused mv_yX6_refused ml_X6_122 ⟨rfl, rfl, Nat.le_of_ble_eq_true rfl, Nat.le_of_ble_eq_true rfl⟩ hK hP (hDD _ _ _ _ _ _ _ _ _ _ _ _ _ _ _ _ _) rfl rfl rfl hl.1 rfl (Nat.le_of_ble_eq_true rfl) dX6_give_26 ⟨Nat.zero_le _, Nat.zero_le _⟩ hS hA (fun r28 w29 H locs hw29 hP hS => ?_)
      obtain ⟨x30, rfl, hw29r⟩ := hw29
      have hP : PP G (xM G x xa ta a b ga ua la lb lc tg gg (upd xf 0 x30) tf f qf gf uf lf mf nf tr r q gr ur lr mr nr) H := hP
      obtain rfl := hw29r
      exact wr_iret hx hb hr hlocks hS hP ⟨(f 0), (f 1), (f 2), (f 3), (f 4), (nf 0), (nf 1), (nr 2), (q 0), (q 1), (q 2), (qf 3), (r 6), (r 7), (r 8), (r 9), (r 10), (r 11), (r 12), (r 13), (r 14), x30, (xf 9), rfl, hRB, hN0, hN1, hg9⟩ dX6_give_29
  · have b9 := bF hw3r c5
    refine lv_iconst (v := -1) hx hb dX6_give_12 (by decide) ?_
    exact wr_iret hx hb hr hlocks hS hP ⟨(f 0), (f 1), (f 2), (f 3), (f 4), (nf 0), (nf 1), (nr 2), (q 0), (q 1), (q 2), (qf 3), (r 6), (r 7), (r 8), (r 9), (r 10), (r 11), (r 12), (r 13), (r 14), x4, (xf 9), rfl, hRB, hN0, hN1, hg9⟩ dX6_give_13
set_option maxHeartbeats 4000000 in
set_option maxRecDepth 100000 in
theorem x_isGift (l : Launch) (G : GG) (x : Nat) (xa ta a b ga ua la lb lc : Nat → Nat) (tg gg : Nat → Option Nat) (xf tf f qf gf uf lf mf nf : Nat → Int32) (tr r q gr ur lr mr nr : Nat → Nat → Int32) (kx : Int32) : RdI l yX6_isGift cX6_isGift 2 (some .boolean) ({ frames := 0, cells := 0, slots := 0, locals := 0 }) G (xM G x xa ta a b ga ua la lb lc tg gg xf tf f qf gf uf lf mf nf tr r q gr ur lr mr nr) [.ref x, .int kx] (fun qz => ((qz = 1 ∧ (inR (xf 9) kx)) ∨ (qz = 0 ∧ ¬ (inR (xf 9) kx)))) := by
  refine rd_entry (by decide +kernel) (Nat.le_of_ble_eq_true rfl) ?_
  intro p e s m below meth c C0 hP hK ls hl
  have hS : va_S (fun q => s.heap.size ≤ q) s.heap s.heap [] := va_S.rf
  have hA : ∀ q, s.heap.size ≤ q → (fun q => s.heap.size ≤ q) q := fun _ h => h
  obtain ⟨hx, hb, hml, hown, hts, hr, hlocks, hin⟩ := C0
  have hown : s.vm.findClass RX6 = some m.cls := hown
  have hl : lv_has ls 2 [(0, .ref x), (1, .int kx)] := hl
  refine lv_iload_n hx hb dX6_isGift_0 rfl (lv_at hl 1 rfl) ?_
  refine lv_if_lt (tgt := 16) hx hb dX6_isGift_1 (by decide) (fun c1 => ?_) (fun c1 => ?_)
  · refine lv_iconst (v := 0) hx hb dX6_isGift_16 (by decide) ?_
    exact rd_zret hx hb hr hlocks (Or.inl rfl) hS (Or.inr ⟨rfl, fun h => h.1 c1⟩) dX6_isGift_17
  · refine lv_iload_n hx hb dX6_isGift_4 rfl (lv_at hl 1 rfl) ?_
    refine lv_aload_n hx hb dX6_isGift_5 rfl (lv_at hl 0 rfl) ?_
    refine va_get (D := G.1) (ci := 6) (v := .int (xf 9)) (C := RX6) (T := TX6) (N := 10) hx hb hts inX6 hown hK.1 hP 0 rfl rfl 9 (by decide) (hts _ mf_X6_57) (fun _ h9 => h9) rfl dX6_isGift_6 ?_
    refine lv_icmp_ge (tgt := 16) hx hb dX6_isGift_9 (by decide) (fun c2 => ?_) (fun c2 => ?_)
    · refine lv_iconst (v := 0) hx hb dX6_isGift_16 (by decide) ?_
      exact rd_zret hx hb hr hlocks (Or.inl rfl) hS (Or.inr ⟨rfl, fun h => h.2 c2⟩) dX6_isGift_17
    · refine lv_iconst (v := 1) hx hb dX6_isGift_12 (by decide) ?_
      refine lv_goto (tgt := 17) hx hb dX6_isGift_13 (by decide) ?_
      exact rd_zret hx hb hr hlocks (Or.inr rfl) hS (Or.inl ⟨rfl, c1, c2⟩) dX6_isGift_17
def gfJ (x : Int32) (k : Nat) : Prop := ∀ n, n < 16 → x = nI n → n = k
theorem gf_j {g x : Int32} {k : Nat} (h9 : nL 16 g) (hJ : gfJ x k) (h : inR g x) : k < 16 ∧ x = nI k := by
  obtain ⟨n, hn, rfl⟩ := h9
  obtain ⟨i, hi, e⟩ := inR_n (by omega) h
  have := hJ i (by omega) e
  subst this
  exact ⟨by omega, e⟩
set_option maxHeartbeats 4000000 in
set_option maxRecDepth 100000 in
theorem x_gift (l : Launch) (G : GG) (x : Nat) (xa ta a b ga ua la lb lc : Nat → Nat) (tg gg : Nat → Option Nat) (xf tf f qf gf uf lf mf nf : Nat → Int32) (tr r q gr ur lr mr nr : Nat → Nat → Int32) (kx : Int32) (row : Int32) (col : Int32) (gk : Nat) (hg9 : nL 16 (xf 9)) (hgJ : gfJ kx gk) (hgk : gk < 16 → gg gk = some (lc 0)) (hN0 : nL 12 (nf 0)) (hN1 : nL 12 (nf 1)) : RdI l yX6_gift cX6_gift 4 (some .int) ({ frames := 2, cells := 0, slots := 0, locals := 44 }) G (xM G x xa ta a b ga ua la lb lc tg gg xf tf f qf gf uf lf mf nf tr r q gr ur lr mr nr) [.ref x, .int kx, .int row, .int col] (fun qz => True) := by
  refine rd_entry (by decide +kernel) (Nat.le_of_ble_eq_true rfl) ?_
  intro p e s m below meth c C0 hP hK ls hl
  have hS : va_S (fun q => s.heap.size ≤ q) s.heap s.heap [] := va_S.rf
  have hA : ∀ q, s.heap.size ≤ q → (fun q => s.heap.size ≤ q) q := fun _ h => h
  obtain ⟨hx, hb, hml, hown, hts, hr, hlocks, hin⟩ := C0
  have hown : s.vm.findClass RX6 = some m.cls := hown
  have hl : lv_has ls 4 [(0, .ref x), (1, .int kx), (2, .int row), (3, .int col)] := hl
  refine lv_aload_n hx hb dX6_gift_0 rfl (lv_at hl 0 rfl) ?_
  refine lv_iload_n hx hb dX6_gift_1 rfl (lv_at hl 1 rfl) ?_
  refine rdV (rest := []) (q0 := 0) ⟨hx, hb, hml, hown, hts⟩ (x_isGift l G x xa ta a b ga ua la lb lc tg gg xf tf f qf gf uf lf mf nf tr r q gr ur lr mr nr kx  ) mi_yX6_isGift mv_yX6_isGift ml_X6_242 ⟨rfl, rfl, Nat.le_of_ble_eq_true rfl, Nat.le_of_ble_eq_true rfl⟩ hK (hP) rfl rfl rfl hl.1 rfl (Nat.le_of_ble_eq_true rfl) dX6_gift_2 ⟨Nat.zero_le _, Nat.zero_le _⟩ hS hA hP (fun r1 H locs hr1 hP hS => ?_)
  have hr1 : ((r1 = 1 ∧ (inR (xf 9) kx)) ∨ (r1 = 0 ∧ ¬ (inR (xf 9) kx))) := hr1
  refine lv_if_eq (tgt := 22) hx hb dX6_gift_5 (by decide) (fun c2 => ?_) (fun c2 => ?_)
  · have b5 := bF hr1 c2
    refine lv_iconst (v := -1) hx hb dX6_gift_22 (by decide) ?_
    exact rd_iret hx hb hr hlocks hS (trivial) dX6_gift_23
  · have b5 := bT hr1 c2
    obtain ⟨hk16, ekx⟩ := gf_j hg9 hgJ b5
    subst ekx
    refine lv_aload_n hx hb dX6_gift_8 rfl (lv_at hl 0 rfl) ?_
    refine va_get (D := G.1) (ci := 6) (v := .ref (xa 8)) (C := RX6) (T := TX6) (N := 10) hx hb hts inX6 hown hK.1 hP 0 rfl rfl 8 (by decide) (hts _ mf_X6_53) (fun _ h9 => h9) rfl dX6_gift_9 ?_
    refine lv_iload_n hx hb dX6_gift_12 rfl (lv_at hl 1 rfl) ?_
    refine xaldL hx hb hK hP 46 (gk) (b := (lc 0)) rfl (by omega) (by decide) rfl (hgk (by omega)) dX6_gift_13 ?_
    refine lv_iload_n hx hb dX6_gift_14 rfl (lv_at hl 2 rfl) ?_
    refine lv_iload_n hx hb dX6_gift_15 rfl (lv_at hl 3 rfl) ?_
    obtain ⟨k0, hk0, ek0⟩ := hN0
    obtain ⟨k1, hk1, ek1⟩ := hN1
    have hN0 : nL 12 (nf 0) := ⟨k0, hk0, ek0⟩
    have hN1 : nL 12 (nf 1) := ⟨k1, hk1, ek1⟩
    refine rdV (rest := []) (q0 := 0) ⟨hx, hb, hml, hown, hts⟩ (c_X1_at l G lc (nr 2) k0 k1 hk0 hk1 row col) mi_yX1_at mv_yX1_at ml_X6_206 ⟨rfl, rfl, Nat.le_of_ble_eq_true rfl, Nat.le_of_ble_eq_true rfl⟩ hK (leaf_w (blk_sub (ws' := lW G lc (nf 0) (nf 1) (nr 2)) (xBlk G x xa ta a b ga ua la lb lc tg gg xf tf f qf gf uf lf mf nf tr r q gr ur lr mr nr) (i := 9) hP rfl (by decide)) ek0 ek1) rfl rfl rfl hl.1 rfl (Nat.le_of_ble_eq_true rfl) dX6_gift_16 ⟨Nat.zero_le _, Nat.zero_le _⟩ hS hA hP (fun r3 H locs hr3 hP hS => ?_)
    refine lv_goto (tgt := 23) hx hb dX6_gift_19 (by decide) ?_
    exact rd_iret hx hb hr hlocks hS (trivial) dX6_gift_23
abbrev aM (G : GG) (x : Nat) (xa a ga ua la lb lc ld : Nat → Nat) (gg : Nat → Option Nat) (xf nf wf : Nat → Int32) (nr wr : Nat → Nat → Int32) : va_W := [(x, .inr (6, [.int (xf 0), .ref (xa 1), .ref (a 15), .ref (ga 9), .ref (ua 0), .ref (la 0), .ref (lb 0), .int (xf 7), .ref (xa 8), .int (xf 9)])), ((xa 8), .inl (G.2.2.2.2, 16, .inr (.inr (.inr (.inr gg))))), ((lc 0), .inr (1, [.int (nf 0), .int (nf 1), .ref (lc 1)])), ((lc 1), .inl (G.2.1, 144, .inl (nr 2))), ((ld 0), .inr (1, [.int (wf 0), .int (wf 1), .ref (ld 1)])), ((ld 1), .inl (G.2.1, 144, .inl (wr 2)))]
set_option maxHeartbeats 4000000 in
set_option maxRecDepth 100000 in
theorem x_isGiftA (l : Launch) (G : GG) (x : Nat) (xa a ga ua la lb lc ld : Nat → Nat) (gg : Nat → Option Nat) (xf nf wf : Nat → Int32) (nr wr : Nat → Nat → Int32) (kx : Int32) : RdI l yX6_isGift cX6_isGift 2 (some .boolean) ({ frames := 0, cells := 0, slots := 0, locals := 0 }) G (aM G x xa a ga ua la lb lc ld gg xf nf wf nr wr) [.ref x, .int kx] (fun q => ((q = 1 ∧ (inR (xf 9) kx)) ∨ (q = 0 ∧ ¬ (inR (xf 9) kx)))) := by
  refine rd_entry (by decide +kernel) (Nat.le_of_ble_eq_true rfl) ?_
  intro p e s m below meth c C0 hP hK ls hl
  have hS : va_S (fun q => s.heap.size ≤ q) s.heap s.heap [] := va_S.rf
  have hA : ∀ q, s.heap.size ≤ q → (fun q => s.heap.size ≤ q) q := fun _ h => h
  obtain ⟨hx, hb, hml, hown, hts, hr, hlocks, hin⟩ := C0
  have hown : s.vm.findClass RX6 = some m.cls := hown
  have hl : lv_has ls 2 [(0, .ref x), (1, .int kx)] := hl
  refine lv_iload_n hx hb dX6_isGift_0 rfl (lv_at hl 1 rfl) ?_
  refine lv_if_lt (tgt := 16) hx hb dX6_isGift_1 (by decide) (fun c1 => ?_) (fun c1 => ?_)
  · refine lv_iconst (v := 0) hx hb dX6_isGift_16 (by decide) ?_
    exact rd_zret hx hb hr hlocks (Or.inl rfl) hS (Or.inr ⟨rfl, fun h => h.1 c1⟩) dX6_isGift_17
  · refine lv_iload_n hx hb dX6_isGift_4 rfl (lv_at hl 1 rfl) ?_
    refine lv_aload_n hx hb dX6_isGift_5 rfl (lv_at hl 0 rfl) ?_
    refine va_get (D := G.1) (ci := 6) (v := .int (xf 9)) (C := RX6) (T := TX6) (N := 10) hx hb hts inX6 hown hK.1 hP 0 rfl rfl 9 (by decide) (hts _ mf_X6_57) (fun _ h9 => h9) rfl dX6_isGift_6 ?_
    refine lv_icmp_ge (tgt := 16) hx hb dX6_isGift_9 (by decide) (fun c2 => ?_) (fun c2 => ?_)
    · refine lv_iconst (v := 0) hx hb dX6_isGift_16 (by decide) ?_
      exact rd_zret hx hb hr hlocks (Or.inl rfl) hS (Or.inr ⟨rfl, fun h => h.2 c2⟩) dX6_isGift_17
    · refine lv_iconst (v := 1) hx hb dX6_isGift_12 (by decide) ?_
      refine lv_goto (tgt := 17) hx hb dX6_isGift_13 (by decide) ?_
      exact rd_zret hx hb hr hlocks (Or.inr rfl) hS (Or.inl ⟨rfl, c1, c2⟩) dX6_isGift_17
set_option maxHeartbeats 4000000 in
set_option maxRecDepth 100000 in
theorem x_agree (l : Launch) (G : GG) (x : Nat) (xa a ga ua la lb lc ld : Nat → Nat) (gg : Nat → Option Nat) (xf nf wf : Nat → Int32) (nr wr : Nat → Nat → Int32) (xa_ : Int32) (xb_ : Int32) (ka : Nat) (kb : Nat) (hg9 : nL 16 (xf 9)) (hJa : gfJ xa_ ka) (hJb : gfJ xb_ kb) (hka : ka < 16 → gg ka = some (lc 0)) (hkb : kb < 16 → gg kb = some (ld 0)) (hN0 : nL 12 (nf 0)) (hN1 : nL 12 (nf 1)) (hO0 : nL 12 (wf 0)) (hO1 : nL 12 (wf 1)) : RdI l yX6_agree cX6_agree 3 (some .int) ({ frames := 2, cells := 0, slots := 0, locals := 48 }) G (aM G x xa a ga ua la lb lc ld gg xf nf wf nr wr) [.ref x, .int xa_, .int xb_] (fun q => True) := by
  refine rd_entry (by decide +kernel) (Nat.le_of_ble_eq_true rfl) ?_
  intro p e s m below meth c C0 hP hK ls hl
  have hS : va_S (fun q => s.heap.size ≤ q) s.heap s.heap [] := va_S.rf
  have hA : ∀ q, s.heap.size ≤ q → (fun q => s.heap.size ≤ q) q := fun _ h => h
  obtain ⟨hx, hb, hml, hown, hts, hr, hlocks, hin⟩ := C0
  have hown : s.vm.findClass RX6 = some m.cls := hown
  have hl : lv_has ls 3 [(0, .ref x), (1, .int xa_), (2, .int xb_)] := hl
  refine lv_aload_n hx hb dX6_agree_0 rfl (lv_at hl 0 rfl) ?_
  refine lv_iload_n hx hb dX6_agree_1 rfl (lv_at hl 1 rfl) ?_
  refine rdV (rest := []) (q0 := 0) ⟨hx, hb, hml, hown, hts⟩ (x_isGiftA l G x xa a ga ua la lb lc ld gg xf nf wf nr wr xa_  ) mi_yX6_isGift mv_yX6_isGift ml_X6_242 ⟨rfl, rfl, Nat.le_of_ble_eq_true rfl, Nat.le_of_ble_eq_true rfl⟩ hK (hP) rfl rfl rfl hl.1 rfl (Nat.le_of_ble_eq_true rfl) dX6_agree_2 ⟨Nat.zero_le _, Nat.zero_le _⟩ hS hA hP (fun r1 H locs hr1 hP hS => ?_)
  have hr1 : ((r1 = 1 ∧ (inR (xf 9) xa_)) ∨ (r1 = 0 ∧ ¬ (inR (xf 9) xa_))) := hr1
  refine lv_if_eq (tgt := 34) hx hb dX6_agree_5 (by decide) (fun c2 => ?_) (fun c2 => ?_)
  · have b5 := bF hr1 c2
    refine lv_iconst (v := -1) hx hb dX6_agree_34 (by decide) ?_
    exact rd_iret hx hb hr hlocks hS (trivial) dX6_agree_35
  · have b5 := bT hr1 c2
    obtain ⟨hka16, eka⟩ := gf_j hg9 hJa b5
    subst eka
    refine lv_aload_n hx hb dX6_agree_8 rfl (lv_at hl 0 rfl) ?_
    refine lv_iload_n hx hb dX6_agree_9 rfl (lv_at hl 2 rfl) ?_
    refine rdV (rest := []) (q0 := 0) ⟨hx, hb, hml, hown, hts⟩ (x_isGiftA l G x xa a ga ua la lb lc ld gg xf nf wf nr wr xb_  ) mi_yX6_isGift mv_yX6_isGift ml_X6_242 ⟨rfl, rfl, Nat.le_of_ble_eq_true rfl, Nat.le_of_ble_eq_true rfl⟩ hK (hP) rfl rfl rfl hl.1 rfl (Nat.le_of_ble_eq_true rfl) dX6_agree_10 ⟨Nat.zero_le _, Nat.zero_le _⟩ hS hA hP (fun r3 H locs hr3 hP hS => ?_)
    have hr3 : ((r3 = 1 ∧ (inR (xf 9) xb_)) ∨ (r3 = 0 ∧ ¬ (inR (xf 9) xb_))) := hr3
    refine lv_if_eq (tgt := 34) hx hb dX6_agree_13 (by decide) (fun c4 => ?_) (fun c4 => ?_)
    · have b13 := bF hr3 c4
      refine lv_iconst (v := -1) hx hb dX6_agree_34 (by decide) ?_
      exact rd_iret hx hb hr hlocks hS (trivial) dX6_agree_35
    · have b13 := bT hr3 c4
      obtain ⟨hkb16, ekb⟩ := gf_j hg9 hJb b13
      subst ekb
      refine lv_aload_n hx hb dX6_agree_16 rfl (lv_at hl 0 rfl) ?_
      refine va_get (D := G.1) (ci := 6) (v := .ref (xa 8)) (C := RX6) (T := TX6) (N := 10) hx hb hts inX6 hown hK.1 hP 0 rfl rfl 8 (by decide) (hts _ mf_X6_53) (fun _ h9 => h9) rfl dX6_agree_17 ?_
      refine lv_iload_n hx hb dX6_agree_20 rfl (lv_at hl 1 rfl) ?_
      refine xaldL hx hb hK hP 1 (ka) (b := (lc 0)) rfl (by omega) (by decide) rfl (hka hka16) dX6_agree_21 ?_
      refine lv_aload_n hx hb dX6_agree_22 rfl (lv_at hl 0 rfl) ?_
      refine va_get (D := G.1) (ci := 6) (v := .ref (xa 8)) (C := RX6) (T := TX6) (N := 10) hx hb hts inX6 hown hK.1 hP 0 rfl rfl 8 (by decide) (hts _ mf_X6_53) (fun _ h9 => h9) rfl dX6_agree_23 ?_
      refine lv_iload_n hx hb dX6_agree_26 rfl (lv_at hl 2 rfl) ?_
      refine xaldL hx hb hK hP 1 (kb) (b := (ld 0)) rfl (by omega) (by decide) rfl (hkb hkb16) dX6_agree_27 ?_
      refine rdV (rest := []) (q0 := 0) ⟨hx, hb, hml, hown, hts⟩ (c_X1_firstUnlike l G lc ld nf wf nr wr hN0 hN1 hO0 hO1) mi_yX1_firstUnlike mv_yX1_firstUnlike ml_X6_245 ⟨rfl, rfl, Nat.le_of_ble_eq_true rfl, Nat.le_of_ble_eq_true rfl⟩ hK (hP.sub (ws' := l2M G lc ld nf wf nr wr) [2, 3, 4, 5] rfl) rfl rfl rfl hl.1 rfl (Nat.le_of_ble_eq_true rfl) dX6_agree_28 ⟨Nat.zero_le _, Nat.zero_le _⟩ hS hA hP (fun r5 H locs hr5 hP hS => ?_)
      refine lv_goto (tgt := 35) hx hb dX6_agree_31 (by decide) ?_
      exact rd_iret hx hb hr hlocks hS (trivial) dX6_agree_35
